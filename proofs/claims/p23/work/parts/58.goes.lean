/-! THE LAW: GOES -/
set_option maxHeartbeats 4000000 in
set_option maxRecDepth 100000 in
theorem g_order {l : Launch} {g : gG} {M : Mp} {la : Nat → Nat} {x n : Nat}  (hlx : l.stackTraces = false) (hLS : WS g M x la n) (y : Int32) : Met l yL_goes (WY yL_goes cL_goes 18 (some .boolean)) { frames := 10, cells := 6, slots := 230, locals := 240 } (Wc g M [.ref x, .int 0, .int y, .ref (la 0), .ref (la 1), .ref (la 2), .ref (la 3), .ref (la 4), .ref (la 5), .ref (la 6), .ref (la 7)]) (wrQ (S := Unit) g (fun u_ => (some (.int 1))) (fun u_ M_ => WS g M_ x la n)) 6 230 (gA g) := by
  refine ofM (by decide +kernel) (Nat.le_of_ble_eq_true rfl) (fun p e s m args below meth c ls C hr hlocks hin hE hH hl ea => ?_)
  have hl : lv_has ls 18 [(0, .ref x), (1, .int 0), (2, .int y), (3, .ref (la 0)), (4, .ref (la 1)), (5, .ref (la 2)), (6, .ref (la 3)), (7, .ref (la 4)), (8, .ref (la 5)), (9, .ref (la 6)), (10, .ref (la 7))] := hl
  have hS : va_S (gA g) s.heap s.heap [] := va_S.rf
  obtain ⟨tg, A, pr, br, np, hh, ne, nb, no, sc, ar, lf, hI, hL, hT, hR, hN⟩ := id hLS
  have hX := LX_rf hL
  obtain ⟨⟨hs0, hs5, hs9⟩, iX, iE, iB, iO, iW, iBl, iC⟩ := id hI
  obtain ⟨⟨hc0, hc1, hc2⟩, ⟨sne, snb, sno⟩, rE, ⟨rW, rY⟩, rB, rO, rM, rD, rZ⟩ := id hR
  refine lv_iload_n C.1 C.2.1 dL_goes_0 rfl (lv_at hl 1 rfl) ?_
  refine lv_if_ne (tgt := 256) C.1 C.2.1 dL_goes_1 (by decide) (fun c1 => ?_) (fun c1 => ?_)
  · exact absurd c1 (by decide)
  · refine lv_iload_n C.1 C.2.1 dL_goes_4 rfl (lv_at hl 2 rfl) ?_
    refine lv_aload_n C.1 C.2.1 dL_goes_5 rfl (lv_at hl 3 rfl) ?_
    refine lv_iconst (v := 0) C.1 C.2.1 dL_goes_6 rfl ?_
    refine lald (K := 0) (N := 3) (E := 0) (f := (lf 0)) (v := (nI ne)) C hE hH hX (by decide) rfl rfl rfl (by omega) (hc0) dL_goes_7 ?_
    refine lv_iconst (v := 1) C.1 C.2.1 dL_goes_8 rfl ?_
    refine lv_iadd C.1 C.2.1 dL_goes_9 ?_
    rw [show ((nI ne) + 1 : Int32) = nI (ne + 1) from nI_add ne 1]
    refine some_go (N := ne + 1) (runS C hE hH hS (c_some (n := nI (ne + 1)) (N := ne + 1) rfl (by omega) (by omega) y) mv_L_some wm_121 hl.1 dL_goes_10 rfl rfl ⟨rfl, rfl⟩ ⟨Nat.le_of_ble_eq_true rfl, Nat.le_of_ble_eq_true rfl⟩ (Nat.le_of_ble_eq_true rfl) ⟨Nat.le_of_ble_eq_true rfl, Nat.le_of_ble_eq_true rfl⟩) rfl (by omega) (by omega) (fun k10 hk10 => ?_)
    refine lv_istore (lv' := [(11, .int (nI k10)), (0, .ref x), (1, .int 0), (2, .int y), (3, .ref (la 0)), (4, .ref (la 1)), (5, .ref (la 2)), (6, .ref (la 3)), (7, .ref (la 4)), (8, .ref (la 5)), (9, .ref (la 6)), (10, .ref (la 7))]) C.1 C.2.1 dL_goes_13 hl (by decide) rfl (fun ls hl => ?_)
    have J49 : ∀ (a12 : Nat) (h12 : a12 ≤ 41) (ls : Array Slot), lv_has ls 18 [(11, .int (nI k10)), (0, .ref x), (1, .int 0), (2, .int y), (3, .ref (la 0)), (4, .ref (la 1)), (5, .ref (la 2)), (6, .ref (la 3)), (7, .ref (la 4)), (8, .ref (la 5)), (9, .ref (la 6)), (10, .ref (la 7))] → W p l e { frames := 10, cells := 6, slots := 230, locals := 240 } s m args below meth c s.heap [] 0 0 (MQ below (wrQ (S := Unit) g (fun u_ => (some (.int 1))) (fun u_ M_ => WS g M_ x la n)) args s 6 230 (gA g)) (F0 m 49 ls [.int (nI a12)]) := by
      intro a12 h12 ls hl
      refine lv_istore (lv' := [(12, .int (nI a12)), (11, .int (nI k10)), (0, .ref x), (1, .int 0), (2, .int y), (3, .ref (la 0)), (4, .ref (la 1)), (5, .ref (la 2)), (6, .ref (la 3)), (7, .ref (la 4)), (8, .ref (la 5)), (9, .ref (la 6)), (10, .ref (la 7))]) C.1 C.2.1 dL_goes_49 hl (by decide) rfl (fun ls hl => ?_)
      have J73 : ∀ (a13 : Nat) (h13 : a13 ≤ 4) (ls : Array Slot), lv_has ls 18 [(12, .int (nI a12)), (11, .int (nI k10)), (0, .ref x), (1, .int 0), (2, .int y), (3, .ref (la 0)), (4, .ref (la 1)), (5, .ref (la 2)), (6, .ref (la 3)), (7, .ref (la 4)), (8, .ref (la 5)), (9, .ref (la 6)), (10, .ref (la 7))] → W p l e { frames := 10, cells := 6, slots := 230, locals := 240 } s m args below meth c s.heap [] 0 0 (MQ below (wrQ (S := Unit) g (fun u_ => (some (.int 1))) (fun u_ M_ => WS g M_ x la n)) args s 6 230 (gA g)) (F0 m 73 ls [.int (nI a13)]) := by
        intro a13 h13 ls hl
        refine lv_istore (lv' := [(13, .int (nI a13)), (12, .int (nI a12)), (11, .int (nI k10)), (0, .ref x), (1, .int 0), (2, .int y), (3, .ref (la 0)), (4, .ref (la 1)), (5, .ref (la 2)), (6, .ref (la 3)), (7, .ref (la 4)), (8, .ref (la 5)), (9, .ref (la 6)), (10, .ref (la 7))]) C.1 C.2.1 dL_goes_73 hl (by decide) rfl (fun ls hl => ?_)
        have J94t : ∀ (hf : k10 < ne ∧ a13 < 4) (ls : Array Slot), lv_has ls 18 [(13, .int (nI a13)), (12, .int (nI a12)), (11, .int (nI k10)), (0, .ref x), (1, .int 0), (2, .int y), (3, .ref (la 0)), (4, .ref (la 1)), (5, .ref (la 2)), (6, .ref (la 3)), (7, .ref (la 4)), (8, .ref (la 5)), (9, .ref (la 6)), (10, .ref (la 7))] → W p l e { frames := 10, cells := 6, slots := 230, locals := 240 } s m args below meth c s.heap [] 0 0 (MQ below (wrQ (S := Unit) g (fun u_ => (some (.int 1))) (fun u_ M_ => WS g M_ x la n)) args s 6 230 (gA g)) (F0 m 94 ls [.int 1]) := by
          intro  hf ls hl
          refine lv_istore (lv' := [(14, .int 1), (13, .int (nI a13)), (12, .int (nI a12)), (11, .int (nI k10)), (0, .ref x), (1, .int 0), (2, .int y), (3, .ref (la 0)), (4, .ref (la 1)), (5, .ref (la 2)), (6, .ref (la 3)), (7, .ref (la 4)), (8, .ref (la 5)), (9, .ref (la 6)), (10, .ref (la 7))]) C.1 C.2.1 dL_goes_94 hl (by decide) rfl (fun ls hl => ?_)
          have J113t : ∀ (hw : 0 < a12 ∧ a12 < 41) (ls : Array Slot), lv_has ls 18 [(14, .int 1), (13, .int (nI a13)), (12, .int (nI a12)), (11, .int (nI k10)), (0, .ref x), (1, .int 0), (2, .int y), (3, .ref (la 0)), (4, .ref (la 1)), (5, .ref (la 2)), (6, .ref (la 3)), (7, .ref (la 4)), (8, .ref (la 5)), (9, .ref (la 6)), (10, .ref (la 7))] → W p l e { frames := 10, cells := 6, slots := 230, locals := 240 } s m args below meth c s.heap [] 0 0 (MQ below (wrQ (S := Unit) g (fun u_ => (some (.int 1))) (fun u_ M_ => WS g M_ x la n)) args s 6 230 (gA g)) (F0 m 113 ls [.int 1]) := by
            intro  hw ls hl
            refine lv_istore (lv' := [(15, .int 1), (14, .int 1), (13, .int (nI a13)), (12, .int (nI a12)), (11, .int (nI k10)), (0, .ref x), (1, .int 0), (2, .int y), (3, .ref (la 0)), (4, .ref (la 1)), (5, .ref (la 2)), (6, .ref (la 3)), (7, .ref (la 4)), (8, .ref (la 5)), (9, .ref (la 6)), (10, .ref (la 7))]) C.1 C.2.1 dL_goes_113 hl (by decide) rfl (fun ls hl => ?_)
            refine lv_iload C.1 C.2.1 dL_goes_115 (lv_at hl 1 rfl) ?_
            refine lv_if_eq (tgt := 135) C.1 C.2.1 dL_goes_117 (by decide) (fun c117 => ?_) (fun c117 => ?_)
            · exact absurd c117 (by decide)
            · refine lv_iload C.1 C.2.1 dL_goes_120 (lv_at hl 0 rfl) ?_
              refine lv_if_eq (tgt := 135) C.1 C.2.1 dL_goes_122 (by decide) (fun c122 => ?_) (fun c122 => ?_)
              · exact absurd c122 (by decide)
              · refine lv_aload_n C.1 C.2.1 dL_goes_125 rfl (lv_at hl 8 rfl) ?_
                refine lv_iconst (v := 2) C.1 C.2.1 dL_goes_126 rfl ?_
                refine lald (K := 0) (N := 3) (E := 2) (f := (lf 0)) (v := (nI no)) C hE hH hX (by decide) rfl rfl rfl (by omega) (hc2) dL_goes_127 ?_
                refine lv_bipush (v := 20) C.1 C.2.1 dL_goes_128 rfl ?_
                refine lv_icmp_ne (tgt := 135) C.1 C.2.1 dL_goes_130 (by decide) (fun c130 => ?_) (fun c130 => ?_)
                · have n130 : ¬ no = 20 := fun z => c130 (congrArg nI z)
                  refine lv_iload C.1 C.2.1 dL_goes_135 (lv_at hl 1 rfl) ?_
                  refine lv_if_eq (tgt := 212) C.1 C.2.1 dL_goes_137 (by decide) (fun c137 => ?_) (fun c137 => ?_)
                  · exact absurd c137 (by decide)
                  · refine lv_iload C.1 C.2.1 dL_goes_140 (lv_at hl 0 rfl) ?_
                    refine lv_if_eq (tgt := 212) C.1 C.2.1 dL_goes_142 (by decide) (fun c142 => ?_) (fun c142 => ?_)
                    · exact absurd c142 (by decide)
                    · refine lv_aload_n C.1 C.2.1 dL_goes_145 rfl (lv_at hl 8 rfl) ?_
                      refine lv_iconst (v := 2) C.1 C.2.1 dL_goes_146 rfl ?_
                      refine lald (K := 0) (N := 3) (E := 2) (f := (lf 0)) (v := (nI no)) C hE hH hX (by decide) rfl rfl rfl (by omega) (hc2) dL_goes_147 ?_
                      refine lv_bipush (v := 10) C.1 C.2.1 dL_goes_148 rfl ?_
                      refine lv_icmp_ge (tgt := 158) C.1 C.2.1 dL_goes_150 (by decide) (fun c150 => ?_) (fun c150 => ?_)
                      · have n150 : 10 ≤ no := (nI_leI (a := 10) (b := no) (by omega) (by omega)).mp c150
                        refine lv_aload C.1 C.2.1 dL_goes_158 (lv_at hl 13 rfl) ?_
                        refine lv_astore (lv' := [(16, .ref (la 5)), (15, .int 1), (14, .int 1), (13, .int (nI a13)), (12, .int (nI a12)), (11, .int (nI k10)), (0, .ref x), (1, .int 0), (2, .int y), (3, .ref (la 0)), (4, .ref (la 1)), (5, .ref (la 2)), (6, .ref (la 3)), (7, .ref (la 4)), (8, .ref (la 5)), (9, .ref (la 6)), (10, .ref (la 7))]) C.1 C.2.1 dL_goes_160 hl (by decide) rfl (fun ls hl => ?_)
                        refine lv_iconst (v := 5) C.1 C.2.1 dL_goes_162 rfl ?_
                        refine lv_aload_n C.1 C.2.1 dL_goes_163 rfl (lv_at hl 9 rfl) ?_
                        refine lv_iconst (v := 2) C.1 C.2.1 dL_goes_164 rfl ?_
                        refine lald (K := 0) (N := 3) (E := 2) (f := (lf 0)) (v := (nI no)) C hE hH hX (by decide) rfl rfl rfl (by omega) (hc2) dL_goes_165 ?_
                        refine lv_bipush (v := 10) C.1 C.2.1 dL_goes_166 rfl ?_
                        refine lv_irem C.1 C.2.1 dL_goes_168 (by decide) ?_
                        rw [show ((nI no) - (nI no) / 10 * 10 : Int32) = nI (no % 10) from nI_R (a := no) (b := 10) (by omega) (by omega) (by omega)]
                        refine lv_imul C.1 C.2.1 dL_goes_169 ?_
                        rw [show ((5 : Int32) * (nI (no % 10))) = nI (5 * (no % 10)) from nI_M 5 (no % 10)]
                        refine lv_istore (lv' := [(17, .int (nI (5 * (no % 10)))), (16, .ref (la 5)), (15, .int 1), (14, .int 1), (13, .int (nI a13)), (12, .int (nI a12)), (11, .int (nI k10)), (0, .ref x), (1, .int 0), (2, .int y), (3, .ref (la 0)), (4, .ref (la 1)), (5, .ref (la 2)), (6, .ref (la 3)), (7, .ref (la 4)), (8, .ref (la 5)), (9, .ref (la 6)), (10, .ref (la 7))]) C.1 C.2.1 dL_goes_170 hl (by decide) rfl (fun ls hl => ?_)
                        refine lv_aload C.1 C.2.1 dL_goes_172 (lv_at hl 1 rfl) ?_
                        refine lv_iload C.1 C.2.1 dL_goes_174 (lv_at hl 0 rfl) ?_
                        refine lv_iload C.1 C.2.1 dL_goes_176 (lv_at hl 6 rfl) ?_
                        refine last (K := 5) (N := 50) (E := 5 * (no % 10)) (f := (lf 5)) C hE hH hS hX (by decide) rfl rfl rfl (by omega) dL_goes_178 (fun M1 H locs hX2 hH hS => ?_)
                        have hIM1 := WS_up hI hX2 hT (ed_no hE hH)
                        refine lv_aload C.1 C.2.1 dL_goes_179 (lv_at hl 1 rfl) ?_
                        refine lv_iload C.1 C.2.1 dL_goes_181 (lv_at hl 0 rfl) ?_
                        refine lv_iconst (v := 1) C.1 C.2.1 dL_goes_183 rfl ?_
                        refine lv_iadd C.1 C.2.1 dL_goes_184 ?_
                        rw [show ((nI (5 * (no % 10))) + 1 : Int32) = nI (5 * (no % 10) + 1) from nI_add (5 * (no % 10)) 1]
                        refine lv_iload C.1 C.2.1 dL_goes_185 (lv_at hl 4 rfl) ?_
                        refine last (K := 5) (N := 50) (E := 5 * (no % 10) + 1) (f := (upd (lf 5) (5 * (no % 10)) (nI k10))) C hE hH hS hX2 (by decide) rfl rfl rfl (by omega) dL_goes_187 (fun M3 H locs hX4 hH hS => ?_)
                        rw [ua_ua] at hX4
                        have hIM3 := WS_up hI hX4 hT (ed_no hE hH)
                        refine lv_aload C.1 C.2.1 dL_goes_188 (lv_at hl 1 rfl) ?_
                        refine lv_iload C.1 C.2.1 dL_goes_190 (lv_at hl 0 rfl) ?_
                        refine lv_iconst (v := 2) C.1 C.2.1 dL_goes_192 rfl ?_
                        refine lv_iadd C.1 C.2.1 dL_goes_193 ?_
                        rw [show ((nI (5 * (no % 10))) + 2 : Int32) = nI (5 * (no % 10) + 2) from nI_add (5 * (no % 10)) 2]
                        refine lv_iload C.1 C.2.1 dL_goes_194 (lv_at hl 5 rfl) ?_
                        refine last (K := 5) (N := 50) (E := 5 * (no % 10) + 2) (f := (upd (upd (lf 5) (5 * (no % 10)) (nI k10)) (5 * (no % 10) + 1) (nI a13))) C hE hH hS hX4 (by decide) rfl rfl rfl (by omega) dL_goes_196 (fun M5 H locs hX6 hH hS => ?_)
                        rw [ua_ua] at hX6
                        have hIM5 := WS_up hI hX6 hT (ed_no hE hH)
                        refine lv_aload C.1 C.2.1 dL_goes_197 (lv_at hl 1 rfl) ?_
                        refine lv_iload C.1 C.2.1 dL_goes_199 (lv_at hl 0 rfl) ?_
                        refine lv_iconst (v := 3) C.1 C.2.1 dL_goes_201 rfl ?_
                        refine lv_iadd C.1 C.2.1 dL_goes_202 ?_
                        rw [show ((nI (5 * (no % 10))) + 3 : Int32) = nI (5 * (no % 10) + 3) from nI_add (5 * (no % 10)) 3]
                        refine lv_iconst (v := 0) C.1 C.2.1 dL_goes_203 rfl ?_
                        refine last (K := 5) (N := 50) (E := 5 * (no % 10) + 3) (f := (upd (upd (upd (lf 5) (5 * (no % 10)) (nI k10)) (5 * (no % 10) + 1) (nI a13)) (5 * (no % 10) + 2) (nI a12))) C hE hH hS hX6 (by decide) rfl rfl rfl (by omega) dL_goes_204 (fun M7 H locs hX8 hH hS => ?_)
                        rw [ua_ua] at hX8
                        have hIM7 := WS_up hI hX8 hT (ed_no hE hH)
                        refine lv_aload_n C.1 C.2.1 dL_goes_205 rfl (lv_at hl 10 rfl) ?_
                        refine lv_iconst (v := 2) C.1 C.2.1 dL_goes_206 rfl ?_
                        refine lv_dup2_11 C.1 C.2.1 dL_goes_207 rfl rfl ?_
                        refine lald (K := 0) (N := 3) (E := 2) (f := (lf 0)) (v := (nI no)) C hE hH hX8 (by decide) rfl rfl rfl (by omega) (hc2) dL_goes_208 ?_
                        refine lv_iconst (v := 1) C.1 C.2.1 dL_goes_209 rfl ?_
                        refine lv_iadd C.1 C.2.1 dL_goes_210 ?_
                        rw [show ((nI no) + 1 : Int32) = nI (no + 1) from nI_add no 1]
                        refine last (K := 0) (N := 3) (E := 2) (f := (lf 0)) C hE hH hS hX8 (by decide) rfl rfl rfl (by omega) dL_goes_211 (fun M9 H locs hX10 hH hS => ?_)
                        have hIM9 := WS_up hI hX10 hT (ed_no hE hH)
                        refine lv_aload_n C.1 C.2.1 dL_goes_212 rfl (lv_at hl 7 rfl) ?_
                        refine lv_iload C.1 C.2.1 dL_goes_213 (lv_at hl 6 rfl) ?_
                        refine lv_iload C.1 C.2.1 dL_goes_215 (lv_at hl 5 rfl) ?_
                        refine lv_iload C.1 C.2.1 dL_goes_217 (lv_at hl 4 rfl) ?_
                        refine wr_go1 (runT C hE hH hS (l_order hlx hIM9 (nI k10) (nI a12) (nI a13)) mv_L_orders wm_554 hl.1 dL_goes_219 rfl rfl ⟨rfl, rfl⟩ ⟨Nat.le_of_ble_eq_true rfl, Nat.le_of_ble_eq_true rfl⟩ (Nat.le_of_ble_eq_true rfl) ⟨Nat.le_of_ble_eq_true rfl, Nat.le_of_ble_eq_true rfl⟩) hS (fun u11 M12 H locs hM12 hH hS => ?_)
                        obtain ⟨hu, hx⟩ := lqC_t hM12 ⟨(inx_n (a := k10) (n := ne) (by omega) (by omega)).mpr (by omega), (inx_n (a := a13) (n := 4) (by omega) (by omega)).mpr (by omega)⟩ ((inr_1 (a := a12) (n := 40) (by omega) (by omega)).mpr (by omega)) (by rw [hs9]; exact (nI_ltI (a := no) (b := 40) (by omega) (by omega)).mpr (by omega))
                        have hu : u11 = nI no := hu.trans (hs9)
                        rw [hu]
                        rw [hs9, nI_clamp (show no < 2 ^ 31 by omega)] at hx
                        have hXr := LX_rf (LI_rx hx hX10.1 hT)
                        refine lv_iload C.1 C.2.1 dL_goes_222 (lv_at hl 3 rfl) ?_
                        refine lv_if_ne (tgt := 232) C.1 C.2.1 dL_goes_224 (by decide) (fun c224 => ?_) (fun c224 => ?_)
                        · refine lv_iload C.1 C.2.1 dL_goes_232 (lv_at hl 2 rfl) ?_
                          refine lv_if_ne (tgt := 242) C.1 C.2.1 dL_goes_234 (by decide) (fun c234 => ?_) (fun c234 => ?_)
                          · refine lv_aload_n C.1 C.2.1 dL_goes_242 rfl (lv_at hl 10 rfl) ?_
                            refine lv_iconst (v := 2) C.1 C.2.1 dL_goes_243 rfl ?_
                            refine lald (K := 0) (N := 3) (E := 2) (f := (upd (lf 0) 2 (nI (no + 1)))) (v := (nI (no + 1))) C hE hH hXr (by decide) rfl rfl rfl (by omega) (upd_s) dL_goes_244 ?_
                            refine lv_iconst (v := 1) C.1 C.2.1 dL_goes_245 rfl ?_
                            refine lv_isub C.1 C.2.1 dL_goes_246 ?_
                            rw [show (nI (no + 1) - 1 : Int32) = nI no from nI_S (Nat.le_add_left 1 no)]
                            refine lv_icmp_ne (tgt := 254) C.1 C.2.1 dL_goes_247 (by decide) (fun c247 => ?_) (fun c247 => ?_)
                            · exact absurd rfl c247
                            · refine lv_iconst (v := 1) C.1 C.2.1 dL_goes_250 rfl ?_
                              refine lv_goto (tgt := 255) C.1 C.2.1 dL_goes_251 (by decide) ?_
                              exact wr_zret () C hr hlocks (rfl) hH hS rfl (WS_mk hx hX10.1 hT ⟨(by unfold us; rw [upd_n (by decide)]; exact hs0), (by unfold us; rw [upd_n (by decide)]; exact hs5), (by unfold us; rw [upd_s, nI_1])⟩ (LR_order (R := 5) hR (by omega) (iO.2.2.1 no (Nat.le_refl no)) (by omega)) (krN_cg hN (fun _ _ => rfl))) (by decide) (by decide) dL_goes_255
                          · exact absurd c234 (by decide)
                        · exact absurd c224 (by decide)
                      · have n150 : ¬ 10 ≤ no := fun z => c150 ((nI_leI (a := 10) (b := no) (by omega) (by omega)).mpr z)
                        refine lv_aload C.1 C.2.1 dL_goes_153 (lv_at hl 12 rfl) ?_
                        refine lv_goto (tgt := 160) C.1 C.2.1 dL_goes_155 (by decide) ?_
                        refine lv_astore (lv' := [(16, .ref (la 4)), (15, .int 1), (14, .int 1), (13, .int (nI a13)), (12, .int (nI a12)), (11, .int (nI k10)), (0, .ref x), (1, .int 0), (2, .int y), (3, .ref (la 0)), (4, .ref (la 1)), (5, .ref (la 2)), (6, .ref (la 3)), (7, .ref (la 4)), (8, .ref (la 5)), (9, .ref (la 6)), (10, .ref (la 7))]) C.1 C.2.1 dL_goes_160 hl (by decide) rfl (fun ls hl => ?_)
                        refine lv_iconst (v := 5) C.1 C.2.1 dL_goes_162 rfl ?_
                        refine lv_aload_n C.1 C.2.1 dL_goes_163 rfl (lv_at hl 9 rfl) ?_
                        refine lv_iconst (v := 2) C.1 C.2.1 dL_goes_164 rfl ?_
                        refine lald (K := 0) (N := 3) (E := 2) (f := (lf 0)) (v := (nI no)) C hE hH hX (by decide) rfl rfl rfl (by omega) (hc2) dL_goes_165 ?_
                        refine lv_bipush (v := 10) C.1 C.2.1 dL_goes_166 rfl ?_
                        refine lv_irem C.1 C.2.1 dL_goes_168 (by decide) ?_
                        rw [show ((nI no) - (nI no) / 10 * 10 : Int32) = nI (no % 10) from nI_R (a := no) (b := 10) (by omega) (by omega) (by omega)]
                        refine lv_imul C.1 C.2.1 dL_goes_169 ?_
                        rw [show ((5 : Int32) * (nI (no % 10))) = nI (5 * (no % 10)) from nI_M 5 (no % 10)]
                        refine lv_istore (lv' := [(17, .int (nI (5 * (no % 10)))), (16, .ref (la 4)), (15, .int 1), (14, .int 1), (13, .int (nI a13)), (12, .int (nI a12)), (11, .int (nI k10)), (0, .ref x), (1, .int 0), (2, .int y), (3, .ref (la 0)), (4, .ref (la 1)), (5, .ref (la 2)), (6, .ref (la 3)), (7, .ref (la 4)), (8, .ref (la 5)), (9, .ref (la 6)), (10, .ref (la 7))]) C.1 C.2.1 dL_goes_170 hl (by decide) rfl (fun ls hl => ?_)
                        refine lv_aload C.1 C.2.1 dL_goes_172 (lv_at hl 1 rfl) ?_
                        refine lv_iload C.1 C.2.1 dL_goes_174 (lv_at hl 0 rfl) ?_
                        refine lv_iload C.1 C.2.1 dL_goes_176 (lv_at hl 6 rfl) ?_
                        refine last (K := 4) (N := 50) (E := 5 * (no % 10)) (f := (lf 4)) C hE hH hS hX (by decide) rfl rfl rfl (by omega) dL_goes_178 (fun M13 H locs hX14 hH hS => ?_)
                        have hIM13 := WS_up hI hX14 hT (ed_no hE hH)
                        refine lv_aload C.1 C.2.1 dL_goes_179 (lv_at hl 1 rfl) ?_
                        refine lv_iload C.1 C.2.1 dL_goes_181 (lv_at hl 0 rfl) ?_
                        refine lv_iconst (v := 1) C.1 C.2.1 dL_goes_183 rfl ?_
                        refine lv_iadd C.1 C.2.1 dL_goes_184 ?_
                        rw [show ((nI (5 * (no % 10))) + 1 : Int32) = nI (5 * (no % 10) + 1) from nI_add (5 * (no % 10)) 1]
                        refine lv_iload C.1 C.2.1 dL_goes_185 (lv_at hl 4 rfl) ?_
                        refine last (K := 4) (N := 50) (E := 5 * (no % 10) + 1) (f := (upd (lf 4) (5 * (no % 10)) (nI k10))) C hE hH hS hX14 (by decide) rfl rfl rfl (by omega) dL_goes_187 (fun M15 H locs hX16 hH hS => ?_)
                        rw [ua_ua] at hX16
                        have hIM15 := WS_up hI hX16 hT (ed_no hE hH)
                        refine lv_aload C.1 C.2.1 dL_goes_188 (lv_at hl 1 rfl) ?_
                        refine lv_iload C.1 C.2.1 dL_goes_190 (lv_at hl 0 rfl) ?_
                        refine lv_iconst (v := 2) C.1 C.2.1 dL_goes_192 rfl ?_
                        refine lv_iadd C.1 C.2.1 dL_goes_193 ?_
                        rw [show ((nI (5 * (no % 10))) + 2 : Int32) = nI (5 * (no % 10) + 2) from nI_add (5 * (no % 10)) 2]
                        refine lv_iload C.1 C.2.1 dL_goes_194 (lv_at hl 5 rfl) ?_
                        refine last (K := 4) (N := 50) (E := 5 * (no % 10) + 2) (f := (upd (upd (lf 4) (5 * (no % 10)) (nI k10)) (5 * (no % 10) + 1) (nI a13))) C hE hH hS hX16 (by decide) rfl rfl rfl (by omega) dL_goes_196 (fun M17 H locs hX18 hH hS => ?_)
                        rw [ua_ua] at hX18
                        have hIM17 := WS_up hI hX18 hT (ed_no hE hH)
                        refine lv_aload C.1 C.2.1 dL_goes_197 (lv_at hl 1 rfl) ?_
                        refine lv_iload C.1 C.2.1 dL_goes_199 (lv_at hl 0 rfl) ?_
                        refine lv_iconst (v := 3) C.1 C.2.1 dL_goes_201 rfl ?_
                        refine lv_iadd C.1 C.2.1 dL_goes_202 ?_
                        rw [show ((nI (5 * (no % 10))) + 3 : Int32) = nI (5 * (no % 10) + 3) from nI_add (5 * (no % 10)) 3]
                        refine lv_iconst (v := 0) C.1 C.2.1 dL_goes_203 rfl ?_
                        refine last (K := 4) (N := 50) (E := 5 * (no % 10) + 3) (f := (upd (upd (upd (lf 4) (5 * (no % 10)) (nI k10)) (5 * (no % 10) + 1) (nI a13)) (5 * (no % 10) + 2) (nI a12))) C hE hH hS hX18 (by decide) rfl rfl rfl (by omega) dL_goes_204 (fun M19 H locs hX20 hH hS => ?_)
                        rw [ua_ua] at hX20
                        have hIM19 := WS_up hI hX20 hT (ed_no hE hH)
                        refine lv_aload_n C.1 C.2.1 dL_goes_205 rfl (lv_at hl 10 rfl) ?_
                        refine lv_iconst (v := 2) C.1 C.2.1 dL_goes_206 rfl ?_
                        refine lv_dup2_11 C.1 C.2.1 dL_goes_207 rfl rfl ?_
                        refine lald (K := 0) (N := 3) (E := 2) (f := (lf 0)) (v := (nI no)) C hE hH hX20 (by decide) rfl rfl rfl (by omega) (hc2) dL_goes_208 ?_
                        refine lv_iconst (v := 1) C.1 C.2.1 dL_goes_209 rfl ?_
                        refine lv_iadd C.1 C.2.1 dL_goes_210 ?_
                        rw [show ((nI no) + 1 : Int32) = nI (no + 1) from nI_add no 1]
                        refine last (K := 0) (N := 3) (E := 2) (f := (lf 0)) C hE hH hS hX20 (by decide) rfl rfl rfl (by omega) dL_goes_211 (fun M21 H locs hX22 hH hS => ?_)
                        have hIM21 := WS_up hI hX22 hT (ed_no hE hH)
                        refine lv_aload_n C.1 C.2.1 dL_goes_212 rfl (lv_at hl 7 rfl) ?_
                        refine lv_iload C.1 C.2.1 dL_goes_213 (lv_at hl 6 rfl) ?_
                        refine lv_iload C.1 C.2.1 dL_goes_215 (lv_at hl 5 rfl) ?_
                        refine lv_iload C.1 C.2.1 dL_goes_217 (lv_at hl 4 rfl) ?_
                        refine wr_go1 (runT C hE hH hS (l_order hlx hIM21 (nI k10) (nI a12) (nI a13)) mv_L_orders wm_554 hl.1 dL_goes_219 rfl rfl ⟨rfl, rfl⟩ ⟨Nat.le_of_ble_eq_true rfl, Nat.le_of_ble_eq_true rfl⟩ (Nat.le_of_ble_eq_true rfl) ⟨Nat.le_of_ble_eq_true rfl, Nat.le_of_ble_eq_true rfl⟩) hS (fun u23 M24 H locs hM24 hH hS => ?_)
                        obtain ⟨hu, hx⟩ := lqC_t hM24 ⟨(inx_n (a := k10) (n := ne) (by omega) (by omega)).mpr (by omega), (inx_n (a := a13) (n := 4) (by omega) (by omega)).mpr (by omega)⟩ ((inr_1 (a := a12) (n := 40) (by omega) (by omega)).mpr (by omega)) (by rw [hs9]; exact (nI_ltI (a := no) (b := 40) (by omega) (by omega)).mpr (by omega))
                        have hu : u23 = nI no := hu.trans (hs9)
                        rw [hu]
                        rw [hs9, nI_clamp (show no < 2 ^ 31 by omega)] at hx
                        have hXr := LX_rf (LI_rx hx hX22.1 hT)
                        refine lv_iload C.1 C.2.1 dL_goes_222 (lv_at hl 3 rfl) ?_
                        refine lv_if_ne (tgt := 232) C.1 C.2.1 dL_goes_224 (by decide) (fun c224 => ?_) (fun c224 => ?_)
                        · refine lv_iload C.1 C.2.1 dL_goes_232 (lv_at hl 2 rfl) ?_
                          refine lv_if_ne (tgt := 242) C.1 C.2.1 dL_goes_234 (by decide) (fun c234 => ?_) (fun c234 => ?_)
                          · refine lv_aload_n C.1 C.2.1 dL_goes_242 rfl (lv_at hl 10 rfl) ?_
                            refine lv_iconst (v := 2) C.1 C.2.1 dL_goes_243 rfl ?_
                            refine lald (K := 0) (N := 3) (E := 2) (f := (upd (lf 0) 2 (nI (no + 1)))) (v := (nI (no + 1))) C hE hH hXr (by decide) rfl rfl rfl (by omega) (upd_s) dL_goes_244 ?_
                            refine lv_iconst (v := 1) C.1 C.2.1 dL_goes_245 rfl ?_
                            refine lv_isub C.1 C.2.1 dL_goes_246 ?_
                            rw [show (nI (no + 1) - 1 : Int32) = nI no from nI_S (Nat.le_add_left 1 no)]
                            refine lv_icmp_ne (tgt := 254) C.1 C.2.1 dL_goes_247 (by decide) (fun c247 => ?_) (fun c247 => ?_)
                            · exact absurd rfl c247
                            · refine lv_iconst (v := 1) C.1 C.2.1 dL_goes_250 rfl ?_
                              refine lv_goto (tgt := 255) C.1 C.2.1 dL_goes_251 (by decide) ?_
                              exact wr_zret () C hr hlocks (rfl) hH hS rfl (WS_mk hx hX22.1 hT ⟨(by unfold us; rw [upd_n (by decide)]; exact hs0), (by unfold us; rw [upd_n (by decide)]; exact hs5), (by unfold us; rw [upd_s, nI_1])⟩ (LR_order (R := 4) hR (by omega) (iO.2.2.1 no (Nat.le_refl no)) (by omega)) (krN_cg hN (fun _ _ => rfl))) (by decide) (by decide) dL_goes_255
                          · exact absurd c234 (by decide)
                        · exact absurd c224 (by decide)
                · have n130 : no = 20 := nI_inj (by omega) (by omega) c130
                  refine lv_iconst (v := 1) C.1 C.2.1 dL_goes_133 rfl ?_
                  exact wr_zret () C hr hlocks (rfl) hH hS rfl (hLS) (by decide) (by decide) dL_goes_134
          have J113f : ∀ (hw : ¬ (0 < a12 ∧ a12 < 41)) (ls : Array Slot), lv_has ls 18 [(14, .int 1), (13, .int (nI a13)), (12, .int (nI a12)), (11, .int (nI k10)), (0, .ref x), (1, .int 0), (2, .int y), (3, .ref (la 0)), (4, .ref (la 1)), (5, .ref (la 2)), (6, .ref (la 3)), (7, .ref (la 4)), (8, .ref (la 5)), (9, .ref (la 6)), (10, .ref (la 7))] → W p l e { frames := 10, cells := 6, slots := 230, locals := 240 } s m args below meth c s.heap [] 0 0 (MQ below (wrQ (S := Unit) g (fun u_ => (some (.int 1))) (fun u_ M_ => WS g M_ x la n)) args s 6 230 (gA g)) (F0 m 113 ls [.int 0]) := by
            intro  hw ls hl
            refine lv_istore (lv' := [(15, .int 0), (14, .int 1), (13, .int (nI a13)), (12, .int (nI a12)), (11, .int (nI k10)), (0, .ref x), (1, .int 0), (2, .int y), (3, .ref (la 0)), (4, .ref (la 1)), (5, .ref (la 2)), (6, .ref (la 3)), (7, .ref (la 4)), (8, .ref (la 5)), (9, .ref (la 6)), (10, .ref (la 7))]) C.1 C.2.1 dL_goes_113 hl (by decide) rfl (fun ls hl => ?_)
            refine lv_iload C.1 C.2.1 dL_goes_115 (lv_at hl 1 rfl) ?_
            refine lv_if_eq (tgt := 135) C.1 C.2.1 dL_goes_117 (by decide) (fun c117 => ?_) (fun c117 => ?_)
            · exact absurd c117 (by decide)
            · refine lv_iload C.1 C.2.1 dL_goes_120 (lv_at hl 0 rfl) ?_
              refine lv_if_eq (tgt := 135) C.1 C.2.1 dL_goes_122 (by decide) (fun c122 => ?_) (fun c122 => ?_)
              · refine lv_iload C.1 C.2.1 dL_goes_135 (lv_at hl 1 rfl) ?_
                refine lv_if_eq (tgt := 212) C.1 C.2.1 dL_goes_137 (by decide) (fun c137 => ?_) (fun c137 => ?_)
                · exact absurd c137 (by decide)
                · refine lv_iload C.1 C.2.1 dL_goes_140 (lv_at hl 0 rfl) ?_
                  refine lv_if_eq (tgt := 212) C.1 C.2.1 dL_goes_142 (by decide) (fun c142 => ?_) (fun c142 => ?_)
                  · refine lv_aload_n C.1 C.2.1 dL_goes_212 rfl (lv_at hl 5 rfl) ?_
                    refine lv_iload C.1 C.2.1 dL_goes_213 (lv_at hl 4 rfl) ?_
                    refine lv_iload C.1 C.2.1 dL_goes_215 (lv_at hl 3 rfl) ?_
                    refine lv_iload C.1 C.2.1 dL_goes_217 (lv_at hl 2 rfl) ?_
                    refine wr_go1 (runT C hE hH hS (l_order hlx hI (nI k10) (nI a12) (nI a13)) mv_L_orders wm_554 hl.1 dL_goes_219 rfl rfl ⟨rfl, rfl⟩ ⟨Nat.le_of_ble_eq_true rfl, Nat.le_of_ble_eq_true rfl⟩ (Nat.le_of_ble_eq_true rfl) ⟨Nat.le_of_ble_eq_true rfl, Nat.le_of_ble_eq_true rfl⟩) hS (fun u25 M26 H locs hM26 hH hS => ?_)
                    obtain ⟨hu, hM⟩ := lqC_g hM26 ⟨(inx_n (a := k10) (n := ne) (by omega) (by omega)).mpr (by omega), (inx_n (a := a13) (n := 4) (by omega) (by omega)).mpr (by omega)⟩ (fun z => hw (by have z1 := (inr_1 (a := a12) (n := 40) (by omega) (by omega)).mp z; omega))
                    rw [hu]
                    refine lv_iload C.1 C.2.1 dL_goes_222 (lv_at hl 1 rfl) ?_
                    refine lv_if_ne (tgt := 232) C.1 C.2.1 dL_goes_224 (by decide) (fun c224 => ?_) (fun c224 => ?_)
                    · refine lv_iload C.1 C.2.1 dL_goes_232 (lv_at hl 0 rfl) ?_
                      refine lv_if_ne (tgt := 242) C.1 C.2.1 dL_goes_234 (by decide) (fun c234 => ?_) (fun c234 => ?_)
                      · exact absurd c234 (by decide)
                      · refine lv_bipush (v := -102) C.1 C.2.1 dL_goes_237 rfl ?_
                        refine lv_goto (tgt := 247) C.1 C.2.1 dL_goes_239 (by decide) ?_
                        refine lv_icmp_ne (tgt := 254) C.1 C.2.1 dL_goes_247 (by decide) (fun c247 => ?_) (fun c247 => ?_)
                        · exact absurd c247 (by decide)
                        · refine lv_iconst (v := 1) C.1 C.2.1 dL_goes_250 rfl ?_
                          refine lv_goto (tgt := 255) C.1 C.2.1 dL_goes_251 (by decide) ?_
                          exact wr_zret () C hr hlocks (rfl) hH hS rfl ((by rw [hM]; exact hLS)) (by decide) (by decide) dL_goes_255
                    · exact absurd c224 (by decide)
                  · exact absurd c142 (by decide)
              · exact absurd c122 (by decide)
          refine lv_iload C.1 C.2.1 dL_goes_96 (lv_at hl 2 rfl) ?_
          refine lv_if_le (tgt := 112) C.1 C.2.1 dL_goes_98 (by decide) (fun c98 => ?_) (fun c98 => ?_)
          · have n98 : a12 ≤ 0 := (nI_leI (a := a12) (b := 0) (by omega) (by omega)).mp c98
            refine lv_iconst (v := 0) C.1 C.2.1 dL_goes_112 rfl ?_
            exact J113f (by omega) ls (hl)
          · have n98 : ¬ a12 ≤ 0 := fun z => c98 ((nI_leI (a := a12) (b := 0) (by omega) (by omega)).mpr z)
            refine lv_iload C.1 C.2.1 dL_goes_101 (lv_at hl 2 rfl) ?_
            refine lv_bipush (v := 41) C.1 C.2.1 dL_goes_103 rfl ?_
            refine lv_icmp_ge (tgt := 112) C.1 C.2.1 dL_goes_105 (by decide) (fun c105 => ?_) (fun c105 => ?_)
            · have n105 : 41 ≤ a12 := (nI_leI (a := 41) (b := a12) (by omega) (by omega)).mp c105
              refine lv_iconst (v := 0) C.1 C.2.1 dL_goes_112 rfl ?_
              exact J113f (by omega) ls (hl)
            · have n105 : ¬ 41 ≤ a12 := fun z => c105 ((nI_leI (a := 41) (b := a12) (by omega) (by omega)).mpr z)
              refine lv_iconst (v := 1) C.1 C.2.1 dL_goes_108 rfl ?_
              refine lv_goto (tgt := 113) C.1 C.2.1 dL_goes_109 (by decide) ?_
              exact J113t (by omega) ls (hl)
        have J94f : ∀ (hf : ¬ (k10 < ne ∧ a13 < 4)) (ls : Array Slot), lv_has ls 18 [(13, .int (nI a13)), (12, .int (nI a12)), (11, .int (nI k10)), (0, .ref x), (1, .int 0), (2, .int y), (3, .ref (la 0)), (4, .ref (la 1)), (5, .ref (la 2)), (6, .ref (la 3)), (7, .ref (la 4)), (8, .ref (la 5)), (9, .ref (la 6)), (10, .ref (la 7))] → W p l e { frames := 10, cells := 6, slots := 230, locals := 240 } s m args below meth c s.heap [] 0 0 (MQ below (wrQ (S := Unit) g (fun u_ => (some (.int 1))) (fun u_ M_ => WS g M_ x la n)) args s 6 230 (gA g)) (F0 m 94 ls [.int 0]) := by
          intro  hf ls hl
          refine lv_istore (lv' := [(14, .int 0), (13, .int (nI a13)), (12, .int (nI a12)), (11, .int (nI k10)), (0, .ref x), (1, .int 0), (2, .int y), (3, .ref (la 0)), (4, .ref (la 1)), (5, .ref (la 2)), (6, .ref (la 3)), (7, .ref (la 4)), (8, .ref (la 5)), (9, .ref (la 6)), (10, .ref (la 7))]) C.1 C.2.1 dL_goes_94 hl (by decide) rfl (fun ls hl => ?_)
          have J113t : ∀ (hw : 0 < a12 ∧ a12 < 41) (ls : Array Slot), lv_has ls 18 [(14, .int 0), (13, .int (nI a13)), (12, .int (nI a12)), (11, .int (nI k10)), (0, .ref x), (1, .int 0), (2, .int y), (3, .ref (la 0)), (4, .ref (la 1)), (5, .ref (la 2)), (6, .ref (la 3)), (7, .ref (la 4)), (8, .ref (la 5)), (9, .ref (la 6)), (10, .ref (la 7))] → W p l e { frames := 10, cells := 6, slots := 230, locals := 240 } s m args below meth c s.heap [] 0 0 (MQ below (wrQ (S := Unit) g (fun u_ => (some (.int 1))) (fun u_ M_ => WS g M_ x la n)) args s 6 230 (gA g)) (F0 m 113 ls [.int 1]) := by
            intro  hw ls hl
            refine lv_istore (lv' := [(15, .int 1), (14, .int 0), (13, .int (nI a13)), (12, .int (nI a12)), (11, .int (nI k10)), (0, .ref x), (1, .int 0), (2, .int y), (3, .ref (la 0)), (4, .ref (la 1)), (5, .ref (la 2)), (6, .ref (la 3)), (7, .ref (la 4)), (8, .ref (la 5)), (9, .ref (la 6)), (10, .ref (la 7))]) C.1 C.2.1 dL_goes_113 hl (by decide) rfl (fun ls hl => ?_)
            refine lv_iload C.1 C.2.1 dL_goes_115 (lv_at hl 1 rfl) ?_
            refine lv_if_eq (tgt := 135) C.1 C.2.1 dL_goes_117 (by decide) (fun c117 => ?_) (fun c117 => ?_)
            · refine lv_iload C.1 C.2.1 dL_goes_135 (lv_at hl 1 rfl) ?_
              refine lv_if_eq (tgt := 212) C.1 C.2.1 dL_goes_137 (by decide) (fun c137 => ?_) (fun c137 => ?_)
              · refine lv_aload_n C.1 C.2.1 dL_goes_212 rfl (lv_at hl 5 rfl) ?_
                refine lv_iload C.1 C.2.1 dL_goes_213 (lv_at hl 4 rfl) ?_
                refine lv_iload C.1 C.2.1 dL_goes_215 (lv_at hl 3 rfl) ?_
                refine lv_iload C.1 C.2.1 dL_goes_217 (lv_at hl 2 rfl) ?_
                refine wr_go1 (runT C hE hH hS (l_order hlx hI (nI k10) (nI a12) (nI a13)) mv_L_orders wm_554 hl.1 dL_goes_219 rfl rfl ⟨rfl, rfl⟩ ⟨Nat.le_of_ble_eq_true rfl, Nat.le_of_ble_eq_true rfl⟩ (Nat.le_of_ble_eq_true rfl) ⟨Nat.le_of_ble_eq_true rfl, Nat.le_of_ble_eq_true rfl⟩) hS (fun u27 M28 H locs hM28 hH hS => ?_)
                obtain ⟨hu, hM⟩ := lqC_f hM28 (fun z => hf ⟨(inx_n (a := k10) (n := ne) (by omega) (by omega)).mp z.1, (inx_n (a := a13) (n := 4) (by omega) (by omega)).mp z.2⟩)
                rw [hu]
                refine lv_iload C.1 C.2.1 dL_goes_222 (lv_at hl 1 rfl) ?_
                refine lv_if_ne (tgt := 232) C.1 C.2.1 dL_goes_224 (by decide) (fun c224 => ?_) (fun c224 => ?_)
                · exact absurd c224 (by decide)
                · refine lv_bipush (v := -101) C.1 C.2.1 dL_goes_227 rfl ?_
                  refine lv_goto (tgt := 247) C.1 C.2.1 dL_goes_229 (by decide) ?_
                  refine lv_icmp_ne (tgt := 254) C.1 C.2.1 dL_goes_247 (by decide) (fun c247 => ?_) (fun c247 => ?_)
                  · exact absurd c247 (by decide)
                  · refine lv_iconst (v := 1) C.1 C.2.1 dL_goes_250 rfl ?_
                    refine lv_goto (tgt := 255) C.1 C.2.1 dL_goes_251 (by decide) ?_
                    exact wr_zret () C hr hlocks (rfl) hH hS rfl ((by rw [hM]; exact hLS)) (by decide) (by decide) dL_goes_255
              · exact absurd c137 (by decide)
            · exact absurd c117 (by decide)
          have J113f : ∀ (hw : ¬ (0 < a12 ∧ a12 < 41)) (ls : Array Slot), lv_has ls 18 [(14, .int 0), (13, .int (nI a13)), (12, .int (nI a12)), (11, .int (nI k10)), (0, .ref x), (1, .int 0), (2, .int y), (3, .ref (la 0)), (4, .ref (la 1)), (5, .ref (la 2)), (6, .ref (la 3)), (7, .ref (la 4)), (8, .ref (la 5)), (9, .ref (la 6)), (10, .ref (la 7))] → W p l e { frames := 10, cells := 6, slots := 230, locals := 240 } s m args below meth c s.heap [] 0 0 (MQ below (wrQ (S := Unit) g (fun u_ => (some (.int 1))) (fun u_ M_ => WS g M_ x la n)) args s 6 230 (gA g)) (F0 m 113 ls [.int 0]) := by
            intro  hw ls hl
            refine lv_istore (lv' := [(15, .int 0), (14, .int 0), (13, .int (nI a13)), (12, .int (nI a12)), (11, .int (nI k10)), (0, .ref x), (1, .int 0), (2, .int y), (3, .ref (la 0)), (4, .ref (la 1)), (5, .ref (la 2)), (6, .ref (la 3)), (7, .ref (la 4)), (8, .ref (la 5)), (9, .ref (la 6)), (10, .ref (la 7))]) C.1 C.2.1 dL_goes_113 hl (by decide) rfl (fun ls hl => ?_)
            refine lv_iload C.1 C.2.1 dL_goes_115 (lv_at hl 1 rfl) ?_
            refine lv_if_eq (tgt := 135) C.1 C.2.1 dL_goes_117 (by decide) (fun c117 => ?_) (fun c117 => ?_)
            · refine lv_iload C.1 C.2.1 dL_goes_135 (lv_at hl 1 rfl) ?_
              refine lv_if_eq (tgt := 212) C.1 C.2.1 dL_goes_137 (by decide) (fun c137 => ?_) (fun c137 => ?_)
              · refine lv_aload_n C.1 C.2.1 dL_goes_212 rfl (lv_at hl 5 rfl) ?_
                refine lv_iload C.1 C.2.1 dL_goes_213 (lv_at hl 4 rfl) ?_
                refine lv_iload C.1 C.2.1 dL_goes_215 (lv_at hl 3 rfl) ?_
                refine lv_iload C.1 C.2.1 dL_goes_217 (lv_at hl 2 rfl) ?_
                refine wr_go1 (runT C hE hH hS (l_order hlx hI (nI k10) (nI a12) (nI a13)) mv_L_orders wm_554 hl.1 dL_goes_219 rfl rfl ⟨rfl, rfl⟩ ⟨Nat.le_of_ble_eq_true rfl, Nat.le_of_ble_eq_true rfl⟩ (Nat.le_of_ble_eq_true rfl) ⟨Nat.le_of_ble_eq_true rfl, Nat.le_of_ble_eq_true rfl⟩) hS (fun u29 M30 H locs hM30 hH hS => ?_)
                obtain ⟨hu, hM⟩ := lqC_f hM30 (fun z => hf ⟨(inx_n (a := k10) (n := ne) (by omega) (by omega)).mp z.1, (inx_n (a := a13) (n := 4) (by omega) (by omega)).mp z.2⟩)
                rw [hu]
                refine lv_iload C.1 C.2.1 dL_goes_222 (lv_at hl 1 rfl) ?_
                refine lv_if_ne (tgt := 232) C.1 C.2.1 dL_goes_224 (by decide) (fun c224 => ?_) (fun c224 => ?_)
                · exact absurd c224 (by decide)
                · refine lv_bipush (v := -101) C.1 C.2.1 dL_goes_227 rfl ?_
                  refine lv_goto (tgt := 247) C.1 C.2.1 dL_goes_229 (by decide) ?_
                  refine lv_icmp_ne (tgt := 254) C.1 C.2.1 dL_goes_247 (by decide) (fun c247 => ?_) (fun c247 => ?_)
                  · exact absurd c247 (by decide)
                  · refine lv_iconst (v := 1) C.1 C.2.1 dL_goes_250 rfl ?_
                    refine lv_goto (tgt := 255) C.1 C.2.1 dL_goes_251 (by decide) ?_
                    exact wr_zret () C hr hlocks (rfl) hH hS rfl ((by rw [hM]; exact hLS)) (by decide) (by decide) dL_goes_255
              · exact absurd c137 (by decide)
            · exact absurd c117 (by decide)
          refine lv_iload C.1 C.2.1 dL_goes_96 (lv_at hl 2 rfl) ?_
          refine lv_if_le (tgt := 112) C.1 C.2.1 dL_goes_98 (by decide) (fun c98 => ?_) (fun c98 => ?_)
          · have n98 : a12 ≤ 0 := (nI_leI (a := a12) (b := 0) (by omega) (by omega)).mp c98
            refine lv_iconst (v := 0) C.1 C.2.1 dL_goes_112 rfl ?_
            exact J113f (by omega) ls (hl)
          · have n98 : ¬ a12 ≤ 0 := fun z => c98 ((nI_leI (a := a12) (b := 0) (by omega) (by omega)).mpr z)
            refine lv_iload C.1 C.2.1 dL_goes_101 (lv_at hl 2 rfl) ?_
            refine lv_bipush (v := 41) C.1 C.2.1 dL_goes_103 rfl ?_
            refine lv_icmp_ge (tgt := 112) C.1 C.2.1 dL_goes_105 (by decide) (fun c105 => ?_) (fun c105 => ?_)
            · have n105 : 41 ≤ a12 := (nI_leI (a := 41) (b := a12) (by omega) (by omega)).mp c105
              refine lv_iconst (v := 0) C.1 C.2.1 dL_goes_112 rfl ?_
              exact J113f (by omega) ls (hl)
            · have n105 : ¬ 41 ≤ a12 := fun z => c105 ((nI_leI (a := 41) (b := a12) (by omega) (by omega)).mpr z)
              refine lv_iconst (v := 1) C.1 C.2.1 dL_goes_108 rfl ?_
              refine lv_goto (tgt := 113) C.1 C.2.1 dL_goes_109 (by decide) ?_
              exact J113t (by omega) ls (hl)
        refine lv_iload C.1 C.2.1 dL_goes_75 (lv_at hl 2 rfl) ?_
        refine lv_aload_n C.1 C.2.1 dL_goes_77 rfl (lv_at hl 6 rfl) ?_
        refine lv_iconst (v := 0) C.1 C.2.1 dL_goes_78 rfl ?_
        refine lald (K := 0) (N := 3) (E := 0) (f := (lf 0)) (v := (nI ne)) C hE hH hX (by decide) rfl rfl rfl (by omega) (hc0) dL_goes_79 ?_
        refine lv_icmp_ge (tgt := 93) C.1 C.2.1 dL_goes_80 (by decide) (fun c80 => ?_) (fun c80 => ?_)
        · have n80 : ne ≤ k10 := (nI_leI (a := ne) (b := k10) (by omega) (by omega)).mp c80
          refine lv_iconst (v := 0) C.1 C.2.1 dL_goes_93 rfl ?_
          exact J94f (by omega) ls (hl)
        · have n80 : ¬ ne ≤ k10 := fun z => c80 ((nI_leI (a := ne) (b := k10) (by omega) (by omega)).mpr z)
          refine lv_iload C.1 C.2.1 dL_goes_83 (lv_at hl 0 rfl) ?_
          refine lv_iconst (v := 4) C.1 C.2.1 dL_goes_85 rfl ?_
          refine lv_icmp_ge (tgt := 93) C.1 C.2.1 dL_goes_86 (by decide) (fun c86 => ?_) (fun c86 => ?_)
          · have n86 : 4 ≤ a13 := (nI_leI (a := 4) (b := a13) (by omega) (by omega)).mp c86
            refine lv_iconst (v := 0) C.1 C.2.1 dL_goes_93 rfl ?_
            exact J94f (by omega) ls (hl)
          · have n86 : ¬ 4 ≤ a13 := fun z => c86 ((nI_leI (a := 4) (b := a13) (by omega) (by omega)).mpr z)
            refine lv_iconst (v := 1) C.1 C.2.1 dL_goes_89 rfl ?_
            refine lv_goto (tgt := 94) C.1 C.2.1 dL_goes_90 (by decide) ?_
            exact J94t (by omega) ls (hl)
      refine lv_iload_n C.1 C.2.1 dL_goes_51 rfl (lv_at hl 4 rfl) ?_
      refine lv_iconst (v := 5) C.1 C.2.1 dL_goes_52 rfl ?_
      refine lv_ishr C.1 C.2.1 dL_goes_53 ?_
      refine lv_bipush (v := 60) C.1 C.2.1 dL_goes_54 rfl ?_
      refine some_go (N := 60) (runS C hE hH hS (c_some (n := 60) (N := 60) rfl (by omega) (by omega) (y >>> (5 &&& 31))) mv_L_some wm_121 hl.1 dL_goes_56 rfl rfl ⟨rfl, rfl⟩ ⟨Nat.le_of_ble_eq_true rfl, Nat.le_of_ble_eq_true rfl⟩ (Nat.le_of_ble_eq_true rfl) ⟨Nat.le_of_ble_eq_true rfl, Nat.le_of_ble_eq_true rfl⟩) rfl (by omega) (by omega) (fun k56 hk56 => ?_)
      refine lv_if_ne (tgt := 66) C.1 C.2.1 dL_goes_59 (by decide) (fun c59 => ?_) (fun c59 => ?_)
      · have n59 : ¬ k56 = 0 := fun z => c59 (congrArg nI z)
        refine lv_iload_n C.1 C.2.1 dL_goes_66 rfl (lv_at hl 4 rfl) ?_
        refine lv_iconst (v := 5) C.1 C.2.1 dL_goes_67 rfl ?_
        refine lv_ishr C.1 C.2.1 dL_goes_68 ?_
        refine lv_iconst (v := 4) C.1 C.2.1 dL_goes_69 rfl ?_
        refine some_go (N := 4) (runS C hE hH hS (c_some (n := 4) (N := 4) rfl (by omega) (by omega) (y >>> (5 &&& 31))) mv_L_some wm_121 hl.1 dL_goes_70 rfl rfl ⟨rfl, rfl⟩ ⟨Nat.le_of_ble_eq_true rfl, Nat.le_of_ble_eq_true rfl⟩ (Nat.le_of_ble_eq_true rfl) ⟨Nat.le_of_ble_eq_true rfl, Nat.le_of_ble_eq_true rfl⟩) rfl (by omega) (by omega) (fun k70 hk70 => ?_)
        exact J73 k70 (by omega) ls (hl)
      · have n59 : k56 = 0 := nI_inj (by omega) (by omega) c59
        refine lv_iconst (v := 4) C.1 C.2.1 dL_goes_62 rfl ?_
        refine lv_goto (tgt := 73) C.1 C.2.1 dL_goes_63 (by decide) ?_
        exact J73 4 (by omega) ls (hl)
    refine lv_iload_n C.1 C.2.1 dL_goes_15 rfl (lv_at hl 3 rfl) ?_
    refine lv_iconst (v := 3) C.1 C.2.1 dL_goes_16 rfl ?_
    refine lv_ishr C.1 C.2.1 dL_goes_17 ?_
    refine lv_bipush (v := 30) C.1 C.2.1 dL_goes_18 rfl ?_
    refine some_go (N := 30) (runS C hE hH hS (c_some (n := 30) (N := 30) rfl (by omega) (by omega) (y >>> (3 &&& 31))) mv_L_some wm_121 hl.1 dL_goes_20 rfl rfl ⟨rfl, rfl⟩ ⟨Nat.le_of_ble_eq_true rfl, Nat.le_of_ble_eq_true rfl⟩ (Nat.le_of_ble_eq_true rfl) ⟨Nat.le_of_ble_eq_true rfl, Nat.le_of_ble_eq_true rfl⟩) rfl (by omega) (by omega) (fun k20 hk20 => ?_)
    refine lv_if_ne (tgt := 39) C.1 C.2.1 dL_goes_23 (by decide) (fun c23 => ?_) (fun c23 => ?_)
    · have n23 : ¬ k20 = 0 := fun z => c23 (congrArg nI z)
      refine lv_iconst (v := 1) C.1 C.2.1 dL_goes_39 rfl ?_
      refine lv_iload_n C.1 C.2.1 dL_goes_40 rfl (lv_at hl 3 rfl) ?_
      refine lv_iconst (v := 3) C.1 C.2.1 dL_goes_41 rfl ?_
      refine lv_ishr C.1 C.2.1 dL_goes_42 ?_
      refine lv_bipush (v := 40) C.1 C.2.1 dL_goes_43 rfl ?_
      refine some_go (N := 40) (runS C hE hH hS (c_some (n := 40) (N := 40) rfl (by omega) (by omega) (y >>> (3 &&& 31))) mv_L_some wm_121 hl.1 dL_goes_45 rfl rfl ⟨rfl, rfl⟩ ⟨Nat.le_of_ble_eq_true rfl, Nat.le_of_ble_eq_true rfl⟩ (Nat.le_of_ble_eq_true rfl) ⟨Nat.le_of_ble_eq_true rfl, Nat.le_of_ble_eq_true rfl⟩) rfl (by omega) (by omega) (fun k45 hk45 => ?_)
      refine lv_iadd C.1 C.2.1 dL_goes_48 ?_
      rw [show ((1 : Int32) + (nI k45)) = nI (1 + k45) from nI_add 1 k45]
      exact J49 (1 + k45) (by omega) ls (hl)
    · have n23 : k20 = 0 := nI_inj (by omega) (by omega) c23
      refine lv_bipush (v := 41) C.1 C.2.1 dL_goes_26 rfl ?_
      refine lv_iload_n C.1 C.2.1 dL_goes_28 rfl (lv_at hl 3 rfl) ?_
      refine lv_iconst (v := 4) C.1 C.2.1 dL_goes_29 rfl ?_
      refine lv_ishr C.1 C.2.1 dL_goes_30 ?_
      refine lv_iconst (v := 2) C.1 C.2.1 dL_goes_31 rfl ?_
      refine some_go (N := 2) (runS C hE hH hS (c_some (n := 2) (N := 2) rfl (by omega) (by omega) (y >>> (4 &&& 31))) mv_L_some wm_121 hl.1 dL_goes_32 rfl rfl ⟨rfl, rfl⟩ ⟨Nat.le_of_ble_eq_true rfl, Nat.le_of_ble_eq_true rfl⟩ (Nat.le_of_ble_eq_true rfl) ⟨Nat.le_of_ble_eq_true rfl, Nat.le_of_ble_eq_true rfl⟩) rfl (by omega) (by omega) (fun k32 hk32 => ?_)
      refine lv_imul C.1 C.2.1 dL_goes_35 ?_
      rw [show ((41 : Int32) * (nI k32)) = nI (41 * k32) from nI_M 41 k32]
      refine lv_goto (tgt := 49) C.1 C.2.1 dL_goes_36 (by decide) ?_
      exact J49 (41 * k32) (by omega) ls (hl)
set_option maxHeartbeats 4000000 in
set_option maxRecDepth 100000 in
theorem g_place {l : Launch} {g : gG} {M : Mp} {la : Nat → Nat} {x n : Nat}  (hlx : l.stackTraces = false) (hLS : WS g M x la n) (y : Int32) : Met l yL_goes (WY yL_goes cL_goes 18 (some .boolean)) { frames := 11, cells := 6, slots := 230, locals := 282 } (Wc g M [.ref x, .int 1, .int y, .ref (la 0), .ref (la 1), .ref (la 2), .ref (la 3), .ref (la 4), .ref (la 5), .ref (la 6), .ref (la 7)]) (wrQ (S := Unit) g (fun u_ => (some (.int 1))) (fun u_ M_ => WS g M_ x la n)) 6 230 (gA g) := by
  refine ofM (by decide +kernel) (Nat.le_of_ble_eq_true rfl) (fun p e s m args below meth c ls C hr hlocks hin hE hH hl ea => ?_)
  have hl : lv_has ls 18 [(0, .ref x), (1, .int 1), (2, .int y), (3, .ref (la 0)), (4, .ref (la 1)), (5, .ref (la 2)), (6, .ref (la 3)), (7, .ref (la 4)), (8, .ref (la 5)), (9, .ref (la 6)), (10, .ref (la 7))] := hl
  have hS : va_S (gA g) s.heap s.heap [] := va_S.rf
  obtain ⟨tg, A, pr, br, np, hh, ne, nb, no, sc, ar, lf, hI, hL, hT, hR, hN⟩ := id hLS
  have hX := LX_rf hL
  obtain ⟨⟨hs0, hs5, hs9⟩, iX, iE, iB, iO, iW, iBl, iC⟩ := id hI
  obtain ⟨⟨hc0, hc1, hc2⟩, ⟨sne, snb, sno⟩, rE, ⟨rW, rY⟩, rB, rO, rM, rD, rZ⟩ := id hR
  refine lv_iload_n C.1 C.2.1 dL_goes_0 rfl (lv_at hl 1 rfl) ?_
  refine lv_if_ne (tgt := 256) C.1 C.2.1 dL_goes_1 (by decide) (fun c1 => ?_) (fun c1 => ?_)
  · have J316m : ∀ (ls : Array Slot), lv_has ls 18 [(0, .ref x), (1, .int 1), (2, .int y), (3, .ref (la 0)), (4, .ref (la 1)), (5, .ref (la 2)), (6, .ref (la 3)), (7, .ref (la 4)), (8, .ref (la 5)), (9, .ref (la 6)), (10, .ref (la 7))] → W p l e { frames := 11, cells := 6, slots := 230, locals := 282 } s m args below meth c s.heap [] 0 0 (MQ below (wrQ (S := Unit) g (fun u_ => (some (.int 1))) (fun u_ M_ => WS g M_ x la n)) args s 6 230 (gA g)) (F0 m 316 ls [.int (-1)]) := by
      intro   ls hl
      refine lv_istore (lv' := [(11, .int (-1)), (0, .ref x), (1, .int 1), (2, .int y), (3, .ref (la 0)), (4, .ref (la 1)), (5, .ref (la 2)), (6, .ref (la 3)), (7, .ref (la 4)), (8, .ref (la 5)), (9, .ref (la 6)), (10, .ref (la 7))]) C.1 C.2.1 dL_goes_316 hl (by decide) rfl (fun ls hl => ?_)
      have J336f : ∀ (ls : Array Slot), lv_has ls 18 [(11, .int (-1)), (0, .ref x), (1, .int 1), (2, .int y), (3, .ref (la 0)), (4, .ref (la 1)), (5, .ref (la 2)), (6, .ref (la 3)), (7, .ref (la 4)), (8, .ref (la 5)), (9, .ref (la 6)), (10, .ref (la 7))] → W p l e { frames := 11, cells := 6, slots := 230, locals := 282 } s m args below meth c s.heap [] 0 0 (MQ below (wrQ (S := Unit) g (fun u_ => (some (.int 1))) (fun u_ M_ => WS g M_ x la n)) args s 6 230 (gA g)) (F0 m 336 ls [.int 0]) := by
        intro   ls hl
        refine lv_istore (lv' := [(12, .int 0), (11, .int (-1)), (0, .ref x), (1, .int 1), (2, .int y), (3, .ref (la 0)), (4, .ref (la 1)), (5, .ref (la 2)), (6, .ref (la 3)), (7, .ref (la 4)), (8, .ref (la 5)), (9, .ref (la 6)), (10, .ref (la 7))]) C.1 C.2.1 dL_goes_336 hl (by decide) rfl (fun ls hl => ?_)
        refine lv_iload C.1 C.2.1 dL_goes_338 (lv_at hl 1 rfl) ?_
        refine lv_bipush (v := 10) C.1 C.2.1 dL_goes_340 rfl ?_
        refine lv_icmp_ge (tgt := 350) C.1 C.2.1 dL_goes_342 (by decide) (fun c342 => ?_) (fun c342 => ?_)
        · exact absurd c342 (by decide)
        · refine lv_aload C.1 C.2.1 dL_goes_345 (lv_at hl 9 rfl) ?_
          refine lv_goto (tgt := 352) C.1 C.2.1 dL_goes_347 (by decide) ?_
          refine lv_astore (lv' := [(13, .ref (la 4)), (12, .int 0), (11, .int (-1)), (0, .ref x), (1, .int 1), (2, .int y), (3, .ref (la 0)), (4, .ref (la 1)), (5, .ref (la 2)), (6, .ref (la 3)), (7, .ref (la 4)), (8, .ref (la 5)), (9, .ref (la 6)), (10, .ref (la 7))]) C.1 C.2.1 dL_goes_352 hl (by decide) rfl (fun ls hl => ?_)
          refine lv_iload C.1 C.2.1 dL_goes_354 (lv_at hl 1 rfl) ?_
          refine lv_if_eq (tgt := 369) C.1 C.2.1 dL_goes_356 (by decide) (fun c356 => ?_) (fun c356 => ?_)
          · refine lv_iconst (v := 0) C.1 C.2.1 dL_goes_369 rfl ?_
            refine lv_istore (lv' := [(14, .int 0), (13, .ref (la 4)), (12, .int 0), (11, .int (-1)), (0, .ref x), (1, .int 1), (2, .int y), (3, .ref (la 0)), (4, .ref (la 1)), (5, .ref (la 2)), (6, .ref (la 3)), (7, .ref (la 4)), (8, .ref (la 5)), (9, .ref (la 6)), (10, .ref (la 7))]) C.1 C.2.1 dL_goes_370 hl (by decide) rfl (fun ls hl => ?_)
            refine lv_iload_n C.1 C.2.1 dL_goes_372 rfl (lv_at hl 5 rfl) ?_
            refine lv_iconst (v := 1) C.1 C.2.1 dL_goes_373 rfl ?_
            refine lv_icmp_ne (tgt := 582) C.1 C.2.1 dL_goes_374 (by decide) (fun c374 => ?_) (fun c374 => ?_)
            · exact absurd c374 (by decide)
            · refine lv_iconst (v := -1) C.1 C.2.1 dL_goes_377 rfl ?_
              refine lv_istore (lv' := [(15, .int (-1)), (14, .int 0), (13, .ref (la 4)), (12, .int 0), (11, .int (-1)), (0, .ref x), (1, .int 1), (2, .int y), (3, .ref (la 0)), (4, .ref (la 1)), (5, .ref (la 2)), (6, .ref (la 3)), (7, .ref (la 4)), (8, .ref (la 5)), (9, .ref (la 6)), (10, .ref (la 7))]) C.1 C.2.1 dL_goes_378 hl (by decide) rfl (fun ls hl => ?_)
              refine lv_aload_n C.1 C.2.1 dL_goes_380 rfl (lv_at hl 8 rfl) ?_
              refine lv_iconst (v := 1) C.1 C.2.1 dL_goes_381 rfl ?_
              refine lald (K := 0) (N := 3) (E := 1) (f := (lf 0)) (v := (nI nb)) C hE hH hX (by decide) rfl rfl rfl (by omega) (hc1) dL_goes_382 ?_
              refine lv_iconst (v := 1) C.1 C.2.1 dL_goes_383 rfl ?_
              refine lv_isub C.1 C.2.1 dL_goes_384 ?_
              refine lv_istore (lv' := [(16, .int ((nI nb) - 1)), (15, .int (-1)), (14, .int 0), (13, .ref (la 4)), (12, .int 0), (11, .int (-1)), (0, .ref x), (1, .int 1), (2, .int y), (3, .ref (la 0)), (4, .ref (la 1)), (5, .ref (la 2)), (6, .ref (la 3)), (7, .ref (la 4)), (8, .ref (la 5)), (9, .ref (la 6)), (10, .ref (la 7))]) C.1 C.2.1 dL_goes_385 hl (by decide) rfl (fun ls hl => ?_)
              refine lv_iload C.1 C.2.1 dL_goes_387 (lv_at hl 0 rfl) ?_
              refine lv_if_lt (tgt := 500) C.1 C.2.1 dL_goes_389 (by decide) (fun c389 => ?_) (fun c389 => ?_)
              · refine lv_iload C.1 C.2.1 dL_goes_500 (lv_at hl 4 rfl) ?_
                refine lv_if_ne (tgt := 510) C.1 C.2.1 dL_goes_502 (by decide) (fun c502 => ?_) (fun c502 => ?_)
                · exact absurd c502 (by decide)
                · refine lv_bipush (v := -101) C.1 C.2.1 dL_goes_505 rfl ?_
                  refine lv_goto (tgt := 537) C.1 C.2.1 dL_goes_507 (by decide) ?_
                  refine lv_istore (lv' := [(16, .int (-101)), (15, .int (-1)), (14, .int 0), (13, .ref (la 4)), (12, .int 0), (11, .int (-1)), (0, .ref x), (1, .int 1), (2, .int y), (3, .ref (la 0)), (4, .ref (la 1)), (5, .ref (la 2)), (6, .ref (la 3)), (7, .ref (la 4)), (8, .ref (la 5)), (9, .ref (la 6)), (10, .ref (la 7))]) C.1 C.2.1 dL_goes_537 hl (by decide) rfl (fun ls hl => ?_)
                  refine lv_iload C.1 C.2.1 dL_goes_539 (lv_at hl 0 rfl) ?_
                  refine lv_if_lt (tgt := 563) C.1 C.2.1 dL_goes_541 (by decide) (fun c541 => ?_) (fun c541 => ?_)
                  · refine lv_aload_n C.1 C.2.1 dL_goes_563 rfl (lv_at hl 6 rfl) ?_
                    refine lv_iconst (v := 0) C.1 C.2.1 dL_goes_564 rfl ?_
                    refine lv_iload C.1 C.2.1 dL_goes_565 (lv_at hl 5 rfl) ?_
                    refine lv_iconst (v := 0) C.1 C.2.1 dL_goes_567 rfl ?_
                    refine wr_go1 (runT C hE hH hS (l_place hlx hI (-1) 0) mv_L_pieces wm_605 hl.1 dL_goes_568 rfl rfl ⟨rfl, rfl⟩ ⟨Nat.le_of_ble_eq_true rfl, Nat.le_of_ble_eq_true rfl⟩ (Nat.le_of_ble_eq_true rfl) ⟨Nat.le_of_ble_eq_true rfl, Nat.le_of_ble_eq_true rfl⟩) hS (fun u1 M2 H locs hM2 hH hS => ?_)
                    obtain ⟨hu, hM⟩ := lqC_f hM2 (fun z => z.1 (by decide))
                    rw [hu]
                    refine lv_iload C.1 C.2.1 dL_goes_571 (lv_at hl 0 rfl) ?_
                    refine lv_icmp_ne (tgt := 580) C.1 C.2.1 dL_goes_573 (by decide) (fun c573 => ?_) (fun c573 => ?_)
                    · exact absurd c573 (by decide)
                    · refine lv_iconst (v := 1) C.1 C.2.1 dL_goes_576 rfl ?_
                      refine lv_goto (tgt := 581) C.1 C.2.1 dL_goes_577 (by decide) ?_
                      exact wr_zret () C hr hlocks (rfl) hH hS rfl ((by rw [hM]; exact hLS)) (by decide) (by decide) dL_goes_581
                  · exact absurd c541 (by decide)
              · refine lv_iload C.1 C.2.1 dL_goes_392 (lv_at hl 4 rfl) ?_
                refine lv_if_eq (tgt := 500) C.1 C.2.1 dL_goes_394 (by decide) (fun c394 => ?_) (fun c394 => ?_)
                · refine lv_iload C.1 C.2.1 dL_goes_500 (lv_at hl 4 rfl) ?_
                  refine lv_if_ne (tgt := 510) C.1 C.2.1 dL_goes_502 (by decide) (fun c502 => ?_) (fun c502 => ?_)
                  · exact absurd c502 (by decide)
                  · refine lv_bipush (v := -101) C.1 C.2.1 dL_goes_505 rfl ?_
                    refine lv_goto (tgt := 537) C.1 C.2.1 dL_goes_507 (by decide) ?_
                    refine lv_istore (lv' := [(16, .int (-101)), (15, .int (-1)), (14, .int 0), (13, .ref (la 4)), (12, .int 0), (11, .int (-1)), (0, .ref x), (1, .int 1), (2, .int y), (3, .ref (la 0)), (4, .ref (la 1)), (5, .ref (la 2)), (6, .ref (la 3)), (7, .ref (la 4)), (8, .ref (la 5)), (9, .ref (la 6)), (10, .ref (la 7))]) C.1 C.2.1 dL_goes_537 hl (by decide) rfl (fun ls hl => ?_)
                    refine lv_iload C.1 C.2.1 dL_goes_539 (lv_at hl 0 rfl) ?_
                    refine lv_if_lt (tgt := 563) C.1 C.2.1 dL_goes_541 (by decide) (fun c541 => ?_) (fun c541 => ?_)
                    · refine lv_aload_n C.1 C.2.1 dL_goes_563 rfl (lv_at hl 6 rfl) ?_
                      refine lv_iconst (v := 0) C.1 C.2.1 dL_goes_564 rfl ?_
                      refine lv_iload C.1 C.2.1 dL_goes_565 (lv_at hl 5 rfl) ?_
                      refine lv_iconst (v := 0) C.1 C.2.1 dL_goes_567 rfl ?_
                      refine wr_go1 (runT C hE hH hS (l_place hlx hI (-1) 0) mv_L_pieces wm_605 hl.1 dL_goes_568 rfl rfl ⟨rfl, rfl⟩ ⟨Nat.le_of_ble_eq_true rfl, Nat.le_of_ble_eq_true rfl⟩ (Nat.le_of_ble_eq_true rfl) ⟨Nat.le_of_ble_eq_true rfl, Nat.le_of_ble_eq_true rfl⟩) hS (fun u3 M4 H locs hM4 hH hS => ?_)
                      obtain ⟨hu, hM⟩ := lqC_f hM4 (fun z => z.1 (by decide))
                      rw [hu]
                      refine lv_iload C.1 C.2.1 dL_goes_571 (lv_at hl 0 rfl) ?_
                      refine lv_icmp_ne (tgt := 580) C.1 C.2.1 dL_goes_573 (by decide) (fun c573 => ?_) (fun c573 => ?_)
                      · exact absurd c573 (by decide)
                      · refine lv_iconst (v := 1) C.1 C.2.1 dL_goes_576 rfl ?_
                        refine lv_goto (tgt := 581) C.1 C.2.1 dL_goes_577 (by decide) ?_
                        exact wr_zret () C hr hlocks (rfl) hH hS rfl ((by rw [hM]; exact hLS)) (by decide) (by decide) dL_goes_581
                    · exact absurd c541 (by decide)
                · exact absurd c394 (by decide)
          · exact absurd c356 (by decide)
      refine lv_iload C.1 C.2.1 dL_goes_318 (lv_at hl 0 rfl) ?_
      refine lv_if_lt (tgt := 335) C.1 C.2.1 dL_goes_320 (by decide) (fun c320 => ?_) (fun c320 => ?_)
      · refine lv_iconst (v := 0) C.1 C.2.1 dL_goes_335 rfl ?_
        exact J336f  ls (hl)
      · exact absurd c320 (by decide)
    have J316p : ∀ (a11 : Nat) (h11 : a11 ≤ no) (ls : Array Slot), lv_has ls 18 [(0, .ref x), (1, .int 1), (2, .int y), (3, .ref (la 0)), (4, .ref (la 1)), (5, .ref (la 2)), (6, .ref (la 3)), (7, .ref (la 4)), (8, .ref (la 5)), (9, .ref (la 6)), (10, .ref (la 7))] → W p l e { frames := 11, cells := 6, slots := 230, locals := 282 } s m args below meth c s.heap [] 0 0 (MQ below (wrQ (S := Unit) g (fun u_ => (some (.int 1))) (fun u_ M_ => WS g M_ x la n)) args s 6 230 (gA g)) (F0 m 316 ls [.int (nI a11)]) := by
      intro a11 h11 ls hl
      refine lv_istore (lv' := [(11, .int (nI a11)), (0, .ref x), (1, .int 1), (2, .int y), (3, .ref (la 0)), (4, .ref (la 1)), (5, .ref (la 2)), (6, .ref (la 3)), (7, .ref (la 4)), (8, .ref (la 5)), (9, .ref (la 6)), (10, .ref (la 7))]) C.1 C.2.1 dL_goes_316 hl (by decide) rfl (fun ls hl => ?_)
      have J336t : ∀ (hf : a11 < no) (ls : Array Slot), lv_has ls 18 [(11, .int (nI a11)), (0, .ref x), (1, .int 1), (2, .int y), (3, .ref (la 0)), (4, .ref (la 1)), (5, .ref (la 2)), (6, .ref (la 3)), (7, .ref (la 4)), (8, .ref (la 5)), (9, .ref (la 6)), (10, .ref (la 7))] → W p l e { frames := 11, cells := 6, slots := 230, locals := 282 } s m args below meth c s.heap [] 0 0 (MQ below (wrQ (S := Unit) g (fun u_ => (some (.int 1))) (fun u_ M_ => WS g M_ x la n)) args s 6 230 (gA g)) (F0 m 336 ls [.int 1]) := by
        intro  hf ls hl
        refine lv_istore (lv' := [(12, .int 1), (11, .int (nI a11)), (0, .ref x), (1, .int 1), (2, .int y), (3, .ref (la 0)), (4, .ref (la 1)), (5, .ref (la 2)), (6, .ref (la 3)), (7, .ref (la 4)), (8, .ref (la 5)), (9, .ref (la 6)), (10, .ref (la 7))]) C.1 C.2.1 dL_goes_336 hl (by decide) rfl (fun ls hl => ?_)
        refine lv_iload C.1 C.2.1 dL_goes_338 (lv_at hl 1 rfl) ?_
        refine lv_bipush (v := 10) C.1 C.2.1 dL_goes_340 rfl ?_
        refine lv_icmp_ge (tgt := 350) C.1 C.2.1 dL_goes_342 (by decide) (fun c342 => ?_) (fun c342 => ?_)
        · have n342 : 10 ≤ a11 := (nI_leI (a := 10) (b := a11) (by omega) (by omega)).mp c342
          refine lv_aload C.1 C.2.1 dL_goes_350 (lv_at hl 10 rfl) ?_
          refine lv_astore (lv' := [(13, .ref (la 5)), (12, .int 1), (11, .int (nI a11)), (0, .ref x), (1, .int 1), (2, .int y), (3, .ref (la 0)), (4, .ref (la 1)), (5, .ref (la 2)), (6, .ref (la 3)), (7, .ref (la 4)), (8, .ref (la 5)), (9, .ref (la 6)), (10, .ref (la 7))]) C.1 C.2.1 dL_goes_352 hl (by decide) rfl (fun ls hl => ?_)
          refine lv_iload C.1 C.2.1 dL_goes_354 (lv_at hl 1 rfl) ?_
          refine lv_if_eq (tgt := 369) C.1 C.2.1 dL_goes_356 (by decide) (fun c356 => ?_) (fun c356 => ?_)
          · exact absurd c356 (by decide)
          · refine lv_iconst (v := 5) C.1 C.2.1 dL_goes_359 rfl ?_
            refine lv_iload C.1 C.2.1 dL_goes_360 (lv_at hl 2 rfl) ?_
            refine lv_bipush (v := 10) C.1 C.2.1 dL_goes_362 rfl ?_
            refine lv_irem C.1 C.2.1 dL_goes_364 (by decide) ?_
            rw [show ((nI a11) - (nI a11) / 10 * 10 : Int32) = nI (a11 % 10) from nI_R (a := a11) (b := 10) (by omega) (by omega) (by omega)]
            refine lv_imul C.1 C.2.1 dL_goes_365 ?_
            rw [show ((5 : Int32) * (nI (a11 % 10))) = nI (5 * (a11 % 10)) from nI_M 5 (a11 % 10)]
            refine lv_goto (tgt := 370) C.1 C.2.1 dL_goes_366 (by decide) ?_
            refine lv_istore (lv' := [(14, .int (nI (5 * (a11 % 10)))), (13, .ref (la 5)), (12, .int 1), (11, .int (nI a11)), (0, .ref x), (1, .int 1), (2, .int y), (3, .ref (la 0)), (4, .ref (la 1)), (5, .ref (la 2)), (6, .ref (la 3)), (7, .ref (la 4)), (8, .ref (la 5)), (9, .ref (la 6)), (10, .ref (la 7))]) C.1 C.2.1 dL_goes_370 hl (by decide) rfl (fun ls hl => ?_)
            obtain ⟨⟨o0, o1, o2, o3⟩, o4⟩ := rO a11 hf
            obtain ⟨u, yy, hu4, hu, hw, hy4, hy, h13c, -, hP⟩ := iO.2.2.2 a11 hf
            obtain ⟨t13, ht13, h13⟩ : ∃ t, t ≤ 2 ∧ ar 13 a11 = nI t := by
              rcases h13c with q | q | q
              · exact ⟨0, by omega, q⟩
              · exact ⟨1, by omega, q⟩
              · exact ⟨2, by omega, q⟩
            have q0 : lf 5 (5 * (a11 % 10)) = nI u := (show lf 5 (5 * (a11 % 10)) = lo lf a11 0 from lo_5 (j := 0) (by omega) (by omega)).trans (o0.trans hu)
            have q1 : lf 5 (5 * (a11 % 10) + 1) = nI yy := (lo_5 (j := 1) (by omega) (by omega)).trans (o1.trans hy)
            have q2 : lf 5 (5 * (a11 % 10) + 2) = ar 11 a11 := (lo_5 (j := 2) (by omega) (by omega)).trans o2
            have q3 : lf 5 (5 * (a11 % 10) + 3) = nI t13 := (lo_5 (j := 3) (by omega) (by omega)).trans (o3.trans h13)
            refine lv_iload_n C.1 C.2.1 dL_goes_372 rfl (lv_at hl 5 rfl) ?_
            refine lv_iconst (v := 1) C.1 C.2.1 dL_goes_373 rfl ?_
            refine lv_icmp_ne (tgt := 582) C.1 C.2.1 dL_goes_374 (by decide) (fun c374 => ?_) (fun c374 => ?_)
            · exact absurd c374 (by decide)
            · refine lv_iconst (v := -1) C.1 C.2.1 dL_goes_377 rfl ?_
              refine lv_istore (lv' := [(15, .int (-1)), (14, .int (nI (5 * (a11 % 10)))), (13, .ref (la 5)), (12, .int 1), (11, .int (nI a11)), (0, .ref x), (1, .int 1), (2, .int y), (3, .ref (la 0)), (4, .ref (la 1)), (5, .ref (la 2)), (6, .ref (la 3)), (7, .ref (la 4)), (8, .ref (la 5)), (9, .ref (la 6)), (10, .ref (la 7))]) C.1 C.2.1 dL_goes_378 hl (by decide) rfl (fun ls hl => ?_)
              refine lv_aload_n C.1 C.2.1 dL_goes_380 rfl (lv_at hl 8 rfl) ?_
              refine lv_iconst (v := 1) C.1 C.2.1 dL_goes_381 rfl ?_
              refine lald (K := 0) (N := 3) (E := 1) (f := (lf 0)) (v := (nI nb)) C hE hH hX (by decide) rfl rfl rfl (by omega) (hc1) dL_goes_382 ?_
              refine lv_iconst (v := 1) C.1 C.2.1 dL_goes_383 rfl ?_
              refine lv_isub C.1 C.2.1 dL_goes_384 ?_
              refine lv_istore (lv' := [(16, .int ((nI nb) - 1)), (15, .int (-1)), (14, .int (nI (5 * (a11 % 10)))), (13, .ref (la 5)), (12, .int 1), (11, .int (nI a11)), (0, .ref x), (1, .int 1), (2, .int y), (3, .ref (la 0)), (4, .ref (la 1)), (5, .ref (la 2)), (6, .ref (la 3)), (7, .ref (la 4)), (8, .ref (la 5)), (9, .ref (la 6)), (10, .ref (la 7))]) C.1 C.2.1 dL_goes_385 hl (by decide) rfl (fun ls hl => ?_)
              have loop387 : ∀ (fu : Nat) (i : Nat) (b15 : Int32), (i ≤ nb) → (i < fu) → (LPB (zrt ar a11) (ar 8) nb i b15) →  ∀ (ls : Array Slot), lv_has ls 18 [(14, .int (nI (5 * (a11 % 10)))), (13, .ref (la 5)), (12, .int 1), (11, .int (nI a11)), (0, .ref x), (1, .int 1), (2, .int y), (3, .ref (la 0)), (4, .ref (la 1)), (5, .ref (la 2)), (6, .ref (la 3)), (7, .ref (la 4)), (8, .ref (la 5)), (9, .ref (la 6)), (10, .ref (la 7)), (15, .int b15), (16, .int (nI i - 1))] → W p l e { frames := 11, cells := 6, slots := 230, locals := 282 } s m args below meth c s.heap [] 0 0 (MQ below (wrQ (S := Unit) g (fun u_ => (some (.int 1))) (fun u_ M_ => WS g M_ x la n)) args s 6 230 (gA g)) (F0 m 387 ls []) := by
                intro fu
                induction fu with
                | zero => intro i b15 hi hfu hB; exact absurd hfu (by omega)
                | succ fu ih =>
                  intro i b15 hi hfu hB ls hl
                  rcases i with _ | j
                  · rw [show nI 0 - 1 = (-1 : Int32) from by decide] at hl
                    refine lv_iload C.1 C.2.1 dL_goes_387 (lv_at hl 16 rfl) ?_
                    refine lv_if_lt (tgt := 500) C.1 C.2.1 dL_goes_389 (by decide) (fun c389 => ?_) (fun c389 => ?_)
                    · have hz : zpl ar a11 nb = b15 := LPB_z hB (fun i hi => (RI_w hI hi).2)
                      rcases hB with ⟨hb, -⟩ | ⟨jb, -, jbn, hb, jr, -⟩
                      · subst hb
                        refine lv_iload C.1 C.2.1 dL_goes_500 (lv_at hl 2 rfl) ?_
                        refine lv_if_ne (tgt := 510) C.1 C.2.1 dL_goes_502 (by decide) (fun c502 => ?_) (fun c502 => ?_)
                        · refine lv_aload C.1 C.2.1 dL_goes_510 (lv_at hl 1 rfl) ?_
                          refine lv_iload C.1 C.2.1 dL_goes_512 (lv_at hl 0 rfl) ?_
                          refine lv_iconst (v := 3) C.1 C.2.1 dL_goes_514 rfl ?_
                          refine lv_iadd C.1 C.2.1 dL_goes_515 ?_
                          rw [show ((nI (5 * (a11 % 10))) + 3 : Int32) = nI (5 * (a11 % 10) + 3) from nI_add (5 * (a11 % 10)) 3]
                          refine lald (K := 5) (N := 50) (E := 5 * (a11 % 10) + 3) (f := (lf 5)) (v := (nI t13)) C hE hH hX (by decide) rfl rfl rfl (by omega) (q3) dL_goes_516 ?_
                          refine lv_if_le (tgt := 525) C.1 C.2.1 dL_goes_517 (by decide) (fun c517 => ?_) (fun c517 => ?_)
                          · have n517 : t13 ≤ 0 := (nI_leI (a := t13) (b := 0) (by omega) (by omega)).mp c517
                            refine lv_iload C.1 C.2.1 dL_goes_525 (lv_at hl 15 rfl) ?_
                            refine lv_if_ge (tgt := 535) C.1 C.2.1 dL_goes_527 (by decide) (fun c527 => ?_) (fun c527 => ?_)
                            · exact absurd c527 (by decide)
                            · refine lv_bipush (v := -103) C.1 C.2.1 dL_goes_530 rfl ?_
                              refine lv_goto (tgt := 537) C.1 C.2.1 dL_goes_532 (by decide) ?_
                              refine lv_istore (lv' := [(16, .int (-103)), (14, .int (nI (5 * (a11 % 10)))), (13, .ref (la 5)), (12, .int 1), (11, .int (nI a11)), (0, .ref x), (1, .int 1), (2, .int y), (3, .ref (la 0)), (4, .ref (la 1)), (5, .ref (la 2)), (6, .ref (la 3)), (7, .ref (la 4)), (8, .ref (la 5)), (9, .ref (la 6)), (10, .ref (la 7)), (15, .int (-1))]) C.1 C.2.1 dL_goes_537 hl (by decide) rfl (fun ls hl => ?_)
                              refine lv_iload C.1 C.2.1 dL_goes_539 (lv_at hl 0 rfl) ?_
                              refine lv_if_lt (tgt := 563) C.1 C.2.1 dL_goes_541 (by decide) (fun c541 => ?_) (fun c541 => ?_)
                              · refine lv_aload_n C.1 C.2.1 dL_goes_563 rfl (lv_at hl 5 rfl) ?_
                                refine lv_iconst (v := 0) C.1 C.2.1 dL_goes_564 rfl ?_
                                refine lv_iload C.1 C.2.1 dL_goes_565 (lv_at hl 4 rfl) ?_
                                refine lv_iconst (v := 0) C.1 C.2.1 dL_goes_567 rfl ?_
                                refine wr_go1 (runT C hE hH hS (l_place hlx hI (nI a11) 0) mv_L_pieces wm_605 hl.1 dL_goes_568 rfl rfl ⟨rfl, rfl⟩ ⟨Nat.le_of_ble_eq_true rfl, Nat.le_of_ble_eq_true rfl⟩ (Nat.le_of_ble_eq_true rfl) ⟨Nat.le_of_ble_eq_true rfl, Nat.le_of_ble_eq_true rfl⟩) hS (fun u5 M6 H locs hM6 hH hS => ?_)
                                rw [nI_clamp (show a11 < 2 ^ 31 by omega)] at hM6
                                obtain ⟨hu, hM⟩ := lqC_h hM6 ((inx_n (a := a11) (n := no) (by omega) (by omega)).mpr hf) (h13.trans (congrArg nI (show t13 = 0 by omega))) (fun z => z hz)
                                rw [hu]
                                refine lv_iload C.1 C.2.1 dL_goes_571 (lv_at hl 0 rfl) ?_
                                refine lv_icmp_ne (tgt := 580) C.1 C.2.1 dL_goes_573 (by decide) (fun c573 => ?_) (fun c573 => ?_)
                                · exact absurd c573 (by decide)
                                · refine lv_iconst (v := 1) C.1 C.2.1 dL_goes_576 rfl ?_
                                  refine lv_goto (tgt := 581) C.1 C.2.1 dL_goes_577 (by decide) ?_
                                  exact wr_zret () C hr hlocks (rfl) hH hS rfl ((by rw [hM]; exact hLS)) (by decide) (by decide) dL_goes_581
                              · exact absurd c541 (by decide)
                          · have n517 : ¬ t13 ≤ 0 := fun z => c517 ((nI_leI (a := t13) (b := 0) (by omega) (by omega)).mpr z)
                            refine lv_bipush (v := -102) C.1 C.2.1 dL_goes_520 rfl ?_
                            refine lv_goto (tgt := 537) C.1 C.2.1 dL_goes_522 (by decide) ?_
                            refine lv_istore (lv' := [(16, .int (-102)), (14, .int (nI (5 * (a11 % 10)))), (13, .ref (la 5)), (12, .int 1), (11, .int (nI a11)), (0, .ref x), (1, .int 1), (2, .int y), (3, .ref (la 0)), (4, .ref (la 1)), (5, .ref (la 2)), (6, .ref (la 3)), (7, .ref (la 4)), (8, .ref (la 5)), (9, .ref (la 6)), (10, .ref (la 7)), (15, .int (-1))]) C.1 C.2.1 dL_goes_537 hl (by decide) rfl (fun ls hl => ?_)
                            refine lv_iload C.1 C.2.1 dL_goes_539 (lv_at hl 0 rfl) ?_
                            refine lv_if_lt (tgt := 563) C.1 C.2.1 dL_goes_541 (by decide) (fun c541 => ?_) (fun c541 => ?_)
                            · refine lv_aload_n C.1 C.2.1 dL_goes_563 rfl (lv_at hl 5 rfl) ?_
                              refine lv_iconst (v := 0) C.1 C.2.1 dL_goes_564 rfl ?_
                              refine lv_iload C.1 C.2.1 dL_goes_565 (lv_at hl 4 rfl) ?_
                              refine lv_iconst (v := 0) C.1 C.2.1 dL_goes_567 rfl ?_
                              refine wr_go1 (runT C hE hH hS (l_place hlx hI (nI a11) 0) mv_L_pieces wm_605 hl.1 dL_goes_568 rfl rfl ⟨rfl, rfl⟩ ⟨Nat.le_of_ble_eq_true rfl, Nat.le_of_ble_eq_true rfl⟩ (Nat.le_of_ble_eq_true rfl) ⟨Nat.le_of_ble_eq_true rfl, Nat.le_of_ble_eq_true rfl⟩) hS (fun u7 M8 H locs hM8 hH hS => ?_)
                              rw [nI_clamp (show a11 < 2 ^ 31 by omega)] at hM8
                              obtain ⟨hu, hM⟩ := lqC_g hM8 ((inx_n (a := a11) (n := no) (by omega) (by omega)).mpr hf) (fun z => n517 (by have z1 := nI_inj (a := t13) (b := 0) (by omega) (by omega) (h13.symm.trans z); omega))
                              rw [hu]
                              refine lv_iload C.1 C.2.1 dL_goes_571 (lv_at hl 0 rfl) ?_
                              refine lv_icmp_ne (tgt := 580) C.1 C.2.1 dL_goes_573 (by decide) (fun c573 => ?_) (fun c573 => ?_)
                              · exact absurd c573 (by decide)
                              · refine lv_iconst (v := 1) C.1 C.2.1 dL_goes_576 rfl ?_
                                refine lv_goto (tgt := 581) C.1 C.2.1 dL_goes_577 (by decide) ?_
                                exact wr_zret () C hr hlocks (rfl) hH hS rfl ((by rw [hM]; exact hLS)) (by decide) (by decide) dL_goes_581
                            · exact absurd c541 (by decide)
                        · exact absurd c502 (by decide)
                      · subst hb
                        refine lv_iload C.1 C.2.1 dL_goes_500 (lv_at hl 2 rfl) ?_
                        refine lv_if_ne (tgt := 510) C.1 C.2.1 dL_goes_502 (by decide) (fun c502 => ?_) (fun c502 => ?_)
                        · refine lv_aload C.1 C.2.1 dL_goes_510 (lv_at hl 1 rfl) ?_
                          refine lv_iload C.1 C.2.1 dL_goes_512 (lv_at hl 0 rfl) ?_
                          refine lv_iconst (v := 3) C.1 C.2.1 dL_goes_514 rfl ?_
                          refine lv_iadd C.1 C.2.1 dL_goes_515 ?_
                          rw [show ((nI (5 * (a11 % 10))) + 3 : Int32) = nI (5 * (a11 % 10) + 3) from nI_add (5 * (a11 % 10)) 3]
                          refine lald (K := 5) (N := 50) (E := 5 * (a11 % 10) + 3) (f := (lf 5)) (v := (nI t13)) C hE hH hX (by decide) rfl rfl rfl (by omega) (q3) dL_goes_516 ?_
                          refine lv_if_le (tgt := 525) C.1 C.2.1 dL_goes_517 (by decide) (fun c517 => ?_) (fun c517 => ?_)
                          · have n517 : t13 ≤ 0 := (nI_leI (a := t13) (b := 0) (by omega) (by omega)).mp c517
                            refine lv_iload C.1 C.2.1 dL_goes_525 (lv_at hl 15 rfl) ?_
                            refine lv_if_ge (tgt := 535) C.1 C.2.1 dL_goes_527 (by decide) (fun c527 => ?_) (fun c527 => ?_)
                            · refine lv_iload C.1 C.2.1 dL_goes_535 (lv_at hl 15 rfl) ?_
                              refine lv_istore (lv' := [(16, .int (nI jb)), (14, .int (nI (5 * (a11 % 10)))), (13, .ref (la 5)), (12, .int 1), (11, .int (nI a11)), (0, .ref x), (1, .int 1), (2, .int y), (3, .ref (la 0)), (4, .ref (la 1)), (5, .ref (la 2)), (6, .ref (la 3)), (7, .ref (la 4)), (8, .ref (la 5)), (9, .ref (la 6)), (10, .ref (la 7)), (15, .int (nI jb))]) C.1 C.2.1 dL_goes_537 hl (by decide) rfl (fun ls hl => ?_)
                              refine lv_iload C.1 C.2.1 dL_goes_539 (lv_at hl 0 rfl) ?_
                              refine lv_if_lt (tgt := 563) C.1 C.2.1 dL_goes_541 (by decide) (fun c541 => ?_) (fun c541 => ?_)
                              · exact absurd (n_ge (by omega) (by decide)) (n_nlt c541)
                              · obtain ⟨⟨eb, heeb, h7, -⟩, ⟨dd, hd3, h6⟩, -⟩ := iB.2.2 jb (by omega)
                                obtain ⟨b6, b7, b8⟩ := rB jb (by omega)
                                have heu : eb = u := nI_inj (by omega) (by omega) (h7.symm.trans ((zrt_7 jr).trans hu))
                                obtain ⟨hd1, hd2, hd3y, hd4⟩ := DY_at hI hR hf (show jb < nb by omega) hu hu4 hy hy4 h6 hd3 q2
                                refine lv_aload C.1 C.2.1 dL_goes_544 (lv_at hl 9 rfl) ?_
                                refine lv_aload C.1 C.2.1 dL_goes_546 (lv_at hl 10 rfl) ?_
                                refine lv_aload C.1 C.2.1 dL_goes_548 (lv_at hl 11 rfl) ?_
                                refine lv_aload C.1 C.2.1 dL_goes_550 (lv_at hl 2 rfl) ?_
                                refine lv_aload C.1 C.2.1 dL_goes_552 (lv_at hl 14 rfl) ?_
                                refine lv_iload C.1 C.2.1 dL_goes_554 (lv_at hl 1 rfl) ?_
                                refine lv_iload C.1 C.2.1 dL_goes_556 (lv_at hl 4 rfl) ?_
                                refine lv_iload C.1 C.2.1 dL_goes_558 (lv_at hl 16 rfl) ?_
                                refine wr_go0 (runS C hE hH hS (c_dyes5 hX.1 ((by omega)) ((by omega)) ((by omega)) (hy4) (hd3) (q0) (q1) ((b7.trans (h7.trans (congrArg nI heu)))) ((b6.trans h6))) mv_L_dyes wm_602 hl.1 dL_goes_560 rfl rfl ⟨rfl, rfl⟩ ⟨Nat.le_of_ble_eq_true rfl, Nat.le_of_ble_eq_true rfl⟩ (Nat.le_of_ble_eq_true rfl) ⟨Nat.le_of_ble_eq_true rfl, Nat.le_of_ble_eq_true rfl⟩) hS (fun u9 M10 H locs hM10 hH hS => ?_)
                                have hID := WS_up hI hM10 hT (ed_no hE hH)
                                refine lv_aload_n C.1 C.2.1 dL_goes_563 rfl (lv_at hl 5 rfl) ?_
                                refine lv_iconst (v := 0) C.1 C.2.1 dL_goes_564 rfl ?_
                                refine lv_iload C.1 C.2.1 dL_goes_565 (lv_at hl 4 rfl) ?_
                                refine lv_iconst (v := 0) C.1 C.2.1 dL_goes_567 rfl ?_
                                refine wr_go1 (runT C hE hH hS (l_place hlx hID (nI a11) 0) mv_L_pieces wm_605 hl.1 dL_goes_568 rfl rfl ⟨rfl, rfl⟩ ⟨Nat.le_of_ble_eq_true rfl, Nat.le_of_ble_eq_true rfl⟩ (Nat.le_of_ble_eq_true rfl) ⟨Nat.le_of_ble_eq_true rfl, Nat.le_of_ble_eq_true rfl⟩) hS (fun u11 M12 H locs hM12 hH hS => ?_)
                                rw [nI_clamp (show a11 < 2 ^ 31 by omega)] at hM12
                                obtain ⟨hu, hx⟩ := lqC_t hM12 ((inx_n (a := a11) (n := no) (by omega) (by omega)).mpr hf) (h13.trans (congrArg nI (show t13 = 0 by omega))) (fun z => absurd (hz.symm.trans z) (n_ne (by omega) (by decide)))
                                have hu : u11 = nI jb := hu.trans (hz)
                                rw [hu]
                                rw [hz, nI_clamp (show jb < 2 ^ 31 by omega)] at hx
                                have hXr := LX_rf (LI_rx hx hM10.1 hT)
                                refine lv_iload C.1 C.2.1 dL_goes_571 (lv_at hl 0 rfl) ?_
                                refine lv_icmp_ne (tgt := 580) C.1 C.2.1 dL_goes_573 (by decide) (fun c573 => ?_) (fun c573 => ?_)
                                · exact absurd rfl c573
                                · refine lv_iconst (v := 1) C.1 C.2.1 dL_goes_576 rfl ?_
                                  refine lv_goto (tgt := 581) C.1 C.2.1 dL_goes_577 (by decide) ?_
                                  exact wr_zret () C hr hlocks (rfl) hH hS rfl (WS_mk hx hM10.1 hT ⟨hs0, hs5, hs9⟩ (LR_dye (R := 5) hR hf (show jb < nb by omega) (by omega) hd1 hd2 hd3y hd4) (krN_cg hN (fun i _ => rfl))) (by decide) (by decide) dL_goes_581
                            · exact absurd (n_ge (by omega) (by decide)) c527
                          · have n517 : ¬ t13 ≤ 0 := fun z => c517 ((nI_leI (a := t13) (b := 0) (by omega) (by omega)).mpr z)
                            refine lv_bipush (v := -102) C.1 C.2.1 dL_goes_520 rfl ?_
                            refine lv_goto (tgt := 537) C.1 C.2.1 dL_goes_522 (by decide) ?_
                            refine lv_istore (lv' := [(16, .int (-102)), (14, .int (nI (5 * (a11 % 10)))), (13, .ref (la 5)), (12, .int 1), (11, .int (nI a11)), (0, .ref x), (1, .int 1), (2, .int y), (3, .ref (la 0)), (4, .ref (la 1)), (5, .ref (la 2)), (6, .ref (la 3)), (7, .ref (la 4)), (8, .ref (la 5)), (9, .ref (la 6)), (10, .ref (la 7)), (15, .int (nI jb))]) C.1 C.2.1 dL_goes_537 hl (by decide) rfl (fun ls hl => ?_)
                            refine lv_iload C.1 C.2.1 dL_goes_539 (lv_at hl 0 rfl) ?_
                            refine lv_if_lt (tgt := 563) C.1 C.2.1 dL_goes_541 (by decide) (fun c541 => ?_) (fun c541 => ?_)
                            · refine lv_aload_n C.1 C.2.1 dL_goes_563 rfl (lv_at hl 5 rfl) ?_
                              refine lv_iconst (v := 0) C.1 C.2.1 dL_goes_564 rfl ?_
                              refine lv_iload C.1 C.2.1 dL_goes_565 (lv_at hl 4 rfl) ?_
                              refine lv_iconst (v := 0) C.1 C.2.1 dL_goes_567 rfl ?_
                              refine wr_go1 (runT C hE hH hS (l_place hlx hI (nI a11) 0) mv_L_pieces wm_605 hl.1 dL_goes_568 rfl rfl ⟨rfl, rfl⟩ ⟨Nat.le_of_ble_eq_true rfl, Nat.le_of_ble_eq_true rfl⟩ (Nat.le_of_ble_eq_true rfl) ⟨Nat.le_of_ble_eq_true rfl, Nat.le_of_ble_eq_true rfl⟩) hS (fun u13 M14 H locs hM14 hH hS => ?_)
                              rw [nI_clamp (show a11 < 2 ^ 31 by omega)] at hM14
                              obtain ⟨hu, hM⟩ := lqC_g hM14 ((inx_n (a := a11) (n := no) (by omega) (by omega)).mpr hf) (fun z => n517 (by have z1 := nI_inj (a := t13) (b := 0) (by omega) (by omega) (h13.symm.trans z); omega))
                              rw [hu]
                              refine lv_iload C.1 C.2.1 dL_goes_571 (lv_at hl 0 rfl) ?_
                              refine lv_icmp_ne (tgt := 580) C.1 C.2.1 dL_goes_573 (by decide) (fun c573 => ?_) (fun c573 => ?_)
                              · exact absurd c573 (by decide)
                              · refine lv_iconst (v := 1) C.1 C.2.1 dL_goes_576 rfl ?_
                                refine lv_goto (tgt := 581) C.1 C.2.1 dL_goes_577 (by decide) ?_
                                exact wr_zret () C hr hlocks (rfl) hH hS rfl ((by rw [hM]; exact hLS)) (by decide) (by decide) dL_goes_581
                            · exact absurd c541 (by decide)
                        · exact absurd c502 (by decide)
                    · exact absurd c389 (by decide)
                  · rw [show nI (j + 1) - 1 = nI j from nI_S (Nat.le_add_left 1 j)] at hl
                    refine lv_iload C.1 C.2.1 dL_goes_387 (lv_at hl 16 rfl) ?_
                    refine lv_if_lt (tgt := 500) C.1 C.2.1 dL_goes_389 (by decide) (fun c389 => ?_) (fun c389 => ?_)
                    · exact absurd (n_ge (by omega) (by decide)) (n_nlt c389)
                    · refine lv_iload C.1 C.2.1 dL_goes_392 (lv_at hl 2 rfl) ?_
                      refine lv_if_eq (tgt := 500) C.1 C.2.1 dL_goes_394 (by decide) (fun c394 => ?_) (fun c394 => ?_)
                      · exact absurd c394 (by decide)
                      · obtain ⟨⟨eb, heeb, h7, -⟩, ⟨dd, hd3, h6⟩, -⟩ := iB.2.2 j (by omega)
                        obtain ⟨b6, b7, b8⟩ := rB j (by omega)
                        have hob := OB_at hI hR hf (show j < nb by omega) hu hu4 hy hy4 h6 hd3
                        have htol := (rE u hu4).2.2.trans (congrArg (ar 2) (zE_at hu (by omega)).symm)
                        have J452t : ∀ (hr : zrt ar a11 j = true) (ls : Array Slot), lv_has ls 18 [(14, .int (nI (5 * (a11 % 10)))), (13, .ref (la 5)), (12, .int 1), (11, .int (nI a11)), (0, .ref x), (1, .int 1), (2, .int y), (3, .ref (la 0)), (4, .ref (la 1)), (5, .ref (la 2)), (6, .ref (la 3)), (7, .ref (la 4)), (8, .ref (la 5)), (9, .ref (la 6)), (10, .ref (la 7)), (15, .int b15), (16, .int (nI j))] → W p l e { frames := 11, cells := 6, slots := 230, locals := 282 } s m args below meth c s.heap [] 0 0 (MQ below (wrQ (S := Unit) g (fun u_ => (some (.int 1))) (fun u_ M_ => WS g M_ x la n)) args s 6 230 (gA g)) (F0 m 452 ls [.int 1]) := by
                          intro  hr ls hl
                          refine lv_istore (lv' := [(17, .int 1), (14, .int (nI (5 * (a11 % 10)))), (13, .ref (la 5)), (12, .int 1), (11, .int (nI a11)), (0, .ref x), (1, .int 1), (2, .int y), (3, .ref (la 0)), (4, .ref (la 1)), (5, .ref (la 2)), (6, .ref (la 3)), (7, .ref (la 4)), (8, .ref (la 5)), (9, .ref (la 6)), (10, .ref (la 7)), (15, .int b15), (16, .int (nI j))]) C.1 C.2.1 dL_goes_452 hl (by decide) rfl (fun ls hl => ?_)
                          rcases hB with ⟨hb, hB⟩ | ⟨jb, j1, j2, hb, j3, j4⟩
                          · subst hb
                            refine lv_iload C.1 C.2.1 dL_goes_454 (lv_at hl 0 rfl) ?_
                            refine lv_if_eq (tgt := 490) C.1 C.2.1 dL_goes_456 (by decide) (fun c456 => ?_) (fun c456 => ?_)
                            · exact absurd c456 (by decide)
                            · refine lv_iload C.1 C.2.1 dL_goes_459 (lv_at hl 16 rfl) ?_
                              refine lv_if_lt (tgt := 485) C.1 C.2.1 dL_goes_461 (by decide) (fun c461 => ?_) (fun c461 => ?_)
                              · refine lv_iload C.1 C.2.1 dL_goes_485 (lv_at hl 17 rfl) ?_
                                refine lv_goto (tgt := 492) C.1 C.2.1 dL_goes_487 (by decide) ?_
                                refine lv_istore (lv' := [(15, .int (nI j)), (17, .int 1), (14, .int (nI (5 * (a11 % 10)))), (13, .ref (la 5)), (12, .int 1), (11, .int (nI a11)), (0, .ref x), (1, .int 1), (2, .int y), (3, .ref (la 0)), (4, .ref (la 1)), (5, .ref (la 2)), (6, .ref (la 3)), (7, .ref (la 4)), (8, .ref (la 5)), (9, .ref (la 6)), (10, .ref (la 7)), (16, .int (nI j))]) C.1 C.2.1 dL_goes_492 hl (by decide) rfl (fun ls hl => ?_)
                                refine lv_iinc (v := nI j - 1) (lv' := [(16, .int (nI j - 1)), (15, .int (nI j)), (17, .int 1), (14, .int (nI (5 * (a11 % 10)))), (13, .ref (la 5)), (12, .int 1), (11, .int (nI a11)), (0, .ref x), (1, .int 1), (2, .int y), (3, .ref (la 0)), (4, .ref (la 1)), (5, .ref (la 2)), (6, .ref (la 3)), (7, .ref (la 4)), (8, .ref (la 5)), (9, .ref (la 6)), (10, .ref (la 7))]) C.1 C.2.1 dL_goes_494 hl (k := 17) rfl (by rw [Int32.sub_eq_add_neg]; rfl) (by decide) rfl (fun ls hl => ?_)
                                refine lv_goto (tgt := 387) C.1 C.2.1 dL_goes_497 (by decide) ?_
                                exact ih j (nI j) (by omega) (by omega) (LPB_first hB (by omega) hr) ls (lv_sub hl [3, 4, 5, 6, 7, 8, 9, 10, 11, 12, 13, 14, 15, 16, 17, 1, 0] rfl)
                              · exact absurd c461 (by decide)
                          · subst hb
                            refine lv_iload C.1 C.2.1 dL_goes_454 (lv_at hl 0 rfl) ?_
                            refine lv_if_eq (tgt := 490) C.1 C.2.1 dL_goes_456 (by decide) (fun c456 => ?_) (fun c456 => ?_)
                            · exact absurd c456 (by decide)
                            · refine lv_iload C.1 C.2.1 dL_goes_459 (lv_at hl 16 rfl) ?_
                              refine lv_if_lt (tgt := 485) C.1 C.2.1 dL_goes_461 (by decide) (fun c461 => ?_) (fun c461 => ?_)
                              · exact absurd (n_ge (by omega) (by decide)) (n_nlt c461)
                              · refine lv_aload C.1 C.2.1 dL_goes_464 (lv_at hl 11 rfl) ?_
                                refine lv_iconst (v := 3) C.1 C.2.1 dL_goes_466 rfl ?_
                                refine lv_iload C.1 C.2.1 dL_goes_467 (lv_at hl 17 rfl) ?_
                                refine lv_imul C.1 C.2.1 dL_goes_469 ?_
                                rw [show ((3 : Int32) * (nI j)) = nI (3 * j) from nI_M 3 j]
                                refine lv_iconst (v := 2) C.1 C.2.1 dL_goes_470 rfl ?_
                                refine lv_iadd C.1 C.2.1 dL_goes_471 ?_
                                rw [show ((nI (3 * j)) + 2 : Int32) = nI (3 * j + 2) from nI_add (3 * j) 2]
                                refine lald (K := 3) (N := 15) (E := 3 * j + 2) (f := (lf 3)) (v := ((lf 3) (3 * j + 2))) C hE hH hX (by decide) rfl rfl rfl (by omega) (rfl) dL_goes_472 ?_
                                refine lv_aload C.1 C.2.1 dL_goes_473 (lv_at hl 11 rfl) ?_
                                refine lv_iconst (v := 3) C.1 C.2.1 dL_goes_475 rfl ?_
                                refine lv_iload C.1 C.2.1 dL_goes_476 (lv_at hl 16 rfl) ?_
                                refine lv_imul C.1 C.2.1 dL_goes_478 ?_
                                rw [show ((3 : Int32) * (nI jb)) = nI (3 * jb) from nI_M 3 jb]
                                refine lv_iconst (v := 2) C.1 C.2.1 dL_goes_479 rfl ?_
                                refine lv_iadd C.1 C.2.1 dL_goes_480 ?_
                                rw [show ((nI (3 * jb)) + 2 : Int32) = nI (3 * jb + 2) from nI_add (3 * jb) 2]
                                refine lald (K := 3) (N := 15) (E := 3 * jb + 2) (f := (lf 3)) (v := ((lf 3) (3 * jb + 2))) C hE hH hX (by decide) rfl rfl rfl (by omega) (rfl) dL_goes_481 ?_
                                refine lv_icmp_gt (tgt := 490) C.1 C.2.1 dL_goes_482 (by decide) (fun c482 => ?_) (fun c482 => ?_)
                                · refine lv_iload C.1 C.2.1 dL_goes_490 (lv_at hl 16 rfl) ?_
                                  refine lv_istore (lv' := [(15, .int (nI jb)), (17, .int 1), (14, .int (nI (5 * (a11 % 10)))), (13, .ref (la 5)), (12, .int 1), (11, .int (nI a11)), (0, .ref x), (1, .int 1), (2, .int y), (3, .ref (la 0)), (4, .ref (la 1)), (5, .ref (la 2)), (6, .ref (la 3)), (7, .ref (la 4)), (8, .ref (la 5)), (9, .ref (la 6)), (10, .ref (la 7)), (16, .int (nI j))]) C.1 C.2.1 dL_goes_492 hl (by decide) rfl (fun ls hl => ?_)
                                  refine lv_iinc (v := nI j - 1) (lv' := [(16, .int (nI j - 1)), (15, .int (nI jb)), (17, .int 1), (14, .int (nI (5 * (a11 % 10)))), (13, .ref (la 5)), (12, .int 1), (11, .int (nI a11)), (0, .ref x), (1, .int 1), (2, .int y), (3, .ref (la 0)), (4, .ref (la 1)), (5, .ref (la 2)), (6, .ref (la 3)), (7, .ref (la 4)), (8, .ref (la 5)), (9, .ref (la 6)), (10, .ref (la 7))]) C.1 C.2.1 dL_goes_494 hl (k := 17) rfl (by rw [Int32.sub_eq_add_neg]; rfl) (by decide) rfl (fun ls hl => ?_)
                                  refine lv_goto (tgt := 387) C.1 C.2.1 dL_goes_497 (by decide) ?_
                                  exact ih j (nI jb) (by omega) (by omega) (LPB_gt j1 j2 j3 j4 (by rw [← b8, ← (rB jb j2).2.2]; exact c482)) ls (lv_sub hl [3, 4, 5, 6, 7, 8, 9, 10, 11, 12, 13, 14, 15, 16, 17, 1, 0] rfl)
                                · refine lv_iload C.1 C.2.1 dL_goes_485 (lv_at hl 17 rfl) ?_
                                  refine lv_goto (tgt := 492) C.1 C.2.1 dL_goes_487 (by decide) ?_
                                  refine lv_istore (lv' := [(15, .int (nI j)), (17, .int 1), (14, .int (nI (5 * (a11 % 10)))), (13, .ref (la 5)), (12, .int 1), (11, .int (nI a11)), (0, .ref x), (1, .int 1), (2, .int y), (3, .ref (la 0)), (4, .ref (la 1)), (5, .ref (la 2)), (6, .ref (la 3)), (7, .ref (la 4)), (8, .ref (la 5)), (9, .ref (la 6)), (10, .ref (la 7)), (16, .int (nI j))]) C.1 C.2.1 dL_goes_492 hl (by decide) rfl (fun ls hl => ?_)
                                  refine lv_iinc (v := nI j - 1) (lv' := [(16, .int (nI j - 1)), (15, .int (nI j)), (17, .int 1), (14, .int (nI (5 * (a11 % 10)))), (13, .ref (la 5)), (12, .int 1), (11, .int (nI a11)), (0, .ref x), (1, .int 1), (2, .int y), (3, .ref (la 0)), (4, .ref (la 1)), (5, .ref (la 2)), (6, .ref (la 3)), (7, .ref (la 4)), (8, .ref (la 5)), (9, .ref (la 6)), (10, .ref (la 7))]) C.1 C.2.1 dL_goes_494 hl (k := 17) rfl (by rw [Int32.sub_eq_add_neg]; rfl) (by decide) rfl (fun ls hl => ?_)
                                  refine lv_goto (tgt := 387) C.1 C.2.1 dL_goes_497 (by decide) ?_
                                  exact ih j (nI j) (by omega) (by omega) (LPB_le j4 (by omega) hr (by rw [← b8, ← (rB jb j2).2.2]; exact Int32.not_lt.mp c482)) ls (lv_sub hl [3, 4, 5, 6, 7, 8, 9, 10, 11, 12, 13, 14, 15, 16, 17, 1, 0] rfl)
                        have J452f : ∀ (hr : zrt ar a11 j = false) (ls : Array Slot), lv_has ls 18 [(14, .int (nI (5 * (a11 % 10)))), (13, .ref (la 5)), (12, .int 1), (11, .int (nI a11)), (0, .ref x), (1, .int 1), (2, .int y), (3, .ref (la 0)), (4, .ref (la 1)), (5, .ref (la 2)), (6, .ref (la 3)), (7, .ref (la 4)), (8, .ref (la 5)), (9, .ref (la 6)), (10, .ref (la 7)), (15, .int b15), (16, .int (nI j))] → W p l e { frames := 11, cells := 6, slots := 230, locals := 282 } s m args below meth c s.heap [] 0 0 (MQ below (wrQ (S := Unit) g (fun u_ => (some (.int 1))) (fun u_ M_ => WS g M_ x la n)) args s 6 230 (gA g)) (F0 m 452 ls [.int 0]) := by
                          intro  hr ls hl
                          refine lv_istore (lv' := [(17, .int 0), (14, .int (nI (5 * (a11 % 10)))), (13, .ref (la 5)), (12, .int 1), (11, .int (nI a11)), (0, .ref x), (1, .int 1), (2, .int y), (3, .ref (la 0)), (4, .ref (la 1)), (5, .ref (la 2)), (6, .ref (la 3)), (7, .ref (la 4)), (8, .ref (la 5)), (9, .ref (la 6)), (10, .ref (la 7)), (15, .int b15), (16, .int (nI j))]) C.1 C.2.1 dL_goes_452 hl (by decide) rfl (fun ls hl => ?_)
                          refine lv_iload C.1 C.2.1 dL_goes_454 (lv_at hl 0 rfl) ?_
                          refine lv_if_eq (tgt := 490) C.1 C.2.1 dL_goes_456 (by decide) (fun c456 => ?_) (fun c456 => ?_)
                          · refine lv_iload C.1 C.2.1 dL_goes_490 (lv_at hl 16 rfl) ?_
                            refine lv_istore (lv' := [(15, .int b15), (17, .int 0), (14, .int (nI (5 * (a11 % 10)))), (13, .ref (la 5)), (12, .int 1), (11, .int (nI a11)), (0, .ref x), (1, .int 1), (2, .int y), (3, .ref (la 0)), (4, .ref (la 1)), (5, .ref (la 2)), (6, .ref (la 3)), (7, .ref (la 4)), (8, .ref (la 5)), (9, .ref (la 6)), (10, .ref (la 7)), (16, .int (nI j))]) C.1 C.2.1 dL_goes_492 hl (by decide) rfl (fun ls hl => ?_)
                            refine lv_iinc (v := nI j - 1) (lv' := [(16, .int (nI j - 1)), (15, .int b15), (17, .int 0), (14, .int (nI (5 * (a11 % 10)))), (13, .ref (la 5)), (12, .int 1), (11, .int (nI a11)), (0, .ref x), (1, .int 1), (2, .int y), (3, .ref (la 0)), (4, .ref (la 1)), (5, .ref (la 2)), (6, .ref (la 3)), (7, .ref (la 4)), (8, .ref (la 5)), (9, .ref (la 6)), (10, .ref (la 7))]) C.1 C.2.1 dL_goes_494 hl (k := 17) rfl (by rw [Int32.sub_eq_add_neg]; rfl) (by decide) rfl (fun ls hl => ?_)
                            refine lv_goto (tgt := 387) C.1 C.2.1 dL_goes_497 (by decide) ?_
                            exact ih j b15 (by omega) (by omega) (LPB_no hB hr) ls (lv_sub hl [3, 4, 5, 6, 7, 8, 9, 10, 11, 12, 13, 14, 15, 16, 17, 1, 0] rfl)
                          · exact absurd c456 (by decide)
                        refine lv_aload C.1 C.2.1 dL_goes_397 (lv_at hl 10 rfl) ?_
                        refine lv_iconst (v := 3) C.1 C.2.1 dL_goes_399 rfl ?_
                        refine lv_iload C.1 C.2.1 dL_goes_400 (lv_at hl 16 rfl) ?_
                        refine lv_imul C.1 C.2.1 dL_goes_402 ?_
                        rw [show ((3 : Int32) * (nI j)) = nI (3 * j) from nI_M 3 j]
                        refine lv_iconst (v := 1) C.1 C.2.1 dL_goes_403 rfl ?_
                        refine lv_iadd C.1 C.2.1 dL_goes_404 ?_
                        rw [show ((nI (3 * j)) + 1 : Int32) = nI (3 * j + 1) from nI_add (3 * j) 1]
                        refine lald (K := 3) (N := 15) (E := 3 * j + 1) (f := (lf 3)) (v := (nI eb)) C hE hH hX (by decide) rfl rfl rfl (by omega) ((b7.trans h7)) dL_goes_405 ?_
                        refine lv_aload C.1 C.2.1 dL_goes_406 (lv_at hl 1 rfl) ?_
                        refine lv_iload C.1 C.2.1 dL_goes_408 (lv_at hl 0 rfl) ?_
                        refine lald (K := 5) (N := 50) (E := 5 * (a11 % 10)) (f := (lf 5)) (v := (nI u)) C hE hH hX (by decide) rfl rfl rfl (by omega) (q0) dL_goes_410 ?_
                        refine lv_icmp_ne (tgt := 451) C.1 C.2.1 dL_goes_411 (by decide) (fun c411 => ?_) (fun c411 => ?_)
                        · have n411 : ¬ eb = u := fun z => c411 (congrArg nI z)
                          refine lv_iconst (v := 0) C.1 C.2.1 dL_goes_451 rfl ?_
                          exact J452f (zrt_f1 h7 hu (by omega) (by omega) n411) ls (hl)
                        · have n411 : eb = u := nI_inj (by omega) (by omega) c411
                          refine lv_aload C.1 C.2.1 dL_goes_414 (lv_at hl 8 rfl) ?_
                          refine lv_aload C.1 C.2.1 dL_goes_416 (lv_at hl 9 rfl) ?_
                          refine lv_aload C.1 C.2.1 dL_goes_418 (lv_at hl 10 rfl) ?_
                          refine lv_iload C.1 C.2.1 dL_goes_420 (lv_at hl 16 rfl) ?_
                          refine lv_aload C.1 C.2.1 dL_goes_422 (lv_at hl 1 rfl) ?_
                          refine lv_iload C.1 C.2.1 dL_goes_424 (lv_at hl 0 rfl) ?_
                          refine lv_iconst (v := 1) C.1 C.2.1 dL_goes_426 rfl ?_
                          refine lv_iadd C.1 C.2.1 dL_goes_427 ?_
                          rw [show ((nI (5 * (a11 % 10))) + 1 : Int32) = nI (5 * (a11 % 10) + 1) from nI_add (5 * (a11 % 10)) 1]
                          refine lald (K := 5) (N := 50) (E := 5 * (a11 % 10) + 1) (f := (lf 5)) (v := (nI yy)) C hE hH hX (by decide) rfl rfl rfl (by omega) (q1) dL_goes_428 ?_
                          refine rd_go1 (runS C hE hH hS (c_offBy hX.1 ((by omega)) (hy4) ((by omega)) ((b7.trans (h7.trans (congrArg nI n411)))) (hd3) ((b6.trans h6))) mv_L_offBy wm_590 hl.1 dL_goes_429 rfl rfl ⟨rfl, rfl⟩ ⟨Nat.le_of_ble_eq_true rfl, Nat.le_of_ble_eq_true rfl⟩ (Nat.le_of_ble_eq_true rfl) ⟨Nat.le_of_ble_eq_true rfl, Nat.le_of_ble_eq_true rfl⟩) ?_
                          refine lv_aload C.1 C.2.1 dL_goes_432 (lv_at hl 8 rfl) ?_
                          refine lv_iconst (v := 3) C.1 C.2.1 dL_goes_434 rfl ?_
                          refine lv_aload C.1 C.2.1 dL_goes_435 (lv_at hl 1 rfl) ?_
                          refine lv_iload C.1 C.2.1 dL_goes_437 (lv_at hl 0 rfl) ?_
                          refine lald (K := 5) (N := 50) (E := 5 * (a11 % 10)) (f := (lf 5)) (v := (nI u)) C hE hH hX (by decide) rfl rfl rfl (by omega) (q0) dL_goes_439 ?_
                          refine lv_imul C.1 C.2.1 dL_goes_440 ?_
                          rw [show ((3 : Int32) * (nI u)) = nI (3 * u) from nI_M 3 u]
                          refine lv_iconst (v := 2) C.1 C.2.1 dL_goes_441 rfl ?_
                          refine lv_iadd C.1 C.2.1 dL_goes_442 ?_
                          rw [show ((nI (3 * u)) + 2 : Int32) = nI (3 * u + 2) from nI_add (3 * u) 2]
                          refine lald (K := 1) (N := 12) (E := 3 * u + 2) (f := (lf 1)) (v := ((lf 1) (3 * u + 2))) C hE hH hX (by decide) rfl rfl rfl (by omega) (rfl) dL_goes_443 ?_
                          refine lv_icmp_gt (tgt := 451) C.1 C.2.1 dL_goes_444 (by decide) (fun c444 => ?_) (fun c444 => ?_)
                          · refine lv_iconst (v := 0) C.1 C.2.1 dL_goes_451 rfl ?_
                            exact J452f (zrt_f2 (by rw [← hob, ← htol]; exact Int32.not_le.mpr c444)) ls (hl)
                          · refine lv_iconst (v := 1) C.1 C.2.1 dL_goes_447 rfl ?_
                            refine lv_goto (tgt := 452) C.1 C.2.1 dL_goes_448 (by decide) ?_
                            exact J452t (zrt_t h7 hu n411 (by rw [← hob, ← htol]; exact Int32.not_lt.mp c444)) ls (hl)
              exact loop387 (nb + 1) nb (-1) (Nat.le_refl nb) (by omega) (LPB_0) _ (lv_sub hl [2, 3, 4, 5, 6, 7, 8, 9, 10, 11, 12, 13, 14, 15, 16, 1, 0] rfl)
        · have n342 : ¬ 10 ≤ a11 := fun z => c342 ((nI_leI (a := 10) (b := a11) (by omega) (by omega)).mpr z)
          refine lv_aload C.1 C.2.1 dL_goes_345 (lv_at hl 9 rfl) ?_
          refine lv_goto (tgt := 352) C.1 C.2.1 dL_goes_347 (by decide) ?_
          refine lv_astore (lv' := [(13, .ref (la 4)), (12, .int 1), (11, .int (nI a11)), (0, .ref x), (1, .int 1), (2, .int y), (3, .ref (la 0)), (4, .ref (la 1)), (5, .ref (la 2)), (6, .ref (la 3)), (7, .ref (la 4)), (8, .ref (la 5)), (9, .ref (la 6)), (10, .ref (la 7))]) C.1 C.2.1 dL_goes_352 hl (by decide) rfl (fun ls hl => ?_)
          refine lv_iload C.1 C.2.1 dL_goes_354 (lv_at hl 1 rfl) ?_
          refine lv_if_eq (tgt := 369) C.1 C.2.1 dL_goes_356 (by decide) (fun c356 => ?_) (fun c356 => ?_)
          · exact absurd c356 (by decide)
          · refine lv_iconst (v := 5) C.1 C.2.1 dL_goes_359 rfl ?_
            refine lv_iload C.1 C.2.1 dL_goes_360 (lv_at hl 2 rfl) ?_
            refine lv_bipush (v := 10) C.1 C.2.1 dL_goes_362 rfl ?_
            refine lv_irem C.1 C.2.1 dL_goes_364 (by decide) ?_
            rw [show ((nI a11) - (nI a11) / 10 * 10 : Int32) = nI (a11 % 10) from nI_R (a := a11) (b := 10) (by omega) (by omega) (by omega)]
            refine lv_imul C.1 C.2.1 dL_goes_365 ?_
            rw [show ((5 : Int32) * (nI (a11 % 10))) = nI (5 * (a11 % 10)) from nI_M 5 (a11 % 10)]
            refine lv_goto (tgt := 370) C.1 C.2.1 dL_goes_366 (by decide) ?_
            refine lv_istore (lv' := [(14, .int (nI (5 * (a11 % 10)))), (13, .ref (la 4)), (12, .int 1), (11, .int (nI a11)), (0, .ref x), (1, .int 1), (2, .int y), (3, .ref (la 0)), (4, .ref (la 1)), (5, .ref (la 2)), (6, .ref (la 3)), (7, .ref (la 4)), (8, .ref (la 5)), (9, .ref (la 6)), (10, .ref (la 7))]) C.1 C.2.1 dL_goes_370 hl (by decide) rfl (fun ls hl => ?_)
            obtain ⟨⟨o0, o1, o2, o3⟩, o4⟩ := rO a11 hf
            obtain ⟨u, yy, hu4, hu, hw, hy4, hy, h13c, -, hP⟩ := iO.2.2.2 a11 hf
            obtain ⟨t13, ht13, h13⟩ : ∃ t, t ≤ 2 ∧ ar 13 a11 = nI t := by
              rcases h13c with q | q | q
              · exact ⟨0, by omega, q⟩
              · exact ⟨1, by omega, q⟩
              · exact ⟨2, by omega, q⟩
            have q0 : lf 4 (5 * (a11 % 10)) = nI u := (show lf 4 (5 * (a11 % 10)) = lo lf a11 0 from lo_4 (j := 0) (by omega)).trans (o0.trans hu)
            have q1 : lf 4 (5 * (a11 % 10) + 1) = nI yy := (lo_4 (j := 1) (by omega)).trans (o1.trans hy)
            have q2 : lf 4 (5 * (a11 % 10) + 2) = ar 11 a11 := (lo_4 (j := 2) (by omega)).trans o2
            have q3 : lf 4 (5 * (a11 % 10) + 3) = nI t13 := (lo_4 (j := 3) (by omega)).trans (o3.trans h13)
            refine lv_iload_n C.1 C.2.1 dL_goes_372 rfl (lv_at hl 5 rfl) ?_
            refine lv_iconst (v := 1) C.1 C.2.1 dL_goes_373 rfl ?_
            refine lv_icmp_ne (tgt := 582) C.1 C.2.1 dL_goes_374 (by decide) (fun c374 => ?_) (fun c374 => ?_)
            · exact absurd c374 (by decide)
            · refine lv_iconst (v := -1) C.1 C.2.1 dL_goes_377 rfl ?_
              refine lv_istore (lv' := [(15, .int (-1)), (14, .int (nI (5 * (a11 % 10)))), (13, .ref (la 4)), (12, .int 1), (11, .int (nI a11)), (0, .ref x), (1, .int 1), (2, .int y), (3, .ref (la 0)), (4, .ref (la 1)), (5, .ref (la 2)), (6, .ref (la 3)), (7, .ref (la 4)), (8, .ref (la 5)), (9, .ref (la 6)), (10, .ref (la 7))]) C.1 C.2.1 dL_goes_378 hl (by decide) rfl (fun ls hl => ?_)
              refine lv_aload_n C.1 C.2.1 dL_goes_380 rfl (lv_at hl 8 rfl) ?_
              refine lv_iconst (v := 1) C.1 C.2.1 dL_goes_381 rfl ?_
              refine lald (K := 0) (N := 3) (E := 1) (f := (lf 0)) (v := (nI nb)) C hE hH hX (by decide) rfl rfl rfl (by omega) (hc1) dL_goes_382 ?_
              refine lv_iconst (v := 1) C.1 C.2.1 dL_goes_383 rfl ?_
              refine lv_isub C.1 C.2.1 dL_goes_384 ?_
              refine lv_istore (lv' := [(16, .int ((nI nb) - 1)), (15, .int (-1)), (14, .int (nI (5 * (a11 % 10)))), (13, .ref (la 4)), (12, .int 1), (11, .int (nI a11)), (0, .ref x), (1, .int 1), (2, .int y), (3, .ref (la 0)), (4, .ref (la 1)), (5, .ref (la 2)), (6, .ref (la 3)), (7, .ref (la 4)), (8, .ref (la 5)), (9, .ref (la 6)), (10, .ref (la 7))]) C.1 C.2.1 dL_goes_385 hl (by decide) rfl (fun ls hl => ?_)
              have loop387 : ∀ (fu : Nat) (i : Nat) (b15 : Int32), (i ≤ nb) → (i < fu) → (LPB (zrt ar a11) (ar 8) nb i b15) →  ∀ (ls : Array Slot), lv_has ls 18 [(14, .int (nI (5 * (a11 % 10)))), (13, .ref (la 4)), (12, .int 1), (11, .int (nI a11)), (0, .ref x), (1, .int 1), (2, .int y), (3, .ref (la 0)), (4, .ref (la 1)), (5, .ref (la 2)), (6, .ref (la 3)), (7, .ref (la 4)), (8, .ref (la 5)), (9, .ref (la 6)), (10, .ref (la 7)), (15, .int b15), (16, .int (nI i - 1))] → W p l e { frames := 11, cells := 6, slots := 230, locals := 282 } s m args below meth c s.heap [] 0 0 (MQ below (wrQ (S := Unit) g (fun u_ => (some (.int 1))) (fun u_ M_ => WS g M_ x la n)) args s 6 230 (gA g)) (F0 m 387 ls []) := by
                intro fu
                induction fu with
                | zero => intro i b15 hi hfu hB; exact absurd hfu (by omega)
                | succ fu ih =>
                  intro i b15 hi hfu hB ls hl
                  rcases i with _ | j
                  · rw [show nI 0 - 1 = (-1 : Int32) from by decide] at hl
                    refine lv_iload C.1 C.2.1 dL_goes_387 (lv_at hl 16 rfl) ?_
                    refine lv_if_lt (tgt := 500) C.1 C.2.1 dL_goes_389 (by decide) (fun c389 => ?_) (fun c389 => ?_)
                    · have hz : zpl ar a11 nb = b15 := LPB_z hB (fun i hi => (RI_w hI hi).2)
                      rcases hB with ⟨hb, -⟩ | ⟨jb, -, jbn, hb, jr, -⟩
                      · subst hb
                        refine lv_iload C.1 C.2.1 dL_goes_500 (lv_at hl 2 rfl) ?_
                        refine lv_if_ne (tgt := 510) C.1 C.2.1 dL_goes_502 (by decide) (fun c502 => ?_) (fun c502 => ?_)
                        · refine lv_aload C.1 C.2.1 dL_goes_510 (lv_at hl 1 rfl) ?_
                          refine lv_iload C.1 C.2.1 dL_goes_512 (lv_at hl 0 rfl) ?_
                          refine lv_iconst (v := 3) C.1 C.2.1 dL_goes_514 rfl ?_
                          refine lv_iadd C.1 C.2.1 dL_goes_515 ?_
                          rw [show ((nI (5 * (a11 % 10))) + 3 : Int32) = nI (5 * (a11 % 10) + 3) from nI_add (5 * (a11 % 10)) 3]
                          refine lald (K := 4) (N := 50) (E := 5 * (a11 % 10) + 3) (f := (lf 4)) (v := (nI t13)) C hE hH hX (by decide) rfl rfl rfl (by omega) (q3) dL_goes_516 ?_
                          refine lv_if_le (tgt := 525) C.1 C.2.1 dL_goes_517 (by decide) (fun c517 => ?_) (fun c517 => ?_)
                          · have n517 : t13 ≤ 0 := (nI_leI (a := t13) (b := 0) (by omega) (by omega)).mp c517
                            refine lv_iload C.1 C.2.1 dL_goes_525 (lv_at hl 15 rfl) ?_
                            refine lv_if_ge (tgt := 535) C.1 C.2.1 dL_goes_527 (by decide) (fun c527 => ?_) (fun c527 => ?_)
                            · exact absurd c527 (by decide)
                            · refine lv_bipush (v := -103) C.1 C.2.1 dL_goes_530 rfl ?_
                              refine lv_goto (tgt := 537) C.1 C.2.1 dL_goes_532 (by decide) ?_
                              refine lv_istore (lv' := [(16, .int (-103)), (14, .int (nI (5 * (a11 % 10)))), (13, .ref (la 4)), (12, .int 1), (11, .int (nI a11)), (0, .ref x), (1, .int 1), (2, .int y), (3, .ref (la 0)), (4, .ref (la 1)), (5, .ref (la 2)), (6, .ref (la 3)), (7, .ref (la 4)), (8, .ref (la 5)), (9, .ref (la 6)), (10, .ref (la 7)), (15, .int (-1))]) C.1 C.2.1 dL_goes_537 hl (by decide) rfl (fun ls hl => ?_)
                              refine lv_iload C.1 C.2.1 dL_goes_539 (lv_at hl 0 rfl) ?_
                              refine lv_if_lt (tgt := 563) C.1 C.2.1 dL_goes_541 (by decide) (fun c541 => ?_) (fun c541 => ?_)
                              · refine lv_aload_n C.1 C.2.1 dL_goes_563 rfl (lv_at hl 5 rfl) ?_
                                refine lv_iconst (v := 0) C.1 C.2.1 dL_goes_564 rfl ?_
                                refine lv_iload C.1 C.2.1 dL_goes_565 (lv_at hl 4 rfl) ?_
                                refine lv_iconst (v := 0) C.1 C.2.1 dL_goes_567 rfl ?_
                                refine wr_go1 (runT C hE hH hS (l_place hlx hI (nI a11) 0) mv_L_pieces wm_605 hl.1 dL_goes_568 rfl rfl ⟨rfl, rfl⟩ ⟨Nat.le_of_ble_eq_true rfl, Nat.le_of_ble_eq_true rfl⟩ (Nat.le_of_ble_eq_true rfl) ⟨Nat.le_of_ble_eq_true rfl, Nat.le_of_ble_eq_true rfl⟩) hS (fun u15 M16 H locs hM16 hH hS => ?_)
                                rw [nI_clamp (show a11 < 2 ^ 31 by omega)] at hM16
                                obtain ⟨hu, hM⟩ := lqC_h hM16 ((inx_n (a := a11) (n := no) (by omega) (by omega)).mpr hf) (h13.trans (congrArg nI (show t13 = 0 by omega))) (fun z => z hz)
                                rw [hu]
                                refine lv_iload C.1 C.2.1 dL_goes_571 (lv_at hl 0 rfl) ?_
                                refine lv_icmp_ne (tgt := 580) C.1 C.2.1 dL_goes_573 (by decide) (fun c573 => ?_) (fun c573 => ?_)
                                · exact absurd c573 (by decide)
                                · refine lv_iconst (v := 1) C.1 C.2.1 dL_goes_576 rfl ?_
                                  refine lv_goto (tgt := 581) C.1 C.2.1 dL_goes_577 (by decide) ?_
                                  exact wr_zret () C hr hlocks (rfl) hH hS rfl ((by rw [hM]; exact hLS)) (by decide) (by decide) dL_goes_581
                              · exact absurd c541 (by decide)
                          · have n517 : ¬ t13 ≤ 0 := fun z => c517 ((nI_leI (a := t13) (b := 0) (by omega) (by omega)).mpr z)
                            refine lv_bipush (v := -102) C.1 C.2.1 dL_goes_520 rfl ?_
                            refine lv_goto (tgt := 537) C.1 C.2.1 dL_goes_522 (by decide) ?_
                            refine lv_istore (lv' := [(16, .int (-102)), (14, .int (nI (5 * (a11 % 10)))), (13, .ref (la 4)), (12, .int 1), (11, .int (nI a11)), (0, .ref x), (1, .int 1), (2, .int y), (3, .ref (la 0)), (4, .ref (la 1)), (5, .ref (la 2)), (6, .ref (la 3)), (7, .ref (la 4)), (8, .ref (la 5)), (9, .ref (la 6)), (10, .ref (la 7)), (15, .int (-1))]) C.1 C.2.1 dL_goes_537 hl (by decide) rfl (fun ls hl => ?_)
                            refine lv_iload C.1 C.2.1 dL_goes_539 (lv_at hl 0 rfl) ?_
                            refine lv_if_lt (tgt := 563) C.1 C.2.1 dL_goes_541 (by decide) (fun c541 => ?_) (fun c541 => ?_)
                            · refine lv_aload_n C.1 C.2.1 dL_goes_563 rfl (lv_at hl 5 rfl) ?_
                              refine lv_iconst (v := 0) C.1 C.2.1 dL_goes_564 rfl ?_
                              refine lv_iload C.1 C.2.1 dL_goes_565 (lv_at hl 4 rfl) ?_
                              refine lv_iconst (v := 0) C.1 C.2.1 dL_goes_567 rfl ?_
                              refine wr_go1 (runT C hE hH hS (l_place hlx hI (nI a11) 0) mv_L_pieces wm_605 hl.1 dL_goes_568 rfl rfl ⟨rfl, rfl⟩ ⟨Nat.le_of_ble_eq_true rfl, Nat.le_of_ble_eq_true rfl⟩ (Nat.le_of_ble_eq_true rfl) ⟨Nat.le_of_ble_eq_true rfl, Nat.le_of_ble_eq_true rfl⟩) hS (fun u17 M18 H locs hM18 hH hS => ?_)
                              rw [nI_clamp (show a11 < 2 ^ 31 by omega)] at hM18
                              obtain ⟨hu, hM⟩ := lqC_g hM18 ((inx_n (a := a11) (n := no) (by omega) (by omega)).mpr hf) (fun z => n517 (by have z1 := nI_inj (a := t13) (b := 0) (by omega) (by omega) (h13.symm.trans z); omega))
                              rw [hu]
                              refine lv_iload C.1 C.2.1 dL_goes_571 (lv_at hl 0 rfl) ?_
                              refine lv_icmp_ne (tgt := 580) C.1 C.2.1 dL_goes_573 (by decide) (fun c573 => ?_) (fun c573 => ?_)
                              · exact absurd c573 (by decide)
                              · refine lv_iconst (v := 1) C.1 C.2.1 dL_goes_576 rfl ?_
                                refine lv_goto (tgt := 581) C.1 C.2.1 dL_goes_577 (by decide) ?_
                                exact wr_zret () C hr hlocks (rfl) hH hS rfl ((by rw [hM]; exact hLS)) (by decide) (by decide) dL_goes_581
                            · exact absurd c541 (by decide)
                        · exact absurd c502 (by decide)
                      · subst hb
                        refine lv_iload C.1 C.2.1 dL_goes_500 (lv_at hl 2 rfl) ?_
                        refine lv_if_ne (tgt := 510) C.1 C.2.1 dL_goes_502 (by decide) (fun c502 => ?_) (fun c502 => ?_)
                        · refine lv_aload C.1 C.2.1 dL_goes_510 (lv_at hl 1 rfl) ?_
                          refine lv_iload C.1 C.2.1 dL_goes_512 (lv_at hl 0 rfl) ?_
                          refine lv_iconst (v := 3) C.1 C.2.1 dL_goes_514 rfl ?_
                          refine lv_iadd C.1 C.2.1 dL_goes_515 ?_
                          rw [show ((nI (5 * (a11 % 10))) + 3 : Int32) = nI (5 * (a11 % 10) + 3) from nI_add (5 * (a11 % 10)) 3]
                          refine lald (K := 4) (N := 50) (E := 5 * (a11 % 10) + 3) (f := (lf 4)) (v := (nI t13)) C hE hH hX (by decide) rfl rfl rfl (by omega) (q3) dL_goes_516 ?_
                          refine lv_if_le (tgt := 525) C.1 C.2.1 dL_goes_517 (by decide) (fun c517 => ?_) (fun c517 => ?_)
                          · have n517 : t13 ≤ 0 := (nI_leI (a := t13) (b := 0) (by omega) (by omega)).mp c517
                            refine lv_iload C.1 C.2.1 dL_goes_525 (lv_at hl 15 rfl) ?_
                            refine lv_if_ge (tgt := 535) C.1 C.2.1 dL_goes_527 (by decide) (fun c527 => ?_) (fun c527 => ?_)
                            · refine lv_iload C.1 C.2.1 dL_goes_535 (lv_at hl 15 rfl) ?_
                              refine lv_istore (lv' := [(16, .int (nI jb)), (14, .int (nI (5 * (a11 % 10)))), (13, .ref (la 4)), (12, .int 1), (11, .int (nI a11)), (0, .ref x), (1, .int 1), (2, .int y), (3, .ref (la 0)), (4, .ref (la 1)), (5, .ref (la 2)), (6, .ref (la 3)), (7, .ref (la 4)), (8, .ref (la 5)), (9, .ref (la 6)), (10, .ref (la 7)), (15, .int (nI jb))]) C.1 C.2.1 dL_goes_537 hl (by decide) rfl (fun ls hl => ?_)
                              refine lv_iload C.1 C.2.1 dL_goes_539 (lv_at hl 0 rfl) ?_
                              refine lv_if_lt (tgt := 563) C.1 C.2.1 dL_goes_541 (by decide) (fun c541 => ?_) (fun c541 => ?_)
                              · exact absurd (n_ge (by omega) (by decide)) (n_nlt c541)
                              · obtain ⟨⟨eb, heeb, h7, -⟩, ⟨dd, hd3, h6⟩, -⟩ := iB.2.2 jb (by omega)
                                obtain ⟨b6, b7, b8⟩ := rB jb (by omega)
                                have heu : eb = u := nI_inj (by omega) (by omega) (h7.symm.trans ((zrt_7 jr).trans hu))
                                obtain ⟨hd1, hd2, hd3y, hd4⟩ := DY_at hI hR hf (show jb < nb by omega) hu hu4 hy hy4 h6 hd3 q2
                                refine lv_aload C.1 C.2.1 dL_goes_544 (lv_at hl 9 rfl) ?_
                                refine lv_aload C.1 C.2.1 dL_goes_546 (lv_at hl 10 rfl) ?_
                                refine lv_aload C.1 C.2.1 dL_goes_548 (lv_at hl 11 rfl) ?_
                                refine lv_aload C.1 C.2.1 dL_goes_550 (lv_at hl 2 rfl) ?_
                                refine lv_aload C.1 C.2.1 dL_goes_552 (lv_at hl 14 rfl) ?_
                                refine lv_iload C.1 C.2.1 dL_goes_554 (lv_at hl 1 rfl) ?_
                                refine lv_iload C.1 C.2.1 dL_goes_556 (lv_at hl 4 rfl) ?_
                                refine lv_iload C.1 C.2.1 dL_goes_558 (lv_at hl 16 rfl) ?_
                                refine wr_go0 (runS C hE hH hS (c_dyes4 hX.1 ((by omega)) ((by omega)) ((by omega)) (hy4) (hd3) (q0) (q1) ((b7.trans (h7.trans (congrArg nI heu)))) ((b6.trans h6))) mv_L_dyes wm_602 hl.1 dL_goes_560 rfl rfl ⟨rfl, rfl⟩ ⟨Nat.le_of_ble_eq_true rfl, Nat.le_of_ble_eq_true rfl⟩ (Nat.le_of_ble_eq_true rfl) ⟨Nat.le_of_ble_eq_true rfl, Nat.le_of_ble_eq_true rfl⟩) hS (fun u19 M20 H locs hM20 hH hS => ?_)
                                have hID := WS_up hI hM20 hT (ed_no hE hH)
                                refine lv_aload_n C.1 C.2.1 dL_goes_563 rfl (lv_at hl 5 rfl) ?_
                                refine lv_iconst (v := 0) C.1 C.2.1 dL_goes_564 rfl ?_
                                refine lv_iload C.1 C.2.1 dL_goes_565 (lv_at hl 4 rfl) ?_
                                refine lv_iconst (v := 0) C.1 C.2.1 dL_goes_567 rfl ?_
                                refine wr_go1 (runT C hE hH hS (l_place hlx hID (nI a11) 0) mv_L_pieces wm_605 hl.1 dL_goes_568 rfl rfl ⟨rfl, rfl⟩ ⟨Nat.le_of_ble_eq_true rfl, Nat.le_of_ble_eq_true rfl⟩ (Nat.le_of_ble_eq_true rfl) ⟨Nat.le_of_ble_eq_true rfl, Nat.le_of_ble_eq_true rfl⟩) hS (fun u21 M22 H locs hM22 hH hS => ?_)
                                rw [nI_clamp (show a11 < 2 ^ 31 by omega)] at hM22
                                obtain ⟨hu, hx⟩ := lqC_t hM22 ((inx_n (a := a11) (n := no) (by omega) (by omega)).mpr hf) (h13.trans (congrArg nI (show t13 = 0 by omega))) (fun z => absurd (hz.symm.trans z) (n_ne (by omega) (by decide)))
                                have hu : u21 = nI jb := hu.trans (hz)
                                rw [hu]
                                rw [hz, nI_clamp (show jb < 2 ^ 31 by omega)] at hx
                                have hXr := LX_rf (LI_rx hx hM20.1 hT)
                                refine lv_iload C.1 C.2.1 dL_goes_571 (lv_at hl 0 rfl) ?_
                                refine lv_icmp_ne (tgt := 580) C.1 C.2.1 dL_goes_573 (by decide) (fun c573 => ?_) (fun c573 => ?_)
                                · exact absurd rfl c573
                                · refine lv_iconst (v := 1) C.1 C.2.1 dL_goes_576 rfl ?_
                                  refine lv_goto (tgt := 581) C.1 C.2.1 dL_goes_577 (by decide) ?_
                                  exact wr_zret () C hr hlocks (rfl) hH hS rfl (WS_mk hx hM20.1 hT ⟨hs0, hs5, hs9⟩ (LR_dye (R := 4) hR hf (show jb < nb by omega) (by omega) hd1 hd2 hd3y hd4) (krN_cg hN (fun i _ => rfl))) (by decide) (by decide) dL_goes_581
                            · exact absurd (n_ge (by omega) (by decide)) c527
                          · have n517 : ¬ t13 ≤ 0 := fun z => c517 ((nI_leI (a := t13) (b := 0) (by omega) (by omega)).mpr z)
                            refine lv_bipush (v := -102) C.1 C.2.1 dL_goes_520 rfl ?_
                            refine lv_goto (tgt := 537) C.1 C.2.1 dL_goes_522 (by decide) ?_
                            refine lv_istore (lv' := [(16, .int (-102)), (14, .int (nI (5 * (a11 % 10)))), (13, .ref (la 4)), (12, .int 1), (11, .int (nI a11)), (0, .ref x), (1, .int 1), (2, .int y), (3, .ref (la 0)), (4, .ref (la 1)), (5, .ref (la 2)), (6, .ref (la 3)), (7, .ref (la 4)), (8, .ref (la 5)), (9, .ref (la 6)), (10, .ref (la 7)), (15, .int (nI jb))]) C.1 C.2.1 dL_goes_537 hl (by decide) rfl (fun ls hl => ?_)
                            refine lv_iload C.1 C.2.1 dL_goes_539 (lv_at hl 0 rfl) ?_
                            refine lv_if_lt (tgt := 563) C.1 C.2.1 dL_goes_541 (by decide) (fun c541 => ?_) (fun c541 => ?_)
                            · refine lv_aload_n C.1 C.2.1 dL_goes_563 rfl (lv_at hl 5 rfl) ?_
                              refine lv_iconst (v := 0) C.1 C.2.1 dL_goes_564 rfl ?_
                              refine lv_iload C.1 C.2.1 dL_goes_565 (lv_at hl 4 rfl) ?_
                              refine lv_iconst (v := 0) C.1 C.2.1 dL_goes_567 rfl ?_
                              refine wr_go1 (runT C hE hH hS (l_place hlx hI (nI a11) 0) mv_L_pieces wm_605 hl.1 dL_goes_568 rfl rfl ⟨rfl, rfl⟩ ⟨Nat.le_of_ble_eq_true rfl, Nat.le_of_ble_eq_true rfl⟩ (Nat.le_of_ble_eq_true rfl) ⟨Nat.le_of_ble_eq_true rfl, Nat.le_of_ble_eq_true rfl⟩) hS (fun u23 M24 H locs hM24 hH hS => ?_)
                              rw [nI_clamp (show a11 < 2 ^ 31 by omega)] at hM24
                              obtain ⟨hu, hM⟩ := lqC_g hM24 ((inx_n (a := a11) (n := no) (by omega) (by omega)).mpr hf) (fun z => n517 (by have z1 := nI_inj (a := t13) (b := 0) (by omega) (by omega) (h13.symm.trans z); omega))
                              rw [hu]
                              refine lv_iload C.1 C.2.1 dL_goes_571 (lv_at hl 0 rfl) ?_
                              refine lv_icmp_ne (tgt := 580) C.1 C.2.1 dL_goes_573 (by decide) (fun c573 => ?_) (fun c573 => ?_)
                              · exact absurd c573 (by decide)
                              · refine lv_iconst (v := 1) C.1 C.2.1 dL_goes_576 rfl ?_
                                refine lv_goto (tgt := 581) C.1 C.2.1 dL_goes_577 (by decide) ?_
                                exact wr_zret () C hr hlocks (rfl) hH hS rfl ((by rw [hM]; exact hLS)) (by decide) (by decide) dL_goes_581
                            · exact absurd c541 (by decide)
                        · exact absurd c502 (by decide)
                    · exact absurd c389 (by decide)
                  · rw [show nI (j + 1) - 1 = nI j from nI_S (Nat.le_add_left 1 j)] at hl
                    refine lv_iload C.1 C.2.1 dL_goes_387 (lv_at hl 16 rfl) ?_
                    refine lv_if_lt (tgt := 500) C.1 C.2.1 dL_goes_389 (by decide) (fun c389 => ?_) (fun c389 => ?_)
                    · exact absurd (n_ge (by omega) (by decide)) (n_nlt c389)
                    · refine lv_iload C.1 C.2.1 dL_goes_392 (lv_at hl 2 rfl) ?_
                      refine lv_if_eq (tgt := 500) C.1 C.2.1 dL_goes_394 (by decide) (fun c394 => ?_) (fun c394 => ?_)
                      · exact absurd c394 (by decide)
                      · obtain ⟨⟨eb, heeb, h7, -⟩, ⟨dd, hd3, h6⟩, -⟩ := iB.2.2 j (by omega)
                        obtain ⟨b6, b7, b8⟩ := rB j (by omega)
                        have hob := OB_at hI hR hf (show j < nb by omega) hu hu4 hy hy4 h6 hd3
                        have htol := (rE u hu4).2.2.trans (congrArg (ar 2) (zE_at hu (by omega)).symm)
                        have J452t : ∀ (hr : zrt ar a11 j = true) (ls : Array Slot), lv_has ls 18 [(14, .int (nI (5 * (a11 % 10)))), (13, .ref (la 4)), (12, .int 1), (11, .int (nI a11)), (0, .ref x), (1, .int 1), (2, .int y), (3, .ref (la 0)), (4, .ref (la 1)), (5, .ref (la 2)), (6, .ref (la 3)), (7, .ref (la 4)), (8, .ref (la 5)), (9, .ref (la 6)), (10, .ref (la 7)), (15, .int b15), (16, .int (nI j))] → W p l e { frames := 11, cells := 6, slots := 230, locals := 282 } s m args below meth c s.heap [] 0 0 (MQ below (wrQ (S := Unit) g (fun u_ => (some (.int 1))) (fun u_ M_ => WS g M_ x la n)) args s 6 230 (gA g)) (F0 m 452 ls [.int 1]) := by
                          intro  hr ls hl
                          refine lv_istore (lv' := [(17, .int 1), (14, .int (nI (5 * (a11 % 10)))), (13, .ref (la 4)), (12, .int 1), (11, .int (nI a11)), (0, .ref x), (1, .int 1), (2, .int y), (3, .ref (la 0)), (4, .ref (la 1)), (5, .ref (la 2)), (6, .ref (la 3)), (7, .ref (la 4)), (8, .ref (la 5)), (9, .ref (la 6)), (10, .ref (la 7)), (15, .int b15), (16, .int (nI j))]) C.1 C.2.1 dL_goes_452 hl (by decide) rfl (fun ls hl => ?_)
                          rcases hB with ⟨hb, hB⟩ | ⟨jb, j1, j2, hb, j3, j4⟩
                          · subst hb
                            refine lv_iload C.1 C.2.1 dL_goes_454 (lv_at hl 0 rfl) ?_
                            refine lv_if_eq (tgt := 490) C.1 C.2.1 dL_goes_456 (by decide) (fun c456 => ?_) (fun c456 => ?_)
                            · exact absurd c456 (by decide)
                            · refine lv_iload C.1 C.2.1 dL_goes_459 (lv_at hl 16 rfl) ?_
                              refine lv_if_lt (tgt := 485) C.1 C.2.1 dL_goes_461 (by decide) (fun c461 => ?_) (fun c461 => ?_)
                              · refine lv_iload C.1 C.2.1 dL_goes_485 (lv_at hl 17 rfl) ?_
                                refine lv_goto (tgt := 492) C.1 C.2.1 dL_goes_487 (by decide) ?_
                                refine lv_istore (lv' := [(15, .int (nI j)), (17, .int 1), (14, .int (nI (5 * (a11 % 10)))), (13, .ref (la 4)), (12, .int 1), (11, .int (nI a11)), (0, .ref x), (1, .int 1), (2, .int y), (3, .ref (la 0)), (4, .ref (la 1)), (5, .ref (la 2)), (6, .ref (la 3)), (7, .ref (la 4)), (8, .ref (la 5)), (9, .ref (la 6)), (10, .ref (la 7)), (16, .int (nI j))]) C.1 C.2.1 dL_goes_492 hl (by decide) rfl (fun ls hl => ?_)
                                refine lv_iinc (v := nI j - 1) (lv' := [(16, .int (nI j - 1)), (15, .int (nI j)), (17, .int 1), (14, .int (nI (5 * (a11 % 10)))), (13, .ref (la 4)), (12, .int 1), (11, .int (nI a11)), (0, .ref x), (1, .int 1), (2, .int y), (3, .ref (la 0)), (4, .ref (la 1)), (5, .ref (la 2)), (6, .ref (la 3)), (7, .ref (la 4)), (8, .ref (la 5)), (9, .ref (la 6)), (10, .ref (la 7))]) C.1 C.2.1 dL_goes_494 hl (k := 17) rfl (by rw [Int32.sub_eq_add_neg]; rfl) (by decide) rfl (fun ls hl => ?_)
                                refine lv_goto (tgt := 387) C.1 C.2.1 dL_goes_497 (by decide) ?_
                                exact ih j (nI j) (by omega) (by omega) (LPB_first hB (by omega) hr) ls (lv_sub hl [3, 4, 5, 6, 7, 8, 9, 10, 11, 12, 13, 14, 15, 16, 17, 1, 0] rfl)
                              · exact absurd c461 (by decide)
                          · subst hb
                            refine lv_iload C.1 C.2.1 dL_goes_454 (lv_at hl 0 rfl) ?_
                            refine lv_if_eq (tgt := 490) C.1 C.2.1 dL_goes_456 (by decide) (fun c456 => ?_) (fun c456 => ?_)
                            · exact absurd c456 (by decide)
                            · refine lv_iload C.1 C.2.1 dL_goes_459 (lv_at hl 16 rfl) ?_
                              refine lv_if_lt (tgt := 485) C.1 C.2.1 dL_goes_461 (by decide) (fun c461 => ?_) (fun c461 => ?_)
                              · exact absurd (n_ge (by omega) (by decide)) (n_nlt c461)
                              · refine lv_aload C.1 C.2.1 dL_goes_464 (lv_at hl 11 rfl) ?_
                                refine lv_iconst (v := 3) C.1 C.2.1 dL_goes_466 rfl ?_
                                refine lv_iload C.1 C.2.1 dL_goes_467 (lv_at hl 17 rfl) ?_
                                refine lv_imul C.1 C.2.1 dL_goes_469 ?_
                                rw [show ((3 : Int32) * (nI j)) = nI (3 * j) from nI_M 3 j]
                                refine lv_iconst (v := 2) C.1 C.2.1 dL_goes_470 rfl ?_
                                refine lv_iadd C.1 C.2.1 dL_goes_471 ?_
                                rw [show ((nI (3 * j)) + 2 : Int32) = nI (3 * j + 2) from nI_add (3 * j) 2]
                                refine lald (K := 3) (N := 15) (E := 3 * j + 2) (f := (lf 3)) (v := ((lf 3) (3 * j + 2))) C hE hH hX (by decide) rfl rfl rfl (by omega) (rfl) dL_goes_472 ?_
                                refine lv_aload C.1 C.2.1 dL_goes_473 (lv_at hl 11 rfl) ?_
                                refine lv_iconst (v := 3) C.1 C.2.1 dL_goes_475 rfl ?_
                                refine lv_iload C.1 C.2.1 dL_goes_476 (lv_at hl 16 rfl) ?_
                                refine lv_imul C.1 C.2.1 dL_goes_478 ?_
                                rw [show ((3 : Int32) * (nI jb)) = nI (3 * jb) from nI_M 3 jb]
                                refine lv_iconst (v := 2) C.1 C.2.1 dL_goes_479 rfl ?_
                                refine lv_iadd C.1 C.2.1 dL_goes_480 ?_
                                rw [show ((nI (3 * jb)) + 2 : Int32) = nI (3 * jb + 2) from nI_add (3 * jb) 2]
                                refine lald (K := 3) (N := 15) (E := 3 * jb + 2) (f := (lf 3)) (v := ((lf 3) (3 * jb + 2))) C hE hH hX (by decide) rfl rfl rfl (by omega) (rfl) dL_goes_481 ?_
                                refine lv_icmp_gt (tgt := 490) C.1 C.2.1 dL_goes_482 (by decide) (fun c482 => ?_) (fun c482 => ?_)
                                · refine lv_iload C.1 C.2.1 dL_goes_490 (lv_at hl 16 rfl) ?_
                                  refine lv_istore (lv' := [(15, .int (nI jb)), (17, .int 1), (14, .int (nI (5 * (a11 % 10)))), (13, .ref (la 4)), (12, .int 1), (11, .int (nI a11)), (0, .ref x), (1, .int 1), (2, .int y), (3, .ref (la 0)), (4, .ref (la 1)), (5, .ref (la 2)), (6, .ref (la 3)), (7, .ref (la 4)), (8, .ref (la 5)), (9, .ref (la 6)), (10, .ref (la 7)), (16, .int (nI j))]) C.1 C.2.1 dL_goes_492 hl (by decide) rfl (fun ls hl => ?_)
                                  refine lv_iinc (v := nI j - 1) (lv' := [(16, .int (nI j - 1)), (15, .int (nI jb)), (17, .int 1), (14, .int (nI (5 * (a11 % 10)))), (13, .ref (la 4)), (12, .int 1), (11, .int (nI a11)), (0, .ref x), (1, .int 1), (2, .int y), (3, .ref (la 0)), (4, .ref (la 1)), (5, .ref (la 2)), (6, .ref (la 3)), (7, .ref (la 4)), (8, .ref (la 5)), (9, .ref (la 6)), (10, .ref (la 7))]) C.1 C.2.1 dL_goes_494 hl (k := 17) rfl (by rw [Int32.sub_eq_add_neg]; rfl) (by decide) rfl (fun ls hl => ?_)
                                  refine lv_goto (tgt := 387) C.1 C.2.1 dL_goes_497 (by decide) ?_
                                  exact ih j (nI jb) (by omega) (by omega) (LPB_gt j1 j2 j3 j4 (by rw [← b8, ← (rB jb j2).2.2]; exact c482)) ls (lv_sub hl [3, 4, 5, 6, 7, 8, 9, 10, 11, 12, 13, 14, 15, 16, 17, 1, 0] rfl)
                                · refine lv_iload C.1 C.2.1 dL_goes_485 (lv_at hl 17 rfl) ?_
                                  refine lv_goto (tgt := 492) C.1 C.2.1 dL_goes_487 (by decide) ?_
                                  refine lv_istore (lv' := [(15, .int (nI j)), (17, .int 1), (14, .int (nI (5 * (a11 % 10)))), (13, .ref (la 4)), (12, .int 1), (11, .int (nI a11)), (0, .ref x), (1, .int 1), (2, .int y), (3, .ref (la 0)), (4, .ref (la 1)), (5, .ref (la 2)), (6, .ref (la 3)), (7, .ref (la 4)), (8, .ref (la 5)), (9, .ref (la 6)), (10, .ref (la 7)), (16, .int (nI j))]) C.1 C.2.1 dL_goes_492 hl (by decide) rfl (fun ls hl => ?_)
                                  refine lv_iinc (v := nI j - 1) (lv' := [(16, .int (nI j - 1)), (15, .int (nI j)), (17, .int 1), (14, .int (nI (5 * (a11 % 10)))), (13, .ref (la 4)), (12, .int 1), (11, .int (nI a11)), (0, .ref x), (1, .int 1), (2, .int y), (3, .ref (la 0)), (4, .ref (la 1)), (5, .ref (la 2)), (6, .ref (la 3)), (7, .ref (la 4)), (8, .ref (la 5)), (9, .ref (la 6)), (10, .ref (la 7))]) C.1 C.2.1 dL_goes_494 hl (k := 17) rfl (by rw [Int32.sub_eq_add_neg]; rfl) (by decide) rfl (fun ls hl => ?_)
                                  refine lv_goto (tgt := 387) C.1 C.2.1 dL_goes_497 (by decide) ?_
                                  exact ih j (nI j) (by omega) (by omega) (LPB_le j4 (by omega) hr (by rw [← b8, ← (rB jb j2).2.2]; exact Int32.not_lt.mp c482)) ls (lv_sub hl [3, 4, 5, 6, 7, 8, 9, 10, 11, 12, 13, 14, 15, 16, 17, 1, 0] rfl)
                        have J452f : ∀ (hr : zrt ar a11 j = false) (ls : Array Slot), lv_has ls 18 [(14, .int (nI (5 * (a11 % 10)))), (13, .ref (la 4)), (12, .int 1), (11, .int (nI a11)), (0, .ref x), (1, .int 1), (2, .int y), (3, .ref (la 0)), (4, .ref (la 1)), (5, .ref (la 2)), (6, .ref (la 3)), (7, .ref (la 4)), (8, .ref (la 5)), (9, .ref (la 6)), (10, .ref (la 7)), (15, .int b15), (16, .int (nI j))] → W p l e { frames := 11, cells := 6, slots := 230, locals := 282 } s m args below meth c s.heap [] 0 0 (MQ below (wrQ (S := Unit) g (fun u_ => (some (.int 1))) (fun u_ M_ => WS g M_ x la n)) args s 6 230 (gA g)) (F0 m 452 ls [.int 0]) := by
                          intro  hr ls hl
                          refine lv_istore (lv' := [(17, .int 0), (14, .int (nI (5 * (a11 % 10)))), (13, .ref (la 4)), (12, .int 1), (11, .int (nI a11)), (0, .ref x), (1, .int 1), (2, .int y), (3, .ref (la 0)), (4, .ref (la 1)), (5, .ref (la 2)), (6, .ref (la 3)), (7, .ref (la 4)), (8, .ref (la 5)), (9, .ref (la 6)), (10, .ref (la 7)), (15, .int b15), (16, .int (nI j))]) C.1 C.2.1 dL_goes_452 hl (by decide) rfl (fun ls hl => ?_)
                          refine lv_iload C.1 C.2.1 dL_goes_454 (lv_at hl 0 rfl) ?_
                          refine lv_if_eq (tgt := 490) C.1 C.2.1 dL_goes_456 (by decide) (fun c456 => ?_) (fun c456 => ?_)
                          · refine lv_iload C.1 C.2.1 dL_goes_490 (lv_at hl 16 rfl) ?_
                            refine lv_istore (lv' := [(15, .int b15), (17, .int 0), (14, .int (nI (5 * (a11 % 10)))), (13, .ref (la 4)), (12, .int 1), (11, .int (nI a11)), (0, .ref x), (1, .int 1), (2, .int y), (3, .ref (la 0)), (4, .ref (la 1)), (5, .ref (la 2)), (6, .ref (la 3)), (7, .ref (la 4)), (8, .ref (la 5)), (9, .ref (la 6)), (10, .ref (la 7)), (16, .int (nI j))]) C.1 C.2.1 dL_goes_492 hl (by decide) rfl (fun ls hl => ?_)
                            refine lv_iinc (v := nI j - 1) (lv' := [(16, .int (nI j - 1)), (15, .int b15), (17, .int 0), (14, .int (nI (5 * (a11 % 10)))), (13, .ref (la 4)), (12, .int 1), (11, .int (nI a11)), (0, .ref x), (1, .int 1), (2, .int y), (3, .ref (la 0)), (4, .ref (la 1)), (5, .ref (la 2)), (6, .ref (la 3)), (7, .ref (la 4)), (8, .ref (la 5)), (9, .ref (la 6)), (10, .ref (la 7))]) C.1 C.2.1 dL_goes_494 hl (k := 17) rfl (by rw [Int32.sub_eq_add_neg]; rfl) (by decide) rfl (fun ls hl => ?_)
                            refine lv_goto (tgt := 387) C.1 C.2.1 dL_goes_497 (by decide) ?_
                            exact ih j b15 (by omega) (by omega) (LPB_no hB hr) ls (lv_sub hl [3, 4, 5, 6, 7, 8, 9, 10, 11, 12, 13, 14, 15, 16, 17, 1, 0] rfl)
                          · exact absurd c456 (by decide)
                        refine lv_aload C.1 C.2.1 dL_goes_397 (lv_at hl 10 rfl) ?_
                        refine lv_iconst (v := 3) C.1 C.2.1 dL_goes_399 rfl ?_
                        refine lv_iload C.1 C.2.1 dL_goes_400 (lv_at hl 16 rfl) ?_
                        refine lv_imul C.1 C.2.1 dL_goes_402 ?_
                        rw [show ((3 : Int32) * (nI j)) = nI (3 * j) from nI_M 3 j]
                        refine lv_iconst (v := 1) C.1 C.2.1 dL_goes_403 rfl ?_
                        refine lv_iadd C.1 C.2.1 dL_goes_404 ?_
                        rw [show ((nI (3 * j)) + 1 : Int32) = nI (3 * j + 1) from nI_add (3 * j) 1]
                        refine lald (K := 3) (N := 15) (E := 3 * j + 1) (f := (lf 3)) (v := (nI eb)) C hE hH hX (by decide) rfl rfl rfl (by omega) ((b7.trans h7)) dL_goes_405 ?_
                        refine lv_aload C.1 C.2.1 dL_goes_406 (lv_at hl 1 rfl) ?_
                        refine lv_iload C.1 C.2.1 dL_goes_408 (lv_at hl 0 rfl) ?_
                        refine lald (K := 4) (N := 50) (E := 5 * (a11 % 10)) (f := (lf 4)) (v := (nI u)) C hE hH hX (by decide) rfl rfl rfl (by omega) (q0) dL_goes_410 ?_
                        refine lv_icmp_ne (tgt := 451) C.1 C.2.1 dL_goes_411 (by decide) (fun c411 => ?_) (fun c411 => ?_)
                        · have n411 : ¬ eb = u := fun z => c411 (congrArg nI z)
                          refine lv_iconst (v := 0) C.1 C.2.1 dL_goes_451 rfl ?_
                          exact J452f (zrt_f1 h7 hu (by omega) (by omega) n411) ls (hl)
                        · have n411 : eb = u := nI_inj (by omega) (by omega) c411
                          refine lv_aload C.1 C.2.1 dL_goes_414 (lv_at hl 8 rfl) ?_
                          refine lv_aload C.1 C.2.1 dL_goes_416 (lv_at hl 9 rfl) ?_
                          refine lv_aload C.1 C.2.1 dL_goes_418 (lv_at hl 10 rfl) ?_
                          refine lv_iload C.1 C.2.1 dL_goes_420 (lv_at hl 16 rfl) ?_
                          refine lv_aload C.1 C.2.1 dL_goes_422 (lv_at hl 1 rfl) ?_
                          refine lv_iload C.1 C.2.1 dL_goes_424 (lv_at hl 0 rfl) ?_
                          refine lv_iconst (v := 1) C.1 C.2.1 dL_goes_426 rfl ?_
                          refine lv_iadd C.1 C.2.1 dL_goes_427 ?_
                          rw [show ((nI (5 * (a11 % 10))) + 1 : Int32) = nI (5 * (a11 % 10) + 1) from nI_add (5 * (a11 % 10)) 1]
                          refine lald (K := 4) (N := 50) (E := 5 * (a11 % 10) + 1) (f := (lf 4)) (v := (nI yy)) C hE hH hX (by decide) rfl rfl rfl (by omega) (q1) dL_goes_428 ?_
                          refine rd_go1 (runS C hE hH hS (c_offBy hX.1 ((by omega)) (hy4) ((by omega)) ((b7.trans (h7.trans (congrArg nI n411)))) (hd3) ((b6.trans h6))) mv_L_offBy wm_590 hl.1 dL_goes_429 rfl rfl ⟨rfl, rfl⟩ ⟨Nat.le_of_ble_eq_true rfl, Nat.le_of_ble_eq_true rfl⟩ (Nat.le_of_ble_eq_true rfl) ⟨Nat.le_of_ble_eq_true rfl, Nat.le_of_ble_eq_true rfl⟩) ?_
                          refine lv_aload C.1 C.2.1 dL_goes_432 (lv_at hl 8 rfl) ?_
                          refine lv_iconst (v := 3) C.1 C.2.1 dL_goes_434 rfl ?_
                          refine lv_aload C.1 C.2.1 dL_goes_435 (lv_at hl 1 rfl) ?_
                          refine lv_iload C.1 C.2.1 dL_goes_437 (lv_at hl 0 rfl) ?_
                          refine lald (K := 4) (N := 50) (E := 5 * (a11 % 10)) (f := (lf 4)) (v := (nI u)) C hE hH hX (by decide) rfl rfl rfl (by omega) (q0) dL_goes_439 ?_
                          refine lv_imul C.1 C.2.1 dL_goes_440 ?_
                          rw [show ((3 : Int32) * (nI u)) = nI (3 * u) from nI_M 3 u]
                          refine lv_iconst (v := 2) C.1 C.2.1 dL_goes_441 rfl ?_
                          refine lv_iadd C.1 C.2.1 dL_goes_442 ?_
                          rw [show ((nI (3 * u)) + 2 : Int32) = nI (3 * u + 2) from nI_add (3 * u) 2]
                          refine lald (K := 1) (N := 12) (E := 3 * u + 2) (f := (lf 1)) (v := ((lf 1) (3 * u + 2))) C hE hH hX (by decide) rfl rfl rfl (by omega) (rfl) dL_goes_443 ?_
                          refine lv_icmp_gt (tgt := 451) C.1 C.2.1 dL_goes_444 (by decide) (fun c444 => ?_) (fun c444 => ?_)
                          · refine lv_iconst (v := 0) C.1 C.2.1 dL_goes_451 rfl ?_
                            exact J452f (zrt_f2 (by rw [← hob, ← htol]; exact Int32.not_le.mpr c444)) ls (hl)
                          · refine lv_iconst (v := 1) C.1 C.2.1 dL_goes_447 rfl ?_
                            refine lv_goto (tgt := 452) C.1 C.2.1 dL_goes_448 (by decide) ?_
                            exact J452t (zrt_t h7 hu n411 (by rw [← hob, ← htol]; exact Int32.not_lt.mp c444)) ls (hl)
              exact loop387 (nb + 1) nb (-1) (Nat.le_refl nb) (by omega) (LPB_0) _ (lv_sub hl [2, 3, 4, 5, 6, 7, 8, 9, 10, 11, 12, 13, 14, 15, 16, 1, 0] rfl)
      have J336f : ∀ (hf : ¬ a11 < no) (ls : Array Slot), lv_has ls 18 [(11, .int (nI a11)), (0, .ref x), (1, .int 1), (2, .int y), (3, .ref (la 0)), (4, .ref (la 1)), (5, .ref (la 2)), (6, .ref (la 3)), (7, .ref (la 4)), (8, .ref (la 5)), (9, .ref (la 6)), (10, .ref (la 7))] → W p l e { frames := 11, cells := 6, slots := 230, locals := 282 } s m args below meth c s.heap [] 0 0 (MQ below (wrQ (S := Unit) g (fun u_ => (some (.int 1))) (fun u_ M_ => WS g M_ x la n)) args s 6 230 (gA g)) (F0 m 336 ls [.int 0]) := by
        intro  hf ls hl
        refine lv_istore (lv' := [(12, .int 0), (11, .int (nI a11)), (0, .ref x), (1, .int 1), (2, .int y), (3, .ref (la 0)), (4, .ref (la 1)), (5, .ref (la 2)), (6, .ref (la 3)), (7, .ref (la 4)), (8, .ref (la 5)), (9, .ref (la 6)), (10, .ref (la 7))]) C.1 C.2.1 dL_goes_336 hl (by decide) rfl (fun ls hl => ?_)
        refine lv_iload C.1 C.2.1 dL_goes_338 (lv_at hl 1 rfl) ?_
        refine lv_bipush (v := 10) C.1 C.2.1 dL_goes_340 rfl ?_
        refine lv_icmp_ge (tgt := 350) C.1 C.2.1 dL_goes_342 (by decide) (fun c342 => ?_) (fun c342 => ?_)
        · have n342 : 10 ≤ a11 := (nI_leI (a := 10) (b := a11) (by omega) (by omega)).mp c342
          refine lv_aload C.1 C.2.1 dL_goes_350 (lv_at hl 10 rfl) ?_
          refine lv_astore (lv' := [(13, .ref (la 5)), (12, .int 0), (11, .int (nI a11)), (0, .ref x), (1, .int 1), (2, .int y), (3, .ref (la 0)), (4, .ref (la 1)), (5, .ref (la 2)), (6, .ref (la 3)), (7, .ref (la 4)), (8, .ref (la 5)), (9, .ref (la 6)), (10, .ref (la 7))]) C.1 C.2.1 dL_goes_352 hl (by decide) rfl (fun ls hl => ?_)
          refine lv_iload C.1 C.2.1 dL_goes_354 (lv_at hl 1 rfl) ?_
          refine lv_if_eq (tgt := 369) C.1 C.2.1 dL_goes_356 (by decide) (fun c356 => ?_) (fun c356 => ?_)
          · refine lv_iconst (v := 0) C.1 C.2.1 dL_goes_369 rfl ?_
            refine lv_istore (lv' := [(14, .int 0), (13, .ref (la 5)), (12, .int 0), (11, .int (nI a11)), (0, .ref x), (1, .int 1), (2, .int y), (3, .ref (la 0)), (4, .ref (la 1)), (5, .ref (la 2)), (6, .ref (la 3)), (7, .ref (la 4)), (8, .ref (la 5)), (9, .ref (la 6)), (10, .ref (la 7))]) C.1 C.2.1 dL_goes_370 hl (by decide) rfl (fun ls hl => ?_)
            refine lv_iload_n C.1 C.2.1 dL_goes_372 rfl (lv_at hl 5 rfl) ?_
            refine lv_iconst (v := 1) C.1 C.2.1 dL_goes_373 rfl ?_
            refine lv_icmp_ne (tgt := 582) C.1 C.2.1 dL_goes_374 (by decide) (fun c374 => ?_) (fun c374 => ?_)
            · exact absurd c374 (by decide)
            · refine lv_iconst (v := -1) C.1 C.2.1 dL_goes_377 rfl ?_
              refine lv_istore (lv' := [(15, .int (-1)), (14, .int 0), (13, .ref (la 5)), (12, .int 0), (11, .int (nI a11)), (0, .ref x), (1, .int 1), (2, .int y), (3, .ref (la 0)), (4, .ref (la 1)), (5, .ref (la 2)), (6, .ref (la 3)), (7, .ref (la 4)), (8, .ref (la 5)), (9, .ref (la 6)), (10, .ref (la 7))]) C.1 C.2.1 dL_goes_378 hl (by decide) rfl (fun ls hl => ?_)
              refine lv_aload_n C.1 C.2.1 dL_goes_380 rfl (lv_at hl 8 rfl) ?_
              refine lv_iconst (v := 1) C.1 C.2.1 dL_goes_381 rfl ?_
              refine lald (K := 0) (N := 3) (E := 1) (f := (lf 0)) (v := (nI nb)) C hE hH hX (by decide) rfl rfl rfl (by omega) (hc1) dL_goes_382 ?_
              refine lv_iconst (v := 1) C.1 C.2.1 dL_goes_383 rfl ?_
              refine lv_isub C.1 C.2.1 dL_goes_384 ?_
              refine lv_istore (lv' := [(16, .int ((nI nb) - 1)), (15, .int (-1)), (14, .int 0), (13, .ref (la 5)), (12, .int 0), (11, .int (nI a11)), (0, .ref x), (1, .int 1), (2, .int y), (3, .ref (la 0)), (4, .ref (la 1)), (5, .ref (la 2)), (6, .ref (la 3)), (7, .ref (la 4)), (8, .ref (la 5)), (9, .ref (la 6)), (10, .ref (la 7))]) C.1 C.2.1 dL_goes_385 hl (by decide) rfl (fun ls hl => ?_)
              refine lv_iload C.1 C.2.1 dL_goes_387 (lv_at hl 0 rfl) ?_
              refine lv_if_lt (tgt := 500) C.1 C.2.1 dL_goes_389 (by decide) (fun c389 => ?_) (fun c389 => ?_)
              · refine lv_iload C.1 C.2.1 dL_goes_500 (lv_at hl 4 rfl) ?_
                refine lv_if_ne (tgt := 510) C.1 C.2.1 dL_goes_502 (by decide) (fun c502 => ?_) (fun c502 => ?_)
                · exact absurd c502 (by decide)
                · refine lv_bipush (v := -101) C.1 C.2.1 dL_goes_505 rfl ?_
                  refine lv_goto (tgt := 537) C.1 C.2.1 dL_goes_507 (by decide) ?_
                  refine lv_istore (lv' := [(16, .int (-101)), (15, .int (-1)), (14, .int 0), (13, .ref (la 5)), (12, .int 0), (11, .int (nI a11)), (0, .ref x), (1, .int 1), (2, .int y), (3, .ref (la 0)), (4, .ref (la 1)), (5, .ref (la 2)), (6, .ref (la 3)), (7, .ref (la 4)), (8, .ref (la 5)), (9, .ref (la 6)), (10, .ref (la 7))]) C.1 C.2.1 dL_goes_537 hl (by decide) rfl (fun ls hl => ?_)
                  refine lv_iload C.1 C.2.1 dL_goes_539 (lv_at hl 0 rfl) ?_
                  refine lv_if_lt (tgt := 563) C.1 C.2.1 dL_goes_541 (by decide) (fun c541 => ?_) (fun c541 => ?_)
                  · refine lv_aload_n C.1 C.2.1 dL_goes_563 rfl (lv_at hl 6 rfl) ?_
                    refine lv_iconst (v := 0) C.1 C.2.1 dL_goes_564 rfl ?_
                    refine lv_iload C.1 C.2.1 dL_goes_565 (lv_at hl 5 rfl) ?_
                    refine lv_iconst (v := 0) C.1 C.2.1 dL_goes_567 rfl ?_
                    refine wr_go1 (runT C hE hH hS (l_place hlx hI (nI a11) 0) mv_L_pieces wm_605 hl.1 dL_goes_568 rfl rfl ⟨rfl, rfl⟩ ⟨Nat.le_of_ble_eq_true rfl, Nat.le_of_ble_eq_true rfl⟩ (Nat.le_of_ble_eq_true rfl) ⟨Nat.le_of_ble_eq_true rfl, Nat.le_of_ble_eq_true rfl⟩) hS (fun u25 M26 H locs hM26 hH hS => ?_)
                    obtain ⟨hu, hM⟩ := lqC_f hM26 (fun z => hf ((inx_n (a := a11) (n := no) (by omega) (by omega)).mp z))
                    rw [hu]
                    refine lv_iload C.1 C.2.1 dL_goes_571 (lv_at hl 0 rfl) ?_
                    refine lv_icmp_ne (tgt := 580) C.1 C.2.1 dL_goes_573 (by decide) (fun c573 => ?_) (fun c573 => ?_)
                    · exact absurd c573 (by decide)
                    · refine lv_iconst (v := 1) C.1 C.2.1 dL_goes_576 rfl ?_
                      refine lv_goto (tgt := 581) C.1 C.2.1 dL_goes_577 (by decide) ?_
                      exact wr_zret () C hr hlocks (rfl) hH hS rfl ((by rw [hM]; exact hLS)) (by decide) (by decide) dL_goes_581
                  · exact absurd c541 (by decide)
              · refine lv_iload C.1 C.2.1 dL_goes_392 (lv_at hl 4 rfl) ?_
                refine lv_if_eq (tgt := 500) C.1 C.2.1 dL_goes_394 (by decide) (fun c394 => ?_) (fun c394 => ?_)
                · refine lv_iload C.1 C.2.1 dL_goes_500 (lv_at hl 4 rfl) ?_
                  refine lv_if_ne (tgt := 510) C.1 C.2.1 dL_goes_502 (by decide) (fun c502 => ?_) (fun c502 => ?_)
                  · exact absurd c502 (by decide)
                  · refine lv_bipush (v := -101) C.1 C.2.1 dL_goes_505 rfl ?_
                    refine lv_goto (tgt := 537) C.1 C.2.1 dL_goes_507 (by decide) ?_
                    refine lv_istore (lv' := [(16, .int (-101)), (15, .int (-1)), (14, .int 0), (13, .ref (la 5)), (12, .int 0), (11, .int (nI a11)), (0, .ref x), (1, .int 1), (2, .int y), (3, .ref (la 0)), (4, .ref (la 1)), (5, .ref (la 2)), (6, .ref (la 3)), (7, .ref (la 4)), (8, .ref (la 5)), (9, .ref (la 6)), (10, .ref (la 7))]) C.1 C.2.1 dL_goes_537 hl (by decide) rfl (fun ls hl => ?_)
                    refine lv_iload C.1 C.2.1 dL_goes_539 (lv_at hl 0 rfl) ?_
                    refine lv_if_lt (tgt := 563) C.1 C.2.1 dL_goes_541 (by decide) (fun c541 => ?_) (fun c541 => ?_)
                    · refine lv_aload_n C.1 C.2.1 dL_goes_563 rfl (lv_at hl 6 rfl) ?_
                      refine lv_iconst (v := 0) C.1 C.2.1 dL_goes_564 rfl ?_
                      refine lv_iload C.1 C.2.1 dL_goes_565 (lv_at hl 5 rfl) ?_
                      refine lv_iconst (v := 0) C.1 C.2.1 dL_goes_567 rfl ?_
                      refine wr_go1 (runT C hE hH hS (l_place hlx hI (nI a11) 0) mv_L_pieces wm_605 hl.1 dL_goes_568 rfl rfl ⟨rfl, rfl⟩ ⟨Nat.le_of_ble_eq_true rfl, Nat.le_of_ble_eq_true rfl⟩ (Nat.le_of_ble_eq_true rfl) ⟨Nat.le_of_ble_eq_true rfl, Nat.le_of_ble_eq_true rfl⟩) hS (fun u27 M28 H locs hM28 hH hS => ?_)
                      obtain ⟨hu, hM⟩ := lqC_f hM28 (fun z => hf ((inx_n (a := a11) (n := no) (by omega) (by omega)).mp z))
                      rw [hu]
                      refine lv_iload C.1 C.2.1 dL_goes_571 (lv_at hl 0 rfl) ?_
                      refine lv_icmp_ne (tgt := 580) C.1 C.2.1 dL_goes_573 (by decide) (fun c573 => ?_) (fun c573 => ?_)
                      · exact absurd c573 (by decide)
                      · refine lv_iconst (v := 1) C.1 C.2.1 dL_goes_576 rfl ?_
                        refine lv_goto (tgt := 581) C.1 C.2.1 dL_goes_577 (by decide) ?_
                        exact wr_zret () C hr hlocks (rfl) hH hS rfl ((by rw [hM]; exact hLS)) (by decide) (by decide) dL_goes_581
                    · exact absurd c541 (by decide)
                · exact absurd c394 (by decide)
          · exact absurd c356 (by decide)
        · have n342 : ¬ 10 ≤ a11 := fun z => c342 ((nI_leI (a := 10) (b := a11) (by omega) (by omega)).mpr z)
          refine lv_aload C.1 C.2.1 dL_goes_345 (lv_at hl 9 rfl) ?_
          refine lv_goto (tgt := 352) C.1 C.2.1 dL_goes_347 (by decide) ?_
          refine lv_astore (lv' := [(13, .ref (la 4)), (12, .int 0), (11, .int (nI a11)), (0, .ref x), (1, .int 1), (2, .int y), (3, .ref (la 0)), (4, .ref (la 1)), (5, .ref (la 2)), (6, .ref (la 3)), (7, .ref (la 4)), (8, .ref (la 5)), (9, .ref (la 6)), (10, .ref (la 7))]) C.1 C.2.1 dL_goes_352 hl (by decide) rfl (fun ls hl => ?_)
          refine lv_iload C.1 C.2.1 dL_goes_354 (lv_at hl 1 rfl) ?_
          refine lv_if_eq (tgt := 369) C.1 C.2.1 dL_goes_356 (by decide) (fun c356 => ?_) (fun c356 => ?_)
          · refine lv_iconst (v := 0) C.1 C.2.1 dL_goes_369 rfl ?_
            refine lv_istore (lv' := [(14, .int 0), (13, .ref (la 4)), (12, .int 0), (11, .int (nI a11)), (0, .ref x), (1, .int 1), (2, .int y), (3, .ref (la 0)), (4, .ref (la 1)), (5, .ref (la 2)), (6, .ref (la 3)), (7, .ref (la 4)), (8, .ref (la 5)), (9, .ref (la 6)), (10, .ref (la 7))]) C.1 C.2.1 dL_goes_370 hl (by decide) rfl (fun ls hl => ?_)
            refine lv_iload_n C.1 C.2.1 dL_goes_372 rfl (lv_at hl 5 rfl) ?_
            refine lv_iconst (v := 1) C.1 C.2.1 dL_goes_373 rfl ?_
            refine lv_icmp_ne (tgt := 582) C.1 C.2.1 dL_goes_374 (by decide) (fun c374 => ?_) (fun c374 => ?_)
            · exact absurd c374 (by decide)
            · refine lv_iconst (v := -1) C.1 C.2.1 dL_goes_377 rfl ?_
              refine lv_istore (lv' := [(15, .int (-1)), (14, .int 0), (13, .ref (la 4)), (12, .int 0), (11, .int (nI a11)), (0, .ref x), (1, .int 1), (2, .int y), (3, .ref (la 0)), (4, .ref (la 1)), (5, .ref (la 2)), (6, .ref (la 3)), (7, .ref (la 4)), (8, .ref (la 5)), (9, .ref (la 6)), (10, .ref (la 7))]) C.1 C.2.1 dL_goes_378 hl (by decide) rfl (fun ls hl => ?_)
              refine lv_aload_n C.1 C.2.1 dL_goes_380 rfl (lv_at hl 8 rfl) ?_
              refine lv_iconst (v := 1) C.1 C.2.1 dL_goes_381 rfl ?_
              refine lald (K := 0) (N := 3) (E := 1) (f := (lf 0)) (v := (nI nb)) C hE hH hX (by decide) rfl rfl rfl (by omega) (hc1) dL_goes_382 ?_
              refine lv_iconst (v := 1) C.1 C.2.1 dL_goes_383 rfl ?_
              refine lv_isub C.1 C.2.1 dL_goes_384 ?_
              refine lv_istore (lv' := [(16, .int ((nI nb) - 1)), (15, .int (-1)), (14, .int 0), (13, .ref (la 4)), (12, .int 0), (11, .int (nI a11)), (0, .ref x), (1, .int 1), (2, .int y), (3, .ref (la 0)), (4, .ref (la 1)), (5, .ref (la 2)), (6, .ref (la 3)), (7, .ref (la 4)), (8, .ref (la 5)), (9, .ref (la 6)), (10, .ref (la 7))]) C.1 C.2.1 dL_goes_385 hl (by decide) rfl (fun ls hl => ?_)
              refine lv_iload C.1 C.2.1 dL_goes_387 (lv_at hl 0 rfl) ?_
              refine lv_if_lt (tgt := 500) C.1 C.2.1 dL_goes_389 (by decide) (fun c389 => ?_) (fun c389 => ?_)
              · refine lv_iload C.1 C.2.1 dL_goes_500 (lv_at hl 4 rfl) ?_
                refine lv_if_ne (tgt := 510) C.1 C.2.1 dL_goes_502 (by decide) (fun c502 => ?_) (fun c502 => ?_)
                · exact absurd c502 (by decide)
                · refine lv_bipush (v := -101) C.1 C.2.1 dL_goes_505 rfl ?_
                  refine lv_goto (tgt := 537) C.1 C.2.1 dL_goes_507 (by decide) ?_
                  refine lv_istore (lv' := [(16, .int (-101)), (15, .int (-1)), (14, .int 0), (13, .ref (la 4)), (12, .int 0), (11, .int (nI a11)), (0, .ref x), (1, .int 1), (2, .int y), (3, .ref (la 0)), (4, .ref (la 1)), (5, .ref (la 2)), (6, .ref (la 3)), (7, .ref (la 4)), (8, .ref (la 5)), (9, .ref (la 6)), (10, .ref (la 7))]) C.1 C.2.1 dL_goes_537 hl (by decide) rfl (fun ls hl => ?_)
                  refine lv_iload C.1 C.2.1 dL_goes_539 (lv_at hl 0 rfl) ?_
                  refine lv_if_lt (tgt := 563) C.1 C.2.1 dL_goes_541 (by decide) (fun c541 => ?_) (fun c541 => ?_)
                  · refine lv_aload_n C.1 C.2.1 dL_goes_563 rfl (lv_at hl 6 rfl) ?_
                    refine lv_iconst (v := 0) C.1 C.2.1 dL_goes_564 rfl ?_
                    refine lv_iload C.1 C.2.1 dL_goes_565 (lv_at hl 5 rfl) ?_
                    refine lv_iconst (v := 0) C.1 C.2.1 dL_goes_567 rfl ?_
                    refine wr_go1 (runT C hE hH hS (l_place hlx hI (nI a11) 0) mv_L_pieces wm_605 hl.1 dL_goes_568 rfl rfl ⟨rfl, rfl⟩ ⟨Nat.le_of_ble_eq_true rfl, Nat.le_of_ble_eq_true rfl⟩ (Nat.le_of_ble_eq_true rfl) ⟨Nat.le_of_ble_eq_true rfl, Nat.le_of_ble_eq_true rfl⟩) hS (fun u29 M30 H locs hM30 hH hS => ?_)
                    obtain ⟨hu, hM⟩ := lqC_f hM30 (fun z => hf ((inx_n (a := a11) (n := no) (by omega) (by omega)).mp z))
                    rw [hu]
                    refine lv_iload C.1 C.2.1 dL_goes_571 (lv_at hl 0 rfl) ?_
                    refine lv_icmp_ne (tgt := 580) C.1 C.2.1 dL_goes_573 (by decide) (fun c573 => ?_) (fun c573 => ?_)
                    · exact absurd c573 (by decide)
                    · refine lv_iconst (v := 1) C.1 C.2.1 dL_goes_576 rfl ?_
                      refine lv_goto (tgt := 581) C.1 C.2.1 dL_goes_577 (by decide) ?_
                      exact wr_zret () C hr hlocks (rfl) hH hS rfl ((by rw [hM]; exact hLS)) (by decide) (by decide) dL_goes_581
                  · exact absurd c541 (by decide)
              · refine lv_iload C.1 C.2.1 dL_goes_392 (lv_at hl 4 rfl) ?_
                refine lv_if_eq (tgt := 500) C.1 C.2.1 dL_goes_394 (by decide) (fun c394 => ?_) (fun c394 => ?_)
                · refine lv_iload C.1 C.2.1 dL_goes_500 (lv_at hl 4 rfl) ?_
                  refine lv_if_ne (tgt := 510) C.1 C.2.1 dL_goes_502 (by decide) (fun c502 => ?_) (fun c502 => ?_)
                  · exact absurd c502 (by decide)
                  · refine lv_bipush (v := -101) C.1 C.2.1 dL_goes_505 rfl ?_
                    refine lv_goto (tgt := 537) C.1 C.2.1 dL_goes_507 (by decide) ?_
                    refine lv_istore (lv' := [(16, .int (-101)), (15, .int (-1)), (14, .int 0), (13, .ref (la 4)), (12, .int 0), (11, .int (nI a11)), (0, .ref x), (1, .int 1), (2, .int y), (3, .ref (la 0)), (4, .ref (la 1)), (5, .ref (la 2)), (6, .ref (la 3)), (7, .ref (la 4)), (8, .ref (la 5)), (9, .ref (la 6)), (10, .ref (la 7))]) C.1 C.2.1 dL_goes_537 hl (by decide) rfl (fun ls hl => ?_)
                    refine lv_iload C.1 C.2.1 dL_goes_539 (lv_at hl 0 rfl) ?_
                    refine lv_if_lt (tgt := 563) C.1 C.2.1 dL_goes_541 (by decide) (fun c541 => ?_) (fun c541 => ?_)
                    · refine lv_aload_n C.1 C.2.1 dL_goes_563 rfl (lv_at hl 6 rfl) ?_
                      refine lv_iconst (v := 0) C.1 C.2.1 dL_goes_564 rfl ?_
                      refine lv_iload C.1 C.2.1 dL_goes_565 (lv_at hl 5 rfl) ?_
                      refine lv_iconst (v := 0) C.1 C.2.1 dL_goes_567 rfl ?_
                      refine wr_go1 (runT C hE hH hS (l_place hlx hI (nI a11) 0) mv_L_pieces wm_605 hl.1 dL_goes_568 rfl rfl ⟨rfl, rfl⟩ ⟨Nat.le_of_ble_eq_true rfl, Nat.le_of_ble_eq_true rfl⟩ (Nat.le_of_ble_eq_true rfl) ⟨Nat.le_of_ble_eq_true rfl, Nat.le_of_ble_eq_true rfl⟩) hS (fun u31 M32 H locs hM32 hH hS => ?_)
                      obtain ⟨hu, hM⟩ := lqC_f hM32 (fun z => hf ((inx_n (a := a11) (n := no) (by omega) (by omega)).mp z))
                      rw [hu]
                      refine lv_iload C.1 C.2.1 dL_goes_571 (lv_at hl 0 rfl) ?_
                      refine lv_icmp_ne (tgt := 580) C.1 C.2.1 dL_goes_573 (by decide) (fun c573 => ?_) (fun c573 => ?_)
                      · exact absurd c573 (by decide)
                      · refine lv_iconst (v := 1) C.1 C.2.1 dL_goes_576 rfl ?_
                        refine lv_goto (tgt := 581) C.1 C.2.1 dL_goes_577 (by decide) ?_
                        exact wr_zret () C hr hlocks (rfl) hH hS rfl ((by rw [hM]; exact hLS)) (by decide) (by decide) dL_goes_581
                    · exact absurd c541 (by decide)
                · exact absurd c394 (by decide)
          · exact absurd c356 (by decide)
      refine lv_iload C.1 C.2.1 dL_goes_318 (lv_at hl 0 rfl) ?_
      refine lv_if_lt (tgt := 335) C.1 C.2.1 dL_goes_320 (by decide) (fun c320 => ?_) (fun c320 => ?_)
      · exact absurd (n_ge (by omega) (by decide)) (n_nlt c320)
      · refine lv_iload C.1 C.2.1 dL_goes_323 (lv_at hl 0 rfl) ?_
        refine lv_aload_n C.1 C.2.1 dL_goes_325 rfl (lv_at hl 4 rfl) ?_
        refine lv_iconst (v := 2) C.1 C.2.1 dL_goes_326 rfl ?_
        refine lald (K := 0) (N := 3) (E := 2) (f := (lf 0)) (v := (nI no)) C hE hH hX (by decide) rfl rfl rfl (by omega) (hc2) dL_goes_327 ?_
        refine lv_icmp_ge (tgt := 335) C.1 C.2.1 dL_goes_328 (by decide) (fun c328 => ?_) (fun c328 => ?_)
        · have n328 : no ≤ a11 := (nI_leI (a := no) (b := a11) (by omega) (by omega)).mp c328
          refine lv_iconst (v := 0) C.1 C.2.1 dL_goes_335 rfl ?_
          exact J336f (by omega) ls (hl)
        · have n328 : ¬ no ≤ a11 := fun z => c328 ((nI_leI (a := no) (b := a11) (by omega) (by omega)).mpr z)
          refine lv_iconst (v := 1) C.1 C.2.1 dL_goes_331 rfl ?_
          refine lv_goto (tgt := 336) C.1 C.2.1 dL_goes_332 (by decide) ?_
          exact J336t (by omega) ls (hl)
    refine lv_iload_n C.1 C.2.1 dL_goes_256 rfl (lv_at hl 2 rfl) ?_
    refine lv_iconst (v := 3) C.1 C.2.1 dL_goes_257 rfl ?_
    refine some_go (N := 3) (runS C hE hH hS (c_some (n := 3) (N := 3) rfl (by omega) (by omega) y) mv_L_some wm_121 hl.1 dL_goes_258 rfl rfl ⟨rfl, rfl⟩ ⟨Nat.le_of_ble_eq_true rfl, Nat.le_of_ble_eq_true rfl⟩ (Nat.le_of_ble_eq_true rfl) ⟨Nat.le_of_ble_eq_true rfl, Nat.le_of_ble_eq_true rfl⟩) rfl (by omega) (by omega) (fun k258 hk258 => ?_)
    refine lv_if_ne (tgt := 278) C.1 C.2.1 dL_goes_261 (by decide) (fun c261 => ?_) (fun c261 => ?_)
    · have n261 : ¬ k258 = 0 := fun z => c261 (congrArg nI z)
      refine lv_aload_n C.1 C.2.1 dL_goes_278 rfl (lv_at hl 3 rfl) ?_
      refine lv_iconst (v := 2) C.1 C.2.1 dL_goes_279 rfl ?_
      refine lald (K := 0) (N := 3) (E := 2) (f := (lf 0)) (v := (nI no)) C hE hH hX (by decide) rfl rfl rfl (by omega) (hc2) dL_goes_280 ?_
      refine lv_if_ne (tgt := 288) C.1 C.2.1 dL_goes_281 (by decide) (fun c281 => ?_) (fun c281 => ?_)
      · have n281 : ¬ no = 0 := fun z => c281 (congrArg nI z)
        refine lv_aload_n C.1 C.2.1 dL_goes_288 rfl (lv_at hl 3 rfl) ?_
        refine lv_iconst (v := 2) C.1 C.2.1 dL_goes_289 rfl ?_
        refine lald (K := 0) (N := 3) (E := 2) (f := (lf 0)) (v := (nI no)) C hE hH hX (by decide) rfl rfl rfl (by omega) (hc2) dL_goes_290 ?_
        refine lv_iconst (v := 1) C.1 C.2.1 dL_goes_291 rfl ?_
        refine lv_isub C.1 C.2.1 dL_goes_292 ?_
        rw [show (nI no - 1 : Int32) = nI (no - 1) from nI_S (a := no) (b := 1) (by omega)]
        refine lv_iload_n C.1 C.2.1 dL_goes_293 rfl (lv_at hl 2 rfl) ?_
        refine lv_iconst (v := 3) C.1 C.2.1 dL_goes_294 rfl ?_
        refine lv_ishr C.1 C.2.1 dL_goes_295 ?_
        refine lv_aload_n C.1 C.2.1 dL_goes_296 rfl (lv_at hl 3 rfl) ?_
        refine lv_iconst (v := 2) C.1 C.2.1 dL_goes_297 rfl ?_
        refine lald (K := 0) (N := 3) (E := 2) (f := (lf 0)) (v := (nI no)) C hE hH hX (by decide) rfl rfl rfl (by omega) (hc2) dL_goes_298 ?_
        refine lv_bipush (v := 6) C.1 C.2.1 dL_goes_299 rfl ?_
        refine lv_icmp_ge (tgt := 310) C.1 C.2.1 dL_goes_301 (by decide) (fun c301 => ?_) (fun c301 => ?_)
        · have n301 : 6 ≤ no := (nI_leI (a := 6) (b := no) (by omega) (by omega)).mp c301
          refine lv_bipush (v := 6) C.1 C.2.1 dL_goes_310 rfl ?_
          refine some_go (N := 6) (runS C hE hH hS (c_some (n := 6) (N := 6) rfl (by omega) (by omega) (y >>> (3 &&& 31))) mv_L_some wm_121 hl.1 dL_goes_312 rfl rfl ⟨rfl, rfl⟩ ⟨Nat.le_of_ble_eq_true rfl, Nat.le_of_ble_eq_true rfl⟩ (Nat.le_of_ble_eq_true rfl) ⟨Nat.le_of_ble_eq_true rfl, Nat.le_of_ble_eq_true rfl⟩) rfl (by omega) (by omega) (fun k312 hk312 => ?_)
          refine lv_isub C.1 C.2.1 dL_goes_315 ?_
          rw [show (nI (no - 1) - nI k312 : Int32) = nI (no - 1 - k312) from nI_S (by omega)]
          exact J316p (no - 1 - k312) (by omega) ls (hl)
        · have n301 : ¬ 6 ≤ no := fun z => c301 ((nI_leI (a := 6) (b := no) (by omega) (by omega)).mpr z)
          refine lv_aload_n C.1 C.2.1 dL_goes_304 rfl (lv_at hl 3 rfl) ?_
          refine lv_iconst (v := 2) C.1 C.2.1 dL_goes_305 rfl ?_
          refine lald (K := 0) (N := 3) (E := 2) (f := (lf 0)) (v := (nI no)) C hE hH hX (by decide) rfl rfl rfl (by omega) (hc2) dL_goes_306 ?_
          refine lv_goto (tgt := 312) C.1 C.2.1 dL_goes_307 (by decide) ?_
          refine some_go (N := no) (runS C hE hH hS (c_some (n := nI no) (N := no) rfl (by omega) (by omega) (y >>> (3 &&& 31))) mv_L_some wm_121 hl.1 dL_goes_312 rfl rfl ⟨rfl, rfl⟩ ⟨Nat.le_of_ble_eq_true rfl, Nat.le_of_ble_eq_true rfl⟩ (Nat.le_of_ble_eq_true rfl) ⟨Nat.le_of_ble_eq_true rfl, Nat.le_of_ble_eq_true rfl⟩) rfl (by omega) (by omega) (fun k312 hk312 => ?_)
          refine lv_isub C.1 C.2.1 dL_goes_315 ?_
          rw [show (nI (no - 1) - nI k312 : Int32) = nI (no - 1 - k312) from nI_S (by omega)]
          exact J316p (no - 1 - k312) (by omega) ls (hl)
      · have n281 : no = 0 := nI_inj (by omega) (by omega) c281
        refine lv_iconst (v := -1) C.1 C.2.1 dL_goes_284 rfl ?_
        refine lv_goto (tgt := 316) C.1 C.2.1 dL_goes_285 (by decide) ?_
        exact J316m  ls (hl)
    · have n261 : k258 = 0 := nI_inj (by omega) (by omega) c261
      refine lv_iload_n C.1 C.2.1 dL_goes_264 rfl (lv_at hl 2 rfl) ?_
      refine lv_iconst (v := 3) C.1 C.2.1 dL_goes_265 rfl ?_
      refine lv_ishr C.1 C.2.1 dL_goes_266 ?_
      refine lv_aload_n C.1 C.2.1 dL_goes_267 rfl (lv_at hl 3 rfl) ?_
      refine lv_iconst (v := 2) C.1 C.2.1 dL_goes_268 rfl ?_
      refine lald (K := 0) (N := 3) (E := 2) (f := (lf 0)) (v := (nI no)) C hE hH hX (by decide) rfl rfl rfl (by omega) (hc2) dL_goes_269 ?_
      refine lv_iconst (v := 1) C.1 C.2.1 dL_goes_270 rfl ?_
      refine lv_iadd C.1 C.2.1 dL_goes_271 ?_
      rw [show ((nI no) + 1 : Int32) = nI (no + 1) from nI_add no 1]
      refine some_go (N := no + 1) (runS C hE hH hS (c_some (n := nI (no + 1)) (N := no + 1) rfl (by omega) (by omega) (y >>> (3 &&& 31))) mv_L_some wm_121 hl.1 dL_goes_272 rfl rfl ⟨rfl, rfl⟩ ⟨Nat.le_of_ble_eq_true rfl, Nat.le_of_ble_eq_true rfl⟩ (Nat.le_of_ble_eq_true rfl) ⟨Nat.le_of_ble_eq_true rfl, Nat.le_of_ble_eq_true rfl⟩) rfl (by omega) (by omega) (fun k272 hk272 => ?_)
      refine lv_goto (tgt := 316) C.1 C.2.1 dL_goes_275 (by decide) ?_
      exact J316p k272 (by omega) ls (hl)
  · exact absurd c1 (by decide)
set_option maxHeartbeats 4000000 in
set_option maxRecDepth 100000 in
theorem g_dye {l : Launch} {g : gG} {M : Mp} {la : Nat → Nat} {x n : Nat}  (hlx : l.stackTraces = false) (hLS : WS g M x la n) (y : Int32) : Met l yL_goes (WY yL_goes cL_goes 18 (some .boolean)) { frames := 11, cells := 6, slots := 230, locals := 283 } (Wc g M [.ref x, .int 2, .int y, .ref (la 0), .ref (la 1), .ref (la 2), .ref (la 3), .ref (la 4), .ref (la 5), .ref (la 6), .ref (la 7)]) (wrQ (S := Unit) g (fun u_ => (some (.int 1))) (fun u_ M_ => WS g M_ x la n)) 6 230 (gA g) := by
  refine ofM (by decide +kernel) (Nat.le_of_ble_eq_true rfl) (fun p e s m args below meth c ls C hr hlocks hin hE hH hl ea => ?_)
  have hl : lv_has ls 18 [(0, .ref x), (1, .int 2), (2, .int y), (3, .ref (la 0)), (4, .ref (la 1)), (5, .ref (la 2)), (6, .ref (la 3)), (7, .ref (la 4)), (8, .ref (la 5)), (9, .ref (la 6)), (10, .ref (la 7))] := hl
  have hS : va_S (gA g) s.heap s.heap [] := va_S.rf
  obtain ⟨tg, A, pr, br, np, hh, ne, nb, no, sc, ar, lf, hI, hL, hT, hR, hN⟩ := id hLS
  have hX := LX_rf hL
  obtain ⟨⟨hs0, hs5, hs9⟩, iX, iE, iB, iO, iW, iBl, iC⟩ := id hI
  obtain ⟨⟨hc0, hc1, hc2⟩, ⟨sne, snb, sno⟩, rE, ⟨rW, rY⟩, rB, rO, rM, rD, rZ⟩ := id hR
  refine lv_iload_n C.1 C.2.1 dL_goes_0 rfl (lv_at hl 1 rfl) ?_
  refine lv_if_ne (tgt := 256) C.1 C.2.1 dL_goes_1 (by decide) (fun c1 => ?_) (fun c1 => ?_)
  · have J316m : ∀ (ls : Array Slot), lv_has ls 18 [(0, .ref x), (1, .int 2), (2, .int y), (3, .ref (la 0)), (4, .ref (la 1)), (5, .ref (la 2)), (6, .ref (la 3)), (7, .ref (la 4)), (8, .ref (la 5)), (9, .ref (la 6)), (10, .ref (la 7))] → W p l e { frames := 11, cells := 6, slots := 230, locals := 283 } s m args below meth c s.heap [] 0 0 (MQ below (wrQ (S := Unit) g (fun u_ => (some (.int 1))) (fun u_ M_ => WS g M_ x la n)) args s 6 230 (gA g)) (F0 m 316 ls [.int (-1)]) := by
      intro   ls hl
      refine lv_istore (lv' := [(11, .int (-1)), (0, .ref x), (1, .int 2), (2, .int y), (3, .ref (la 0)), (4, .ref (la 1)), (5, .ref (la 2)), (6, .ref (la 3)), (7, .ref (la 4)), (8, .ref (la 5)), (9, .ref (la 6)), (10, .ref (la 7))]) C.1 C.2.1 dL_goes_316 hl (by decide) rfl (fun ls hl => ?_)
      have J336f : ∀ (ls : Array Slot), lv_has ls 18 [(11, .int (-1)), (0, .ref x), (1, .int 2), (2, .int y), (3, .ref (la 0)), (4, .ref (la 1)), (5, .ref (la 2)), (6, .ref (la 3)), (7, .ref (la 4)), (8, .ref (la 5)), (9, .ref (la 6)), (10, .ref (la 7))] → W p l e { frames := 11, cells := 6, slots := 230, locals := 283 } s m args below meth c s.heap [] 0 0 (MQ below (wrQ (S := Unit) g (fun u_ => (some (.int 1))) (fun u_ M_ => WS g M_ x la n)) args s 6 230 (gA g)) (F0 m 336 ls [.int 0]) := by
        intro   ls hl
        refine lv_istore (lv' := [(12, .int 0), (11, .int (-1)), (0, .ref x), (1, .int 2), (2, .int y), (3, .ref (la 0)), (4, .ref (la 1)), (5, .ref (la 2)), (6, .ref (la 3)), (7, .ref (la 4)), (8, .ref (la 5)), (9, .ref (la 6)), (10, .ref (la 7))]) C.1 C.2.1 dL_goes_336 hl (by decide) rfl (fun ls hl => ?_)
        refine lv_iload C.1 C.2.1 dL_goes_338 (lv_at hl 1 rfl) ?_
        refine lv_bipush (v := 10) C.1 C.2.1 dL_goes_340 rfl ?_
        refine lv_icmp_ge (tgt := 350) C.1 C.2.1 dL_goes_342 (by decide) (fun c342 => ?_) (fun c342 => ?_)
        · exact absurd c342 (by decide)
        · refine lv_aload C.1 C.2.1 dL_goes_345 (lv_at hl 9 rfl) ?_
          refine lv_goto (tgt := 352) C.1 C.2.1 dL_goes_347 (by decide) ?_
          refine lv_astore (lv' := [(13, .ref (la 4)), (12, .int 0), (11, .int (-1)), (0, .ref x), (1, .int 2), (2, .int y), (3, .ref (la 0)), (4, .ref (la 1)), (5, .ref (la 2)), (6, .ref (la 3)), (7, .ref (la 4)), (8, .ref (la 5)), (9, .ref (la 6)), (10, .ref (la 7))]) C.1 C.2.1 dL_goes_352 hl (by decide) rfl (fun ls hl => ?_)
          refine lv_iload C.1 C.2.1 dL_goes_354 (lv_at hl 1 rfl) ?_
          refine lv_if_eq (tgt := 369) C.1 C.2.1 dL_goes_356 (by decide) (fun c356 => ?_) (fun c356 => ?_)
          · refine lv_iconst (v := 0) C.1 C.2.1 dL_goes_369 rfl ?_
            refine lv_istore (lv' := [(14, .int 0), (13, .ref (la 4)), (12, .int 0), (11, .int (-1)), (0, .ref x), (1, .int 2), (2, .int y), (3, .ref (la 0)), (4, .ref (la 1)), (5, .ref (la 2)), (6, .ref (la 3)), (7, .ref (la 4)), (8, .ref (la 5)), (9, .ref (la 6)), (10, .ref (la 7))]) C.1 C.2.1 dL_goes_370 hl (by decide) rfl (fun ls hl => ?_)
            refine lv_iload_n C.1 C.2.1 dL_goes_372 rfl (lv_at hl 5 rfl) ?_
            refine lv_iconst (v := 1) C.1 C.2.1 dL_goes_373 rfl ?_
            refine lv_icmp_ne (tgt := 582) C.1 C.2.1 dL_goes_374 (by decide) (fun c374 => ?_) (fun c374 => ?_)
            · refine lv_iload_n C.1 C.2.1 dL_goes_582 rfl (lv_at hl 5 rfl) ?_
              refine lv_iconst (v := 2) C.1 C.2.1 dL_goes_583 rfl ?_
              refine lv_icmp_ne (tgt := 719) C.1 C.2.1 dL_goes_584 (by decide) (fun c584 => ?_) (fun c584 => ?_)
              · exact absurd c584 (by decide)
              · refine lv_iload_n C.1 C.2.1 dL_goes_587 rfl (lv_at hl 6 rfl) ?_
                refine lv_iconst (v := 5) C.1 C.2.1 dL_goes_588 rfl ?_
                refine lv_ishr C.1 C.2.1 dL_goes_589 ?_
                refine lv_aload_n C.1 C.2.1 dL_goes_590 rfl (lv_at hl 7 rfl) ?_
                refine lv_iconst (v := 1) C.1 C.2.1 dL_goes_591 rfl ?_
                refine lald (K := 0) (N := 3) (E := 1) (f := (lf 0)) (v := (nI nb)) C hE hH hX (by decide) rfl rfl rfl (by omega) (hc1) dL_goes_592 ?_
                refine lv_iconst (v := 1) C.1 C.2.1 dL_goes_593 rfl ?_
                refine lv_iadd C.1 C.2.1 dL_goes_594 ?_
                rw [show ((nI nb) + 1 : Int32) = nI (nb + 1) from nI_add nb 1]
                refine some_go (N := nb + 1) (runS C hE hH hS (c_some (n := nI (nb + 1)) (N := nb + 1) rfl (by omega) (by omega) (y >>> (5 &&& 31))) mv_L_some wm_121 hl.1 dL_goes_595 rfl rfl ⟨rfl, rfl⟩ ⟨Nat.le_of_ble_eq_true rfl, Nat.le_of_ble_eq_true rfl⟩ (Nat.le_of_ble_eq_true rfl) ⟨Nat.le_of_ble_eq_true rfl, Nat.le_of_ble_eq_true rfl⟩) rfl (by omega) (by omega) (fun k595 hk595 => ?_)
                refine lv_istore (lv' := [(15, .int (nI k595)), (14, .int 0), (13, .ref (la 4)), (12, .int 0), (11, .int (-1)), (0, .ref x), (1, .int 2), (2, .int y), (3, .ref (la 0)), (4, .ref (la 1)), (5, .ref (la 2)), (6, .ref (la 3)), (7, .ref (la 4)), (8, .ref (la 5)), (9, .ref (la 6)), (10, .ref (la 7))]) C.1 C.2.1 dL_goes_598 hl (by decide) rfl (fun ls hl => ?_)
                refine lv_iload C.1 C.2.1 dL_goes_600 (lv_at hl 3 rfl) ?_
                refine lv_if_eq (tgt := 613) C.1 C.2.1 dL_goes_602 (by decide) (fun c602 => ?_) (fun c602 => ?_)
                · refine lv_bipush (v := -101) C.1 C.2.1 dL_goes_613 rfl ?_
                  refine lv_goto (tgt := 673) C.1 C.2.1 dL_goes_615 (by decide) ?_
                  refine lv_istore (lv' := [(16, .int (-101)), (15, .int (nI k595)), (14, .int 0), (13, .ref (la 4)), (12, .int 0), (11, .int (-1)), (0, .ref x), (1, .int 2), (2, .int y), (3, .ref (la 0)), (4, .ref (la 1)), (5, .ref (la 2)), (6, .ref (la 3)), (7, .ref (la 4)), (8, .ref (la 5)), (9, .ref (la 6)), (10, .ref (la 7))]) C.1 C.2.1 dL_goes_673 hl (by decide) rfl (fun ls hl => ?_)
                  refine lv_iload C.1 C.2.1 dL_goes_675 (lv_at hl 0 rfl) ?_
                  refine lv_if_lt (tgt := 699) C.1 C.2.1 dL_goes_677 (by decide) (fun c677 => ?_) (fun c677 => ?_)
                  · refine lv_aload_n C.1 C.2.1 dL_goes_699 rfl (lv_at hl 6 rfl) ?_
                    refine lv_iconst (v := 2) C.1 C.2.1 dL_goes_700 rfl ?_
                    refine lv_iload C.1 C.2.1 dL_goes_701 (lv_at hl 5 rfl) ?_
                    refine lv_iload C.1 C.2.1 dL_goes_703 (lv_at hl 1 rfl) ?_
                    refine wr_go1 (runT C hE hH hS (l_dye hlx hI (-1) (nI k595)) mv_L_two wm_313 hl.1 dL_goes_705 rfl rfl ⟨rfl, rfl⟩ ⟨Nat.le_of_ble_eq_true rfl, Nat.le_of_ble_eq_true rfl⟩ (Nat.le_of_ble_eq_true rfl) ⟨Nat.le_of_ble_eq_true rfl, Nat.le_of_ble_eq_true rfl⟩) hS (fun u1 M2 H locs hM2 hH hS => ?_)
                    obtain ⟨hu, hM⟩ := lqC_f hM2 (fun z => z.1.1 (by decide))
                    rw [hu]
                    refine lv_iload C.1 C.2.1 dL_goes_708 (lv_at hl 0 rfl) ?_
                    refine lv_icmp_ne (tgt := 717) C.1 C.2.1 dL_goes_710 (by decide) (fun c710 => ?_) (fun c710 => ?_)
                    · exact absurd c710 (by decide)
                    · refine lv_iconst (v := 1) C.1 C.2.1 dL_goes_713 rfl ?_
                      refine lv_goto (tgt := 718) C.1 C.2.1 dL_goes_714 (by decide) ?_
                      exact wr_zret () C hr hlocks (rfl) hH hS rfl ((by rw [hM]; exact hLS)) (by decide) (by decide) dL_goes_718
                  · exact absurd c677 (by decide)
                · exact absurd c602 (by decide)
            · exact absurd c374 (by decide)
          · exact absurd c356 (by decide)
      refine lv_iload C.1 C.2.1 dL_goes_318 (lv_at hl 0 rfl) ?_
      refine lv_if_lt (tgt := 335) C.1 C.2.1 dL_goes_320 (by decide) (fun c320 => ?_) (fun c320 => ?_)
      · refine lv_iconst (v := 0) C.1 C.2.1 dL_goes_335 rfl ?_
        exact J336f  ls (hl)
      · exact absurd c320 (by decide)
    have J316p : ∀ (a11 : Nat) (h11 : a11 ≤ no) (ls : Array Slot), lv_has ls 18 [(0, .ref x), (1, .int 2), (2, .int y), (3, .ref (la 0)), (4, .ref (la 1)), (5, .ref (la 2)), (6, .ref (la 3)), (7, .ref (la 4)), (8, .ref (la 5)), (9, .ref (la 6)), (10, .ref (la 7))] → W p l e { frames := 11, cells := 6, slots := 230, locals := 283 } s m args below meth c s.heap [] 0 0 (MQ below (wrQ (S := Unit) g (fun u_ => (some (.int 1))) (fun u_ M_ => WS g M_ x la n)) args s 6 230 (gA g)) (F0 m 316 ls [.int (nI a11)]) := by
      intro a11 h11 ls hl
      refine lv_istore (lv' := [(11, .int (nI a11)), (0, .ref x), (1, .int 2), (2, .int y), (3, .ref (la 0)), (4, .ref (la 1)), (5, .ref (la 2)), (6, .ref (la 3)), (7, .ref (la 4)), (8, .ref (la 5)), (9, .ref (la 6)), (10, .ref (la 7))]) C.1 C.2.1 dL_goes_316 hl (by decide) rfl (fun ls hl => ?_)
      have J336t : ∀ (hf : a11 < no) (ls : Array Slot), lv_has ls 18 [(11, .int (nI a11)), (0, .ref x), (1, .int 2), (2, .int y), (3, .ref (la 0)), (4, .ref (la 1)), (5, .ref (la 2)), (6, .ref (la 3)), (7, .ref (la 4)), (8, .ref (la 5)), (9, .ref (la 6)), (10, .ref (la 7))] → W p l e { frames := 11, cells := 6, slots := 230, locals := 283 } s m args below meth c s.heap [] 0 0 (MQ below (wrQ (S := Unit) g (fun u_ => (some (.int 1))) (fun u_ M_ => WS g M_ x la n)) args s 6 230 (gA g)) (F0 m 336 ls [.int 1]) := by
        intro  hf ls hl
        refine lv_istore (lv' := [(12, .int 1), (11, .int (nI a11)), (0, .ref x), (1, .int 2), (2, .int y), (3, .ref (la 0)), (4, .ref (la 1)), (5, .ref (la 2)), (6, .ref (la 3)), (7, .ref (la 4)), (8, .ref (la 5)), (9, .ref (la 6)), (10, .ref (la 7))]) C.1 C.2.1 dL_goes_336 hl (by decide) rfl (fun ls hl => ?_)
        refine lv_iload C.1 C.2.1 dL_goes_338 (lv_at hl 1 rfl) ?_
        refine lv_bipush (v := 10) C.1 C.2.1 dL_goes_340 rfl ?_
        refine lv_icmp_ge (tgt := 350) C.1 C.2.1 dL_goes_342 (by decide) (fun c342 => ?_) (fun c342 => ?_)
        · have n342 : 10 ≤ a11 := (nI_leI (a := 10) (b := a11) (by omega) (by omega)).mp c342
          refine lv_aload C.1 C.2.1 dL_goes_350 (lv_at hl 10 rfl) ?_
          refine lv_astore (lv' := [(13, .ref (la 5)), (12, .int 1), (11, .int (nI a11)), (0, .ref x), (1, .int 2), (2, .int y), (3, .ref (la 0)), (4, .ref (la 1)), (5, .ref (la 2)), (6, .ref (la 3)), (7, .ref (la 4)), (8, .ref (la 5)), (9, .ref (la 6)), (10, .ref (la 7))]) C.1 C.2.1 dL_goes_352 hl (by decide) rfl (fun ls hl => ?_)
          refine lv_iload C.1 C.2.1 dL_goes_354 (lv_at hl 1 rfl) ?_
          refine lv_if_eq (tgt := 369) C.1 C.2.1 dL_goes_356 (by decide) (fun c356 => ?_) (fun c356 => ?_)
          · exact absurd c356 (by decide)
          · refine lv_iconst (v := 5) C.1 C.2.1 dL_goes_359 rfl ?_
            refine lv_iload C.1 C.2.1 dL_goes_360 (lv_at hl 2 rfl) ?_
            refine lv_bipush (v := 10) C.1 C.2.1 dL_goes_362 rfl ?_
            refine lv_irem C.1 C.2.1 dL_goes_364 (by decide) ?_
            rw [show ((nI a11) - (nI a11) / 10 * 10 : Int32) = nI (a11 % 10) from nI_R (a := a11) (b := 10) (by omega) (by omega) (by omega)]
            refine lv_imul C.1 C.2.1 dL_goes_365 ?_
            rw [show ((5 : Int32) * (nI (a11 % 10))) = nI (5 * (a11 % 10)) from nI_M 5 (a11 % 10)]
            refine lv_goto (tgt := 370) C.1 C.2.1 dL_goes_366 (by decide) ?_
            refine lv_istore (lv' := [(14, .int (nI (5 * (a11 % 10)))), (13, .ref (la 5)), (12, .int 1), (11, .int (nI a11)), (0, .ref x), (1, .int 2), (2, .int y), (3, .ref (la 0)), (4, .ref (la 1)), (5, .ref (la 2)), (6, .ref (la 3)), (7, .ref (la 4)), (8, .ref (la 5)), (9, .ref (la 6)), (10, .ref (la 7))]) C.1 C.2.1 dL_goes_370 hl (by decide) rfl (fun ls hl => ?_)
            obtain ⟨⟨o0, o1, o2, o3⟩, o4⟩ := rO a11 hf
            obtain ⟨u, yy, hu4, hu, hw, hy4, hy, h13c, -, hP⟩ := iO.2.2.2 a11 hf
            obtain ⟨t13, ht13, h13⟩ : ∃ t, t ≤ 2 ∧ ar 13 a11 = nI t := by
              rcases h13c with q | q | q
              · exact ⟨0, by omega, q⟩
              · exact ⟨1, by omega, q⟩
              · exact ⟨2, by omega, q⟩
            have q0 : lf 5 (5 * (a11 % 10)) = nI u := (show lf 5 (5 * (a11 % 10)) = lo lf a11 0 from lo_5 (j := 0) (by omega) (by omega)).trans (o0.trans hu)
            have q1 : lf 5 (5 * (a11 % 10) + 1) = nI yy := (lo_5 (j := 1) (by omega) (by omega)).trans (o1.trans hy)
            have q2 : lf 5 (5 * (a11 % 10) + 2) = ar 11 a11 := (lo_5 (j := 2) (by omega) (by omega)).trans o2
            have q3 : lf 5 (5 * (a11 % 10) + 3) = nI t13 := (lo_5 (j := 3) (by omega) (by omega)).trans (o3.trans h13)
            refine lv_iload_n C.1 C.2.1 dL_goes_372 rfl (lv_at hl 5 rfl) ?_
            refine lv_iconst (v := 1) C.1 C.2.1 dL_goes_373 rfl ?_
            refine lv_icmp_ne (tgt := 582) C.1 C.2.1 dL_goes_374 (by decide) (fun c374 => ?_) (fun c374 => ?_)
            · refine lv_iload_n C.1 C.2.1 dL_goes_582 rfl (lv_at hl 5 rfl) ?_
              refine lv_iconst (v := 2) C.1 C.2.1 dL_goes_583 rfl ?_
              refine lv_icmp_ne (tgt := 719) C.1 C.2.1 dL_goes_584 (by decide) (fun c584 => ?_) (fun c584 => ?_)
              · exact absurd c584 (by decide)
              · refine lv_iload_n C.1 C.2.1 dL_goes_587 rfl (lv_at hl 6 rfl) ?_
                refine lv_iconst (v := 5) C.1 C.2.1 dL_goes_588 rfl ?_
                refine lv_ishr C.1 C.2.1 dL_goes_589 ?_
                refine lv_aload_n C.1 C.2.1 dL_goes_590 rfl (lv_at hl 7 rfl) ?_
                refine lv_iconst (v := 1) C.1 C.2.1 dL_goes_591 rfl ?_
                refine lald (K := 0) (N := 3) (E := 1) (f := (lf 0)) (v := (nI nb)) C hE hH hX (by decide) rfl rfl rfl (by omega) (hc1) dL_goes_592 ?_
                refine lv_iconst (v := 1) C.1 C.2.1 dL_goes_593 rfl ?_
                refine lv_iadd C.1 C.2.1 dL_goes_594 ?_
                rw [show ((nI nb) + 1 : Int32) = nI (nb + 1) from nI_add nb 1]
                refine some_go (N := nb + 1) (runS C hE hH hS (c_some (n := nI (nb + 1)) (N := nb + 1) rfl (by omega) (by omega) (y >>> (5 &&& 31))) mv_L_some wm_121 hl.1 dL_goes_595 rfl rfl ⟨rfl, rfl⟩ ⟨Nat.le_of_ble_eq_true rfl, Nat.le_of_ble_eq_true rfl⟩ (Nat.le_of_ble_eq_true rfl) ⟨Nat.le_of_ble_eq_true rfl, Nat.le_of_ble_eq_true rfl⟩) rfl (by omega) (by omega) (fun k595 hk595 => ?_)
                refine lv_istore (lv' := [(15, .int (nI k595)), (14, .int (nI (5 * (a11 % 10)))), (13, .ref (la 5)), (12, .int 1), (11, .int (nI a11)), (0, .ref x), (1, .int 2), (2, .int y), (3, .ref (la 0)), (4, .ref (la 1)), (5, .ref (la 2)), (6, .ref (la 3)), (7, .ref (la 4)), (8, .ref (la 5)), (9, .ref (la 6)), (10, .ref (la 7))]) C.1 C.2.1 dL_goes_598 hl (by decide) rfl (fun ls hl => ?_)
                refine lv_iload C.1 C.2.1 dL_goes_600 (lv_at hl 3 rfl) ?_
                refine lv_if_eq (tgt := 613) C.1 C.2.1 dL_goes_602 (by decide) (fun c602 => ?_) (fun c602 => ?_)
                · exact absurd c602 (by decide)
                · refine lv_iload C.1 C.2.1 dL_goes_605 (lv_at hl 0 rfl) ?_
                  refine lv_aload_n C.1 C.2.1 dL_goes_607 rfl (lv_at hl 8 rfl) ?_
                  refine lv_iconst (v := 1) C.1 C.2.1 dL_goes_608 rfl ?_
                  refine lald (K := 0) (N := 3) (E := 1) (f := (lf 0)) (v := (nI nb)) C hE hH hX (by decide) rfl rfl rfl (by omega) (hc1) dL_goes_609 ?_
                  refine lv_icmp_lt (tgt := 618) C.1 C.2.1 dL_goes_610 (by decide) (fun c610 => ?_) (fun c610 => ?_)
                  · have n610 : k595 < nb := (nI_ltI (a := k595) (b := nb) (by omega) (by omega)).mp c610
                    obtain ⟨⟨eb, heeb, h7, -⟩, ⟨dd, hd3, h6⟩, -⟩ := iB.2.2 k595 (by omega)
                    obtain ⟨b6, b7, b8⟩ := rB k595 (by omega)
                    have hob := OB_at hI hR hf (show k595 < nb by omega) hu hu4 hy hy4 h6 hd3
                    have hnn := OB_nn hI hR hf (show k595 < nb by omega) hu hu4 hy hy4 h6 hd3
                    refine lv_aload C.1 C.2.1 dL_goes_618 (lv_at hl 11 rfl) ?_
                    refine lv_iconst (v := 3) C.1 C.2.1 dL_goes_620 rfl ?_
                    refine lv_iload C.1 C.2.1 dL_goes_621 (lv_at hl 0 rfl) ?_
                    refine lv_imul C.1 C.2.1 dL_goes_623 ?_
                    rw [show ((3 : Int32) * (nI k595)) = nI (3 * k595) from nI_M 3 k595]
                    refine lv_iconst (v := 1) C.1 C.2.1 dL_goes_624 rfl ?_
                    refine lv_iadd C.1 C.2.1 dL_goes_625 ?_
                    rw [show ((nI (3 * k595)) + 1 : Int32) = nI (3 * k595 + 1) from nI_add (3 * k595) 1]
                    refine lald (K := 3) (N := 15) (E := 3 * k595 + 1) (f := (lf 3)) (v := (nI eb)) C hE hH hX (by decide) rfl rfl rfl (by omega) ((b7.trans h7)) dL_goes_626 ?_
                    refine lv_aload C.1 C.2.1 dL_goes_627 (lv_at hl 2 rfl) ?_
                    refine lv_iload C.1 C.2.1 dL_goes_629 (lv_at hl 1 rfl) ?_
                    refine lald (K := 5) (N := 50) (E := 5 * (a11 % 10)) (f := (lf 5)) (v := (nI u)) C hE hH hX (by decide) rfl rfl rfl (by omega) (q0) dL_goes_631 ?_
                    refine lv_icmp_eq (tgt := 640) C.1 C.2.1 dL_goes_632 (by decide) (fun c632 => ?_) (fun c632 => ?_)
                    · have n632 : eb = u := nI_inj (by omega) (by omega) c632
                      refine lv_aload C.1 C.2.1 dL_goes_640 (lv_at hl 2 rfl) ?_
                      refine lv_iload C.1 C.2.1 dL_goes_642 (lv_at hl 1 rfl) ?_
                      refine lv_iconst (v := 3) C.1 C.2.1 dL_goes_644 rfl ?_
                      refine lv_iadd C.1 C.2.1 dL_goes_645 ?_
                      rw [show ((nI (5 * (a11 % 10))) + 3 : Int32) = nI (5 * (a11 % 10) + 3) from nI_add (5 * (a11 % 10)) 3]
                      refine lald (K := 5) (N := 50) (E := 5 * (a11 % 10) + 3) (f := (lf 5)) (v := (nI t13)) C hE hH hX (by decide) rfl rfl rfl (by omega) (q3) dL_goes_646 ?_
                      refine lv_if_le (tgt := 655) C.1 C.2.1 dL_goes_647 (by decide) (fun c647 => ?_) (fun c647 => ?_)
                      · have n647 : t13 ≤ 0 := (nI_leI (a := t13) (b := 0) (by omega) (by omega)).mp c647
                        refine lv_aload C.1 C.2.1 dL_goes_655 (lv_at hl 9 rfl) ?_
                        refine lv_aload C.1 C.2.1 dL_goes_657 (lv_at hl 10 rfl) ?_
                        refine lv_aload C.1 C.2.1 dL_goes_659 (lv_at hl 11 rfl) ?_
                        refine lv_iload C.1 C.2.1 dL_goes_661 (lv_at hl 0 rfl) ?_
                        refine lv_aload C.1 C.2.1 dL_goes_663 (lv_at hl 2 rfl) ?_
                        refine lv_iload C.1 C.2.1 dL_goes_665 (lv_at hl 1 rfl) ?_
                        refine lv_iconst (v := 1) C.1 C.2.1 dL_goes_667 rfl ?_
                        refine lv_iadd C.1 C.2.1 dL_goes_668 ?_
                        rw [show ((nI (5 * (a11 % 10))) + 1 : Int32) = nI (5 * (a11 % 10) + 1) from nI_add (5 * (a11 % 10)) 1]
                        refine lald (K := 5) (N := 50) (E := 5 * (a11 % 10) + 1) (f := (lf 5)) (v := (nI yy)) C hE hH hX (by decide) rfl rfl rfl (by omega) (q1) dL_goes_669 ?_
                        refine rd_go1 (runS C hE hH hS (c_offBy hX.1 ((by omega)) (hy4) ((by omega)) ((b7.trans (h7.trans (congrArg nI n632)))) (hd3) ((b6.trans h6))) mv_L_offBy wm_590 hl.1 dL_goes_670 rfl rfl ⟨rfl, rfl⟩ ⟨Nat.le_of_ble_eq_true rfl, Nat.le_of_ble_eq_true rfl⟩ (Nat.le_of_ble_eq_true rfl) ⟨Nat.le_of_ble_eq_true rfl, Nat.le_of_ble_eq_true rfl⟩) ?_
                        refine lv_istore (lv' := [(16, .int (zap (zgq (lf 1 (3 * u)) (lf 3 (3 * k595 + 2)) + lf 2 (3 + 2 * yy) + lf 2 dd) (lf 1 (3 * u)) + zap (zgq (lf 1 (3 * u + 1)) (lf 3 (3 * k595 + 2)) + lf 2 (3 + 2 * yy + 1) + 0) (lf 1 (3 * u + 1)))), (15, .int (nI k595)), (14, .int (nI (5 * (a11 % 10)))), (13, .ref (la 5)), (12, .int 1), (11, .int (nI a11)), (0, .ref x), (1, .int 2), (2, .int y), (3, .ref (la 0)), (4, .ref (la 1)), (5, .ref (la 2)), (6, .ref (la 3)), (7, .ref (la 4)), (8, .ref (la 5)), (9, .ref (la 6)), (10, .ref (la 7))]) C.1 C.2.1 dL_goes_673 hl (by decide) rfl (fun ls hl => ?_)
                        refine lv_iload C.1 C.2.1 dL_goes_675 (lv_at hl 0 rfl) ?_
                        refine lv_if_lt (tgt := 699) C.1 C.2.1 dL_goes_677 (by decide) (fun c677 => ?_) (fun c677 => ?_)
                        · exact absurd (show 0 ≤ zap (zgq (lf 1 (3 * u)) (lf 3 (3 * k595 + 2)) + lf 2 (3 + 2 * yy) + lf 2 dd) (lf 1 (3 * u)) + zap (zgq (lf 1 (3 * u + 1)) (lf 3 (3 * k595 + 2)) + lf 2 (3 + 2 * yy + 1) + 0) (lf 1 (3 * u + 1)) by rw [hob]; exact hnn) (Int32.not_le.mpr c677)
                        · obtain ⟨hd1, hd2, hd3y, hd4⟩ := DY_at hI hR hf (show k595 < nb by omega) hu hu4 hy hy4 h6 hd3 q2
                          refine lv_aload C.1 C.2.1 dL_goes_680 (lv_at hl 10 rfl) ?_
                          refine lv_aload C.1 C.2.1 dL_goes_682 (lv_at hl 11 rfl) ?_
                          refine lv_aload C.1 C.2.1 dL_goes_684 (lv_at hl 12 rfl) ?_
                          refine lv_aload C.1 C.2.1 dL_goes_686 (lv_at hl 3 rfl) ?_
                          refine lv_aload C.1 C.2.1 dL_goes_688 (lv_at hl 15 rfl) ?_
                          refine lv_iload C.1 C.2.1 dL_goes_690 (lv_at hl 2 rfl) ?_
                          refine lv_iload C.1 C.2.1 dL_goes_692 (lv_at hl 5 rfl) ?_
                          refine lv_iload C.1 C.2.1 dL_goes_694 (lv_at hl 1 rfl) ?_
                          refine wr_go0 (runS C hE hH hS (c_dyes5 hX.1 ((by omega)) ((by omega)) ((by omega)) (hy4) (hd3) (q0) (q1) ((b7.trans (h7.trans (congrArg nI n632)))) ((b6.trans h6))) mv_L_dyes wm_602 hl.1 dL_goes_696 rfl rfl ⟨rfl, rfl⟩ ⟨Nat.le_of_ble_eq_true rfl, Nat.le_of_ble_eq_true rfl⟩ (Nat.le_of_ble_eq_true rfl) ⟨Nat.le_of_ble_eq_true rfl, Nat.le_of_ble_eq_true rfl⟩) hS (fun u3 M4 H locs hM4 hH hS => ?_)
                          have hID := WS_up hI hM4 hT (ed_no hE hH)
                          refine lv_aload_n C.1 C.2.1 dL_goes_699 rfl (lv_at hl 6 rfl) ?_
                          refine lv_iconst (v := 2) C.1 C.2.1 dL_goes_700 rfl ?_
                          refine lv_iload C.1 C.2.1 dL_goes_701 (lv_at hl 5 rfl) ?_
                          refine lv_iload C.1 C.2.1 dL_goes_703 (lv_at hl 1 rfl) ?_
                          refine wr_go1 (runT C hE hH hS (l_dye hlx hID (nI a11) (nI k595)) mv_L_two wm_313 hl.1 dL_goes_705 rfl rfl ⟨rfl, rfl⟩ ⟨Nat.le_of_ble_eq_true rfl, Nat.le_of_ble_eq_true rfl⟩ (Nat.le_of_ble_eq_true rfl) ⟨Nat.le_of_ble_eq_true rfl, Nat.le_of_ble_eq_true rfl⟩) hS (fun u5 M6 H locs hM6 hH hS => ?_)
                          rw [nI_clamp (show a11 < 2 ^ 31 by omega), nI_clamp (show k595 < 2 ^ 31 by omega)] at hM6
                          obtain ⟨hu, hx⟩ := lqC_t hM6 ⟨(inx_n (a := a11) (n := no) (by omega) (by omega)).mpr hf, (inx_n (a := k595) (n := nb) (by omega) (by omega)).mpr (by omega)⟩ (h7.trans ((congrArg nI n632).trans hu.symm)) (h13.trans (congrArg nI (show t13 = 0 by omega)))
                          have hu : u5 = zap (zgq (lf 1 (3 * u)) (lf 3 (3 * k595 + 2)) + lf 2 (3 + 2 * yy) + lf 2 dd) (lf 1 (3 * u)) + zap (zgq (lf 1 (3 * u + 1)) (lf 3 (3 * k595 + 2)) + lf 2 (3 + 2 * yy + 1) + 0) (lf 1 (3 * u + 1)) := hu.trans (hob.symm)
                          rw [hu]
                          have hXr := LX_rf (LI_rx hx hM4.1 hT)
                          refine lv_iload C.1 C.2.1 dL_goes_708 (lv_at hl 0 rfl) ?_
                          refine lv_icmp_ne (tgt := 717) C.1 C.2.1 dL_goes_710 (by decide) (fun c710 => ?_) (fun c710 => ?_)
                          · exact absurd rfl c710
                          · refine lv_iconst (v := 1) C.1 C.2.1 dL_goes_713 rfl ?_
                            refine lv_goto (tgt := 718) C.1 C.2.1 dL_goes_714 (by decide) ?_
                            exact wr_zret () C hr hlocks (rfl) hH hS rfl (WS_mk hx hM4.1 hT ⟨hs0, hs5, hs9⟩ (LR_dye (R := 5) hR hf (show k595 < nb by omega) (by omega) hd1 hd2 hd3y hd4) (krN_cg hN (fun i _ => rfl))) (by decide) (by decide) dL_goes_718
                      · have n647 : ¬ t13 ≤ 0 := fun z => c647 ((nI_leI (a := t13) (b := 0) (by omega) (by omega)).mpr z)
                        refine lv_bipush (v := -103) C.1 C.2.1 dL_goes_650 rfl ?_
                        refine lv_goto (tgt := 673) C.1 C.2.1 dL_goes_652 (by decide) ?_
                        refine lv_istore (lv' := [(16, .int (-103)), (15, .int (nI k595)), (14, .int (nI (5 * (a11 % 10)))), (13, .ref (la 5)), (12, .int 1), (11, .int (nI a11)), (0, .ref x), (1, .int 2), (2, .int y), (3, .ref (la 0)), (4, .ref (la 1)), (5, .ref (la 2)), (6, .ref (la 3)), (7, .ref (la 4)), (8, .ref (la 5)), (9, .ref (la 6)), (10, .ref (la 7))]) C.1 C.2.1 dL_goes_673 hl (by decide) rfl (fun ls hl => ?_)
                        refine lv_iload C.1 C.2.1 dL_goes_675 (lv_at hl 0 rfl) ?_
                        refine lv_if_lt (tgt := 699) C.1 C.2.1 dL_goes_677 (by decide) (fun c677 => ?_) (fun c677 => ?_)
                        · refine lv_aload_n C.1 C.2.1 dL_goes_699 rfl (lv_at hl 6 rfl) ?_
                          refine lv_iconst (v := 2) C.1 C.2.1 dL_goes_700 rfl ?_
                          refine lv_iload C.1 C.2.1 dL_goes_701 (lv_at hl 5 rfl) ?_
                          refine lv_iload C.1 C.2.1 dL_goes_703 (lv_at hl 1 rfl) ?_
                          refine wr_go1 (runT C hE hH hS (l_dye hlx hI (nI a11) (nI k595)) mv_L_two wm_313 hl.1 dL_goes_705 rfl rfl ⟨rfl, rfl⟩ ⟨Nat.le_of_ble_eq_true rfl, Nat.le_of_ble_eq_true rfl⟩ (Nat.le_of_ble_eq_true rfl) ⟨Nat.le_of_ble_eq_true rfl, Nat.le_of_ble_eq_true rfl⟩) hS (fun u7 M8 H locs hM8 hH hS => ?_)
                          rw [nI_clamp (show a11 < 2 ^ 31 by omega), nI_clamp (show k595 < 2 ^ 31 by omega)] at hM8
                          obtain ⟨hu, hM⟩ := lqC_h hM8 ⟨(inx_n (a := a11) (n := no) (by omega) (by omega)).mpr hf, (inx_n (a := k595) (n := nb) (by omega) (by omega)).mpr (by omega)⟩ (h7.trans ((congrArg nI n632).trans hu.symm)) (fun z => n647 (by have z1 := nI_inj (a := t13) (b := 0) (by omega) (by omega) (h13.symm.trans z); omega))
                          rw [hu]
                          refine lv_iload C.1 C.2.1 dL_goes_708 (lv_at hl 0 rfl) ?_
                          refine lv_icmp_ne (tgt := 717) C.1 C.2.1 dL_goes_710 (by decide) (fun c710 => ?_) (fun c710 => ?_)
                          · exact absurd c710 (by decide)
                          · refine lv_iconst (v := 1) C.1 C.2.1 dL_goes_713 rfl ?_
                            refine lv_goto (tgt := 718) C.1 C.2.1 dL_goes_714 (by decide) ?_
                            exact wr_zret () C hr hlocks (rfl) hH hS rfl ((by rw [hM]; exact hLS)) (by decide) (by decide) dL_goes_718
                        · exact absurd c677 (by decide)
                    · have n632 : ¬ eb = u := fun z => c632 (congrArg nI z)
                      refine lv_bipush (v := -102) C.1 C.2.1 dL_goes_635 rfl ?_
                      refine lv_goto (tgt := 673) C.1 C.2.1 dL_goes_637 (by decide) ?_
                      refine lv_istore (lv' := [(16, .int (-102)), (15, .int (nI k595)), (14, .int (nI (5 * (a11 % 10)))), (13, .ref (la 5)), (12, .int 1), (11, .int (nI a11)), (0, .ref x), (1, .int 2), (2, .int y), (3, .ref (la 0)), (4, .ref (la 1)), (5, .ref (la 2)), (6, .ref (la 3)), (7, .ref (la 4)), (8, .ref (la 5)), (9, .ref (la 6)), (10, .ref (la 7))]) C.1 C.2.1 dL_goes_673 hl (by decide) rfl (fun ls hl => ?_)
                      refine lv_iload C.1 C.2.1 dL_goes_675 (lv_at hl 0 rfl) ?_
                      refine lv_if_lt (tgt := 699) C.1 C.2.1 dL_goes_677 (by decide) (fun c677 => ?_) (fun c677 => ?_)
                      · refine lv_aload_n C.1 C.2.1 dL_goes_699 rfl (lv_at hl 6 rfl) ?_
                        refine lv_iconst (v := 2) C.1 C.2.1 dL_goes_700 rfl ?_
                        refine lv_iload C.1 C.2.1 dL_goes_701 (lv_at hl 5 rfl) ?_
                        refine lv_iload C.1 C.2.1 dL_goes_703 (lv_at hl 1 rfl) ?_
                        refine wr_go1 (runT C hE hH hS (l_dye hlx hI (nI a11) (nI k595)) mv_L_two wm_313 hl.1 dL_goes_705 rfl rfl ⟨rfl, rfl⟩ ⟨Nat.le_of_ble_eq_true rfl, Nat.le_of_ble_eq_true rfl⟩ (Nat.le_of_ble_eq_true rfl) ⟨Nat.le_of_ble_eq_true rfl, Nat.le_of_ble_eq_true rfl⟩) hS (fun u9 M10 H locs hM10 hH hS => ?_)
                        rw [nI_clamp (show a11 < 2 ^ 31 by omega), nI_clamp (show k595 < 2 ^ 31 by omega)] at hM10
                        obtain ⟨hu, hM⟩ := lqC_g hM10 ⟨(inx_n (a := a11) (n := no) (by omega) (by omega)).mpr hf, (inx_n (a := k595) (n := nb) (by omega) (by omega)).mpr (by omega)⟩ (fun z => n632 (nI_inj (by omega) (by omega) (h7.symm.trans (z.trans hu))))
                        rw [hu]
                        refine lv_iload C.1 C.2.1 dL_goes_708 (lv_at hl 0 rfl) ?_
                        refine lv_icmp_ne (tgt := 717) C.1 C.2.1 dL_goes_710 (by decide) (fun c710 => ?_) (fun c710 => ?_)
                        · exact absurd c710 (by decide)
                        · refine lv_iconst (v := 1) C.1 C.2.1 dL_goes_713 rfl ?_
                          refine lv_goto (tgt := 718) C.1 C.2.1 dL_goes_714 (by decide) ?_
                          exact wr_zret () C hr hlocks (rfl) hH hS rfl ((by rw [hM]; exact hLS)) (by decide) (by decide) dL_goes_718
                      · exact absurd c677 (by decide)
                  · have n610 : ¬ k595 < nb := fun z => c610 ((nI_ltI (a := k595) (b := nb) (by omega) (by omega)).mpr z)
                    refine lv_bipush (v := -101) C.1 C.2.1 dL_goes_613 rfl ?_
                    refine lv_goto (tgt := 673) C.1 C.2.1 dL_goes_615 (by decide) ?_
                    refine lv_istore (lv' := [(16, .int (-101)), (15, .int (nI k595)), (14, .int (nI (5 * (a11 % 10)))), (13, .ref (la 5)), (12, .int 1), (11, .int (nI a11)), (0, .ref x), (1, .int 2), (2, .int y), (3, .ref (la 0)), (4, .ref (la 1)), (5, .ref (la 2)), (6, .ref (la 3)), (7, .ref (la 4)), (8, .ref (la 5)), (9, .ref (la 6)), (10, .ref (la 7))]) C.1 C.2.1 dL_goes_673 hl (by decide) rfl (fun ls hl => ?_)
                    refine lv_iload C.1 C.2.1 dL_goes_675 (lv_at hl 0 rfl) ?_
                    refine lv_if_lt (tgt := 699) C.1 C.2.1 dL_goes_677 (by decide) (fun c677 => ?_) (fun c677 => ?_)
                    · refine lv_aload_n C.1 C.2.1 dL_goes_699 rfl (lv_at hl 6 rfl) ?_
                      refine lv_iconst (v := 2) C.1 C.2.1 dL_goes_700 rfl ?_
                      refine lv_iload C.1 C.2.1 dL_goes_701 (lv_at hl 5 rfl) ?_
                      refine lv_iload C.1 C.2.1 dL_goes_703 (lv_at hl 1 rfl) ?_
                      refine wr_go1 (runT C hE hH hS (l_dye hlx hI (nI a11) (nI k595)) mv_L_two wm_313 hl.1 dL_goes_705 rfl rfl ⟨rfl, rfl⟩ ⟨Nat.le_of_ble_eq_true rfl, Nat.le_of_ble_eq_true rfl⟩ (Nat.le_of_ble_eq_true rfl) ⟨Nat.le_of_ble_eq_true rfl, Nat.le_of_ble_eq_true rfl⟩) hS (fun u11 M12 H locs hM12 hH hS => ?_)
                      obtain ⟨hu, hM⟩ := lqC_f hM12 (fun z => by have z1 := (inx_n (a := k595) (n := nb) (by omega) (by omega)).mp z.2; omega)
                      rw [hu]
                      refine lv_iload C.1 C.2.1 dL_goes_708 (lv_at hl 0 rfl) ?_
                      refine lv_icmp_ne (tgt := 717) C.1 C.2.1 dL_goes_710 (by decide) (fun c710 => ?_) (fun c710 => ?_)
                      · exact absurd c710 (by decide)
                      · refine lv_iconst (v := 1) C.1 C.2.1 dL_goes_713 rfl ?_
                        refine lv_goto (tgt := 718) C.1 C.2.1 dL_goes_714 (by decide) ?_
                        exact wr_zret () C hr hlocks (rfl) hH hS rfl ((by rw [hM]; exact hLS)) (by decide) (by decide) dL_goes_718
                    · exact absurd c677 (by decide)
            · exact absurd c374 (by decide)
        · have n342 : ¬ 10 ≤ a11 := fun z => c342 ((nI_leI (a := 10) (b := a11) (by omega) (by omega)).mpr z)
          refine lv_aload C.1 C.2.1 dL_goes_345 (lv_at hl 9 rfl) ?_
          refine lv_goto (tgt := 352) C.1 C.2.1 dL_goes_347 (by decide) ?_
          refine lv_astore (lv' := [(13, .ref (la 4)), (12, .int 1), (11, .int (nI a11)), (0, .ref x), (1, .int 2), (2, .int y), (3, .ref (la 0)), (4, .ref (la 1)), (5, .ref (la 2)), (6, .ref (la 3)), (7, .ref (la 4)), (8, .ref (la 5)), (9, .ref (la 6)), (10, .ref (la 7))]) C.1 C.2.1 dL_goes_352 hl (by decide) rfl (fun ls hl => ?_)
          refine lv_iload C.1 C.2.1 dL_goes_354 (lv_at hl 1 rfl) ?_
          refine lv_if_eq (tgt := 369) C.1 C.2.1 dL_goes_356 (by decide) (fun c356 => ?_) (fun c356 => ?_)
          · exact absurd c356 (by decide)
          · refine lv_iconst (v := 5) C.1 C.2.1 dL_goes_359 rfl ?_
            refine lv_iload C.1 C.2.1 dL_goes_360 (lv_at hl 2 rfl) ?_
            refine lv_bipush (v := 10) C.1 C.2.1 dL_goes_362 rfl ?_
            refine lv_irem C.1 C.2.1 dL_goes_364 (by decide) ?_
            rw [show ((nI a11) - (nI a11) / 10 * 10 : Int32) = nI (a11 % 10) from nI_R (a := a11) (b := 10) (by omega) (by omega) (by omega)]
            refine lv_imul C.1 C.2.1 dL_goes_365 ?_
            rw [show ((5 : Int32) * (nI (a11 % 10))) = nI (5 * (a11 % 10)) from nI_M 5 (a11 % 10)]
            refine lv_goto (tgt := 370) C.1 C.2.1 dL_goes_366 (by decide) ?_
            refine lv_istore (lv' := [(14, .int (nI (5 * (a11 % 10)))), (13, .ref (la 4)), (12, .int 1), (11, .int (nI a11)), (0, .ref x), (1, .int 2), (2, .int y), (3, .ref (la 0)), (4, .ref (la 1)), (5, .ref (la 2)), (6, .ref (la 3)), (7, .ref (la 4)), (8, .ref (la 5)), (9, .ref (la 6)), (10, .ref (la 7))]) C.1 C.2.1 dL_goes_370 hl (by decide) rfl (fun ls hl => ?_)
            obtain ⟨⟨o0, o1, o2, o3⟩, o4⟩ := rO a11 hf
            obtain ⟨u, yy, hu4, hu, hw, hy4, hy, h13c, -, hP⟩ := iO.2.2.2 a11 hf
            obtain ⟨t13, ht13, h13⟩ : ∃ t, t ≤ 2 ∧ ar 13 a11 = nI t := by
              rcases h13c with q | q | q
              · exact ⟨0, by omega, q⟩
              · exact ⟨1, by omega, q⟩
              · exact ⟨2, by omega, q⟩
            have q0 : lf 4 (5 * (a11 % 10)) = nI u := (show lf 4 (5 * (a11 % 10)) = lo lf a11 0 from lo_4 (j := 0) (by omega)).trans (o0.trans hu)
            have q1 : lf 4 (5 * (a11 % 10) + 1) = nI yy := (lo_4 (j := 1) (by omega)).trans (o1.trans hy)
            have q2 : lf 4 (5 * (a11 % 10) + 2) = ar 11 a11 := (lo_4 (j := 2) (by omega)).trans o2
            have q3 : lf 4 (5 * (a11 % 10) + 3) = nI t13 := (lo_4 (j := 3) (by omega)).trans (o3.trans h13)
            refine lv_iload_n C.1 C.2.1 dL_goes_372 rfl (lv_at hl 5 rfl) ?_
            refine lv_iconst (v := 1) C.1 C.2.1 dL_goes_373 rfl ?_
            refine lv_icmp_ne (tgt := 582) C.1 C.2.1 dL_goes_374 (by decide) (fun c374 => ?_) (fun c374 => ?_)
            · refine lv_iload_n C.1 C.2.1 dL_goes_582 rfl (lv_at hl 5 rfl) ?_
              refine lv_iconst (v := 2) C.1 C.2.1 dL_goes_583 rfl ?_
              refine lv_icmp_ne (tgt := 719) C.1 C.2.1 dL_goes_584 (by decide) (fun c584 => ?_) (fun c584 => ?_)
              · exact absurd c584 (by decide)
              · refine lv_iload_n C.1 C.2.1 dL_goes_587 rfl (lv_at hl 6 rfl) ?_
                refine lv_iconst (v := 5) C.1 C.2.1 dL_goes_588 rfl ?_
                refine lv_ishr C.1 C.2.1 dL_goes_589 ?_
                refine lv_aload_n C.1 C.2.1 dL_goes_590 rfl (lv_at hl 7 rfl) ?_
                refine lv_iconst (v := 1) C.1 C.2.1 dL_goes_591 rfl ?_
                refine lald (K := 0) (N := 3) (E := 1) (f := (lf 0)) (v := (nI nb)) C hE hH hX (by decide) rfl rfl rfl (by omega) (hc1) dL_goes_592 ?_
                refine lv_iconst (v := 1) C.1 C.2.1 dL_goes_593 rfl ?_
                refine lv_iadd C.1 C.2.1 dL_goes_594 ?_
                rw [show ((nI nb) + 1 : Int32) = nI (nb + 1) from nI_add nb 1]
                refine some_go (N := nb + 1) (runS C hE hH hS (c_some (n := nI (nb + 1)) (N := nb + 1) rfl (by omega) (by omega) (y >>> (5 &&& 31))) mv_L_some wm_121 hl.1 dL_goes_595 rfl rfl ⟨rfl, rfl⟩ ⟨Nat.le_of_ble_eq_true rfl, Nat.le_of_ble_eq_true rfl⟩ (Nat.le_of_ble_eq_true rfl) ⟨Nat.le_of_ble_eq_true rfl, Nat.le_of_ble_eq_true rfl⟩) rfl (by omega) (by omega) (fun k595 hk595 => ?_)
                refine lv_istore (lv' := [(15, .int (nI k595)), (14, .int (nI (5 * (a11 % 10)))), (13, .ref (la 4)), (12, .int 1), (11, .int (nI a11)), (0, .ref x), (1, .int 2), (2, .int y), (3, .ref (la 0)), (4, .ref (la 1)), (5, .ref (la 2)), (6, .ref (la 3)), (7, .ref (la 4)), (8, .ref (la 5)), (9, .ref (la 6)), (10, .ref (la 7))]) C.1 C.2.1 dL_goes_598 hl (by decide) rfl (fun ls hl => ?_)
                refine lv_iload C.1 C.2.1 dL_goes_600 (lv_at hl 3 rfl) ?_
                refine lv_if_eq (tgt := 613) C.1 C.2.1 dL_goes_602 (by decide) (fun c602 => ?_) (fun c602 => ?_)
                · exact absurd c602 (by decide)
                · refine lv_iload C.1 C.2.1 dL_goes_605 (lv_at hl 0 rfl) ?_
                  refine lv_aload_n C.1 C.2.1 dL_goes_607 rfl (lv_at hl 8 rfl) ?_
                  refine lv_iconst (v := 1) C.1 C.2.1 dL_goes_608 rfl ?_
                  refine lald (K := 0) (N := 3) (E := 1) (f := (lf 0)) (v := (nI nb)) C hE hH hX (by decide) rfl rfl rfl (by omega) (hc1) dL_goes_609 ?_
                  refine lv_icmp_lt (tgt := 618) C.1 C.2.1 dL_goes_610 (by decide) (fun c610 => ?_) (fun c610 => ?_)
                  · have n610 : k595 < nb := (nI_ltI (a := k595) (b := nb) (by omega) (by omega)).mp c610
                    obtain ⟨⟨eb, heeb, h7, -⟩, ⟨dd, hd3, h6⟩, -⟩ := iB.2.2 k595 (by omega)
                    obtain ⟨b6, b7, b8⟩ := rB k595 (by omega)
                    have hob := OB_at hI hR hf (show k595 < nb by omega) hu hu4 hy hy4 h6 hd3
                    have hnn := OB_nn hI hR hf (show k595 < nb by omega) hu hu4 hy hy4 h6 hd3
                    refine lv_aload C.1 C.2.1 dL_goes_618 (lv_at hl 11 rfl) ?_
                    refine lv_iconst (v := 3) C.1 C.2.1 dL_goes_620 rfl ?_
                    refine lv_iload C.1 C.2.1 dL_goes_621 (lv_at hl 0 rfl) ?_
                    refine lv_imul C.1 C.2.1 dL_goes_623 ?_
                    rw [show ((3 : Int32) * (nI k595)) = nI (3 * k595) from nI_M 3 k595]
                    refine lv_iconst (v := 1) C.1 C.2.1 dL_goes_624 rfl ?_
                    refine lv_iadd C.1 C.2.1 dL_goes_625 ?_
                    rw [show ((nI (3 * k595)) + 1 : Int32) = nI (3 * k595 + 1) from nI_add (3 * k595) 1]
                    refine lald (K := 3) (N := 15) (E := 3 * k595 + 1) (f := (lf 3)) (v := (nI eb)) C hE hH hX (by decide) rfl rfl rfl (by omega) ((b7.trans h7)) dL_goes_626 ?_
                    refine lv_aload C.1 C.2.1 dL_goes_627 (lv_at hl 2 rfl) ?_
                    refine lv_iload C.1 C.2.1 dL_goes_629 (lv_at hl 1 rfl) ?_
                    refine lald (K := 4) (N := 50) (E := 5 * (a11 % 10)) (f := (lf 4)) (v := (nI u)) C hE hH hX (by decide) rfl rfl rfl (by omega) (q0) dL_goes_631 ?_
                    refine lv_icmp_eq (tgt := 640) C.1 C.2.1 dL_goes_632 (by decide) (fun c632 => ?_) (fun c632 => ?_)
                    · have n632 : eb = u := nI_inj (by omega) (by omega) c632
                      refine lv_aload C.1 C.2.1 dL_goes_640 (lv_at hl 2 rfl) ?_
                      refine lv_iload C.1 C.2.1 dL_goes_642 (lv_at hl 1 rfl) ?_
                      refine lv_iconst (v := 3) C.1 C.2.1 dL_goes_644 rfl ?_
                      refine lv_iadd C.1 C.2.1 dL_goes_645 ?_
                      rw [show ((nI (5 * (a11 % 10))) + 3 : Int32) = nI (5 * (a11 % 10) + 3) from nI_add (5 * (a11 % 10)) 3]
                      refine lald (K := 4) (N := 50) (E := 5 * (a11 % 10) + 3) (f := (lf 4)) (v := (nI t13)) C hE hH hX (by decide) rfl rfl rfl (by omega) (q3) dL_goes_646 ?_
                      refine lv_if_le (tgt := 655) C.1 C.2.1 dL_goes_647 (by decide) (fun c647 => ?_) (fun c647 => ?_)
                      · have n647 : t13 ≤ 0 := (nI_leI (a := t13) (b := 0) (by omega) (by omega)).mp c647
                        refine lv_aload C.1 C.2.1 dL_goes_655 (lv_at hl 9 rfl) ?_
                        refine lv_aload C.1 C.2.1 dL_goes_657 (lv_at hl 10 rfl) ?_
                        refine lv_aload C.1 C.2.1 dL_goes_659 (lv_at hl 11 rfl) ?_
                        refine lv_iload C.1 C.2.1 dL_goes_661 (lv_at hl 0 rfl) ?_
                        refine lv_aload C.1 C.2.1 dL_goes_663 (lv_at hl 2 rfl) ?_
                        refine lv_iload C.1 C.2.1 dL_goes_665 (lv_at hl 1 rfl) ?_
                        refine lv_iconst (v := 1) C.1 C.2.1 dL_goes_667 rfl ?_
                        refine lv_iadd C.1 C.2.1 dL_goes_668 ?_
                        rw [show ((nI (5 * (a11 % 10))) + 1 : Int32) = nI (5 * (a11 % 10) + 1) from nI_add (5 * (a11 % 10)) 1]
                        refine lald (K := 4) (N := 50) (E := 5 * (a11 % 10) + 1) (f := (lf 4)) (v := (nI yy)) C hE hH hX (by decide) rfl rfl rfl (by omega) (q1) dL_goes_669 ?_
                        refine rd_go1 (runS C hE hH hS (c_offBy hX.1 ((by omega)) (hy4) ((by omega)) ((b7.trans (h7.trans (congrArg nI n632)))) (hd3) ((b6.trans h6))) mv_L_offBy wm_590 hl.1 dL_goes_670 rfl rfl ⟨rfl, rfl⟩ ⟨Nat.le_of_ble_eq_true rfl, Nat.le_of_ble_eq_true rfl⟩ (Nat.le_of_ble_eq_true rfl) ⟨Nat.le_of_ble_eq_true rfl, Nat.le_of_ble_eq_true rfl⟩) ?_
                        refine lv_istore (lv' := [(16, .int (zap (zgq (lf 1 (3 * u)) (lf 3 (3 * k595 + 2)) + lf 2 (3 + 2 * yy) + lf 2 dd) (lf 1 (3 * u)) + zap (zgq (lf 1 (3 * u + 1)) (lf 3 (3 * k595 + 2)) + lf 2 (3 + 2 * yy + 1) + 0) (lf 1 (3 * u + 1)))), (15, .int (nI k595)), (14, .int (nI (5 * (a11 % 10)))), (13, .ref (la 4)), (12, .int 1), (11, .int (nI a11)), (0, .ref x), (1, .int 2), (2, .int y), (3, .ref (la 0)), (4, .ref (la 1)), (5, .ref (la 2)), (6, .ref (la 3)), (7, .ref (la 4)), (8, .ref (la 5)), (9, .ref (la 6)), (10, .ref (la 7))]) C.1 C.2.1 dL_goes_673 hl (by decide) rfl (fun ls hl => ?_)
                        refine lv_iload C.1 C.2.1 dL_goes_675 (lv_at hl 0 rfl) ?_
                        refine lv_if_lt (tgt := 699) C.1 C.2.1 dL_goes_677 (by decide) (fun c677 => ?_) (fun c677 => ?_)
                        · exact absurd (show 0 ≤ zap (zgq (lf 1 (3 * u)) (lf 3 (3 * k595 + 2)) + lf 2 (3 + 2 * yy) + lf 2 dd) (lf 1 (3 * u)) + zap (zgq (lf 1 (3 * u + 1)) (lf 3 (3 * k595 + 2)) + lf 2 (3 + 2 * yy + 1) + 0) (lf 1 (3 * u + 1)) by rw [hob]; exact hnn) (Int32.not_le.mpr c677)
                        · obtain ⟨hd1, hd2, hd3y, hd4⟩ := DY_at hI hR hf (show k595 < nb by omega) hu hu4 hy hy4 h6 hd3 q2
                          refine lv_aload C.1 C.2.1 dL_goes_680 (lv_at hl 10 rfl) ?_
                          refine lv_aload C.1 C.2.1 dL_goes_682 (lv_at hl 11 rfl) ?_
                          refine lv_aload C.1 C.2.1 dL_goes_684 (lv_at hl 12 rfl) ?_
                          refine lv_aload C.1 C.2.1 dL_goes_686 (lv_at hl 3 rfl) ?_
                          refine lv_aload C.1 C.2.1 dL_goes_688 (lv_at hl 15 rfl) ?_
                          refine lv_iload C.1 C.2.1 dL_goes_690 (lv_at hl 2 rfl) ?_
                          refine lv_iload C.1 C.2.1 dL_goes_692 (lv_at hl 5 rfl) ?_
                          refine lv_iload C.1 C.2.1 dL_goes_694 (lv_at hl 1 rfl) ?_
                          refine wr_go0 (runS C hE hH hS (c_dyes4 hX.1 ((by omega)) ((by omega)) ((by omega)) (hy4) (hd3) (q0) (q1) ((b7.trans (h7.trans (congrArg nI n632)))) ((b6.trans h6))) mv_L_dyes wm_602 hl.1 dL_goes_696 rfl rfl ⟨rfl, rfl⟩ ⟨Nat.le_of_ble_eq_true rfl, Nat.le_of_ble_eq_true rfl⟩ (Nat.le_of_ble_eq_true rfl) ⟨Nat.le_of_ble_eq_true rfl, Nat.le_of_ble_eq_true rfl⟩) hS (fun u13 M14 H locs hM14 hH hS => ?_)
                          have hID := WS_up hI hM14 hT (ed_no hE hH)
                          refine lv_aload_n C.1 C.2.1 dL_goes_699 rfl (lv_at hl 6 rfl) ?_
                          refine lv_iconst (v := 2) C.1 C.2.1 dL_goes_700 rfl ?_
                          refine lv_iload C.1 C.2.1 dL_goes_701 (lv_at hl 5 rfl) ?_
                          refine lv_iload C.1 C.2.1 dL_goes_703 (lv_at hl 1 rfl) ?_
                          refine wr_go1 (runT C hE hH hS (l_dye hlx hID (nI a11) (nI k595)) mv_L_two wm_313 hl.1 dL_goes_705 rfl rfl ⟨rfl, rfl⟩ ⟨Nat.le_of_ble_eq_true rfl, Nat.le_of_ble_eq_true rfl⟩ (Nat.le_of_ble_eq_true rfl) ⟨Nat.le_of_ble_eq_true rfl, Nat.le_of_ble_eq_true rfl⟩) hS (fun u15 M16 H locs hM16 hH hS => ?_)
                          rw [nI_clamp (show a11 < 2 ^ 31 by omega), nI_clamp (show k595 < 2 ^ 31 by omega)] at hM16
                          obtain ⟨hu, hx⟩ := lqC_t hM16 ⟨(inx_n (a := a11) (n := no) (by omega) (by omega)).mpr hf, (inx_n (a := k595) (n := nb) (by omega) (by omega)).mpr (by omega)⟩ (h7.trans ((congrArg nI n632).trans hu.symm)) (h13.trans (congrArg nI (show t13 = 0 by omega)))
                          have hu : u15 = zap (zgq (lf 1 (3 * u)) (lf 3 (3 * k595 + 2)) + lf 2 (3 + 2 * yy) + lf 2 dd) (lf 1 (3 * u)) + zap (zgq (lf 1 (3 * u + 1)) (lf 3 (3 * k595 + 2)) + lf 2 (3 + 2 * yy + 1) + 0) (lf 1 (3 * u + 1)) := hu.trans (hob.symm)
                          rw [hu]
                          have hXr := LX_rf (LI_rx hx hM14.1 hT)
                          refine lv_iload C.1 C.2.1 dL_goes_708 (lv_at hl 0 rfl) ?_
                          refine lv_icmp_ne (tgt := 717) C.1 C.2.1 dL_goes_710 (by decide) (fun c710 => ?_) (fun c710 => ?_)
                          · exact absurd rfl c710
                          · refine lv_iconst (v := 1) C.1 C.2.1 dL_goes_713 rfl ?_
                            refine lv_goto (tgt := 718) C.1 C.2.1 dL_goes_714 (by decide) ?_
                            exact wr_zret () C hr hlocks (rfl) hH hS rfl (WS_mk hx hM14.1 hT ⟨hs0, hs5, hs9⟩ (LR_dye (R := 4) hR hf (show k595 < nb by omega) (by omega) hd1 hd2 hd3y hd4) (krN_cg hN (fun i _ => rfl))) (by decide) (by decide) dL_goes_718
                      · have n647 : ¬ t13 ≤ 0 := fun z => c647 ((nI_leI (a := t13) (b := 0) (by omega) (by omega)).mpr z)
                        refine lv_bipush (v := -103) C.1 C.2.1 dL_goes_650 rfl ?_
                        refine lv_goto (tgt := 673) C.1 C.2.1 dL_goes_652 (by decide) ?_
                        refine lv_istore (lv' := [(16, .int (-103)), (15, .int (nI k595)), (14, .int (nI (5 * (a11 % 10)))), (13, .ref (la 4)), (12, .int 1), (11, .int (nI a11)), (0, .ref x), (1, .int 2), (2, .int y), (3, .ref (la 0)), (4, .ref (la 1)), (5, .ref (la 2)), (6, .ref (la 3)), (7, .ref (la 4)), (8, .ref (la 5)), (9, .ref (la 6)), (10, .ref (la 7))]) C.1 C.2.1 dL_goes_673 hl (by decide) rfl (fun ls hl => ?_)
                        refine lv_iload C.1 C.2.1 dL_goes_675 (lv_at hl 0 rfl) ?_
                        refine lv_if_lt (tgt := 699) C.1 C.2.1 dL_goes_677 (by decide) (fun c677 => ?_) (fun c677 => ?_)
                        · refine lv_aload_n C.1 C.2.1 dL_goes_699 rfl (lv_at hl 6 rfl) ?_
                          refine lv_iconst (v := 2) C.1 C.2.1 dL_goes_700 rfl ?_
                          refine lv_iload C.1 C.2.1 dL_goes_701 (lv_at hl 5 rfl) ?_
                          refine lv_iload C.1 C.2.1 dL_goes_703 (lv_at hl 1 rfl) ?_
                          refine wr_go1 (runT C hE hH hS (l_dye hlx hI (nI a11) (nI k595)) mv_L_two wm_313 hl.1 dL_goes_705 rfl rfl ⟨rfl, rfl⟩ ⟨Nat.le_of_ble_eq_true rfl, Nat.le_of_ble_eq_true rfl⟩ (Nat.le_of_ble_eq_true rfl) ⟨Nat.le_of_ble_eq_true rfl, Nat.le_of_ble_eq_true rfl⟩) hS (fun u17 M18 H locs hM18 hH hS => ?_)
                          rw [nI_clamp (show a11 < 2 ^ 31 by omega), nI_clamp (show k595 < 2 ^ 31 by omega)] at hM18
                          obtain ⟨hu, hM⟩ := lqC_h hM18 ⟨(inx_n (a := a11) (n := no) (by omega) (by omega)).mpr hf, (inx_n (a := k595) (n := nb) (by omega) (by omega)).mpr (by omega)⟩ (h7.trans ((congrArg nI n632).trans hu.symm)) (fun z => n647 (by have z1 := nI_inj (a := t13) (b := 0) (by omega) (by omega) (h13.symm.trans z); omega))
                          rw [hu]
                          refine lv_iload C.1 C.2.1 dL_goes_708 (lv_at hl 0 rfl) ?_
                          refine lv_icmp_ne (tgt := 717) C.1 C.2.1 dL_goes_710 (by decide) (fun c710 => ?_) (fun c710 => ?_)
                          · exact absurd c710 (by decide)
                          · refine lv_iconst (v := 1) C.1 C.2.1 dL_goes_713 rfl ?_
                            refine lv_goto (tgt := 718) C.1 C.2.1 dL_goes_714 (by decide) ?_
                            exact wr_zret () C hr hlocks (rfl) hH hS rfl ((by rw [hM]; exact hLS)) (by decide) (by decide) dL_goes_718
                        · exact absurd c677 (by decide)
                    · have n632 : ¬ eb = u := fun z => c632 (congrArg nI z)
                      refine lv_bipush (v := -102) C.1 C.2.1 dL_goes_635 rfl ?_
                      refine lv_goto (tgt := 673) C.1 C.2.1 dL_goes_637 (by decide) ?_
                      refine lv_istore (lv' := [(16, .int (-102)), (15, .int (nI k595)), (14, .int (nI (5 * (a11 % 10)))), (13, .ref (la 4)), (12, .int 1), (11, .int (nI a11)), (0, .ref x), (1, .int 2), (2, .int y), (3, .ref (la 0)), (4, .ref (la 1)), (5, .ref (la 2)), (6, .ref (la 3)), (7, .ref (la 4)), (8, .ref (la 5)), (9, .ref (la 6)), (10, .ref (la 7))]) C.1 C.2.1 dL_goes_673 hl (by decide) rfl (fun ls hl => ?_)
                      refine lv_iload C.1 C.2.1 dL_goes_675 (lv_at hl 0 rfl) ?_
                      refine lv_if_lt (tgt := 699) C.1 C.2.1 dL_goes_677 (by decide) (fun c677 => ?_) (fun c677 => ?_)
                      · refine lv_aload_n C.1 C.2.1 dL_goes_699 rfl (lv_at hl 6 rfl) ?_
                        refine lv_iconst (v := 2) C.1 C.2.1 dL_goes_700 rfl ?_
                        refine lv_iload C.1 C.2.1 dL_goes_701 (lv_at hl 5 rfl) ?_
                        refine lv_iload C.1 C.2.1 dL_goes_703 (lv_at hl 1 rfl) ?_
                        refine wr_go1 (runT C hE hH hS (l_dye hlx hI (nI a11) (nI k595)) mv_L_two wm_313 hl.1 dL_goes_705 rfl rfl ⟨rfl, rfl⟩ ⟨Nat.le_of_ble_eq_true rfl, Nat.le_of_ble_eq_true rfl⟩ (Nat.le_of_ble_eq_true rfl) ⟨Nat.le_of_ble_eq_true rfl, Nat.le_of_ble_eq_true rfl⟩) hS (fun u19 M20 H locs hM20 hH hS => ?_)
                        rw [nI_clamp (show a11 < 2 ^ 31 by omega), nI_clamp (show k595 < 2 ^ 31 by omega)] at hM20
                        obtain ⟨hu, hM⟩ := lqC_g hM20 ⟨(inx_n (a := a11) (n := no) (by omega) (by omega)).mpr hf, (inx_n (a := k595) (n := nb) (by omega) (by omega)).mpr (by omega)⟩ (fun z => n632 (nI_inj (by omega) (by omega) (h7.symm.trans (z.trans hu))))
                        rw [hu]
                        refine lv_iload C.1 C.2.1 dL_goes_708 (lv_at hl 0 rfl) ?_
                        refine lv_icmp_ne (tgt := 717) C.1 C.2.1 dL_goes_710 (by decide) (fun c710 => ?_) (fun c710 => ?_)
                        · exact absurd c710 (by decide)
                        · refine lv_iconst (v := 1) C.1 C.2.1 dL_goes_713 rfl ?_
                          refine lv_goto (tgt := 718) C.1 C.2.1 dL_goes_714 (by decide) ?_
                          exact wr_zret () C hr hlocks (rfl) hH hS rfl ((by rw [hM]; exact hLS)) (by decide) (by decide) dL_goes_718
                      · exact absurd c677 (by decide)
                  · have n610 : ¬ k595 < nb := fun z => c610 ((nI_ltI (a := k595) (b := nb) (by omega) (by omega)).mpr z)
                    refine lv_bipush (v := -101) C.1 C.2.1 dL_goes_613 rfl ?_
                    refine lv_goto (tgt := 673) C.1 C.2.1 dL_goes_615 (by decide) ?_
                    refine lv_istore (lv' := [(16, .int (-101)), (15, .int (nI k595)), (14, .int (nI (5 * (a11 % 10)))), (13, .ref (la 4)), (12, .int 1), (11, .int (nI a11)), (0, .ref x), (1, .int 2), (2, .int y), (3, .ref (la 0)), (4, .ref (la 1)), (5, .ref (la 2)), (6, .ref (la 3)), (7, .ref (la 4)), (8, .ref (la 5)), (9, .ref (la 6)), (10, .ref (la 7))]) C.1 C.2.1 dL_goes_673 hl (by decide) rfl (fun ls hl => ?_)
                    refine lv_iload C.1 C.2.1 dL_goes_675 (lv_at hl 0 rfl) ?_
                    refine lv_if_lt (tgt := 699) C.1 C.2.1 dL_goes_677 (by decide) (fun c677 => ?_) (fun c677 => ?_)
                    · refine lv_aload_n C.1 C.2.1 dL_goes_699 rfl (lv_at hl 6 rfl) ?_
                      refine lv_iconst (v := 2) C.1 C.2.1 dL_goes_700 rfl ?_
                      refine lv_iload C.1 C.2.1 dL_goes_701 (lv_at hl 5 rfl) ?_
                      refine lv_iload C.1 C.2.1 dL_goes_703 (lv_at hl 1 rfl) ?_
                      refine wr_go1 (runT C hE hH hS (l_dye hlx hI (nI a11) (nI k595)) mv_L_two wm_313 hl.1 dL_goes_705 rfl rfl ⟨rfl, rfl⟩ ⟨Nat.le_of_ble_eq_true rfl, Nat.le_of_ble_eq_true rfl⟩ (Nat.le_of_ble_eq_true rfl) ⟨Nat.le_of_ble_eq_true rfl, Nat.le_of_ble_eq_true rfl⟩) hS (fun u21 M22 H locs hM22 hH hS => ?_)
                      obtain ⟨hu, hM⟩ := lqC_f hM22 (fun z => by have z1 := (inx_n (a := k595) (n := nb) (by omega) (by omega)).mp z.2; omega)
                      rw [hu]
                      refine lv_iload C.1 C.2.1 dL_goes_708 (lv_at hl 0 rfl) ?_
                      refine lv_icmp_ne (tgt := 717) C.1 C.2.1 dL_goes_710 (by decide) (fun c710 => ?_) (fun c710 => ?_)
                      · exact absurd c710 (by decide)
                      · refine lv_iconst (v := 1) C.1 C.2.1 dL_goes_713 rfl ?_
                        refine lv_goto (tgt := 718) C.1 C.2.1 dL_goes_714 (by decide) ?_
                        exact wr_zret () C hr hlocks (rfl) hH hS rfl ((by rw [hM]; exact hLS)) (by decide) (by decide) dL_goes_718
                    · exact absurd c677 (by decide)
            · exact absurd c374 (by decide)
      have J336f : ∀ (hf : ¬ a11 < no) (ls : Array Slot), lv_has ls 18 [(11, .int (nI a11)), (0, .ref x), (1, .int 2), (2, .int y), (3, .ref (la 0)), (4, .ref (la 1)), (5, .ref (la 2)), (6, .ref (la 3)), (7, .ref (la 4)), (8, .ref (la 5)), (9, .ref (la 6)), (10, .ref (la 7))] → W p l e { frames := 11, cells := 6, slots := 230, locals := 283 } s m args below meth c s.heap [] 0 0 (MQ below (wrQ (S := Unit) g (fun u_ => (some (.int 1))) (fun u_ M_ => WS g M_ x la n)) args s 6 230 (gA g)) (F0 m 336 ls [.int 0]) := by
        intro  hf ls hl
        refine lv_istore (lv' := [(12, .int 0), (11, .int (nI a11)), (0, .ref x), (1, .int 2), (2, .int y), (3, .ref (la 0)), (4, .ref (la 1)), (5, .ref (la 2)), (6, .ref (la 3)), (7, .ref (la 4)), (8, .ref (la 5)), (9, .ref (la 6)), (10, .ref (la 7))]) C.1 C.2.1 dL_goes_336 hl (by decide) rfl (fun ls hl => ?_)
        refine lv_iload C.1 C.2.1 dL_goes_338 (lv_at hl 1 rfl) ?_
        refine lv_bipush (v := 10) C.1 C.2.1 dL_goes_340 rfl ?_
        refine lv_icmp_ge (tgt := 350) C.1 C.2.1 dL_goes_342 (by decide) (fun c342 => ?_) (fun c342 => ?_)
        · have n342 : 10 ≤ a11 := (nI_leI (a := 10) (b := a11) (by omega) (by omega)).mp c342
          refine lv_aload C.1 C.2.1 dL_goes_350 (lv_at hl 10 rfl) ?_
          refine lv_astore (lv' := [(13, .ref (la 5)), (12, .int 0), (11, .int (nI a11)), (0, .ref x), (1, .int 2), (2, .int y), (3, .ref (la 0)), (4, .ref (la 1)), (5, .ref (la 2)), (6, .ref (la 3)), (7, .ref (la 4)), (8, .ref (la 5)), (9, .ref (la 6)), (10, .ref (la 7))]) C.1 C.2.1 dL_goes_352 hl (by decide) rfl (fun ls hl => ?_)
          refine lv_iload C.1 C.2.1 dL_goes_354 (lv_at hl 1 rfl) ?_
          refine lv_if_eq (tgt := 369) C.1 C.2.1 dL_goes_356 (by decide) (fun c356 => ?_) (fun c356 => ?_)
          · refine lv_iconst (v := 0) C.1 C.2.1 dL_goes_369 rfl ?_
            refine lv_istore (lv' := [(14, .int 0), (13, .ref (la 5)), (12, .int 0), (11, .int (nI a11)), (0, .ref x), (1, .int 2), (2, .int y), (3, .ref (la 0)), (4, .ref (la 1)), (5, .ref (la 2)), (6, .ref (la 3)), (7, .ref (la 4)), (8, .ref (la 5)), (9, .ref (la 6)), (10, .ref (la 7))]) C.1 C.2.1 dL_goes_370 hl (by decide) rfl (fun ls hl => ?_)
            refine lv_iload_n C.1 C.2.1 dL_goes_372 rfl (lv_at hl 5 rfl) ?_
            refine lv_iconst (v := 1) C.1 C.2.1 dL_goes_373 rfl ?_
            refine lv_icmp_ne (tgt := 582) C.1 C.2.1 dL_goes_374 (by decide) (fun c374 => ?_) (fun c374 => ?_)
            · refine lv_iload_n C.1 C.2.1 dL_goes_582 rfl (lv_at hl 5 rfl) ?_
              refine lv_iconst (v := 2) C.1 C.2.1 dL_goes_583 rfl ?_
              refine lv_icmp_ne (tgt := 719) C.1 C.2.1 dL_goes_584 (by decide) (fun c584 => ?_) (fun c584 => ?_)
              · exact absurd c584 (by decide)
              · refine lv_iload_n C.1 C.2.1 dL_goes_587 rfl (lv_at hl 6 rfl) ?_
                refine lv_iconst (v := 5) C.1 C.2.1 dL_goes_588 rfl ?_
                refine lv_ishr C.1 C.2.1 dL_goes_589 ?_
                refine lv_aload_n C.1 C.2.1 dL_goes_590 rfl (lv_at hl 7 rfl) ?_
                refine lv_iconst (v := 1) C.1 C.2.1 dL_goes_591 rfl ?_
                refine lald (K := 0) (N := 3) (E := 1) (f := (lf 0)) (v := (nI nb)) C hE hH hX (by decide) rfl rfl rfl (by omega) (hc1) dL_goes_592 ?_
                refine lv_iconst (v := 1) C.1 C.2.1 dL_goes_593 rfl ?_
                refine lv_iadd C.1 C.2.1 dL_goes_594 ?_
                rw [show ((nI nb) + 1 : Int32) = nI (nb + 1) from nI_add nb 1]
                refine some_go (N := nb + 1) (runS C hE hH hS (c_some (n := nI (nb + 1)) (N := nb + 1) rfl (by omega) (by omega) (y >>> (5 &&& 31))) mv_L_some wm_121 hl.1 dL_goes_595 rfl rfl ⟨rfl, rfl⟩ ⟨Nat.le_of_ble_eq_true rfl, Nat.le_of_ble_eq_true rfl⟩ (Nat.le_of_ble_eq_true rfl) ⟨Nat.le_of_ble_eq_true rfl, Nat.le_of_ble_eq_true rfl⟩) rfl (by omega) (by omega) (fun k595 hk595 => ?_)
                refine lv_istore (lv' := [(15, .int (nI k595)), (14, .int 0), (13, .ref (la 5)), (12, .int 0), (11, .int (nI a11)), (0, .ref x), (1, .int 2), (2, .int y), (3, .ref (la 0)), (4, .ref (la 1)), (5, .ref (la 2)), (6, .ref (la 3)), (7, .ref (la 4)), (8, .ref (la 5)), (9, .ref (la 6)), (10, .ref (la 7))]) C.1 C.2.1 dL_goes_598 hl (by decide) rfl (fun ls hl => ?_)
                refine lv_iload C.1 C.2.1 dL_goes_600 (lv_at hl 3 rfl) ?_
                refine lv_if_eq (tgt := 613) C.1 C.2.1 dL_goes_602 (by decide) (fun c602 => ?_) (fun c602 => ?_)
                · refine lv_bipush (v := -101) C.1 C.2.1 dL_goes_613 rfl ?_
                  refine lv_goto (tgt := 673) C.1 C.2.1 dL_goes_615 (by decide) ?_
                  refine lv_istore (lv' := [(16, .int (-101)), (15, .int (nI k595)), (14, .int 0), (13, .ref (la 5)), (12, .int 0), (11, .int (nI a11)), (0, .ref x), (1, .int 2), (2, .int y), (3, .ref (la 0)), (4, .ref (la 1)), (5, .ref (la 2)), (6, .ref (la 3)), (7, .ref (la 4)), (8, .ref (la 5)), (9, .ref (la 6)), (10, .ref (la 7))]) C.1 C.2.1 dL_goes_673 hl (by decide) rfl (fun ls hl => ?_)
                  refine lv_iload C.1 C.2.1 dL_goes_675 (lv_at hl 0 rfl) ?_
                  refine lv_if_lt (tgt := 699) C.1 C.2.1 dL_goes_677 (by decide) (fun c677 => ?_) (fun c677 => ?_)
                  · refine lv_aload_n C.1 C.2.1 dL_goes_699 rfl (lv_at hl 6 rfl) ?_
                    refine lv_iconst (v := 2) C.1 C.2.1 dL_goes_700 rfl ?_
                    refine lv_iload C.1 C.2.1 dL_goes_701 (lv_at hl 5 rfl) ?_
                    refine lv_iload C.1 C.2.1 dL_goes_703 (lv_at hl 1 rfl) ?_
                    refine wr_go1 (runT C hE hH hS (l_dye hlx hI (nI a11) (nI k595)) mv_L_two wm_313 hl.1 dL_goes_705 rfl rfl ⟨rfl, rfl⟩ ⟨Nat.le_of_ble_eq_true rfl, Nat.le_of_ble_eq_true rfl⟩ (Nat.le_of_ble_eq_true rfl) ⟨Nat.le_of_ble_eq_true rfl, Nat.le_of_ble_eq_true rfl⟩) hS (fun u23 M24 H locs hM24 hH hS => ?_)
                    obtain ⟨hu, hM⟩ := lqC_f hM24 (fun z => hf ((inx_n (a := a11) (n := no) (by omega) (by omega)).mp z.1))
                    rw [hu]
                    refine lv_iload C.1 C.2.1 dL_goes_708 (lv_at hl 0 rfl) ?_
                    refine lv_icmp_ne (tgt := 717) C.1 C.2.1 dL_goes_710 (by decide) (fun c710 => ?_) (fun c710 => ?_)
                    · exact absurd c710 (by decide)
                    · refine lv_iconst (v := 1) C.1 C.2.1 dL_goes_713 rfl ?_
                      refine lv_goto (tgt := 718) C.1 C.2.1 dL_goes_714 (by decide) ?_
                      exact wr_zret () C hr hlocks (rfl) hH hS rfl ((by rw [hM]; exact hLS)) (by decide) (by decide) dL_goes_718
                  · exact absurd c677 (by decide)
                · exact absurd c602 (by decide)
            · exact absurd c374 (by decide)
          · exact absurd c356 (by decide)
        · have n342 : ¬ 10 ≤ a11 := fun z => c342 ((nI_leI (a := 10) (b := a11) (by omega) (by omega)).mpr z)
          refine lv_aload C.1 C.2.1 dL_goes_345 (lv_at hl 9 rfl) ?_
          refine lv_goto (tgt := 352) C.1 C.2.1 dL_goes_347 (by decide) ?_
          refine lv_astore (lv' := [(13, .ref (la 4)), (12, .int 0), (11, .int (nI a11)), (0, .ref x), (1, .int 2), (2, .int y), (3, .ref (la 0)), (4, .ref (la 1)), (5, .ref (la 2)), (6, .ref (la 3)), (7, .ref (la 4)), (8, .ref (la 5)), (9, .ref (la 6)), (10, .ref (la 7))]) C.1 C.2.1 dL_goes_352 hl (by decide) rfl (fun ls hl => ?_)
          refine lv_iload C.1 C.2.1 dL_goes_354 (lv_at hl 1 rfl) ?_
          refine lv_if_eq (tgt := 369) C.1 C.2.1 dL_goes_356 (by decide) (fun c356 => ?_) (fun c356 => ?_)
          · refine lv_iconst (v := 0) C.1 C.2.1 dL_goes_369 rfl ?_
            refine lv_istore (lv' := [(14, .int 0), (13, .ref (la 4)), (12, .int 0), (11, .int (nI a11)), (0, .ref x), (1, .int 2), (2, .int y), (3, .ref (la 0)), (4, .ref (la 1)), (5, .ref (la 2)), (6, .ref (la 3)), (7, .ref (la 4)), (8, .ref (la 5)), (9, .ref (la 6)), (10, .ref (la 7))]) C.1 C.2.1 dL_goes_370 hl (by decide) rfl (fun ls hl => ?_)
            refine lv_iload_n C.1 C.2.1 dL_goes_372 rfl (lv_at hl 5 rfl) ?_
            refine lv_iconst (v := 1) C.1 C.2.1 dL_goes_373 rfl ?_
            refine lv_icmp_ne (tgt := 582) C.1 C.2.1 dL_goes_374 (by decide) (fun c374 => ?_) (fun c374 => ?_)
            · refine lv_iload_n C.1 C.2.1 dL_goes_582 rfl (lv_at hl 5 rfl) ?_
              refine lv_iconst (v := 2) C.1 C.2.1 dL_goes_583 rfl ?_
              refine lv_icmp_ne (tgt := 719) C.1 C.2.1 dL_goes_584 (by decide) (fun c584 => ?_) (fun c584 => ?_)
              · exact absurd c584 (by decide)
              · refine lv_iload_n C.1 C.2.1 dL_goes_587 rfl (lv_at hl 6 rfl) ?_
                refine lv_iconst (v := 5) C.1 C.2.1 dL_goes_588 rfl ?_
                refine lv_ishr C.1 C.2.1 dL_goes_589 ?_
                refine lv_aload_n C.1 C.2.1 dL_goes_590 rfl (lv_at hl 7 rfl) ?_
                refine lv_iconst (v := 1) C.1 C.2.1 dL_goes_591 rfl ?_
                refine lald (K := 0) (N := 3) (E := 1) (f := (lf 0)) (v := (nI nb)) C hE hH hX (by decide) rfl rfl rfl (by omega) (hc1) dL_goes_592 ?_
                refine lv_iconst (v := 1) C.1 C.2.1 dL_goes_593 rfl ?_
                refine lv_iadd C.1 C.2.1 dL_goes_594 ?_
                rw [show ((nI nb) + 1 : Int32) = nI (nb + 1) from nI_add nb 1]
                refine some_go (N := nb + 1) (runS C hE hH hS (c_some (n := nI (nb + 1)) (N := nb + 1) rfl (by omega) (by omega) (y >>> (5 &&& 31))) mv_L_some wm_121 hl.1 dL_goes_595 rfl rfl ⟨rfl, rfl⟩ ⟨Nat.le_of_ble_eq_true rfl, Nat.le_of_ble_eq_true rfl⟩ (Nat.le_of_ble_eq_true rfl) ⟨Nat.le_of_ble_eq_true rfl, Nat.le_of_ble_eq_true rfl⟩) rfl (by omega) (by omega) (fun k595 hk595 => ?_)
                refine lv_istore (lv' := [(15, .int (nI k595)), (14, .int 0), (13, .ref (la 4)), (12, .int 0), (11, .int (nI a11)), (0, .ref x), (1, .int 2), (2, .int y), (3, .ref (la 0)), (4, .ref (la 1)), (5, .ref (la 2)), (6, .ref (la 3)), (7, .ref (la 4)), (8, .ref (la 5)), (9, .ref (la 6)), (10, .ref (la 7))]) C.1 C.2.1 dL_goes_598 hl (by decide) rfl (fun ls hl => ?_)
                refine lv_iload C.1 C.2.1 dL_goes_600 (lv_at hl 3 rfl) ?_
                refine lv_if_eq (tgt := 613) C.1 C.2.1 dL_goes_602 (by decide) (fun c602 => ?_) (fun c602 => ?_)
                · refine lv_bipush (v := -101) C.1 C.2.1 dL_goes_613 rfl ?_
                  refine lv_goto (tgt := 673) C.1 C.2.1 dL_goes_615 (by decide) ?_
                  refine lv_istore (lv' := [(16, .int (-101)), (15, .int (nI k595)), (14, .int 0), (13, .ref (la 4)), (12, .int 0), (11, .int (nI a11)), (0, .ref x), (1, .int 2), (2, .int y), (3, .ref (la 0)), (4, .ref (la 1)), (5, .ref (la 2)), (6, .ref (la 3)), (7, .ref (la 4)), (8, .ref (la 5)), (9, .ref (la 6)), (10, .ref (la 7))]) C.1 C.2.1 dL_goes_673 hl (by decide) rfl (fun ls hl => ?_)
                  refine lv_iload C.1 C.2.1 dL_goes_675 (lv_at hl 0 rfl) ?_
                  refine lv_if_lt (tgt := 699) C.1 C.2.1 dL_goes_677 (by decide) (fun c677 => ?_) (fun c677 => ?_)
                  · refine lv_aload_n C.1 C.2.1 dL_goes_699 rfl (lv_at hl 6 rfl) ?_
                    refine lv_iconst (v := 2) C.1 C.2.1 dL_goes_700 rfl ?_
                    refine lv_iload C.1 C.2.1 dL_goes_701 (lv_at hl 5 rfl) ?_
                    refine lv_iload C.1 C.2.1 dL_goes_703 (lv_at hl 1 rfl) ?_
                    refine wr_go1 (runT C hE hH hS (l_dye hlx hI (nI a11) (nI k595)) mv_L_two wm_313 hl.1 dL_goes_705 rfl rfl ⟨rfl, rfl⟩ ⟨Nat.le_of_ble_eq_true rfl, Nat.le_of_ble_eq_true rfl⟩ (Nat.le_of_ble_eq_true rfl) ⟨Nat.le_of_ble_eq_true rfl, Nat.le_of_ble_eq_true rfl⟩) hS (fun u25 M26 H locs hM26 hH hS => ?_)
                    obtain ⟨hu, hM⟩ := lqC_f hM26 (fun z => hf ((inx_n (a := a11) (n := no) (by omega) (by omega)).mp z.1))
                    rw [hu]
                    refine lv_iload C.1 C.2.1 dL_goes_708 (lv_at hl 0 rfl) ?_
                    refine lv_icmp_ne (tgt := 717) C.1 C.2.1 dL_goes_710 (by decide) (fun c710 => ?_) (fun c710 => ?_)
                    · exact absurd c710 (by decide)
                    · refine lv_iconst (v := 1) C.1 C.2.1 dL_goes_713 rfl ?_
                      refine lv_goto (tgt := 718) C.1 C.2.1 dL_goes_714 (by decide) ?_
                      exact wr_zret () C hr hlocks (rfl) hH hS rfl ((by rw [hM]; exact hLS)) (by decide) (by decide) dL_goes_718
                  · exact absurd c677 (by decide)
                · exact absurd c602 (by decide)
            · exact absurd c374 (by decide)
          · exact absurd c356 (by decide)
      refine lv_iload C.1 C.2.1 dL_goes_318 (lv_at hl 0 rfl) ?_
      refine lv_if_lt (tgt := 335) C.1 C.2.1 dL_goes_320 (by decide) (fun c320 => ?_) (fun c320 => ?_)
      · exact absurd (n_ge (by omega) (by decide)) (n_nlt c320)
      · refine lv_iload C.1 C.2.1 dL_goes_323 (lv_at hl 0 rfl) ?_
        refine lv_aload_n C.1 C.2.1 dL_goes_325 rfl (lv_at hl 4 rfl) ?_
        refine lv_iconst (v := 2) C.1 C.2.1 dL_goes_326 rfl ?_
        refine lald (K := 0) (N := 3) (E := 2) (f := (lf 0)) (v := (nI no)) C hE hH hX (by decide) rfl rfl rfl (by omega) (hc2) dL_goes_327 ?_
        refine lv_icmp_ge (tgt := 335) C.1 C.2.1 dL_goes_328 (by decide) (fun c328 => ?_) (fun c328 => ?_)
        · have n328 : no ≤ a11 := (nI_leI (a := no) (b := a11) (by omega) (by omega)).mp c328
          refine lv_iconst (v := 0) C.1 C.2.1 dL_goes_335 rfl ?_
          exact J336f (by omega) ls (hl)
        · have n328 : ¬ no ≤ a11 := fun z => c328 ((nI_leI (a := no) (b := a11) (by omega) (by omega)).mpr z)
          refine lv_iconst (v := 1) C.1 C.2.1 dL_goes_331 rfl ?_
          refine lv_goto (tgt := 336) C.1 C.2.1 dL_goes_332 (by decide) ?_
          exact J336t (by omega) ls (hl)
    refine lv_iload_n C.1 C.2.1 dL_goes_256 rfl (lv_at hl 2 rfl) ?_
    refine lv_iconst (v := 3) C.1 C.2.1 dL_goes_257 rfl ?_
    refine some_go (N := 3) (runS C hE hH hS (c_some (n := 3) (N := 3) rfl (by omega) (by omega) y) mv_L_some wm_121 hl.1 dL_goes_258 rfl rfl ⟨rfl, rfl⟩ ⟨Nat.le_of_ble_eq_true rfl, Nat.le_of_ble_eq_true rfl⟩ (Nat.le_of_ble_eq_true rfl) ⟨Nat.le_of_ble_eq_true rfl, Nat.le_of_ble_eq_true rfl⟩) rfl (by omega) (by omega) (fun k258 hk258 => ?_)
    refine lv_if_ne (tgt := 278) C.1 C.2.1 dL_goes_261 (by decide) (fun c261 => ?_) (fun c261 => ?_)
    · have n261 : ¬ k258 = 0 := fun z => c261 (congrArg nI z)
      refine lv_aload_n C.1 C.2.1 dL_goes_278 rfl (lv_at hl 3 rfl) ?_
      refine lv_iconst (v := 2) C.1 C.2.1 dL_goes_279 rfl ?_
      refine lald (K := 0) (N := 3) (E := 2) (f := (lf 0)) (v := (nI no)) C hE hH hX (by decide) rfl rfl rfl (by omega) (hc2) dL_goes_280 ?_
      refine lv_if_ne (tgt := 288) C.1 C.2.1 dL_goes_281 (by decide) (fun c281 => ?_) (fun c281 => ?_)
      · have n281 : ¬ no = 0 := fun z => c281 (congrArg nI z)
        refine lv_aload_n C.1 C.2.1 dL_goes_288 rfl (lv_at hl 3 rfl) ?_
        refine lv_iconst (v := 2) C.1 C.2.1 dL_goes_289 rfl ?_
        refine lald (K := 0) (N := 3) (E := 2) (f := (lf 0)) (v := (nI no)) C hE hH hX (by decide) rfl rfl rfl (by omega) (hc2) dL_goes_290 ?_
        refine lv_iconst (v := 1) C.1 C.2.1 dL_goes_291 rfl ?_
        refine lv_isub C.1 C.2.1 dL_goes_292 ?_
        rw [show (nI no - 1 : Int32) = nI (no - 1) from nI_S (a := no) (b := 1) (by omega)]
        refine lv_iload_n C.1 C.2.1 dL_goes_293 rfl (lv_at hl 2 rfl) ?_
        refine lv_iconst (v := 3) C.1 C.2.1 dL_goes_294 rfl ?_
        refine lv_ishr C.1 C.2.1 dL_goes_295 ?_
        refine lv_aload_n C.1 C.2.1 dL_goes_296 rfl (lv_at hl 3 rfl) ?_
        refine lv_iconst (v := 2) C.1 C.2.1 dL_goes_297 rfl ?_
        refine lald (K := 0) (N := 3) (E := 2) (f := (lf 0)) (v := (nI no)) C hE hH hX (by decide) rfl rfl rfl (by omega) (hc2) dL_goes_298 ?_
        refine lv_bipush (v := 6) C.1 C.2.1 dL_goes_299 rfl ?_
        refine lv_icmp_ge (tgt := 310) C.1 C.2.1 dL_goes_301 (by decide) (fun c301 => ?_) (fun c301 => ?_)
        · have n301 : 6 ≤ no := (nI_leI (a := 6) (b := no) (by omega) (by omega)).mp c301
          refine lv_bipush (v := 6) C.1 C.2.1 dL_goes_310 rfl ?_
          refine some_go (N := 6) (runS C hE hH hS (c_some (n := 6) (N := 6) rfl (by omega) (by omega) (y >>> (3 &&& 31))) mv_L_some wm_121 hl.1 dL_goes_312 rfl rfl ⟨rfl, rfl⟩ ⟨Nat.le_of_ble_eq_true rfl, Nat.le_of_ble_eq_true rfl⟩ (Nat.le_of_ble_eq_true rfl) ⟨Nat.le_of_ble_eq_true rfl, Nat.le_of_ble_eq_true rfl⟩) rfl (by omega) (by omega) (fun k312 hk312 => ?_)
          refine lv_isub C.1 C.2.1 dL_goes_315 ?_
          rw [show (nI (no - 1) - nI k312 : Int32) = nI (no - 1 - k312) from nI_S (by omega)]
          exact J316p (no - 1 - k312) (by omega) ls (hl)
        · have n301 : ¬ 6 ≤ no := fun z => c301 ((nI_leI (a := 6) (b := no) (by omega) (by omega)).mpr z)
          refine lv_aload_n C.1 C.2.1 dL_goes_304 rfl (lv_at hl 3 rfl) ?_
          refine lv_iconst (v := 2) C.1 C.2.1 dL_goes_305 rfl ?_
          refine lald (K := 0) (N := 3) (E := 2) (f := (lf 0)) (v := (nI no)) C hE hH hX (by decide) rfl rfl rfl (by omega) (hc2) dL_goes_306 ?_
          refine lv_goto (tgt := 312) C.1 C.2.1 dL_goes_307 (by decide) ?_
          refine some_go (N := no) (runS C hE hH hS (c_some (n := nI no) (N := no) rfl (by omega) (by omega) (y >>> (3 &&& 31))) mv_L_some wm_121 hl.1 dL_goes_312 rfl rfl ⟨rfl, rfl⟩ ⟨Nat.le_of_ble_eq_true rfl, Nat.le_of_ble_eq_true rfl⟩ (Nat.le_of_ble_eq_true rfl) ⟨Nat.le_of_ble_eq_true rfl, Nat.le_of_ble_eq_true rfl⟩) rfl (by omega) (by omega) (fun k312 hk312 => ?_)
          refine lv_isub C.1 C.2.1 dL_goes_315 ?_
          rw [show (nI (no - 1) - nI k312 : Int32) = nI (no - 1 - k312) from nI_S (by omega)]
          exact J316p (no - 1 - k312) (by omega) ls (hl)
      · have n281 : no = 0 := nI_inj (by omega) (by omega) c281
        refine lv_iconst (v := -1) C.1 C.2.1 dL_goes_284 rfl ?_
        refine lv_goto (tgt := 316) C.1 C.2.1 dL_goes_285 (by decide) ?_
        exact J316m  ls (hl)
    · have n261 : k258 = 0 := nI_inj (by omega) (by omega) c261
      refine lv_iload_n C.1 C.2.1 dL_goes_264 rfl (lv_at hl 2 rfl) ?_
      refine lv_iconst (v := 3) C.1 C.2.1 dL_goes_265 rfl ?_
      refine lv_ishr C.1 C.2.1 dL_goes_266 ?_
      refine lv_aload_n C.1 C.2.1 dL_goes_267 rfl (lv_at hl 3 rfl) ?_
      refine lv_iconst (v := 2) C.1 C.2.1 dL_goes_268 rfl ?_
      refine lald (K := 0) (N := 3) (E := 2) (f := (lf 0)) (v := (nI no)) C hE hH hX (by decide) rfl rfl rfl (by omega) (hc2) dL_goes_269 ?_
      refine lv_iconst (v := 1) C.1 C.2.1 dL_goes_270 rfl ?_
      refine lv_iadd C.1 C.2.1 dL_goes_271 ?_
      rw [show ((nI no) + 1 : Int32) = nI (no + 1) from nI_add no 1]
      refine some_go (N := no + 1) (runS C hE hH hS (c_some (n := nI (no + 1)) (N := no + 1) rfl (by omega) (by omega) (y >>> (3 &&& 31))) mv_L_some wm_121 hl.1 dL_goes_272 rfl rfl ⟨rfl, rfl⟩ ⟨Nat.le_of_ble_eq_true rfl, Nat.le_of_ble_eq_true rfl⟩ (Nat.le_of_ble_eq_true rfl) ⟨Nat.le_of_ble_eq_true rfl, Nat.le_of_ble_eq_true rfl⟩) rfl (by omega) (by omega) (fun k272 hk272 => ?_)
      refine lv_goto (tgt := 316) C.1 C.2.1 dL_goes_275 (by decide) ?_
      exact J316p k272 (by omega) ls (hl)
  · exact absurd c1 (by decide)
set_option maxHeartbeats 4000000 in
set_option maxRecDepth 100000 in
theorem g_claim {l : Launch} {g : gG} {M : Mp} {la : Nat → Nat} {x n : Nat}  (hlx : l.stackTraces = false) (hLS : WS g M x la n) (y : Int32) : Met l yL_goes (WY yL_goes cL_goes 18 (some .boolean)) { frames := 10, cells := 6, slots := 230, locals := 172 } (Wc g M [.ref x, .int 3, .int y, .ref (la 0), .ref (la 1), .ref (la 2), .ref (la 3), .ref (la 4), .ref (la 5), .ref (la 6), .ref (la 7)]) (wrQ (S := Unit) g (fun u_ => (some (.int 1))) (fun u_ M_ => WS g M_ x la n)) 6 230 (gA g) := by
  refine ofM (by decide +kernel) (Nat.le_of_ble_eq_true rfl) (fun p e s m args below meth c ls C hr hlocks hin hE hH hl ea => ?_)
  have hl : lv_has ls 18 [(0, .ref x), (1, .int 3), (2, .int y), (3, .ref (la 0)), (4, .ref (la 1)), (5, .ref (la 2)), (6, .ref (la 3)), (7, .ref (la 4)), (8, .ref (la 5)), (9, .ref (la 6)), (10, .ref (la 7))] := hl
  have hS : va_S (gA g) s.heap s.heap [] := va_S.rf
  obtain ⟨tg, A, pr, br, np, hh, ne, nb, no, sc, ar, lf, hI, hL, hT, hR, hN⟩ := id hLS
  have hX := LX_rf hL
  obtain ⟨⟨hs0, hs5, hs9⟩, iX, iE, iB, iO, iW, iBl, iC⟩ := id hI
  obtain ⟨⟨hc0, hc1, hc2⟩, ⟨sne, snb, sno⟩, rE, ⟨rW, rY⟩, rB, rO, rM, rD, rZ⟩ := id hR
  refine lv_iload_n C.1 C.2.1 dL_goes_0 rfl (lv_at hl 1 rfl) ?_
  refine lv_if_ne (tgt := 256) C.1 C.2.1 dL_goes_1 (by decide) (fun c1 => ?_) (fun c1 => ?_)
  · have J316m : ∀ (ls : Array Slot), lv_has ls 18 [(0, .ref x), (1, .int 3), (2, .int y), (3, .ref (la 0)), (4, .ref (la 1)), (5, .ref (la 2)), (6, .ref (la 3)), (7, .ref (la 4)), (8, .ref (la 5)), (9, .ref (la 6)), (10, .ref (la 7))] → W p l e { frames := 10, cells := 6, slots := 230, locals := 172 } s m args below meth c s.heap [] 0 0 (MQ below (wrQ (S := Unit) g (fun u_ => (some (.int 1))) (fun u_ M_ => WS g M_ x la n)) args s 6 230 (gA g)) (F0 m 316 ls [.int (-1)]) := by
      intro   ls hl
      refine lv_istore (lv' := [(11, .int (-1)), (0, .ref x), (1, .int 3), (2, .int y), (3, .ref (la 0)), (4, .ref (la 1)), (5, .ref (la 2)), (6, .ref (la 3)), (7, .ref (la 4)), (8, .ref (la 5)), (9, .ref (la 6)), (10, .ref (la 7))]) C.1 C.2.1 dL_goes_316 hl (by decide) rfl (fun ls hl => ?_)
      have J336f : ∀ (ls : Array Slot), lv_has ls 18 [(11, .int (-1)), (0, .ref x), (1, .int 3), (2, .int y), (3, .ref (la 0)), (4, .ref (la 1)), (5, .ref (la 2)), (6, .ref (la 3)), (7, .ref (la 4)), (8, .ref (la 5)), (9, .ref (la 6)), (10, .ref (la 7))] → W p l e { frames := 10, cells := 6, slots := 230, locals := 172 } s m args below meth c s.heap [] 0 0 (MQ below (wrQ (S := Unit) g (fun u_ => (some (.int 1))) (fun u_ M_ => WS g M_ x la n)) args s 6 230 (gA g)) (F0 m 336 ls [.int 0]) := by
        intro   ls hl
        refine lv_istore (lv' := [(12, .int 0), (11, .int (-1)), (0, .ref x), (1, .int 3), (2, .int y), (3, .ref (la 0)), (4, .ref (la 1)), (5, .ref (la 2)), (6, .ref (la 3)), (7, .ref (la 4)), (8, .ref (la 5)), (9, .ref (la 6)), (10, .ref (la 7))]) C.1 C.2.1 dL_goes_336 hl (by decide) rfl (fun ls hl => ?_)
        refine lv_iload C.1 C.2.1 dL_goes_338 (lv_at hl 1 rfl) ?_
        refine lv_bipush (v := 10) C.1 C.2.1 dL_goes_340 rfl ?_
        refine lv_icmp_ge (tgt := 350) C.1 C.2.1 dL_goes_342 (by decide) (fun c342 => ?_) (fun c342 => ?_)
        · exact absurd c342 (by decide)
        · refine lv_aload C.1 C.2.1 dL_goes_345 (lv_at hl 9 rfl) ?_
          refine lv_goto (tgt := 352) C.1 C.2.1 dL_goes_347 (by decide) ?_
          refine lv_astore (lv' := [(13, .ref (la 4)), (12, .int 0), (11, .int (-1)), (0, .ref x), (1, .int 3), (2, .int y), (3, .ref (la 0)), (4, .ref (la 1)), (5, .ref (la 2)), (6, .ref (la 3)), (7, .ref (la 4)), (8, .ref (la 5)), (9, .ref (la 6)), (10, .ref (la 7))]) C.1 C.2.1 dL_goes_352 hl (by decide) rfl (fun ls hl => ?_)
          refine lv_iload C.1 C.2.1 dL_goes_354 (lv_at hl 1 rfl) ?_
          refine lv_if_eq (tgt := 369) C.1 C.2.1 dL_goes_356 (by decide) (fun c356 => ?_) (fun c356 => ?_)
          · refine lv_iconst (v := 0) C.1 C.2.1 dL_goes_369 rfl ?_
            refine lv_istore (lv' := [(14, .int 0), (13, .ref (la 4)), (12, .int 0), (11, .int (-1)), (0, .ref x), (1, .int 3), (2, .int y), (3, .ref (la 0)), (4, .ref (la 1)), (5, .ref (la 2)), (6, .ref (la 3)), (7, .ref (la 4)), (8, .ref (la 5)), (9, .ref (la 6)), (10, .ref (la 7))]) C.1 C.2.1 dL_goes_370 hl (by decide) rfl (fun ls hl => ?_)
            refine lv_iload_n C.1 C.2.1 dL_goes_372 rfl (lv_at hl 5 rfl) ?_
            refine lv_iconst (v := 1) C.1 C.2.1 dL_goes_373 rfl ?_
            refine lv_icmp_ne (tgt := 582) C.1 C.2.1 dL_goes_374 (by decide) (fun c374 => ?_) (fun c374 => ?_)
            · refine lv_iload_n C.1 C.2.1 dL_goes_582 rfl (lv_at hl 5 rfl) ?_
              refine lv_iconst (v := 2) C.1 C.2.1 dL_goes_583 rfl ?_
              refine lv_icmp_ne (tgt := 719) C.1 C.2.1 dL_goes_584 (by decide) (fun c584 => ?_) (fun c584 => ?_)
              · refine lv_iload C.1 C.2.1 dL_goes_719 (lv_at hl 2 rfl) ?_
                refine lv_if_ne (tgt := 729) C.1 C.2.1 dL_goes_721 (by decide) (fun c721 => ?_) (fun c721 => ?_)
                · exact absurd c721 (by decide)
                · refine lv_bipush (v := -101) C.1 C.2.1 dL_goes_724 rfl ?_
                  refine lv_goto (tgt := 768) C.1 C.2.1 dL_goes_726 (by decide) ?_
                  refine lv_istore (lv' := [(15, .int (-101)), (14, .int 0), (13, .ref (la 4)), (12, .int 0), (11, .int (-1)), (0, .ref x), (1, .int 3), (2, .int y), (3, .ref (la 0)), (4, .ref (la 1)), (5, .ref (la 2)), (6, .ref (la 3)), (7, .ref (la 4)), (8, .ref (la 5)), (9, .ref (la 6)), (10, .ref (la 7))]) C.1 C.2.1 dL_goes_768 hl (by decide) rfl (fun ls hl => ?_)
                  refine lv_iload C.1 C.2.1 dL_goes_770 (lv_at hl 0 rfl) ?_
                  refine lv_if_lt (tgt := 807) C.1 C.2.1 dL_goes_772 (by decide) (fun c772 => ?_) (fun c772 => ?_)
                  · refine lv_aload_n C.1 C.2.1 dL_goes_807 rfl (lv_at hl 5 rfl) ?_
                    refine lv_iconst (v := 1) C.1 C.2.1 dL_goes_808 rfl ?_
                    refine lv_iload C.1 C.2.1 dL_goes_809 (lv_at hl 4 rfl) ?_
                    refine lv_iconst (v := 0) C.1 C.2.1 dL_goes_811 rfl ?_
                    refine wr_go1 (runT C hE hH hS (l_claim hlx hI (-1) 0) mv_L_pieces wm_605 hl.1 dL_goes_812 rfl rfl ⟨rfl, rfl⟩ ⟨Nat.le_of_ble_eq_true rfl, Nat.le_of_ble_eq_true rfl⟩ (Nat.le_of_ble_eq_true rfl) ⟨Nat.le_of_ble_eq_true rfl, Nat.le_of_ble_eq_true rfl⟩) hS (fun u1 M2 H locs hM2 hH hS => ?_)
                    obtain ⟨hu, hM⟩ := lqB_f hM2 (fun z => z.1 (by decide))
                    rw [hu]
                    refine lv_iload C.1 C.2.1 dL_goes_815 (lv_at hl 0 rfl) ?_
                    refine lv_icmp_ne (tgt := 824) C.1 C.2.1 dL_goes_817 (by decide) (fun c817 => ?_) (fun c817 => ?_)
                    · exact absurd c817 (by decide)
                    · refine lv_iconst (v := 1) C.1 C.2.1 dL_goes_820 rfl ?_
                      refine lv_goto (tgt := 825) C.1 C.2.1 dL_goes_821 (by decide) ?_
                      exact wr_zret () C hr hlocks (rfl) hH hS rfl ((by rw [hM]; exact hLS)) (by decide) (by decide) dL_goes_825
                  · exact absurd c772 (by decide)
              · exact absurd c584 (by decide)
            · exact absurd c374 (by decide)
          · exact absurd c356 (by decide)
      refine lv_iload C.1 C.2.1 dL_goes_318 (lv_at hl 0 rfl) ?_
      refine lv_if_lt (tgt := 335) C.1 C.2.1 dL_goes_320 (by decide) (fun c320 => ?_) (fun c320 => ?_)
      · refine lv_iconst (v := 0) C.1 C.2.1 dL_goes_335 rfl ?_
        exact J336f  ls (hl)
      · exact absurd c320 (by decide)
    have J316p : ∀ (a11 : Nat) (h11 : a11 ≤ no) (ls : Array Slot), lv_has ls 18 [(0, .ref x), (1, .int 3), (2, .int y), (3, .ref (la 0)), (4, .ref (la 1)), (5, .ref (la 2)), (6, .ref (la 3)), (7, .ref (la 4)), (8, .ref (la 5)), (9, .ref (la 6)), (10, .ref (la 7))] → W p l e { frames := 10, cells := 6, slots := 230, locals := 172 } s m args below meth c s.heap [] 0 0 (MQ below (wrQ (S := Unit) g (fun u_ => (some (.int 1))) (fun u_ M_ => WS g M_ x la n)) args s 6 230 (gA g)) (F0 m 316 ls [.int (nI a11)]) := by
      intro a11 h11 ls hl
      refine lv_istore (lv' := [(11, .int (nI a11)), (0, .ref x), (1, .int 3), (2, .int y), (3, .ref (la 0)), (4, .ref (la 1)), (5, .ref (la 2)), (6, .ref (la 3)), (7, .ref (la 4)), (8, .ref (la 5)), (9, .ref (la 6)), (10, .ref (la 7))]) C.1 C.2.1 dL_goes_316 hl (by decide) rfl (fun ls hl => ?_)
      have J336t : ∀ (hf : a11 < no) (ls : Array Slot), lv_has ls 18 [(11, .int (nI a11)), (0, .ref x), (1, .int 3), (2, .int y), (3, .ref (la 0)), (4, .ref (la 1)), (5, .ref (la 2)), (6, .ref (la 3)), (7, .ref (la 4)), (8, .ref (la 5)), (9, .ref (la 6)), (10, .ref (la 7))] → W p l e { frames := 10, cells := 6, slots := 230, locals := 172 } s m args below meth c s.heap [] 0 0 (MQ below (wrQ (S := Unit) g (fun u_ => (some (.int 1))) (fun u_ M_ => WS g M_ x la n)) args s 6 230 (gA g)) (F0 m 336 ls [.int 1]) := by
        intro  hf ls hl
        refine lv_istore (lv' := [(12, .int 1), (11, .int (nI a11)), (0, .ref x), (1, .int 3), (2, .int y), (3, .ref (la 0)), (4, .ref (la 1)), (5, .ref (la 2)), (6, .ref (la 3)), (7, .ref (la 4)), (8, .ref (la 5)), (9, .ref (la 6)), (10, .ref (la 7))]) C.1 C.2.1 dL_goes_336 hl (by decide) rfl (fun ls hl => ?_)
        refine lv_iload C.1 C.2.1 dL_goes_338 (lv_at hl 1 rfl) ?_
        refine lv_bipush (v := 10) C.1 C.2.1 dL_goes_340 rfl ?_
        refine lv_icmp_ge (tgt := 350) C.1 C.2.1 dL_goes_342 (by decide) (fun c342 => ?_) (fun c342 => ?_)
        · have n342 : 10 ≤ a11 := (nI_leI (a := 10) (b := a11) (by omega) (by omega)).mp c342
          refine lv_aload C.1 C.2.1 dL_goes_350 (lv_at hl 10 rfl) ?_
          refine lv_astore (lv' := [(13, .ref (la 5)), (12, .int 1), (11, .int (nI a11)), (0, .ref x), (1, .int 3), (2, .int y), (3, .ref (la 0)), (4, .ref (la 1)), (5, .ref (la 2)), (6, .ref (la 3)), (7, .ref (la 4)), (8, .ref (la 5)), (9, .ref (la 6)), (10, .ref (la 7))]) C.1 C.2.1 dL_goes_352 hl (by decide) rfl (fun ls hl => ?_)
          refine lv_iload C.1 C.2.1 dL_goes_354 (lv_at hl 1 rfl) ?_
          refine lv_if_eq (tgt := 369) C.1 C.2.1 dL_goes_356 (by decide) (fun c356 => ?_) (fun c356 => ?_)
          · exact absurd c356 (by decide)
          · refine lv_iconst (v := 5) C.1 C.2.1 dL_goes_359 rfl ?_
            refine lv_iload C.1 C.2.1 dL_goes_360 (lv_at hl 2 rfl) ?_
            refine lv_bipush (v := 10) C.1 C.2.1 dL_goes_362 rfl ?_
            refine lv_irem C.1 C.2.1 dL_goes_364 (by decide) ?_
            rw [show ((nI a11) - (nI a11) / 10 * 10 : Int32) = nI (a11 % 10) from nI_R (a := a11) (b := 10) (by omega) (by omega) (by omega)]
            refine lv_imul C.1 C.2.1 dL_goes_365 ?_
            rw [show ((5 : Int32) * (nI (a11 % 10))) = nI (5 * (a11 % 10)) from nI_M 5 (a11 % 10)]
            refine lv_goto (tgt := 370) C.1 C.2.1 dL_goes_366 (by decide) ?_
            refine lv_istore (lv' := [(14, .int (nI (5 * (a11 % 10)))), (13, .ref (la 5)), (12, .int 1), (11, .int (nI a11)), (0, .ref x), (1, .int 3), (2, .int y), (3, .ref (la 0)), (4, .ref (la 1)), (5, .ref (la 2)), (6, .ref (la 3)), (7, .ref (la 4)), (8, .ref (la 5)), (9, .ref (la 6)), (10, .ref (la 7))]) C.1 C.2.1 dL_goes_370 hl (by decide) rfl (fun ls hl => ?_)
            obtain ⟨⟨o0, o1, o2, o3⟩, o4⟩ := rO a11 hf
            obtain ⟨u, yy, hu4, hu, hw, hy4, hy, h13c, -, hP⟩ := iO.2.2.2 a11 hf
            obtain ⟨t13, ht13, h13⟩ : ∃ t, t ≤ 2 ∧ ar 13 a11 = nI t := by
              rcases h13c with q | q | q
              · exact ⟨0, by omega, q⟩
              · exact ⟨1, by omega, q⟩
              · exact ⟨2, by omega, q⟩
            have q0 : lf 5 (5 * (a11 % 10)) = nI u := (show lf 5 (5 * (a11 % 10)) = lo lf a11 0 from lo_5 (j := 0) (by omega) (by omega)).trans (o0.trans hu)
            have q1 : lf 5 (5 * (a11 % 10) + 1) = nI yy := (lo_5 (j := 1) (by omega) (by omega)).trans (o1.trans hy)
            have q2 : lf 5 (5 * (a11 % 10) + 2) = ar 11 a11 := (lo_5 (j := 2) (by omega) (by omega)).trans o2
            have q3 : lf 5 (5 * (a11 % 10) + 3) = nI t13 := (lo_5 (j := 3) (by omega) (by omega)).trans (o3.trans h13)
            refine lv_iload_n C.1 C.2.1 dL_goes_372 rfl (lv_at hl 5 rfl) ?_
            refine lv_iconst (v := 1) C.1 C.2.1 dL_goes_373 rfl ?_
            refine lv_icmp_ne (tgt := 582) C.1 C.2.1 dL_goes_374 (by decide) (fun c374 => ?_) (fun c374 => ?_)
            · refine lv_iload_n C.1 C.2.1 dL_goes_582 rfl (lv_at hl 5 rfl) ?_
              refine lv_iconst (v := 2) C.1 C.2.1 dL_goes_583 rfl ?_
              refine lv_icmp_ne (tgt := 719) C.1 C.2.1 dL_goes_584 (by decide) (fun c584 => ?_) (fun c584 => ?_)
              · refine lv_iload C.1 C.2.1 dL_goes_719 (lv_at hl 2 rfl) ?_
                refine lv_if_ne (tgt := 729) C.1 C.2.1 dL_goes_721 (by decide) (fun c721 => ?_) (fun c721 => ?_)
                · refine lv_aload C.1 C.2.1 dL_goes_729 (lv_at hl 1 rfl) ?_
                  refine lv_iload C.1 C.2.1 dL_goes_731 (lv_at hl 0 rfl) ?_
                  refine lv_iconst (v := 3) C.1 C.2.1 dL_goes_733 rfl ?_
                  refine lv_iadd C.1 C.2.1 dL_goes_734 ?_
                  rw [show ((nI (5 * (a11 % 10))) + 3 : Int32) = nI (5 * (a11 % 10) + 3) from nI_add (5 * (a11 % 10)) 3]
                  refine lald (K := 5) (N := 50) (E := 5 * (a11 % 10) + 3) (f := (lf 5)) (v := (nI t13)) C hE hH hX (by decide) rfl rfl rfl (by omega) (q3) dL_goes_735 ?_
                  refine lv_iconst (v := 1) C.1 C.2.1 dL_goes_736 rfl ?_
                  refine lv_icmp_ne (tgt := 752) C.1 C.2.1 dL_goes_737 (by decide) (fun c737 => ?_) (fun c737 => ?_)
                  · have n737 : ¬ t13 = 1 := fun z => c737 (congrArg nI z)
                    refine lv_bipush (v := -102) C.1 C.2.1 dL_goes_752 rfl ?_
                    refine lv_goto (tgt := 768) C.1 C.2.1 dL_goes_754 (by decide) ?_
                    refine lv_istore (lv' := [(15, .int (-102)), (14, .int (nI (5 * (a11 % 10)))), (13, .ref (la 5)), (12, .int 1), (11, .int (nI a11)), (0, .ref x), (1, .int 3), (2, .int y), (3, .ref (la 0)), (4, .ref (la 1)), (5, .ref (la 2)), (6, .ref (la 3)), (7, .ref (la 4)), (8, .ref (la 5)), (9, .ref (la 6)), (10, .ref (la 7))]) C.1 C.2.1 dL_goes_768 hl (by decide) rfl (fun ls hl => ?_)
                    refine lv_iload C.1 C.2.1 dL_goes_770 (lv_at hl 0 rfl) ?_
                    refine lv_if_lt (tgt := 807) C.1 C.2.1 dL_goes_772 (by decide) (fun c772 => ?_) (fun c772 => ?_)
                    · refine lv_aload_n C.1 C.2.1 dL_goes_807 rfl (lv_at hl 5 rfl) ?_
                      refine lv_iconst (v := 1) C.1 C.2.1 dL_goes_808 rfl ?_
                      refine lv_iload C.1 C.2.1 dL_goes_809 (lv_at hl 4 rfl) ?_
                      refine lv_iconst (v := 0) C.1 C.2.1 dL_goes_811 rfl ?_
                      refine wr_go1 (runT C hE hH hS (l_claim hlx hI (nI a11) 0) mv_L_pieces wm_605 hl.1 dL_goes_812 rfl rfl ⟨rfl, rfl⟩ ⟨Nat.le_of_ble_eq_true rfl, Nat.le_of_ble_eq_true rfl⟩ (Nat.le_of_ble_eq_true rfl) ⟨Nat.le_of_ble_eq_true rfl, Nat.le_of_ble_eq_true rfl⟩) hS (fun u3 M4 H locs hM4 hH hS => ?_)
                      rw [nI_clamp (show a11 < 2 ^ 31 by omega)] at hM4
                      obtain ⟨hu, hM⟩ := lqB_g hM4 ((inx_n (a := a11) (n := no) (by omega) (by omega)).mpr hf) (fun z => n737 (nI_inj (a := t13) (b := 1) (by omega) (by omega) (h13.symm.trans z.1)))
                      rw [hu]
                      refine lv_iload C.1 C.2.1 dL_goes_815 (lv_at hl 0 rfl) ?_
                      refine lv_icmp_ne (tgt := 824) C.1 C.2.1 dL_goes_817 (by decide) (fun c817 => ?_) (fun c817 => ?_)
                      · exact absurd c817 (by decide)
                      · refine lv_iconst (v := 1) C.1 C.2.1 dL_goes_820 rfl ?_
                        refine lv_goto (tgt := 825) C.1 C.2.1 dL_goes_821 (by decide) ?_
                        exact wr_zret () C hr hlocks (rfl) hH hS rfl ((by rw [hM]; exact hLS)) (by decide) (by decide) dL_goes_825
                    · exact absurd c772 (by decide)
                  · have n737 : t13 = 1 := nI_inj (by omega) (by omega) c737
                    refine lv_aload C.1 C.2.1 dL_goes_740 (lv_at hl 13 rfl) ?_
                    refine lv_iconst (v := 3) C.1 C.2.1 dL_goes_742 rfl ?_
                    refine lv_iload C.1 C.2.1 dL_goes_743 (lv_at hl 3 rfl) ?_
                    refine lv_imul C.1 C.2.1 dL_goes_745 ?_
                    rw [show ((3 : Int32) * (nI a11)) = nI (3 * a11) from nI_M 3 a11]
                    refine lv_iconst (v := 2) C.1 C.2.1 dL_goes_746 rfl ?_
                    refine lv_iadd C.1 C.2.1 dL_goes_747 ?_
                    rw [show ((nI (3 * a11)) + 2 : Int32) = nI (3 * a11 + 2) from nI_add (3 * a11) 2]
                    refine lald (K := 6) (N := 60) (E := 3 * a11 + 2) (f := (lf 6)) (v := (zbo ar a11)) C hE hH hX (by decide) rfl rfl rfl (by omega) ((o4 (by rw [h13, n737]; decide)).2.2.2) dL_goes_748 ?_
                    refine lv_if_ne (tgt := 757) C.1 C.2.1 dL_goes_749 (by decide) (fun c749 => ?_) (fun c749 => ?_)
                    · obtain ⟨hz1, hz2⟩ := zbo_n c749
                      obtain ⟨qb, hqb, hq⟩ := zbl_3 (ar := ar) (o := a11)
                      refine lv_aload C.1 C.2.1 dL_goes_757 (lv_at hl 13 rfl) ?_
                      refine lv_iconst (v := 3) C.1 C.2.1 dL_goes_759 rfl ?_
                      refine lv_iload C.1 C.2.1 dL_goes_760 (lv_at hl 3 rfl) ?_
                      refine lv_imul C.1 C.2.1 dL_goes_762 ?_
                      rw [show ((3 : Int32) * (nI a11)) = nI (3 * a11) from nI_M 3 a11]
                      refine lv_iconst (v := 2) C.1 C.2.1 dL_goes_763 rfl ?_
                      refine lv_iadd C.1 C.2.1 dL_goes_764 ?_
                      rw [show ((nI (3 * a11)) + 2 : Int32) = nI (3 * a11 + 2) from nI_add (3 * a11) 2]
                      refine lald (K := 6) (N := 60) (E := 3 * a11 + 2) (f := (lf 6)) (v := (zbo ar a11)) C hE hH hX (by decide) rfl rfl rfl (by omega) ((o4 (by rw [h13, n737]; decide)).2.2.2) dL_goes_765 ?_
                      refine lv_iconst (v := 1) C.1 C.2.1 dL_goes_766 rfl ?_
                      refine lv_isub C.1 C.2.1 dL_goes_767 ?_
                      rw [show (zbo ar a11 - 1 : Int32) = nI qb from hz1.trans hq]
                      refine lv_istore (lv' := [(15, .int (nI qb)), (14, .int (nI (5 * (a11 % 10)))), (13, .ref (la 5)), (12, .int 1), (11, .int (nI a11)), (0, .ref x), (1, .int 3), (2, .int y), (3, .ref (la 0)), (4, .ref (la 1)), (5, .ref (la 2)), (6, .ref (la 3)), (7, .ref (la 4)), (8, .ref (la 5)), (9, .ref (la 6)), (10, .ref (la 7))]) C.1 C.2.1 dL_goes_768 hl (by decide) rfl (fun ls hl => ?_)
                      refine lv_iload C.1 C.2.1 dL_goes_770 (lv_at hl 0 rfl) ?_
                      refine lv_if_lt (tgt := 807) C.1 C.2.1 dL_goes_772 (by decide) (fun c772 => ?_) (fun c772 => ?_)
                      · exact absurd (n_ge (by omega) (by decide)) (n_nlt c772)
                      · have hne13 : ¬ ar 13 a11 = 0 := by rw [h13, n737]; decide
                        obtain ⟨bb, tt, hbb, h14, -⟩ := hP hne13
                        obtain ⟨-, ⟨dd, hd3, h6⟩, -⟩ := iB.2.2 bb hbb
                        have b6 := (rB bb hbb).1
                        have q4 : lf 5 (5 * (a11 % 10) + 4) = nI bb := (lo_5 (j := 4) (by omega) (by omega)).trans ((o4 hne13).1.trans h14)
                        have hzx : zbix ar a11 = 3 * dd + qb := by unfold zbix; rw [h14, nI_clamp (show bb < 2 ^ 31 by omega), h6, nI_clamp (show dd < 2 ^ 31 by omega), hq, nI_clamp (show qb < 2 ^ 31 by omega)]
                        refine lv_aload C.1 C.2.1 dL_goes_775 (lv_at hl 2 rfl) ?_
                        refine lv_iload C.1 C.2.1 dL_goes_777 (lv_at hl 1 rfl) ?_
                        refine lv_iconst (v := 3) C.1 C.2.1 dL_goes_779 rfl ?_
                        refine lv_iadd C.1 C.2.1 dL_goes_780 ?_
                        rw [show ((nI (5 * (a11 % 10))) + 3 : Int32) = nI (5 * (a11 % 10) + 3) from nI_add (5 * (a11 % 10)) 3]
                        refine lv_iconst (v := 2) C.1 C.2.1 dL_goes_781 rfl ?_
                        refine last (K := 5) (N := 50) (E := 5 * (a11 % 10) + 3) (f := (lf 5)) C hE hH hS hX (by decide) rfl rfl rfl (by omega) dL_goes_782 (fun M5 H locs hX6 hH hS => ?_)
                        have hIM5 := WS_up hI hX6 hT (ed_no hE hH)
                        refine lv_aload C.1 C.2.1 dL_goes_783 (lv_at hl 15 rfl) ?_
                        refine lv_iconst (v := 3) C.1 C.2.1 dL_goes_785 rfl ?_
                        refine lv_aload C.1 C.2.1 dL_goes_786 (lv_at hl 11 rfl) ?_
                        refine lv_iconst (v := 3) C.1 C.2.1 dL_goes_788 rfl ?_
                        refine lv_aload C.1 C.2.1 dL_goes_789 (lv_at hl 2 rfl) ?_
                        refine lv_iload C.1 C.2.1 dL_goes_791 (lv_at hl 1 rfl) ?_
                        refine lv_iconst (v := 4) C.1 C.2.1 dL_goes_793 rfl ?_
                        refine lv_iadd C.1 C.2.1 dL_goes_794 ?_
                        rw [show ((nI (5 * (a11 % 10))) + 4 : Int32) = nI (5 * (a11 % 10) + 4) from nI_add (5 * (a11 % 10)) 4]
                        refine lald (K := 5) (N := 50) (E := 5 * (a11 % 10) + 4) (f := (upd (lf 5) (5 * (a11 % 10) + 3) 2)) (v := (nI bb)) C hE hH hX6 (by decide) rfl rfl rfl (by omega) ((upd_n (by omega)).trans q4) dL_goes_795 ?_
                        refine lv_imul C.1 C.2.1 dL_goes_796 ?_
                        rw [show ((3 : Int32) * (nI bb)) = nI (3 * bb) from nI_M 3 bb]
                        refine lald (K := 3) (N := 15) (E := 3 * bb) (f := (lf 3)) (v := (nI dd)) C hE hH hX6 (by decide) rfl rfl rfl (by omega) ((b6.trans h6)) dL_goes_797 ?_
                        refine lv_imul C.1 C.2.1 dL_goes_798 ?_
                        rw [show ((3 : Int32) * (nI dd)) = nI (3 * dd) from nI_M 3 dd]
                        refine lv_iload C.1 C.2.1 dL_goes_799 (lv_at hl 0 rfl) ?_
                        refine lv_iadd C.1 C.2.1 dL_goes_801 ?_
                        rw [show ((nI (3 * dd)) + (nI qb) : Int32) = nI (3 * dd + qb) from nI_add (3 * dd) qb]
                        refine lv_dup2_11 C.1 C.2.1 dL_goes_802 rfl rfl ?_
                        refine lald (K := 7) (N := 9) (E := 3 * dd + qb) (f := (lf 7)) (v := ((lf 7) (3 * dd + qb))) C hE hH hX6 (by decide) rfl rfl rfl (by omega) (rfl) dL_goes_803 ?_
                        refine lv_iconst (v := 1) C.1 C.2.1 dL_goes_804 rfl ?_
                        refine lv_iadd C.1 C.2.1 dL_goes_805 ?_
                        refine last (K := 7) (N := 9) (E := 3 * dd + qb) (f := (lf 7)) C hE hH hS hX6 (by decide) rfl rfl rfl (by omega) dL_goes_806 (fun M7 H locs hX8 hH hS => ?_)
                        have hIM7 := WS_up hI hX8 hT (ed_no hE hH)
                        refine lv_aload_n C.1 C.2.1 dL_goes_807 rfl (lv_at hl 5 rfl) ?_
                        refine lv_iconst (v := 1) C.1 C.2.1 dL_goes_808 rfl ?_
                        refine lv_iload C.1 C.2.1 dL_goes_809 (lv_at hl 4 rfl) ?_
                        refine lv_iconst (v := 0) C.1 C.2.1 dL_goes_811 rfl ?_
                        refine wr_go1 (runT C hE hH hS (l_claim hlx hIM7 (nI a11) 0) mv_L_pieces wm_605 hl.1 dL_goes_812 rfl rfl ⟨rfl, rfl⟩ ⟨Nat.le_of_ble_eq_true rfl, Nat.le_of_ble_eq_true rfl⟩ (Nat.le_of_ble_eq_true rfl) ⟨Nat.le_of_ble_eq_true rfl, Nat.le_of_ble_eq_true rfl⟩) hS (fun u9 M10 H locs hM10 hH hS => ?_)
                        rw [nI_clamp (show a11 < 2 ^ 31 by omega)] at hM10
                        obtain ⟨hu, hx⟩ := lqB_t hM10 ((inx_n (a := a11) (n := no) (by omega) (by omega)).mpr hf) ⟨h13.trans (congrArg nI n737), hz2⟩
                        have hu : u9 = nI qb := hu.trans (hq)
                        rw [hu]
                        rw [hzx] at hx
                        have hXr := LX_rf (LI_rx hx hX8.1 hT)
                        refine lv_iload C.1 C.2.1 dL_goes_815 (lv_at hl 0 rfl) ?_
                        refine lv_icmp_ne (tgt := 824) C.1 C.2.1 dL_goes_817 (by decide) (fun c817 => ?_) (fun c817 => ?_)
                        · exact absurd rfl c817
                        · refine lv_iconst (v := 1) C.1 C.2.1 dL_goes_820 rfl ?_
                          refine lv_goto (tgt := 825) C.1 C.2.1 dL_goes_821 (by decide) ?_
                          exact wr_zret () C hr hlocks (rfl) hH hS rfl (WS_mk hx hX8.1 hT ⟨hs0, hs5, hs9⟩ (LR_claim (R := 5) hR hf (by omega) hne13 (by omega)) (krN_cg hN (fun i _ => rfl))) (by decide) (by decide) dL_goes_825
                    · refine lv_bipush (v := -102) C.1 C.2.1 dL_goes_752 rfl ?_
                      refine lv_goto (tgt := 768) C.1 C.2.1 dL_goes_754 (by decide) ?_
                      refine lv_istore (lv' := [(15, .int (-102)), (14, .int (nI (5 * (a11 % 10)))), (13, .ref (la 5)), (12, .int 1), (11, .int (nI a11)), (0, .ref x), (1, .int 3), (2, .int y), (3, .ref (la 0)), (4, .ref (la 1)), (5, .ref (la 2)), (6, .ref (la 3)), (7, .ref (la 4)), (8, .ref (la 5)), (9, .ref (la 6)), (10, .ref (la 7))]) C.1 C.2.1 dL_goes_768 hl (by decide) rfl (fun ls hl => ?_)
                      refine lv_iload C.1 C.2.1 dL_goes_770 (lv_at hl 0 rfl) ?_
                      refine lv_if_lt (tgt := 807) C.1 C.2.1 dL_goes_772 (by decide) (fun c772 => ?_) (fun c772 => ?_)
                      · refine lv_aload_n C.1 C.2.1 dL_goes_807 rfl (lv_at hl 5 rfl) ?_
                        refine lv_iconst (v := 1) C.1 C.2.1 dL_goes_808 rfl ?_
                        refine lv_iload C.1 C.2.1 dL_goes_809 (lv_at hl 4 rfl) ?_
                        refine lv_iconst (v := 0) C.1 C.2.1 dL_goes_811 rfl ?_
                        refine wr_go1 (runT C hE hH hS (l_claim hlx hI (nI a11) 0) mv_L_pieces wm_605 hl.1 dL_goes_812 rfl rfl ⟨rfl, rfl⟩ ⟨Nat.le_of_ble_eq_true rfl, Nat.le_of_ble_eq_true rfl⟩ (Nat.le_of_ble_eq_true rfl) ⟨Nat.le_of_ble_eq_true rfl, Nat.le_of_ble_eq_true rfl⟩) hS (fun u11 M12 H locs hM12 hH hS => ?_)
                        rw [nI_clamp (show a11 < 2 ^ 31 by omega)] at hM12
                        obtain ⟨hu, hM⟩ := lqB_g hM12 ((inx_n (a := a11) (n := no) (by omega) (by omega)).mpr hf) (fun z => z.2 (zbo_0 c749))
                        rw [hu]
                        refine lv_iload C.1 C.2.1 dL_goes_815 (lv_at hl 0 rfl) ?_
                        refine lv_icmp_ne (tgt := 824) C.1 C.2.1 dL_goes_817 (by decide) (fun c817 => ?_) (fun c817 => ?_)
                        · exact absurd c817 (by decide)
                        · refine lv_iconst (v := 1) C.1 C.2.1 dL_goes_820 rfl ?_
                          refine lv_goto (tgt := 825) C.1 C.2.1 dL_goes_821 (by decide) ?_
                          exact wr_zret () C hr hlocks (rfl) hH hS rfl ((by rw [hM]; exact hLS)) (by decide) (by decide) dL_goes_825
                      · exact absurd c772 (by decide)
                · exact absurd c721 (by decide)
              · exact absurd c584 (by decide)
            · exact absurd c374 (by decide)
        · have n342 : ¬ 10 ≤ a11 := fun z => c342 ((nI_leI (a := 10) (b := a11) (by omega) (by omega)).mpr z)
          refine lv_aload C.1 C.2.1 dL_goes_345 (lv_at hl 9 rfl) ?_
          refine lv_goto (tgt := 352) C.1 C.2.1 dL_goes_347 (by decide) ?_
          refine lv_astore (lv' := [(13, .ref (la 4)), (12, .int 1), (11, .int (nI a11)), (0, .ref x), (1, .int 3), (2, .int y), (3, .ref (la 0)), (4, .ref (la 1)), (5, .ref (la 2)), (6, .ref (la 3)), (7, .ref (la 4)), (8, .ref (la 5)), (9, .ref (la 6)), (10, .ref (la 7))]) C.1 C.2.1 dL_goes_352 hl (by decide) rfl (fun ls hl => ?_)
          refine lv_iload C.1 C.2.1 dL_goes_354 (lv_at hl 1 rfl) ?_
          refine lv_if_eq (tgt := 369) C.1 C.2.1 dL_goes_356 (by decide) (fun c356 => ?_) (fun c356 => ?_)
          · exact absurd c356 (by decide)
          · refine lv_iconst (v := 5) C.1 C.2.1 dL_goes_359 rfl ?_
            refine lv_iload C.1 C.2.1 dL_goes_360 (lv_at hl 2 rfl) ?_
            refine lv_bipush (v := 10) C.1 C.2.1 dL_goes_362 rfl ?_
            refine lv_irem C.1 C.2.1 dL_goes_364 (by decide) ?_
            rw [show ((nI a11) - (nI a11) / 10 * 10 : Int32) = nI (a11 % 10) from nI_R (a := a11) (b := 10) (by omega) (by omega) (by omega)]
            refine lv_imul C.1 C.2.1 dL_goes_365 ?_
            rw [show ((5 : Int32) * (nI (a11 % 10))) = nI (5 * (a11 % 10)) from nI_M 5 (a11 % 10)]
            refine lv_goto (tgt := 370) C.1 C.2.1 dL_goes_366 (by decide) ?_
            refine lv_istore (lv' := [(14, .int (nI (5 * (a11 % 10)))), (13, .ref (la 4)), (12, .int 1), (11, .int (nI a11)), (0, .ref x), (1, .int 3), (2, .int y), (3, .ref (la 0)), (4, .ref (la 1)), (5, .ref (la 2)), (6, .ref (la 3)), (7, .ref (la 4)), (8, .ref (la 5)), (9, .ref (la 6)), (10, .ref (la 7))]) C.1 C.2.1 dL_goes_370 hl (by decide) rfl (fun ls hl => ?_)
            obtain ⟨⟨o0, o1, o2, o3⟩, o4⟩ := rO a11 hf
            obtain ⟨u, yy, hu4, hu, hw, hy4, hy, h13c, -, hP⟩ := iO.2.2.2 a11 hf
            obtain ⟨t13, ht13, h13⟩ : ∃ t, t ≤ 2 ∧ ar 13 a11 = nI t := by
              rcases h13c with q | q | q
              · exact ⟨0, by omega, q⟩
              · exact ⟨1, by omega, q⟩
              · exact ⟨2, by omega, q⟩
            have q0 : lf 4 (5 * (a11 % 10)) = nI u := (show lf 4 (5 * (a11 % 10)) = lo lf a11 0 from lo_4 (j := 0) (by omega)).trans (o0.trans hu)
            have q1 : lf 4 (5 * (a11 % 10) + 1) = nI yy := (lo_4 (j := 1) (by omega)).trans (o1.trans hy)
            have q2 : lf 4 (5 * (a11 % 10) + 2) = ar 11 a11 := (lo_4 (j := 2) (by omega)).trans o2
            have q3 : lf 4 (5 * (a11 % 10) + 3) = nI t13 := (lo_4 (j := 3) (by omega)).trans (o3.trans h13)
            refine lv_iload_n C.1 C.2.1 dL_goes_372 rfl (lv_at hl 5 rfl) ?_
            refine lv_iconst (v := 1) C.1 C.2.1 dL_goes_373 rfl ?_
            refine lv_icmp_ne (tgt := 582) C.1 C.2.1 dL_goes_374 (by decide) (fun c374 => ?_) (fun c374 => ?_)
            · refine lv_iload_n C.1 C.2.1 dL_goes_582 rfl (lv_at hl 5 rfl) ?_
              refine lv_iconst (v := 2) C.1 C.2.1 dL_goes_583 rfl ?_
              refine lv_icmp_ne (tgt := 719) C.1 C.2.1 dL_goes_584 (by decide) (fun c584 => ?_) (fun c584 => ?_)
              · refine lv_iload C.1 C.2.1 dL_goes_719 (lv_at hl 2 rfl) ?_
                refine lv_if_ne (tgt := 729) C.1 C.2.1 dL_goes_721 (by decide) (fun c721 => ?_) (fun c721 => ?_)
                · refine lv_aload C.1 C.2.1 dL_goes_729 (lv_at hl 1 rfl) ?_
                  refine lv_iload C.1 C.2.1 dL_goes_731 (lv_at hl 0 rfl) ?_
                  refine lv_iconst (v := 3) C.1 C.2.1 dL_goes_733 rfl ?_
                  refine lv_iadd C.1 C.2.1 dL_goes_734 ?_
                  rw [show ((nI (5 * (a11 % 10))) + 3 : Int32) = nI (5 * (a11 % 10) + 3) from nI_add (5 * (a11 % 10)) 3]
                  refine lald (K := 4) (N := 50) (E := 5 * (a11 % 10) + 3) (f := (lf 4)) (v := (nI t13)) C hE hH hX (by decide) rfl rfl rfl (by omega) (q3) dL_goes_735 ?_
                  refine lv_iconst (v := 1) C.1 C.2.1 dL_goes_736 rfl ?_
                  refine lv_icmp_ne (tgt := 752) C.1 C.2.1 dL_goes_737 (by decide) (fun c737 => ?_) (fun c737 => ?_)
                  · have n737 : ¬ t13 = 1 := fun z => c737 (congrArg nI z)
                    refine lv_bipush (v := -102) C.1 C.2.1 dL_goes_752 rfl ?_
                    refine lv_goto (tgt := 768) C.1 C.2.1 dL_goes_754 (by decide) ?_
                    refine lv_istore (lv' := [(15, .int (-102)), (14, .int (nI (5 * (a11 % 10)))), (13, .ref (la 4)), (12, .int 1), (11, .int (nI a11)), (0, .ref x), (1, .int 3), (2, .int y), (3, .ref (la 0)), (4, .ref (la 1)), (5, .ref (la 2)), (6, .ref (la 3)), (7, .ref (la 4)), (8, .ref (la 5)), (9, .ref (la 6)), (10, .ref (la 7))]) C.1 C.2.1 dL_goes_768 hl (by decide) rfl (fun ls hl => ?_)
                    refine lv_iload C.1 C.2.1 dL_goes_770 (lv_at hl 0 rfl) ?_
                    refine lv_if_lt (tgt := 807) C.1 C.2.1 dL_goes_772 (by decide) (fun c772 => ?_) (fun c772 => ?_)
                    · refine lv_aload_n C.1 C.2.1 dL_goes_807 rfl (lv_at hl 5 rfl) ?_
                      refine lv_iconst (v := 1) C.1 C.2.1 dL_goes_808 rfl ?_
                      refine lv_iload C.1 C.2.1 dL_goes_809 (lv_at hl 4 rfl) ?_
                      refine lv_iconst (v := 0) C.1 C.2.1 dL_goes_811 rfl ?_
                      refine wr_go1 (runT C hE hH hS (l_claim hlx hI (nI a11) 0) mv_L_pieces wm_605 hl.1 dL_goes_812 rfl rfl ⟨rfl, rfl⟩ ⟨Nat.le_of_ble_eq_true rfl, Nat.le_of_ble_eq_true rfl⟩ (Nat.le_of_ble_eq_true rfl) ⟨Nat.le_of_ble_eq_true rfl, Nat.le_of_ble_eq_true rfl⟩) hS (fun u13 M14 H locs hM14 hH hS => ?_)
                      rw [nI_clamp (show a11 < 2 ^ 31 by omega)] at hM14
                      obtain ⟨hu, hM⟩ := lqB_g hM14 ((inx_n (a := a11) (n := no) (by omega) (by omega)).mpr hf) (fun z => n737 (nI_inj (a := t13) (b := 1) (by omega) (by omega) (h13.symm.trans z.1)))
                      rw [hu]
                      refine lv_iload C.1 C.2.1 dL_goes_815 (lv_at hl 0 rfl) ?_
                      refine lv_icmp_ne (tgt := 824) C.1 C.2.1 dL_goes_817 (by decide) (fun c817 => ?_) (fun c817 => ?_)
                      · exact absurd c817 (by decide)
                      · refine lv_iconst (v := 1) C.1 C.2.1 dL_goes_820 rfl ?_
                        refine lv_goto (tgt := 825) C.1 C.2.1 dL_goes_821 (by decide) ?_
                        exact wr_zret () C hr hlocks (rfl) hH hS rfl ((by rw [hM]; exact hLS)) (by decide) (by decide) dL_goes_825
                    · exact absurd c772 (by decide)
                  · have n737 : t13 = 1 := nI_inj (by omega) (by omega) c737
                    refine lv_aload C.1 C.2.1 dL_goes_740 (lv_at hl 13 rfl) ?_
                    refine lv_iconst (v := 3) C.1 C.2.1 dL_goes_742 rfl ?_
                    refine lv_iload C.1 C.2.1 dL_goes_743 (lv_at hl 3 rfl) ?_
                    refine lv_imul C.1 C.2.1 dL_goes_745 ?_
                    rw [show ((3 : Int32) * (nI a11)) = nI (3 * a11) from nI_M 3 a11]
                    refine lv_iconst (v := 2) C.1 C.2.1 dL_goes_746 rfl ?_
                    refine lv_iadd C.1 C.2.1 dL_goes_747 ?_
                    rw [show ((nI (3 * a11)) + 2 : Int32) = nI (3 * a11 + 2) from nI_add (3 * a11) 2]
                    refine lald (K := 6) (N := 60) (E := 3 * a11 + 2) (f := (lf 6)) (v := (zbo ar a11)) C hE hH hX (by decide) rfl rfl rfl (by omega) ((o4 (by rw [h13, n737]; decide)).2.2.2) dL_goes_748 ?_
                    refine lv_if_ne (tgt := 757) C.1 C.2.1 dL_goes_749 (by decide) (fun c749 => ?_) (fun c749 => ?_)
                    · obtain ⟨hz1, hz2⟩ := zbo_n c749
                      obtain ⟨qb, hqb, hq⟩ := zbl_3 (ar := ar) (o := a11)
                      refine lv_aload C.1 C.2.1 dL_goes_757 (lv_at hl 13 rfl) ?_
                      refine lv_iconst (v := 3) C.1 C.2.1 dL_goes_759 rfl ?_
                      refine lv_iload C.1 C.2.1 dL_goes_760 (lv_at hl 3 rfl) ?_
                      refine lv_imul C.1 C.2.1 dL_goes_762 ?_
                      rw [show ((3 : Int32) * (nI a11)) = nI (3 * a11) from nI_M 3 a11]
                      refine lv_iconst (v := 2) C.1 C.2.1 dL_goes_763 rfl ?_
                      refine lv_iadd C.1 C.2.1 dL_goes_764 ?_
                      rw [show ((nI (3 * a11)) + 2 : Int32) = nI (3 * a11 + 2) from nI_add (3 * a11) 2]
                      refine lald (K := 6) (N := 60) (E := 3 * a11 + 2) (f := (lf 6)) (v := (zbo ar a11)) C hE hH hX (by decide) rfl rfl rfl (by omega) ((o4 (by rw [h13, n737]; decide)).2.2.2) dL_goes_765 ?_
                      refine lv_iconst (v := 1) C.1 C.2.1 dL_goes_766 rfl ?_
                      refine lv_isub C.1 C.2.1 dL_goes_767 ?_
                      rw [show (zbo ar a11 - 1 : Int32) = nI qb from hz1.trans hq]
                      refine lv_istore (lv' := [(15, .int (nI qb)), (14, .int (nI (5 * (a11 % 10)))), (13, .ref (la 4)), (12, .int 1), (11, .int (nI a11)), (0, .ref x), (1, .int 3), (2, .int y), (3, .ref (la 0)), (4, .ref (la 1)), (5, .ref (la 2)), (6, .ref (la 3)), (7, .ref (la 4)), (8, .ref (la 5)), (9, .ref (la 6)), (10, .ref (la 7))]) C.1 C.2.1 dL_goes_768 hl (by decide) rfl (fun ls hl => ?_)
                      refine lv_iload C.1 C.2.1 dL_goes_770 (lv_at hl 0 rfl) ?_
                      refine lv_if_lt (tgt := 807) C.1 C.2.1 dL_goes_772 (by decide) (fun c772 => ?_) (fun c772 => ?_)
                      · exact absurd (n_ge (by omega) (by decide)) (n_nlt c772)
                      · have hne13 : ¬ ar 13 a11 = 0 := by rw [h13, n737]; decide
                        obtain ⟨bb, tt, hbb, h14, -⟩ := hP hne13
                        obtain ⟨-, ⟨dd, hd3, h6⟩, -⟩ := iB.2.2 bb hbb
                        have b6 := (rB bb hbb).1
                        have q4 : lf 4 (5 * (a11 % 10) + 4) = nI bb := (lo_4 (j := 4) (by omega)).trans ((o4 hne13).1.trans h14)
                        have hzx : zbix ar a11 = 3 * dd + qb := by unfold zbix; rw [h14, nI_clamp (show bb < 2 ^ 31 by omega), h6, nI_clamp (show dd < 2 ^ 31 by omega), hq, nI_clamp (show qb < 2 ^ 31 by omega)]
                        refine lv_aload C.1 C.2.1 dL_goes_775 (lv_at hl 2 rfl) ?_
                        refine lv_iload C.1 C.2.1 dL_goes_777 (lv_at hl 1 rfl) ?_
                        refine lv_iconst (v := 3) C.1 C.2.1 dL_goes_779 rfl ?_
                        refine lv_iadd C.1 C.2.1 dL_goes_780 ?_
                        rw [show ((nI (5 * (a11 % 10))) + 3 : Int32) = nI (5 * (a11 % 10) + 3) from nI_add (5 * (a11 % 10)) 3]
                        refine lv_iconst (v := 2) C.1 C.2.1 dL_goes_781 rfl ?_
                        refine last (K := 4) (N := 50) (E := 5 * (a11 % 10) + 3) (f := (lf 4)) C hE hH hS hX (by decide) rfl rfl rfl (by omega) dL_goes_782 (fun M15 H locs hX16 hH hS => ?_)
                        have hIM15 := WS_up hI hX16 hT (ed_no hE hH)
                        refine lv_aload C.1 C.2.1 dL_goes_783 (lv_at hl 15 rfl) ?_
                        refine lv_iconst (v := 3) C.1 C.2.1 dL_goes_785 rfl ?_
                        refine lv_aload C.1 C.2.1 dL_goes_786 (lv_at hl 11 rfl) ?_
                        refine lv_iconst (v := 3) C.1 C.2.1 dL_goes_788 rfl ?_
                        refine lv_aload C.1 C.2.1 dL_goes_789 (lv_at hl 2 rfl) ?_
                        refine lv_iload C.1 C.2.1 dL_goes_791 (lv_at hl 1 rfl) ?_
                        refine lv_iconst (v := 4) C.1 C.2.1 dL_goes_793 rfl ?_
                        refine lv_iadd C.1 C.2.1 dL_goes_794 ?_
                        rw [show ((nI (5 * (a11 % 10))) + 4 : Int32) = nI (5 * (a11 % 10) + 4) from nI_add (5 * (a11 % 10)) 4]
                        refine lald (K := 4) (N := 50) (E := 5 * (a11 % 10) + 4) (f := (upd (lf 4) (5 * (a11 % 10) + 3) 2)) (v := (nI bb)) C hE hH hX16 (by decide) rfl rfl rfl (by omega) ((upd_n (by omega)).trans q4) dL_goes_795 ?_
                        refine lv_imul C.1 C.2.1 dL_goes_796 ?_
                        rw [show ((3 : Int32) * (nI bb)) = nI (3 * bb) from nI_M 3 bb]
                        refine lald (K := 3) (N := 15) (E := 3 * bb) (f := (lf 3)) (v := (nI dd)) C hE hH hX16 (by decide) rfl rfl rfl (by omega) ((b6.trans h6)) dL_goes_797 ?_
                        refine lv_imul C.1 C.2.1 dL_goes_798 ?_
                        rw [show ((3 : Int32) * (nI dd)) = nI (3 * dd) from nI_M 3 dd]
                        refine lv_iload C.1 C.2.1 dL_goes_799 (lv_at hl 0 rfl) ?_
                        refine lv_iadd C.1 C.2.1 dL_goes_801 ?_
                        rw [show ((nI (3 * dd)) + (nI qb) : Int32) = nI (3 * dd + qb) from nI_add (3 * dd) qb]
                        refine lv_dup2_11 C.1 C.2.1 dL_goes_802 rfl rfl ?_
                        refine lald (K := 7) (N := 9) (E := 3 * dd + qb) (f := (lf 7)) (v := ((lf 7) (3 * dd + qb))) C hE hH hX16 (by decide) rfl rfl rfl (by omega) (rfl) dL_goes_803 ?_
                        refine lv_iconst (v := 1) C.1 C.2.1 dL_goes_804 rfl ?_
                        refine lv_iadd C.1 C.2.1 dL_goes_805 ?_
                        refine last (K := 7) (N := 9) (E := 3 * dd + qb) (f := (lf 7)) C hE hH hS hX16 (by decide) rfl rfl rfl (by omega) dL_goes_806 (fun M17 H locs hX18 hH hS => ?_)
                        have hIM17 := WS_up hI hX18 hT (ed_no hE hH)
                        refine lv_aload_n C.1 C.2.1 dL_goes_807 rfl (lv_at hl 5 rfl) ?_
                        refine lv_iconst (v := 1) C.1 C.2.1 dL_goes_808 rfl ?_
                        refine lv_iload C.1 C.2.1 dL_goes_809 (lv_at hl 4 rfl) ?_
                        refine lv_iconst (v := 0) C.1 C.2.1 dL_goes_811 rfl ?_
                        refine wr_go1 (runT C hE hH hS (l_claim hlx hIM17 (nI a11) 0) mv_L_pieces wm_605 hl.1 dL_goes_812 rfl rfl ⟨rfl, rfl⟩ ⟨Nat.le_of_ble_eq_true rfl, Nat.le_of_ble_eq_true rfl⟩ (Nat.le_of_ble_eq_true rfl) ⟨Nat.le_of_ble_eq_true rfl, Nat.le_of_ble_eq_true rfl⟩) hS (fun u19 M20 H locs hM20 hH hS => ?_)
                        rw [nI_clamp (show a11 < 2 ^ 31 by omega)] at hM20
                        obtain ⟨hu, hx⟩ := lqB_t hM20 ((inx_n (a := a11) (n := no) (by omega) (by omega)).mpr hf) ⟨h13.trans (congrArg nI n737), hz2⟩
                        have hu : u19 = nI qb := hu.trans (hq)
                        rw [hu]
                        rw [hzx] at hx
                        have hXr := LX_rf (LI_rx hx hX18.1 hT)
                        refine lv_iload C.1 C.2.1 dL_goes_815 (lv_at hl 0 rfl) ?_
                        refine lv_icmp_ne (tgt := 824) C.1 C.2.1 dL_goes_817 (by decide) (fun c817 => ?_) (fun c817 => ?_)
                        · exact absurd rfl c817
                        · refine lv_iconst (v := 1) C.1 C.2.1 dL_goes_820 rfl ?_
                          refine lv_goto (tgt := 825) C.1 C.2.1 dL_goes_821 (by decide) ?_
                          exact wr_zret () C hr hlocks (rfl) hH hS rfl (WS_mk hx hX18.1 hT ⟨hs0, hs5, hs9⟩ (LR_claim (R := 4) hR hf (by omega) hne13 (by omega)) (krN_cg hN (fun i _ => rfl))) (by decide) (by decide) dL_goes_825
                    · refine lv_bipush (v := -102) C.1 C.2.1 dL_goes_752 rfl ?_
                      refine lv_goto (tgt := 768) C.1 C.2.1 dL_goes_754 (by decide) ?_
                      refine lv_istore (lv' := [(15, .int (-102)), (14, .int (nI (5 * (a11 % 10)))), (13, .ref (la 4)), (12, .int 1), (11, .int (nI a11)), (0, .ref x), (1, .int 3), (2, .int y), (3, .ref (la 0)), (4, .ref (la 1)), (5, .ref (la 2)), (6, .ref (la 3)), (7, .ref (la 4)), (8, .ref (la 5)), (9, .ref (la 6)), (10, .ref (la 7))]) C.1 C.2.1 dL_goes_768 hl (by decide) rfl (fun ls hl => ?_)
                      refine lv_iload C.1 C.2.1 dL_goes_770 (lv_at hl 0 rfl) ?_
                      refine lv_if_lt (tgt := 807) C.1 C.2.1 dL_goes_772 (by decide) (fun c772 => ?_) (fun c772 => ?_)
                      · refine lv_aload_n C.1 C.2.1 dL_goes_807 rfl (lv_at hl 5 rfl) ?_
                        refine lv_iconst (v := 1) C.1 C.2.1 dL_goes_808 rfl ?_
                        refine lv_iload C.1 C.2.1 dL_goes_809 (lv_at hl 4 rfl) ?_
                        refine lv_iconst (v := 0) C.1 C.2.1 dL_goes_811 rfl ?_
                        refine wr_go1 (runT C hE hH hS (l_claim hlx hI (nI a11) 0) mv_L_pieces wm_605 hl.1 dL_goes_812 rfl rfl ⟨rfl, rfl⟩ ⟨Nat.le_of_ble_eq_true rfl, Nat.le_of_ble_eq_true rfl⟩ (Nat.le_of_ble_eq_true rfl) ⟨Nat.le_of_ble_eq_true rfl, Nat.le_of_ble_eq_true rfl⟩) hS (fun u21 M22 H locs hM22 hH hS => ?_)
                        rw [nI_clamp (show a11 < 2 ^ 31 by omega)] at hM22
                        obtain ⟨hu, hM⟩ := lqB_g hM22 ((inx_n (a := a11) (n := no) (by omega) (by omega)).mpr hf) (fun z => z.2 (zbo_0 c749))
                        rw [hu]
                        refine lv_iload C.1 C.2.1 dL_goes_815 (lv_at hl 0 rfl) ?_
                        refine lv_icmp_ne (tgt := 824) C.1 C.2.1 dL_goes_817 (by decide) (fun c817 => ?_) (fun c817 => ?_)
                        · exact absurd c817 (by decide)
                        · refine lv_iconst (v := 1) C.1 C.2.1 dL_goes_820 rfl ?_
                          refine lv_goto (tgt := 825) C.1 C.2.1 dL_goes_821 (by decide) ?_
                          exact wr_zret () C hr hlocks (rfl) hH hS rfl ((by rw [hM]; exact hLS)) (by decide) (by decide) dL_goes_825
                      · exact absurd c772 (by decide)
                · exact absurd c721 (by decide)
              · exact absurd c584 (by decide)
            · exact absurd c374 (by decide)
      have J336f : ∀ (hf : ¬ a11 < no) (ls : Array Slot), lv_has ls 18 [(11, .int (nI a11)), (0, .ref x), (1, .int 3), (2, .int y), (3, .ref (la 0)), (4, .ref (la 1)), (5, .ref (la 2)), (6, .ref (la 3)), (7, .ref (la 4)), (8, .ref (la 5)), (9, .ref (la 6)), (10, .ref (la 7))] → W p l e { frames := 10, cells := 6, slots := 230, locals := 172 } s m args below meth c s.heap [] 0 0 (MQ below (wrQ (S := Unit) g (fun u_ => (some (.int 1))) (fun u_ M_ => WS g M_ x la n)) args s 6 230 (gA g)) (F0 m 336 ls [.int 0]) := by
        intro  hf ls hl
        refine lv_istore (lv' := [(12, .int 0), (11, .int (nI a11)), (0, .ref x), (1, .int 3), (2, .int y), (3, .ref (la 0)), (4, .ref (la 1)), (5, .ref (la 2)), (6, .ref (la 3)), (7, .ref (la 4)), (8, .ref (la 5)), (9, .ref (la 6)), (10, .ref (la 7))]) C.1 C.2.1 dL_goes_336 hl (by decide) rfl (fun ls hl => ?_)
        refine lv_iload C.1 C.2.1 dL_goes_338 (lv_at hl 1 rfl) ?_
        refine lv_bipush (v := 10) C.1 C.2.1 dL_goes_340 rfl ?_
        refine lv_icmp_ge (tgt := 350) C.1 C.2.1 dL_goes_342 (by decide) (fun c342 => ?_) (fun c342 => ?_)
        · have n342 : 10 ≤ a11 := (nI_leI (a := 10) (b := a11) (by omega) (by omega)).mp c342
          refine lv_aload C.1 C.2.1 dL_goes_350 (lv_at hl 10 rfl) ?_
          refine lv_astore (lv' := [(13, .ref (la 5)), (12, .int 0), (11, .int (nI a11)), (0, .ref x), (1, .int 3), (2, .int y), (3, .ref (la 0)), (4, .ref (la 1)), (5, .ref (la 2)), (6, .ref (la 3)), (7, .ref (la 4)), (8, .ref (la 5)), (9, .ref (la 6)), (10, .ref (la 7))]) C.1 C.2.1 dL_goes_352 hl (by decide) rfl (fun ls hl => ?_)
          refine lv_iload C.1 C.2.1 dL_goes_354 (lv_at hl 1 rfl) ?_
          refine lv_if_eq (tgt := 369) C.1 C.2.1 dL_goes_356 (by decide) (fun c356 => ?_) (fun c356 => ?_)
          · refine lv_iconst (v := 0) C.1 C.2.1 dL_goes_369 rfl ?_
            refine lv_istore (lv' := [(14, .int 0), (13, .ref (la 5)), (12, .int 0), (11, .int (nI a11)), (0, .ref x), (1, .int 3), (2, .int y), (3, .ref (la 0)), (4, .ref (la 1)), (5, .ref (la 2)), (6, .ref (la 3)), (7, .ref (la 4)), (8, .ref (la 5)), (9, .ref (la 6)), (10, .ref (la 7))]) C.1 C.2.1 dL_goes_370 hl (by decide) rfl (fun ls hl => ?_)
            refine lv_iload_n C.1 C.2.1 dL_goes_372 rfl (lv_at hl 5 rfl) ?_
            refine lv_iconst (v := 1) C.1 C.2.1 dL_goes_373 rfl ?_
            refine lv_icmp_ne (tgt := 582) C.1 C.2.1 dL_goes_374 (by decide) (fun c374 => ?_) (fun c374 => ?_)
            · refine lv_iload_n C.1 C.2.1 dL_goes_582 rfl (lv_at hl 5 rfl) ?_
              refine lv_iconst (v := 2) C.1 C.2.1 dL_goes_583 rfl ?_
              refine lv_icmp_ne (tgt := 719) C.1 C.2.1 dL_goes_584 (by decide) (fun c584 => ?_) (fun c584 => ?_)
              · refine lv_iload C.1 C.2.1 dL_goes_719 (lv_at hl 2 rfl) ?_
                refine lv_if_ne (tgt := 729) C.1 C.2.1 dL_goes_721 (by decide) (fun c721 => ?_) (fun c721 => ?_)
                · exact absurd c721 (by decide)
                · refine lv_bipush (v := -101) C.1 C.2.1 dL_goes_724 rfl ?_
                  refine lv_goto (tgt := 768) C.1 C.2.1 dL_goes_726 (by decide) ?_
                  refine lv_istore (lv' := [(15, .int (-101)), (14, .int 0), (13, .ref (la 5)), (12, .int 0), (11, .int (nI a11)), (0, .ref x), (1, .int 3), (2, .int y), (3, .ref (la 0)), (4, .ref (la 1)), (5, .ref (la 2)), (6, .ref (la 3)), (7, .ref (la 4)), (8, .ref (la 5)), (9, .ref (la 6)), (10, .ref (la 7))]) C.1 C.2.1 dL_goes_768 hl (by decide) rfl (fun ls hl => ?_)
                  refine lv_iload C.1 C.2.1 dL_goes_770 (lv_at hl 0 rfl) ?_
                  refine lv_if_lt (tgt := 807) C.1 C.2.1 dL_goes_772 (by decide) (fun c772 => ?_) (fun c772 => ?_)
                  · refine lv_aload_n C.1 C.2.1 dL_goes_807 rfl (lv_at hl 5 rfl) ?_
                    refine lv_iconst (v := 1) C.1 C.2.1 dL_goes_808 rfl ?_
                    refine lv_iload C.1 C.2.1 dL_goes_809 (lv_at hl 4 rfl) ?_
                    refine lv_iconst (v := 0) C.1 C.2.1 dL_goes_811 rfl ?_
                    refine wr_go1 (runT C hE hH hS (l_claim hlx hI (nI a11) 0) mv_L_pieces wm_605 hl.1 dL_goes_812 rfl rfl ⟨rfl, rfl⟩ ⟨Nat.le_of_ble_eq_true rfl, Nat.le_of_ble_eq_true rfl⟩ (Nat.le_of_ble_eq_true rfl) ⟨Nat.le_of_ble_eq_true rfl, Nat.le_of_ble_eq_true rfl⟩) hS (fun u23 M24 H locs hM24 hH hS => ?_)
                    obtain ⟨hu, hM⟩ := lqB_f hM24 (fun z => hf ((inx_n (a := a11) (n := no) (by omega) (by omega)).mp z))
                    rw [hu]
                    refine lv_iload C.1 C.2.1 dL_goes_815 (lv_at hl 0 rfl) ?_
                    refine lv_icmp_ne (tgt := 824) C.1 C.2.1 dL_goes_817 (by decide) (fun c817 => ?_) (fun c817 => ?_)
                    · exact absurd c817 (by decide)
                    · refine lv_iconst (v := 1) C.1 C.2.1 dL_goes_820 rfl ?_
                      refine lv_goto (tgt := 825) C.1 C.2.1 dL_goes_821 (by decide) ?_
                      exact wr_zret () C hr hlocks (rfl) hH hS rfl ((by rw [hM]; exact hLS)) (by decide) (by decide) dL_goes_825
                  · exact absurd c772 (by decide)
              · exact absurd c584 (by decide)
            · exact absurd c374 (by decide)
          · exact absurd c356 (by decide)
        · have n342 : ¬ 10 ≤ a11 := fun z => c342 ((nI_leI (a := 10) (b := a11) (by omega) (by omega)).mpr z)
          refine lv_aload C.1 C.2.1 dL_goes_345 (lv_at hl 9 rfl) ?_
          refine lv_goto (tgt := 352) C.1 C.2.1 dL_goes_347 (by decide) ?_
          refine lv_astore (lv' := [(13, .ref (la 4)), (12, .int 0), (11, .int (nI a11)), (0, .ref x), (1, .int 3), (2, .int y), (3, .ref (la 0)), (4, .ref (la 1)), (5, .ref (la 2)), (6, .ref (la 3)), (7, .ref (la 4)), (8, .ref (la 5)), (9, .ref (la 6)), (10, .ref (la 7))]) C.1 C.2.1 dL_goes_352 hl (by decide) rfl (fun ls hl => ?_)
          refine lv_iload C.1 C.2.1 dL_goes_354 (lv_at hl 1 rfl) ?_
          refine lv_if_eq (tgt := 369) C.1 C.2.1 dL_goes_356 (by decide) (fun c356 => ?_) (fun c356 => ?_)
          · refine lv_iconst (v := 0) C.1 C.2.1 dL_goes_369 rfl ?_
            refine lv_istore (lv' := [(14, .int 0), (13, .ref (la 4)), (12, .int 0), (11, .int (nI a11)), (0, .ref x), (1, .int 3), (2, .int y), (3, .ref (la 0)), (4, .ref (la 1)), (5, .ref (la 2)), (6, .ref (la 3)), (7, .ref (la 4)), (8, .ref (la 5)), (9, .ref (la 6)), (10, .ref (la 7))]) C.1 C.2.1 dL_goes_370 hl (by decide) rfl (fun ls hl => ?_)
            refine lv_iload_n C.1 C.2.1 dL_goes_372 rfl (lv_at hl 5 rfl) ?_
            refine lv_iconst (v := 1) C.1 C.2.1 dL_goes_373 rfl ?_
            refine lv_icmp_ne (tgt := 582) C.1 C.2.1 dL_goes_374 (by decide) (fun c374 => ?_) (fun c374 => ?_)
            · refine lv_iload_n C.1 C.2.1 dL_goes_582 rfl (lv_at hl 5 rfl) ?_
              refine lv_iconst (v := 2) C.1 C.2.1 dL_goes_583 rfl ?_
              refine lv_icmp_ne (tgt := 719) C.1 C.2.1 dL_goes_584 (by decide) (fun c584 => ?_) (fun c584 => ?_)
              · refine lv_iload C.1 C.2.1 dL_goes_719 (lv_at hl 2 rfl) ?_
                refine lv_if_ne (tgt := 729) C.1 C.2.1 dL_goes_721 (by decide) (fun c721 => ?_) (fun c721 => ?_)
                · exact absurd c721 (by decide)
                · refine lv_bipush (v := -101) C.1 C.2.1 dL_goes_724 rfl ?_
                  refine lv_goto (tgt := 768) C.1 C.2.1 dL_goes_726 (by decide) ?_
                  refine lv_istore (lv' := [(15, .int (-101)), (14, .int 0), (13, .ref (la 4)), (12, .int 0), (11, .int (nI a11)), (0, .ref x), (1, .int 3), (2, .int y), (3, .ref (la 0)), (4, .ref (la 1)), (5, .ref (la 2)), (6, .ref (la 3)), (7, .ref (la 4)), (8, .ref (la 5)), (9, .ref (la 6)), (10, .ref (la 7))]) C.1 C.2.1 dL_goes_768 hl (by decide) rfl (fun ls hl => ?_)
                  refine lv_iload C.1 C.2.1 dL_goes_770 (lv_at hl 0 rfl) ?_
                  refine lv_if_lt (tgt := 807) C.1 C.2.1 dL_goes_772 (by decide) (fun c772 => ?_) (fun c772 => ?_)
                  · refine lv_aload_n C.1 C.2.1 dL_goes_807 rfl (lv_at hl 5 rfl) ?_
                    refine lv_iconst (v := 1) C.1 C.2.1 dL_goes_808 rfl ?_
                    refine lv_iload C.1 C.2.1 dL_goes_809 (lv_at hl 4 rfl) ?_
                    refine lv_iconst (v := 0) C.1 C.2.1 dL_goes_811 rfl ?_
                    refine wr_go1 (runT C hE hH hS (l_claim hlx hI (nI a11) 0) mv_L_pieces wm_605 hl.1 dL_goes_812 rfl rfl ⟨rfl, rfl⟩ ⟨Nat.le_of_ble_eq_true rfl, Nat.le_of_ble_eq_true rfl⟩ (Nat.le_of_ble_eq_true rfl) ⟨Nat.le_of_ble_eq_true rfl, Nat.le_of_ble_eq_true rfl⟩) hS (fun u25 M26 H locs hM26 hH hS => ?_)
                    obtain ⟨hu, hM⟩ := lqB_f hM26 (fun z => hf ((inx_n (a := a11) (n := no) (by omega) (by omega)).mp z))
                    rw [hu]
                    refine lv_iload C.1 C.2.1 dL_goes_815 (lv_at hl 0 rfl) ?_
                    refine lv_icmp_ne (tgt := 824) C.1 C.2.1 dL_goes_817 (by decide) (fun c817 => ?_) (fun c817 => ?_)
                    · exact absurd c817 (by decide)
                    · refine lv_iconst (v := 1) C.1 C.2.1 dL_goes_820 rfl ?_
                      refine lv_goto (tgt := 825) C.1 C.2.1 dL_goes_821 (by decide) ?_
                      exact wr_zret () C hr hlocks (rfl) hH hS rfl ((by rw [hM]; exact hLS)) (by decide) (by decide) dL_goes_825
                  · exact absurd c772 (by decide)
              · exact absurd c584 (by decide)
            · exact absurd c374 (by decide)
          · exact absurd c356 (by decide)
      refine lv_iload C.1 C.2.1 dL_goes_318 (lv_at hl 0 rfl) ?_
      refine lv_if_lt (tgt := 335) C.1 C.2.1 dL_goes_320 (by decide) (fun c320 => ?_) (fun c320 => ?_)
      · exact absurd (n_ge (by omega) (by decide)) (n_nlt c320)
      · refine lv_iload C.1 C.2.1 dL_goes_323 (lv_at hl 0 rfl) ?_
        refine lv_aload_n C.1 C.2.1 dL_goes_325 rfl (lv_at hl 4 rfl) ?_
        refine lv_iconst (v := 2) C.1 C.2.1 dL_goes_326 rfl ?_
        refine lald (K := 0) (N := 3) (E := 2) (f := (lf 0)) (v := (nI no)) C hE hH hX (by decide) rfl rfl rfl (by omega) (hc2) dL_goes_327 ?_
        refine lv_icmp_ge (tgt := 335) C.1 C.2.1 dL_goes_328 (by decide) (fun c328 => ?_) (fun c328 => ?_)
        · have n328 : no ≤ a11 := (nI_leI (a := no) (b := a11) (by omega) (by omega)).mp c328
          refine lv_iconst (v := 0) C.1 C.2.1 dL_goes_335 rfl ?_
          exact J336f (by omega) ls (hl)
        · have n328 : ¬ no ≤ a11 := fun z => c328 ((nI_leI (a := no) (b := a11) (by omega) (by omega)).mpr z)
          refine lv_iconst (v := 1) C.1 C.2.1 dL_goes_331 rfl ?_
          refine lv_goto (tgt := 336) C.1 C.2.1 dL_goes_332 (by decide) ?_
          exact J336t (by omega) ls (hl)
    refine lv_iload_n C.1 C.2.1 dL_goes_256 rfl (lv_at hl 2 rfl) ?_
    refine lv_iconst (v := 3) C.1 C.2.1 dL_goes_257 rfl ?_
    refine some_go (N := 3) (runS C hE hH hS (c_some (n := 3) (N := 3) rfl (by omega) (by omega) y) mv_L_some wm_121 hl.1 dL_goes_258 rfl rfl ⟨rfl, rfl⟩ ⟨Nat.le_of_ble_eq_true rfl, Nat.le_of_ble_eq_true rfl⟩ (Nat.le_of_ble_eq_true rfl) ⟨Nat.le_of_ble_eq_true rfl, Nat.le_of_ble_eq_true rfl⟩) rfl (by omega) (by omega) (fun k258 hk258 => ?_)
    refine lv_if_ne (tgt := 278) C.1 C.2.1 dL_goes_261 (by decide) (fun c261 => ?_) (fun c261 => ?_)
    · have n261 : ¬ k258 = 0 := fun z => c261 (congrArg nI z)
      refine lv_aload_n C.1 C.2.1 dL_goes_278 rfl (lv_at hl 3 rfl) ?_
      refine lv_iconst (v := 2) C.1 C.2.1 dL_goes_279 rfl ?_
      refine lald (K := 0) (N := 3) (E := 2) (f := (lf 0)) (v := (nI no)) C hE hH hX (by decide) rfl rfl rfl (by omega) (hc2) dL_goes_280 ?_
      refine lv_if_ne (tgt := 288) C.1 C.2.1 dL_goes_281 (by decide) (fun c281 => ?_) (fun c281 => ?_)
      · have n281 : ¬ no = 0 := fun z => c281 (congrArg nI z)
        refine lv_aload_n C.1 C.2.1 dL_goes_288 rfl (lv_at hl 3 rfl) ?_
        refine lv_iconst (v := 2) C.1 C.2.1 dL_goes_289 rfl ?_
        refine lald (K := 0) (N := 3) (E := 2) (f := (lf 0)) (v := (nI no)) C hE hH hX (by decide) rfl rfl rfl (by omega) (hc2) dL_goes_290 ?_
        refine lv_iconst (v := 1) C.1 C.2.1 dL_goes_291 rfl ?_
        refine lv_isub C.1 C.2.1 dL_goes_292 ?_
        rw [show (nI no - 1 : Int32) = nI (no - 1) from nI_S (a := no) (b := 1) (by omega)]
        refine lv_iload_n C.1 C.2.1 dL_goes_293 rfl (lv_at hl 2 rfl) ?_
        refine lv_iconst (v := 3) C.1 C.2.1 dL_goes_294 rfl ?_
        refine lv_ishr C.1 C.2.1 dL_goes_295 ?_
        refine lv_aload_n C.1 C.2.1 dL_goes_296 rfl (lv_at hl 3 rfl) ?_
        refine lv_iconst (v := 2) C.1 C.2.1 dL_goes_297 rfl ?_
        refine lald (K := 0) (N := 3) (E := 2) (f := (lf 0)) (v := (nI no)) C hE hH hX (by decide) rfl rfl rfl (by omega) (hc2) dL_goes_298 ?_
        refine lv_bipush (v := 6) C.1 C.2.1 dL_goes_299 rfl ?_
        refine lv_icmp_ge (tgt := 310) C.1 C.2.1 dL_goes_301 (by decide) (fun c301 => ?_) (fun c301 => ?_)
        · have n301 : 6 ≤ no := (nI_leI (a := 6) (b := no) (by omega) (by omega)).mp c301
          refine lv_bipush (v := 6) C.1 C.2.1 dL_goes_310 rfl ?_
          refine some_go (N := 6) (runS C hE hH hS (c_some (n := 6) (N := 6) rfl (by omega) (by omega) (y >>> (3 &&& 31))) mv_L_some wm_121 hl.1 dL_goes_312 rfl rfl ⟨rfl, rfl⟩ ⟨Nat.le_of_ble_eq_true rfl, Nat.le_of_ble_eq_true rfl⟩ (Nat.le_of_ble_eq_true rfl) ⟨Nat.le_of_ble_eq_true rfl, Nat.le_of_ble_eq_true rfl⟩) rfl (by omega) (by omega) (fun k312 hk312 => ?_)
          refine lv_isub C.1 C.2.1 dL_goes_315 ?_
          rw [show (nI (no - 1) - nI k312 : Int32) = nI (no - 1 - k312) from nI_S (by omega)]
          exact J316p (no - 1 - k312) (by omega) ls (hl)
        · have n301 : ¬ 6 ≤ no := fun z => c301 ((nI_leI (a := 6) (b := no) (by omega) (by omega)).mpr z)
          refine lv_aload_n C.1 C.2.1 dL_goes_304 rfl (lv_at hl 3 rfl) ?_
          refine lv_iconst (v := 2) C.1 C.2.1 dL_goes_305 rfl ?_
          refine lald (K := 0) (N := 3) (E := 2) (f := (lf 0)) (v := (nI no)) C hE hH hX (by decide) rfl rfl rfl (by omega) (hc2) dL_goes_306 ?_
          refine lv_goto (tgt := 312) C.1 C.2.1 dL_goes_307 (by decide) ?_
          refine some_go (N := no) (runS C hE hH hS (c_some (n := nI no) (N := no) rfl (by omega) (by omega) (y >>> (3 &&& 31))) mv_L_some wm_121 hl.1 dL_goes_312 rfl rfl ⟨rfl, rfl⟩ ⟨Nat.le_of_ble_eq_true rfl, Nat.le_of_ble_eq_true rfl⟩ (Nat.le_of_ble_eq_true rfl) ⟨Nat.le_of_ble_eq_true rfl, Nat.le_of_ble_eq_true rfl⟩) rfl (by omega) (by omega) (fun k312 hk312 => ?_)
          refine lv_isub C.1 C.2.1 dL_goes_315 ?_
          rw [show (nI (no - 1) - nI k312 : Int32) = nI (no - 1 - k312) from nI_S (by omega)]
          exact J316p (no - 1 - k312) (by omega) ls (hl)
      · have n281 : no = 0 := nI_inj (by omega) (by omega) c281
        refine lv_iconst (v := -1) C.1 C.2.1 dL_goes_284 rfl ?_
        refine lv_goto (tgt := 316) C.1 C.2.1 dL_goes_285 (by decide) ?_
        exact J316m  ls (hl)
    · have n261 : k258 = 0 := nI_inj (by omega) (by omega) c261
      refine lv_iload_n C.1 C.2.1 dL_goes_264 rfl (lv_at hl 2 rfl) ?_
      refine lv_iconst (v := 3) C.1 C.2.1 dL_goes_265 rfl ?_
      refine lv_ishr C.1 C.2.1 dL_goes_266 ?_
      refine lv_aload_n C.1 C.2.1 dL_goes_267 rfl (lv_at hl 3 rfl) ?_
      refine lv_iconst (v := 2) C.1 C.2.1 dL_goes_268 rfl ?_
      refine lald (K := 0) (N := 3) (E := 2) (f := (lf 0)) (v := (nI no)) C hE hH hX (by decide) rfl rfl rfl (by omega) (hc2) dL_goes_269 ?_
      refine lv_iconst (v := 1) C.1 C.2.1 dL_goes_270 rfl ?_
      refine lv_iadd C.1 C.2.1 dL_goes_271 ?_
      rw [show ((nI no) + 1 : Int32) = nI (no + 1) from nI_add no 1]
      refine some_go (N := no + 1) (runS C hE hH hS (c_some (n := nI (no + 1)) (N := no + 1) rfl (by omega) (by omega) (y >>> (3 &&& 31))) mv_L_some wm_121 hl.1 dL_goes_272 rfl rfl ⟨rfl, rfl⟩ ⟨Nat.le_of_ble_eq_true rfl, Nat.le_of_ble_eq_true rfl⟩ (Nat.le_of_ble_eq_true rfl) ⟨Nat.le_of_ble_eq_true rfl, Nat.le_of_ble_eq_true rfl⟩) rfl (by omega) (by omega) (fun k272 hk272 => ?_)
      refine lv_goto (tgt := 316) C.1 C.2.1 dL_goes_275 (by decide) ?_
      exact J316p k272 (by omega) ls (hl)
  · exact absurd c1 (by decide)
