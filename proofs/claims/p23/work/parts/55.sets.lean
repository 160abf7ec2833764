/-! THE LAW: SETS -/
set_option maxHeartbeats 4000000 in
set_option maxRecDepth 100000 in
theorem s_entry {l : Launch} {g : gG} {M : Mp} {la : Nat → Nat} {x n : Nat}  (hlx : l.stackTraces = false) (hLS : WS g M x la n) (y : Int32) : Met l yL_sets (WY yL_sets cL_sets 12 (some .boolean)) { frames := 9, cells := 6, slots := 230, locals := 239 } (Wc g M [.ref x, .int 0, .int y, .ref (la 0), .ref (la 1), .ref (la 2), .ref (la 3), .ref (la 9)]) (wrQ (S := Unit) g (fun u_ => (some (.int 1))) (fun u_ M_ => WS g M_ x la n)) 6 230 (gA g) := by
  refine ofM (by decide +kernel) (Nat.le_of_ble_eq_true rfl) (fun p e s m args below meth c ls C hr hlocks hin hE hH hl ea => ?_)
  have hl : lv_has ls 12 [(0, .ref x), (1, .int 0), (2, .int y), (3, .ref (la 0)), (4, .ref (la 1)), (5, .ref (la 2)), (6, .ref (la 3)), (7, .ref (la 9))] := hl
  have hS : va_S (gA g) s.heap s.heap [] := va_S.rf
  obtain ⟨tg, A, pr, br, np, hh, ne, nb, no, sc, ar, lf, hI, hL, hT, hR, hN⟩ := id hLS
  have hX := LX_rf hL
  obtain ⟨⟨hs0, hs5, hs9⟩, iX, iE, iB, iO, iW, iBl, iC⟩ := id hI
  obtain ⟨⟨hc0, hc1, hc2⟩, ⟨sne, snb, sno⟩, rE, ⟨rW, rY⟩, rB, rO, rM, rD, rZ⟩ := id hR
  refine lv_iload_n C.1 C.2.1 dL_sets_0 rfl (lv_at hl 1 rfl) ?_
  refine lv_if_ne (tgt := 197) C.1 C.2.1 dL_sets_1 (by decide) (fun c1 => ?_) (fun c1 => ?_)
  · exact absurd c1 (by decide)
  · have J24 : ∀ (a8 : Nat) (h8 : a8 ≤ 61) (ls : Array Slot), lv_has ls 12 [(0, .ref x), (1, .int 0), (2, .int y), (3, .ref (la 0)), (4, .ref (la 1)), (5, .ref (la 2)), (6, .ref (la 3)), (7, .ref (la 9))] → W p l e { frames := 9, cells := 6, slots := 230, locals := 239 } s m args below meth c s.heap [] 0 0 (MQ below (wrQ (S := Unit) g (fun u_ => (some (.int 1))) (fun u_ M_ => WS g M_ x la n)) args s 6 230 (gA g)) (F0 m 24 ls [.int (nI a8)]) := by
      intro a8 h8 ls hl
      refine lv_istore (lv' := [(8, .int (nI a8)), (0, .ref x), (1, .int 0), (2, .int y), (3, .ref (la 0)), (4, .ref (la 1)), (5, .ref (la 2)), (6, .ref (la 3)), (7, .ref (la 9))]) C.1 C.2.1 dL_sets_24 hl (by decide) rfl (fun ls hl => ?_)
      have J49m : ∀ (ls : Array Slot), lv_has ls 12 [(8, .int (nI a8)), (0, .ref x), (1, .int 0), (2, .int y), (3, .ref (la 0)), (4, .ref (la 1)), (5, .ref (la 2)), (6, .ref (la 3)), (7, .ref (la 9))] → W p l e { frames := 9, cells := 6, slots := 230, locals := 239 } s m args below meth c s.heap [] 0 0 (MQ below (wrQ (S := Unit) g (fun u_ => (some (.int 1))) (fun u_ M_ => WS g M_ x la n)) args s 6 230 (gA g)) (F0 m 49 ls [.int (-1)]) := by
        intro   ls hl
        refine lv_istore (lv' := [(9, .int (-1)), (8, .int (nI a8)), (0, .ref x), (1, .int 0), (2, .int y), (3, .ref (la 0)), (4, .ref (la 1)), (5, .ref (la 2)), (6, .ref (la 3)), (7, .ref (la 9))]) C.1 C.2.1 dL_sets_49 hl (by decide) rfl (fun ls hl => ?_)
        have J75 : ∀ (a10 : Nat) (h10 : a10 ≤ 21) (ls : Array Slot), lv_has ls 12 [(9, .int (-1)), (8, .int (nI a8)), (0, .ref x), (1, .int 0), (2, .int y), (3, .ref (la 0)), (4, .ref (la 1)), (5, .ref (la 2)), (6, .ref (la 3)), (7, .ref (la 9))] → W p l e { frames := 9, cells := 6, slots := 230, locals := 239 } s m args below meth c s.heap [] 0 0 (MQ below (wrQ (S := Unit) g (fun u_ => (some (.int 1))) (fun u_ M_ => WS g M_ x la n)) args s 6 230 (gA g)) (F0 m 75 ls [.int (nI a10)]) := by
          intro a10 h10 ls hl
          refine lv_istore (lv' := [(10, .int (nI a10)), (9, .int (-1)), (8, .int (nI a8)), (0, .ref x), (1, .int 0), (2, .int y), (3, .ref (la 0)), (4, .ref (la 1)), (5, .ref (la 2)), (6, .ref (la 3)), (7, .ref (la 9))]) C.1 C.2.1 dL_sets_75 hl (by decide) rfl (fun ls hl => ?_)
          have J101f : ∀ (ls : Array Slot), lv_has ls 12 [(10, .int (nI a10)), (9, .int (-1)), (8, .int (nI a8)), (0, .ref x), (1, .int 0), (2, .int y), (3, .ref (la 0)), (4, .ref (la 1)), (5, .ref (la 2)), (6, .ref (la 3)), (7, .ref (la 9))] → W p l e { frames := 9, cells := 6, slots := 230, locals := 239 } s m args below meth c s.heap [] 0 0 (MQ below (wrQ (S := Unit) g (fun u_ => (some (.int 1))) (fun u_ M_ => WS g M_ x la n)) args s 6 230 (gA g)) (F0 m 101 ls [.int 0]) := by
            intro   ls hl
            refine lv_istore (lv' := [(11, .int 0), (10, .int (nI a10)), (9, .int (-1)), (8, .int (nI a8)), (0, .ref x), (1, .int 0), (2, .int y), (3, .ref (la 0)), (4, .ref (la 1)), (5, .ref (la 2)), (6, .ref (la 3)), (7, .ref (la 9))]) C.1 C.2.1 dL_sets_101 hl (by decide) rfl (fun ls hl => ?_)
            refine lv_iload C.1 C.2.1 dL_sets_103 (lv_at hl 0 rfl) ?_
            refine lv_if_eq (tgt := 117) C.1 C.2.1 dL_sets_105 (by decide) (fun c105 => ?_) (fun c105 => ?_)
            · refine lv_iload C.1 C.2.1 dL_sets_117 (lv_at hl 0 rfl) ?_
              refine lv_if_eq (tgt := 163) C.1 C.2.1 dL_sets_119 (by decide) (fun c119 => ?_) (fun c119 => ?_)
              · refine lv_aload_n C.1 C.2.1 dL_sets_163 rfl (lv_at hl 4 rfl) ?_
                refine lv_iload C.1 C.2.1 dL_sets_164 (lv_at hl 3 rfl) ?_
                refine lv_iload C.1 C.2.1 dL_sets_166 (lv_at hl 2 rfl) ?_
                refine lv_iload C.1 C.2.1 dL_sets_168 (lv_at hl 1 rfl) ?_
                refine wr_go1 (runT C hE hH hS (l_entry hlx hI (nI a8) (-1) (nI a10)) mv_L_entries wm_127 hl.1 dL_sets_170 rfl rfl ⟨rfl, rfl⟩ ⟨Nat.le_of_ble_eq_true rfl, Nat.le_of_ble_eq_true rfl⟩ (Nat.le_of_ble_eq_true rfl) ⟨Nat.le_of_ble_eq_true rfl, Nat.le_of_ble_eq_true rfl⟩) hS (fun u1 M2 H locs hM2 hH hS => ?_)
                obtain ⟨hu, hM⟩ := lqB_f hM2 (fun z => z.1.2.1 (by decide))
                rw [hu]
                refine lv_iload C.1 C.2.1 dL_sets_173 (lv_at hl 0 rfl) ?_
                refine lv_if_eq (tgt := 186) C.1 C.2.1 dL_sets_175 (by decide) (fun c175 => ?_) (fun c175 => ?_)
                · refine lv_bipush (v := -101) C.1 C.2.1 dL_sets_186 rfl ?_
                  refine lv_icmp_ne (tgt := 195) C.1 C.2.1 dL_sets_188 (by decide) (fun c188 => ?_) (fun c188 => ?_)
                  · exact absurd c188 (by decide)
                  · refine lv_iconst (v := 1) C.1 C.2.1 dL_sets_191 rfl ?_
                    refine lv_goto (tgt := 196) C.1 C.2.1 dL_sets_192 (by decide) ?_
                    exact wr_zret () C hr hlocks (rfl) hH hS rfl ((by rw [hM]; exact hLS)) (by decide) (by decide) dL_sets_196
                · exact absurd c175 (by decide)
              · exact absurd c119 (by decide)
            · exact absurd c105 (by decide)
          refine lv_iload C.1 C.2.1 dL_sets_77 (lv_at hl 2 rfl) ?_
          refine lv_bipush (v := 61) C.1 C.2.1 dL_sets_79 rfl ?_
          refine lv_icmp_ge (tgt := 100) C.1 C.2.1 dL_sets_81 (by decide) (fun c81 => ?_) (fun c81 => ?_)
          · have n81 : 61 ≤ a8 := (nI_leI (a := 61) (b := a8) (by omega) (by omega)).mp c81
            refine lv_iconst (v := 0) C.1 C.2.1 dL_sets_100 rfl ?_
            exact J101f  ls (hl)
          · have n81 : ¬ 61 ≤ a8 := fun z => c81 ((nI_leI (a := 61) (b := a8) (by omega) (by omega)).mpr z)
            refine lv_iload C.1 C.2.1 dL_sets_84 (lv_at hl 1 rfl) ?_
            refine lv_if_lt (tgt := 100) C.1 C.2.1 dL_sets_86 (by decide) (fun c86 => ?_) (fun c86 => ?_)
            · refine lv_iconst (v := 0) C.1 C.2.1 dL_sets_100 rfl ?_
              exact J101f  ls (hl)
            · exact absurd c86 (by decide)
        refine lv_iload_n C.1 C.2.1 dL_sets_51 rfl (lv_at hl 4 rfl) ?_
        refine lv_iconst (v := 5) C.1 C.2.1 dL_sets_52 rfl ?_
        refine lv_ishr C.1 C.2.1 dL_sets_53 ?_
        refine lv_bipush (v := 60) C.1 C.2.1 dL_sets_54 rfl ?_
        refine some_go (N := 60) (runS C hE hH hS (c_some (n := 60) (N := 60) rfl (by omega) (by omega) (y >>> (5 &&& 31))) mv_L_some wm_121 hl.1 dL_sets_56 rfl rfl ⟨rfl, rfl⟩ ⟨Nat.le_of_ble_eq_true rfl, Nat.le_of_ble_eq_true rfl⟩ (Nat.le_of_ble_eq_true rfl) ⟨Nat.le_of_ble_eq_true rfl, Nat.le_of_ble_eq_true rfl⟩) rfl (by omega) (by omega) (fun k56 hk56 => ?_)
        refine lv_if_ne (tgt := 67) C.1 C.2.1 dL_sets_59 (by decide) (fun c59 => ?_) (fun c59 => ?_)
        · have n59 : ¬ k56 = 0 := fun z => c59 (congrArg nI z)
          refine lv_iload_n C.1 C.2.1 dL_sets_67 rfl (lv_at hl 4 rfl) ?_
          refine lv_iconst (v := 5) C.1 C.2.1 dL_sets_68 rfl ?_
          refine lv_ishr C.1 C.2.1 dL_sets_69 ?_
          refine lv_bipush (v := 14) C.1 C.2.1 dL_sets_70 rfl ?_
          refine some_go (N := 14) (runS C hE hH hS (c_some (n := 14) (N := 14) rfl (by omega) (by omega) (y >>> (5 &&& 31))) mv_L_some wm_121 hl.1 dL_sets_72 rfl rfl ⟨rfl, rfl⟩ ⟨Nat.le_of_ble_eq_true rfl, Nat.le_of_ble_eq_true rfl⟩ (Nat.le_of_ble_eq_true rfl) ⟨Nat.le_of_ble_eq_true rfl, Nat.le_of_ble_eq_true rfl⟩) rfl (by omega) (by omega) (fun k72 hk72 => ?_)
          exact J75 k72 (by omega) ls (hl)
        · have n59 : k56 = 0 := nI_inj (by omega) (by omega) c59
          refine lv_bipush (v := 21) C.1 C.2.1 dL_sets_62 rfl ?_
          refine lv_goto (tgt := 75) C.1 C.2.1 dL_sets_64 (by decide) ?_
          exact J75 21 (by omega) ls (hl)
      have J49p : ∀ (a9 : Nat) (h9 : a9 ≤ 60) (ls : Array Slot), lv_has ls 12 [(8, .int (nI a8)), (0, .ref x), (1, .int 0), (2, .int y), (3, .ref (la 0)), (4, .ref (la 1)), (5, .ref (la 2)), (6, .ref (la 3)), (7, .ref (la 9))] → W p l e { frames := 9, cells := 6, slots := 230, locals := 239 } s m args below meth c s.heap [] 0 0 (MQ below (wrQ (S := Unit) g (fun u_ => (some (.int 1))) (fun u_ M_ => WS g M_ x la n)) args s 6 230 (gA g)) (F0 m 49 ls [.int (nI a9)]) := by
        intro a9 h9 ls hl
        refine lv_istore (lv' := [(9, .int (nI a9)), (8, .int (nI a8)), (0, .ref x), (1, .int 0), (2, .int y), (3, .ref (la 0)), (4, .ref (la 1)), (5, .ref (la 2)), (6, .ref (la 3)), (7, .ref (la 9))]) C.1 C.2.1 dL_sets_49 hl (by decide) rfl (fun ls hl => ?_)
        have J75 : ∀ (a10 : Nat) (h10 : a10 ≤ 21) (ls : Array Slot), lv_has ls 12 [(9, .int (nI a9)), (8, .int (nI a8)), (0, .ref x), (1, .int 0), (2, .int y), (3, .ref (la 0)), (4, .ref (la 1)), (5, .ref (la 2)), (6, .ref (la 3)), (7, .ref (la 9))] → W p l e { frames := 9, cells := 6, slots := 230, locals := 239 } s m args below meth c s.heap [] 0 0 (MQ below (wrQ (S := Unit) g (fun u_ => (some (.int 1))) (fun u_ M_ => WS g M_ x la n)) args s 6 230 (gA g)) (F0 m 75 ls [.int (nI a10)]) := by
          intro a10 h10 ls hl
          refine lv_istore (lv' := [(10, .int (nI a10)), (9, .int (nI a9)), (8, .int (nI a8)), (0, .ref x), (1, .int 0), (2, .int y), (3, .ref (la 0)), (4, .ref (la 1)), (5, .ref (la 2)), (6, .ref (la 3)), (7, .ref (la 9))]) C.1 C.2.1 dL_sets_75 hl (by decide) rfl (fun ls hl => ?_)
          have J101t : ∀ (hf : a8 < 61 ∧ a10 < 21) (ls : Array Slot), lv_has ls 12 [(10, .int (nI a10)), (9, .int (nI a9)), (8, .int (nI a8)), (0, .ref x), (1, .int 0), (2, .int y), (3, .ref (la 0)), (4, .ref (la 1)), (5, .ref (la 2)), (6, .ref (la 3)), (7, .ref (la 9))] → W p l e { frames := 9, cells := 6, slots := 230, locals := 239 } s m args below meth c s.heap [] 0 0 (MQ below (wrQ (S := Unit) g (fun u_ => (some (.int 1))) (fun u_ M_ => WS g M_ x la n)) args s 6 230 (gA g)) (F0 m 101 ls [.int 1]) := by
            intro  hf ls hl
            refine lv_istore (lv' := [(11, .int 1), (10, .int (nI a10)), (9, .int (nI a9)), (8, .int (nI a8)), (0, .ref x), (1, .int 0), (2, .int y), (3, .ref (la 0)), (4, .ref (la 1)), (5, .ref (la 2)), (6, .ref (la 3)), (7, .ref (la 9))]) C.1 C.2.1 dL_sets_101 hl (by decide) rfl (fun ls hl => ?_)
            refine lv_iload C.1 C.2.1 dL_sets_103 (lv_at hl 0 rfl) ?_
            refine lv_if_eq (tgt := 117) C.1 C.2.1 dL_sets_105 (by decide) (fun c105 => ?_) (fun c105 => ?_)
            · exact absurd c105 (by decide)
            · refine lv_aload_n C.1 C.2.1 dL_sets_108 rfl (lv_at hl 7 rfl) ?_
              refine lv_iconst (v := 0) C.1 C.2.1 dL_sets_109 rfl ?_
              refine lald (K := 0) (N := 3) (E := 0) (f := (lf 0)) (v := (nI ne)) C hE hH hX (by decide) rfl rfl rfl (by omega) (hc0) dL_sets_110 ?_
              refine lv_iconst (v := 4) C.1 C.2.1 dL_sets_111 rfl ?_
              refine lv_icmp_ne (tgt := 117) C.1 C.2.1 dL_sets_112 (by decide) (fun c112 => ?_) (fun c112 => ?_)
              · have n112 : ¬ ne = 4 := fun z => c112 (congrArg nI z)
                refine lv_iload C.1 C.2.1 dL_sets_117 (lv_at hl 0 rfl) ?_
                refine lv_if_eq (tgt := 163) C.1 C.2.1 dL_sets_119 (by decide) (fun c119 => ?_) (fun c119 => ?_)
                · exact absurd c119 (by decide)
                · refine lv_aload C.1 C.2.1 dL_sets_122 (lv_at hl 8 rfl) ?_
                  refine lv_iconst (v := 3) C.1 C.2.1 dL_sets_124 rfl ?_
                  refine lv_aload_n C.1 C.2.1 dL_sets_125 rfl (lv_at hl 7 rfl) ?_
                  refine lv_iconst (v := 0) C.1 C.2.1 dL_sets_126 rfl ?_
                  refine lald (K := 0) (N := 3) (E := 0) (f := (lf 0)) (v := (nI ne)) C hE hH hX (by decide) rfl rfl rfl (by omega) (hc0) dL_sets_127 ?_
                  refine lv_imul C.1 C.2.1 dL_sets_128 ?_
                  rw [show ((3 : Int32) * (nI ne)) = nI (3 * ne) from nI_M 3 ne]
                  refine lv_iload C.1 C.2.1 dL_sets_129 (lv_at hl 3 rfl) ?_
                  refine last (K := 1) (N := 12) (E := 3 * ne) (f := (lf 1)) C hE hH hS hX (by decide) rfl rfl rfl (by omega) dL_sets_131 (fun M3 H locs hX4 hH hS => ?_)
                  have hIM3 := WS_up hI hX4 hT (ed_no hE hH)
                  refine lv_aload C.1 C.2.1 dL_sets_132 (lv_at hl 8 rfl) ?_
                  refine lv_iconst (v := 3) C.1 C.2.1 dL_sets_134 rfl ?_
                  refine lv_aload_n C.1 C.2.1 dL_sets_135 rfl (lv_at hl 7 rfl) ?_
                  refine lv_iconst (v := 0) C.1 C.2.1 dL_sets_136 rfl ?_
                  refine lald (K := 0) (N := 3) (E := 0) (f := (lf 0)) (v := (nI ne)) C hE hH hX4 (by decide) rfl rfl rfl (by omega) (hc0) dL_sets_137 ?_
                  refine lv_imul C.1 C.2.1 dL_sets_138 ?_
                  rw [show ((3 : Int32) * (nI ne)) = nI (3 * ne) from nI_M 3 ne]
                  refine lv_iconst (v := 1) C.1 C.2.1 dL_sets_139 rfl ?_
                  refine lv_iadd C.1 C.2.1 dL_sets_140 ?_
                  rw [show ((nI (3 * ne)) + 1 : Int32) = nI (3 * ne + 1) from nI_add (3 * ne) 1]
                  refine lv_iload C.1 C.2.1 dL_sets_141 (lv_at hl 2 rfl) ?_
                  refine last (K := 1) (N := 12) (E := 3 * ne + 1) (f := (upd (lf 1) (3 * ne) (nI a8))) C hE hH hS hX4 (by decide) rfl rfl rfl (by omega) dL_sets_143 (fun M5 H locs hX6 hH hS => ?_)
                  rw [ua_ua] at hX6
                  have hIM5 := WS_up hI hX6 hT (ed_no hE hH)
                  refine lv_aload C.1 C.2.1 dL_sets_144 (lv_at hl 8 rfl) ?_
                  refine lv_iconst (v := 3) C.1 C.2.1 dL_sets_146 rfl ?_
                  refine lv_aload_n C.1 C.2.1 dL_sets_147 rfl (lv_at hl 7 rfl) ?_
                  refine lv_iconst (v := 0) C.1 C.2.1 dL_sets_148 rfl ?_
                  refine lald (K := 0) (N := 3) (E := 0) (f := (lf 0)) (v := (nI ne)) C hE hH hX6 (by decide) rfl rfl rfl (by omega) (hc0) dL_sets_149 ?_
                  refine lv_imul C.1 C.2.1 dL_sets_150 ?_
                  rw [show ((3 : Int32) * (nI ne)) = nI (3 * ne) from nI_M 3 ne]
                  refine lv_iconst (v := 2) C.1 C.2.1 dL_sets_151 rfl ?_
                  refine lv_iadd C.1 C.2.1 dL_sets_152 ?_
                  rw [show ((nI (3 * ne)) + 2 : Int32) = nI (3 * ne + 2) from nI_add (3 * ne) 2]
                  refine lv_iload C.1 C.2.1 dL_sets_153 (lv_at hl 1 rfl) ?_
                  refine last (K := 1) (N := 12) (E := 3 * ne + 2) (f := (upd (upd (lf 1) (3 * ne) (nI a8)) (3 * ne + 1) (nI a9))) C hE hH hS hX6 (by decide) rfl rfl rfl (by omega) dL_sets_155 (fun M7 H locs hX8 hH hS => ?_)
                  rw [ua_ua] at hX8
                  have hIM7 := WS_up hI hX8 hT (ed_no hE hH)
                  refine lv_aload_n C.1 C.2.1 dL_sets_156 rfl (lv_at hl 7 rfl) ?_
                  refine lv_iconst (v := 0) C.1 C.2.1 dL_sets_157 rfl ?_
                  refine lv_dup2_11 C.1 C.2.1 dL_sets_158 rfl rfl ?_
                  refine lald (K := 0) (N := 3) (E := 0) (f := (lf 0)) (v := (nI ne)) C hE hH hX8 (by decide) rfl rfl rfl (by omega) (hc0) dL_sets_159 ?_
                  refine lv_iconst (v := 1) C.1 C.2.1 dL_sets_160 rfl ?_
                  refine lv_iadd C.1 C.2.1 dL_sets_161 ?_
                  rw [show ((nI ne) + 1 : Int32) = nI (ne + 1) from nI_add ne 1]
                  refine last (K := 0) (N := 3) (E := 0) (f := (lf 0)) C hE hH hS hX8 (by decide) rfl rfl rfl (by omega) dL_sets_162 (fun M9 H locs hX10 hH hS => ?_)
                  have hIM9 := WS_up hI hX10 hT (ed_no hE hH)
                  refine lv_aload_n C.1 C.2.1 dL_sets_163 rfl (lv_at hl 4 rfl) ?_
                  refine lv_iload C.1 C.2.1 dL_sets_164 (lv_at hl 3 rfl) ?_
                  refine lv_iload C.1 C.2.1 dL_sets_166 (lv_at hl 2 rfl) ?_
                  refine lv_iload C.1 C.2.1 dL_sets_168 (lv_at hl 1 rfl) ?_
                  refine wr_go1 (runT C hE hH hS (l_entry hlx hIM9 (nI a8) (nI a9) (nI a10)) mv_L_entries wm_127 hl.1 dL_sets_170 rfl rfl ⟨rfl, rfl⟩ ⟨Nat.le_of_ble_eq_true rfl, Nat.le_of_ble_eq_true rfl⟩ (Nat.le_of_ble_eq_true rfl) ⟨Nat.le_of_ble_eq_true rfl, Nat.le_of_ble_eq_true rfl⟩) hS (fun u11 M12 H locs hM12 hH hS => ?_)
                  obtain ⟨hu, hx⟩ := lqB_t hM12 ⟨⟨(inr_n (a := a8) (n := 60) (by omega) (by omega)).mpr (by omega), (inr_n (a := a9) (n := 60) (by omega) (by omega)).mpr (by omega)⟩, (inr_n (a := a10) (n := 20) (by omega) (by omega)).mpr (by omega)⟩ (by rw [hs0]; exact (nI_ltI (a := ne) (b := 12) (by omega) (by omega)).mpr (by omega))
                  have hu : u11 = nI ne := hu.trans (hs0)
                  rw [hu]
                  rw [hs0, nI_clamp (show ne < 2 ^ 31 by omega)] at hx
                  have hXr := LX_rf (LI_rx hx hX10.1 hT)
                  refine lv_iload C.1 C.2.1 dL_sets_173 (lv_at hl 0 rfl) ?_
                  refine lv_if_eq (tgt := 186) C.1 C.2.1 dL_sets_175 (by decide) (fun c175 => ?_) (fun c175 => ?_)
                  · exact absurd c175 (by decide)
                  · refine lv_aload_n C.1 C.2.1 dL_sets_178 rfl (lv_at hl 7 rfl) ?_
                    refine lv_iconst (v := 0) C.1 C.2.1 dL_sets_179 rfl ?_
                    refine lald (K := 0) (N := 3) (E := 0) (f := (upd (lf 0) 0 (nI (ne + 1)))) (v := (nI (ne + 1))) C hE hH hXr (by decide) rfl rfl rfl (by omega) (upd_s) dL_sets_180 ?_
                    refine lv_iconst (v := 1) C.1 C.2.1 dL_sets_181 rfl ?_
                    refine lv_isub C.1 C.2.1 dL_sets_182 ?_
                    rw [show (nI (ne + 1) - 1 : Int32) = nI ne from nI_S (Nat.le_add_left 1 ne)]
                    refine lv_goto (tgt := 188) C.1 C.2.1 dL_sets_183 (by decide) ?_
                    refine lv_icmp_ne (tgt := 195) C.1 C.2.1 dL_sets_188 (by decide) (fun c188 => ?_) (fun c188 => ?_)
                    · exact absurd rfl c188
                    · refine lv_iconst (v := 1) C.1 C.2.1 dL_sets_191 rfl ?_
                      refine lv_goto (tgt := 196) C.1 C.2.1 dL_sets_192 (by decide) ?_
                      exact wr_zret () C hr hlocks (rfl) hH hS rfl (WS_mk hx hX10.1 hT ⟨(by unfold us; rw [upd_s, nI_1]), (by unfold us; rw [upd_n (by decide)]; exact hs5), (by unfold us; rw [upd_n (by decide)]; exact hs9)⟩ (LR_entry hR (by omega) (fun k hk => (RI_e hI hk).1)) (krN_cg hN (fun _ _ => rfl))) (by decide) (by decide) dL_sets_196
              · have n112 : ne = 4 := nI_inj (by omega) (by omega) c112
                refine lv_iconst (v := 1) C.1 C.2.1 dL_sets_115 rfl ?_
                exact wr_zret () C hr hlocks (rfl) hH hS rfl (hLS) (by decide) (by decide) dL_sets_116
          have J101f : ∀ (hf : ¬ (a8 < 61 ∧ a10 < 21)) (ls : Array Slot), lv_has ls 12 [(10, .int (nI a10)), (9, .int (nI a9)), (8, .int (nI a8)), (0, .ref x), (1, .int 0), (2, .int y), (3, .ref (la 0)), (4, .ref (la 1)), (5, .ref (la 2)), (6, .ref (la 3)), (7, .ref (la 9))] → W p l e { frames := 9, cells := 6, slots := 230, locals := 239 } s m args below meth c s.heap [] 0 0 (MQ below (wrQ (S := Unit) g (fun u_ => (some (.int 1))) (fun u_ M_ => WS g M_ x la n)) args s 6 230 (gA g)) (F0 m 101 ls [.int 0]) := by
            intro  hf ls hl
            refine lv_istore (lv' := [(11, .int 0), (10, .int (nI a10)), (9, .int (nI a9)), (8, .int (nI a8)), (0, .ref x), (1, .int 0), (2, .int y), (3, .ref (la 0)), (4, .ref (la 1)), (5, .ref (la 2)), (6, .ref (la 3)), (7, .ref (la 9))]) C.1 C.2.1 dL_sets_101 hl (by decide) rfl (fun ls hl => ?_)
            refine lv_iload C.1 C.2.1 dL_sets_103 (lv_at hl 0 rfl) ?_
            refine lv_if_eq (tgt := 117) C.1 C.2.1 dL_sets_105 (by decide) (fun c105 => ?_) (fun c105 => ?_)
            · refine lv_iload C.1 C.2.1 dL_sets_117 (lv_at hl 0 rfl) ?_
              refine lv_if_eq (tgt := 163) C.1 C.2.1 dL_sets_119 (by decide) (fun c119 => ?_) (fun c119 => ?_)
              · refine lv_aload_n C.1 C.2.1 dL_sets_163 rfl (lv_at hl 4 rfl) ?_
                refine lv_iload C.1 C.2.1 dL_sets_164 (lv_at hl 3 rfl) ?_
                refine lv_iload C.1 C.2.1 dL_sets_166 (lv_at hl 2 rfl) ?_
                refine lv_iload C.1 C.2.1 dL_sets_168 (lv_at hl 1 rfl) ?_
                refine wr_go1 (runT C hE hH hS (l_entry hlx hI (nI a8) (nI a9) (nI a10)) mv_L_entries wm_127 hl.1 dL_sets_170 rfl rfl ⟨rfl, rfl⟩ ⟨Nat.le_of_ble_eq_true rfl, Nat.le_of_ble_eq_true rfl⟩ (Nat.le_of_ble_eq_true rfl) ⟨Nat.le_of_ble_eq_true rfl, Nat.le_of_ble_eq_true rfl⟩) hS (fun u13 M14 H locs hM14 hH hS => ?_)
                obtain ⟨hu, hM⟩ := lqB_f hM14 (fun z => hf (by have z1 := (inr_n (a := a8) (n := 60) (by omega) (by omega)).mp z.1.1; have z2 := (inr_n (a := a10) (n := 20) (by omega) (by omega)).mp z.2; omega))
                rw [hu]
                refine lv_iload C.1 C.2.1 dL_sets_173 (lv_at hl 0 rfl) ?_
                refine lv_if_eq (tgt := 186) C.1 C.2.1 dL_sets_175 (by decide) (fun c175 => ?_) (fun c175 => ?_)
                · refine lv_bipush (v := -101) C.1 C.2.1 dL_sets_186 rfl ?_
                  refine lv_icmp_ne (tgt := 195) C.1 C.2.1 dL_sets_188 (by decide) (fun c188 => ?_) (fun c188 => ?_)
                  · exact absurd c188 (by decide)
                  · refine lv_iconst (v := 1) C.1 C.2.1 dL_sets_191 rfl ?_
                    refine lv_goto (tgt := 196) C.1 C.2.1 dL_sets_192 (by decide) ?_
                    exact wr_zret () C hr hlocks (rfl) hH hS rfl ((by rw [hM]; exact hLS)) (by decide) (by decide) dL_sets_196
                · exact absurd c175 (by decide)
              · exact absurd c119 (by decide)
            · exact absurd c105 (by decide)
          refine lv_iload C.1 C.2.1 dL_sets_77 (lv_at hl 2 rfl) ?_
          refine lv_bipush (v := 61) C.1 C.2.1 dL_sets_79 rfl ?_
          refine lv_icmp_ge (tgt := 100) C.1 C.2.1 dL_sets_81 (by decide) (fun c81 => ?_) (fun c81 => ?_)
          · have n81 : 61 ≤ a8 := (nI_leI (a := 61) (b := a8) (by omega) (by omega)).mp c81
            refine lv_iconst (v := 0) C.1 C.2.1 dL_sets_100 rfl ?_
            exact J101f (by omega) ls (hl)
          · have n81 : ¬ 61 ≤ a8 := fun z => c81 ((nI_leI (a := 61) (b := a8) (by omega) (by omega)).mpr z)
            refine lv_iload C.1 C.2.1 dL_sets_84 (lv_at hl 1 rfl) ?_
            refine lv_if_lt (tgt := 100) C.1 C.2.1 dL_sets_86 (by decide) (fun c86 => ?_) (fun c86 => ?_)
            · exact absurd (n_ge (by omega) (by decide)) (n_nlt c86)
            · refine lv_iload C.1 C.2.1 dL_sets_89 (lv_at hl 0 rfl) ?_
              refine lv_bipush (v := 21) C.1 C.2.1 dL_sets_91 rfl ?_
              refine lv_icmp_ge (tgt := 100) C.1 C.2.1 dL_sets_93 (by decide) (fun c93 => ?_) (fun c93 => ?_)
              · have n93 : 21 ≤ a10 := (nI_leI (a := 21) (b := a10) (by omega) (by omega)).mp c93
                refine lv_iconst (v := 0) C.1 C.2.1 dL_sets_100 rfl ?_
                exact J101f (by omega) ls (hl)
              · have n93 : ¬ 21 ≤ a10 := fun z => c93 ((nI_leI (a := 21) (b := a10) (by omega) (by omega)).mpr z)
                refine lv_iconst (v := 1) C.1 C.2.1 dL_sets_96 rfl ?_
                refine lv_goto (tgt := 101) C.1 C.2.1 dL_sets_97 (by decide) ?_
                exact J101t (by omega) ls (hl)
        refine lv_iload_n C.1 C.2.1 dL_sets_51 rfl (lv_at hl 4 rfl) ?_
        refine lv_iconst (v := 5) C.1 C.2.1 dL_sets_52 rfl ?_
        refine lv_ishr C.1 C.2.1 dL_sets_53 ?_
        refine lv_bipush (v := 60) C.1 C.2.1 dL_sets_54 rfl ?_
        refine some_go (N := 60) (runS C hE hH hS (c_some (n := 60) (N := 60) rfl (by omega) (by omega) (y >>> (5 &&& 31))) mv_L_some wm_121 hl.1 dL_sets_56 rfl rfl ⟨rfl, rfl⟩ ⟨Nat.le_of_ble_eq_true rfl, Nat.le_of_ble_eq_true rfl⟩ (Nat.le_of_ble_eq_true rfl) ⟨Nat.le_of_ble_eq_true rfl, Nat.le_of_ble_eq_true rfl⟩) rfl (by omega) (by omega) (fun k56 hk56 => ?_)
        refine lv_if_ne (tgt := 67) C.1 C.2.1 dL_sets_59 (by decide) (fun c59 => ?_) (fun c59 => ?_)
        · have n59 : ¬ k56 = 0 := fun z => c59 (congrArg nI z)
          refine lv_iload_n C.1 C.2.1 dL_sets_67 rfl (lv_at hl 4 rfl) ?_
          refine lv_iconst (v := 5) C.1 C.2.1 dL_sets_68 rfl ?_
          refine lv_ishr C.1 C.2.1 dL_sets_69 ?_
          refine lv_bipush (v := 14) C.1 C.2.1 dL_sets_70 rfl ?_
          refine some_go (N := 14) (runS C hE hH hS (c_some (n := 14) (N := 14) rfl (by omega) (by omega) (y >>> (5 &&& 31))) mv_L_some wm_121 hl.1 dL_sets_72 rfl rfl ⟨rfl, rfl⟩ ⟨Nat.le_of_ble_eq_true rfl, Nat.le_of_ble_eq_true rfl⟩ (Nat.le_of_ble_eq_true rfl) ⟨Nat.le_of_ble_eq_true rfl, Nat.le_of_ble_eq_true rfl⟩) rfl (by omega) (by omega) (fun k72 hk72 => ?_)
          exact J75 k72 (by omega) ls (hl)
        · have n59 : k56 = 0 := nI_inj (by omega) (by omega) c59
          refine lv_bipush (v := 21) C.1 C.2.1 dL_sets_62 rfl ?_
          refine lv_goto (tgt := 75) C.1 C.2.1 dL_sets_64 (by decide) ?_
          exact J75 21 (by omega) ls (hl)
      refine lv_iload_n C.1 C.2.1 dL_sets_26 rfl (lv_at hl 3 rfl) ?_
      refine lv_iconst (v := 3) C.1 C.2.1 dL_sets_27 rfl ?_
      refine lv_ishr C.1 C.2.1 dL_sets_28 ?_
      refine lv_bipush (v := 60) C.1 C.2.1 dL_sets_29 rfl ?_
      refine some_go (N := 60) (runS C hE hH hS (c_some (n := 60) (N := 60) rfl (by omega) (by omega) (y >>> (3 &&& 31))) mv_L_some wm_121 hl.1 dL_sets_31 rfl rfl ⟨rfl, rfl⟩ ⟨Nat.le_of_ble_eq_true rfl, Nat.le_of_ble_eq_true rfl⟩ (Nat.le_of_ble_eq_true rfl) ⟨Nat.le_of_ble_eq_true rfl, Nat.le_of_ble_eq_true rfl⟩) rfl (by omega) (by omega) (fun k31 hk31 => ?_)
      refine lv_if_ne (tgt := 41) C.1 C.2.1 dL_sets_34 (by decide) (fun c34 => ?_) (fun c34 => ?_)
      · have n34 : ¬ k31 = 0 := fun z => c34 (congrArg nI z)
        refine lv_iload_n C.1 C.2.1 dL_sets_41 rfl (lv_at hl 3 rfl) ?_
        refine lv_iconst (v := 3) C.1 C.2.1 dL_sets_42 rfl ?_
        refine lv_ishr C.1 C.2.1 dL_sets_43 ?_
        refine lv_bipush (v := 61) C.1 C.2.1 dL_sets_44 rfl ?_
        refine some_go (N := 61) (runS C hE hH hS (c_some (n := 61) (N := 61) rfl (by omega) (by omega) (y >>> (3 &&& 31))) mv_L_some wm_121 hl.1 dL_sets_46 rfl rfl ⟨rfl, rfl⟩ ⟨Nat.le_of_ble_eq_true rfl, Nat.le_of_ble_eq_true rfl⟩ (Nat.le_of_ble_eq_true rfl) ⟨Nat.le_of_ble_eq_true rfl, Nat.le_of_ble_eq_true rfl⟩) rfl (by omega) (by omega) (fun k46 hk46 => ?_)
        exact J49p k46 (by omega) ls (hl)
      · have n34 : k31 = 0 := nI_inj (by omega) (by omega) c34
        refine lv_iconst (v := -1) C.1 C.2.1 dL_sets_37 rfl ?_
        refine lv_goto (tgt := 49) C.1 C.2.1 dL_sets_38 (by decide) ?_
        exact J49m  ls (hl)
    refine lv_iload_n C.1 C.2.1 dL_sets_4 rfl (lv_at hl 2 rfl) ?_
    refine lv_bipush (v := 60) C.1 C.2.1 dL_sets_5 rfl ?_
    refine some_go (N := 60) (runS C hE hH hS (c_some (n := 60) (N := 60) rfl (by omega) (by omega) y) mv_L_some wm_121 hl.1 dL_sets_7 rfl rfl ⟨rfl, rfl⟩ ⟨Nat.le_of_ble_eq_true rfl, Nat.le_of_ble_eq_true rfl⟩ (Nat.le_of_ble_eq_true rfl) ⟨Nat.le_of_ble_eq_true rfl, Nat.le_of_ble_eq_true rfl⟩) rfl (by omega) (by omega) (fun k7 hk7 => ?_)
    refine lv_if_ne (tgt := 18) C.1 C.2.1 dL_sets_10 (by decide) (fun c10 => ?_) (fun c10 => ?_)
    · have n10 : ¬ k7 = 0 := fun z => c10 (congrArg nI z)
      refine lv_iload_n C.1 C.2.1 dL_sets_18 rfl (lv_at hl 2 rfl) ?_
      refine lv_bipush (v := 61) C.1 C.2.1 dL_sets_19 rfl ?_
      refine some_go (N := 61) (runS C hE hH hS (c_some (n := 61) (N := 61) rfl (by omega) (by omega) y) mv_L_some wm_121 hl.1 dL_sets_21 rfl rfl ⟨rfl, rfl⟩ ⟨Nat.le_of_ble_eq_true rfl, Nat.le_of_ble_eq_true rfl⟩ (Nat.le_of_ble_eq_true rfl) ⟨Nat.le_of_ble_eq_true rfl, Nat.le_of_ble_eq_true rfl⟩) rfl (by omega) (by omega) (fun k21 hk21 => ?_)
      exact J24 k21 (by omega) ls (hl)
    · have n10 : k7 = 0 := nI_inj (by omega) (by omega) c10
      refine lv_bipush (v := 61) C.1 C.2.1 dL_sets_13 rfl ?_
      refine lv_goto (tgt := 24) C.1 C.2.1 dL_sets_15 (by decide) ?_
      exact J24 61 (by omega) ls (hl)
set_option maxHeartbeats 4000000 in
set_option maxRecDepth 100000 in
theorem s_water {l : Launch} {g : gG} {M : Mp} {la : Nat → Nat} {x n : Nat}  (hlx : l.stackTraces = false) (hLS : WS g M x la n) (y : Int32) : Met l yL_sets (WY yL_sets cL_sets 12 (some .boolean)) { frames := 9, cells := 6, slots := 230, locals := 151 } (Wc g M [.ref x, .int 1, .int y, .ref (la 0), .ref (la 1), .ref (la 2), .ref (la 3), .ref (la 9)]) (wrQ (S := Unit) g (fun u_ => (some (.int 1))) (fun u_ M_ => WS g M_ x la n)) 6 230 (gA g) := by
  refine ofM (by decide +kernel) (Nat.le_of_ble_eq_true rfl) (fun p e s m args below meth c ls C hr hlocks hin hE hH hl ea => ?_)
  have hl : lv_has ls 12 [(0, .ref x), (1, .int 1), (2, .int y), (3, .ref (la 0)), (4, .ref (la 1)), (5, .ref (la 2)), (6, .ref (la 3)), (7, .ref (la 9))] := hl
  have hS : va_S (gA g) s.heap s.heap [] := va_S.rf
  obtain ⟨tg, A, pr, br, np, hh, ne, nb, no, sc, ar, lf, hI, hL, hT, hR, hN⟩ := id hLS
  have hX := LX_rf hL
  obtain ⟨⟨hs0, hs5, hs9⟩, iX, iE, iB, iO, iW, iBl, iC⟩ := id hI
  obtain ⟨⟨hc0, hc1, hc2⟩, ⟨sne, snb, sno⟩, rE, ⟨rW, rY⟩, rB, rO, rM, rD, rZ⟩ := id hR
  refine lv_iload_n C.1 C.2.1 dL_sets_0 rfl (lv_at hl 1 rfl) ?_
  refine lv_if_ne (tgt := 197) C.1 C.2.1 dL_sets_1 (by decide) (fun c1 => ?_) (fun c1 => ?_)
  · refine lv_iload_n C.1 C.2.1 dL_sets_197 rfl (lv_at hl 1 rfl) ?_
    refine lv_iconst (v := 1) C.1 C.2.1 dL_sets_198 rfl ?_
    refine lv_icmp_ne (tgt := 315) C.1 C.2.1 dL_sets_199 (by decide) (fun c199 => ?_) (fun c199 => ?_)
    · exact absurd c199 (by decide)
    · have J220 : ∀ (a8 : Nat) (h8 : a8 ≤ 3) (ls : Array Slot), lv_has ls 12 [(0, .ref x), (1, .int 1), (2, .int y), (3, .ref (la 0)), (4, .ref (la 1)), (5, .ref (la 2)), (6, .ref (la 3)), (7, .ref (la 9))] → W p l e { frames := 9, cells := 6, slots := 230, locals := 151 } s m args below meth c s.heap [] 0 0 (MQ below (wrQ (S := Unit) g (fun u_ => (some (.int 1))) (fun u_ M_ => WS g M_ x la n)) args s 6 230 (gA g)) (F0 m 220 ls [.int (nI a8)]) := by
        intro a8 h8 ls hl
        refine lv_istore (lv' := [(8, .int (nI a8)), (0, .ref x), (1, .int 1), (2, .int y), (3, .ref (la 0)), (4, .ref (la 1)), (5, .ref (la 2)), (6, .ref (la 3)), (7, .ref (la 9))]) C.1 C.2.1 dL_sets_220 hl (by decide) rfl (fun ls hl => ?_)
        have J249 : ∀ (v9 : Int32) (h9 : rng v9 (-10) 11) (ls : Array Slot), lv_has ls 12 [(8, .int (nI a8)), (0, .ref x), (1, .int 1), (2, .int y), (3, .ref (la 0)), (4, .ref (la 1)), (5, .ref (la 2)), (6, .ref (la 3)), (7, .ref (la 9))] → W p l e { frames := 9, cells := 6, slots := 230, locals := 151 } s m args below meth c s.heap [] 0 0 (MQ below (wrQ (S := Unit) g (fun u_ => (some (.int 1))) (fun u_ M_ => WS g M_ x la n)) args s 6 230 (gA g)) (F0 m 249 ls [.int v9]) := by
          intro v9 h9 ls hl
          refine lv_istore (lv' := [(9, .int v9), (8, .int (nI a8)), (0, .ref x), (1, .int 1), (2, .int y), (3, .ref (la 0)), (4, .ref (la 1)), (5, .ref (la 2)), (6, .ref (la 3)), (7, .ref (la 9))]) C.1 C.2.1 dL_sets_249 hl (by decide) rfl (fun ls hl => ?_)
          refine lv_iload C.1 C.2.1 dL_sets_251 (lv_at hl 1 rfl) ?_
          refine lv_iconst (v := 2) C.1 C.2.1 dL_sets_253 rfl ?_
          refine lv_icmp_le (tgt := 262) C.1 C.2.1 dL_sets_254 (by decide) (fun c254 => ?_) (fun c254 => ?_)
          · have n254 : a8 ≤ 2 := (nI_leI (a := a8) (b := 2) (by omega) (by omega)).mp c254
            refine lv_iload C.1 C.2.1 dL_sets_262 (lv_at hl 0 rfl) ?_
            refine lv_bipush (v := 10) C.1 C.2.1 dL_sets_264 rfl ?_
            refine lv_icmp_le (tgt := 274) C.1 C.2.1 dL_sets_266 (by decide) (fun c266 => ?_) (fun c266 => ?_)
            · refine lv_aload C.1 C.2.1 dL_sets_274 (lv_at hl 7 rfl) ?_
              refine lv_iload C.1 C.2.1 dL_sets_276 (lv_at hl 1 rfl) ?_
              refine lald (K := 2) (N := 11) (E := a8) (f := (lf 2)) (v := ((lf 2) a8)) C hE hH hX (by decide) rfl rfl rfl (by omega) (rfl) dL_sets_278 ?_
              refine lv_istore (lv' := [(10, .int ((lf 2) a8)), (9, .int v9), (8, .int (nI a8)), (0, .ref x), (1, .int 1), (2, .int y), (3, .ref (la 0)), (4, .ref (la 1)), (5, .ref (la 2)), (6, .ref (la 3)), (7, .ref (la 9))]) C.1 C.2.1 dL_sets_279 hl (by decide) rfl (fun ls hl => ?_)
              refine lv_iload C.1 C.2.1 dL_sets_281 (lv_at hl 0 rfl) ?_
              refine lv_bipush (v := -20) C.1 C.2.1 dL_sets_283 rfl ?_
              refine lv_icmp_le (tgt := 295) C.1 C.2.1 dL_sets_285 (by decide) (fun c285 => ?_) (fun c285 => ?_)
              · exact absurd c285 (rng_nle (by rw [rW a8 (by omega)]; exact (iW.1.elim (fun f z => (z.2 a8 (by omega)).2))) )
              · refine lv_aload C.1 C.2.1 dL_sets_288 (lv_at hl 8 rfl) ?_
                refine lv_iload C.1 C.2.1 dL_sets_290 (lv_at hl 2 rfl) ?_
                refine lv_iload C.1 C.2.1 dL_sets_292 (lv_at hl 1 rfl) ?_
                refine last (K := 2) (N := 11) (E := a8) (f := (lf 2)) C hE hH hS hX (by decide) rfl rfl rfl (by omega) dL_sets_294 (fun M1 H locs hX2 hH hS => ?_)
                have hIM1 := WS_up hI hX2 hT (ed_no hE hH)
                refine lv_aload_n C.1 C.2.1 dL_sets_295 rfl (lv_at hl 3 rfl) ?_
                refine lv_iconst (v := 0) C.1 C.2.1 dL_sets_296 rfl ?_
                refine lv_iload C.1 C.2.1 dL_sets_297 (lv_at hl 2 rfl) ?_
                refine lv_iload C.1 C.2.1 dL_sets_299 (lv_at hl 1 rfl) ?_
                refine wr_go1 (runT C hE hH hS (l_water hlx hIM1 (nI a8) v9) mv_L_two wm_313 hl.1 dL_sets_301 rfl rfl ⟨rfl, rfl⟩ ⟨Nat.le_of_ble_eq_true rfl, Nat.le_of_ble_eq_true rfl⟩ (Nat.le_of_ble_eq_true rfl) ⟨Nat.le_of_ble_eq_true rfl, Nat.le_of_ble_eq_true rfl⟩) hS (fun u3 M4 H locs hM4 hH hS => ?_)
                obtain ⟨hu, hx⟩ := lqB_t hM4 ((inx_n (a := a8) (n := 3) (by omega) (by omega)).mpr (by omega)) (inr_g h9 c266)
                have hu : u3 = (lf 2) a8 := hu.trans ((by rw [nI_clamp (show a8 < 2 ^ 31 by omega)]; exact (rW a8 (by omega)).symm))
                rw [hu]
                rw [nI_clamp (show a8 < 2 ^ 31 by omega)] at hx
                have hXr := LX_rf (LI_rx hx hX2.1 hT)
                refine lv_iload C.1 C.2.1 dL_sets_304 (lv_at hl 0 rfl) ?_
                refine lv_icmp_ne (tgt := 313) C.1 C.2.1 dL_sets_306 (by decide) (fun c306 => ?_) (fun c306 => ?_)
                · exact absurd rfl c306
                · refine lv_iconst (v := 1) C.1 C.2.1 dL_sets_309 rfl ?_
                  refine lv_goto (tgt := 314) C.1 C.2.1 dL_sets_310 (by decide) ?_
                  exact wr_zret () C hr hlocks (rfl) hH hS rfl (WS_mk hx hX2.1 hT ⟨hs0, hs5, hs9⟩ (LR_water hR (by omega)) (krN_cg hN (fun _ _ => rfl))) (by decide) (by decide) dL_sets_314
            · refine lv_bipush (v := -102) C.1 C.2.1 dL_sets_269 rfl ?_
              refine lv_goto (tgt := 279) C.1 C.2.1 dL_sets_271 (by decide) ?_
              refine lv_istore (lv' := [(10, .int (-102)), (9, .int v9), (8, .int (nI a8)), (0, .ref x), (1, .int 1), (2, .int y), (3, .ref (la 0)), (4, .ref (la 1)), (5, .ref (la 2)), (6, .ref (la 3)), (7, .ref (la 9))]) C.1 C.2.1 dL_sets_279 hl (by decide) rfl (fun ls hl => ?_)
              refine lv_iload C.1 C.2.1 dL_sets_281 (lv_at hl 0 rfl) ?_
              refine lv_bipush (v := -20) C.1 C.2.1 dL_sets_283 rfl ?_
              refine lv_icmp_le (tgt := 295) C.1 C.2.1 dL_sets_285 (by decide) (fun c285 => ?_) (fun c285 => ?_)
              · refine lv_aload_n C.1 C.2.1 dL_sets_295 rfl (lv_at hl 3 rfl) ?_
                refine lv_iconst (v := 0) C.1 C.2.1 dL_sets_296 rfl ?_
                refine lv_iload C.1 C.2.1 dL_sets_297 (lv_at hl 2 rfl) ?_
                refine lv_iload C.1 C.2.1 dL_sets_299 (lv_at hl 1 rfl) ?_
                refine wr_go1 (runT C hE hH hS (l_water hlx hI (nI a8) v9) mv_L_two wm_313 hl.1 dL_sets_301 rfl rfl ⟨rfl, rfl⟩ ⟨Nat.le_of_ble_eq_true rfl, Nat.le_of_ble_eq_true rfl⟩ (Nat.le_of_ble_eq_true rfl) ⟨Nat.le_of_ble_eq_true rfl, Nat.le_of_ble_eq_true rfl⟩) hS (fun u5 M6 H locs hM6 hH hS => ?_)
                obtain ⟨hu, hM⟩ := lqB_g hM6 ((inx_n (a := a8) (n := 3) (by omega) (by omega)).mpr (by omega)) (fun z => c266 z.2)
                rw [hu]
                refine lv_iload C.1 C.2.1 dL_sets_304 (lv_at hl 0 rfl) ?_
                refine lv_icmp_ne (tgt := 313) C.1 C.2.1 dL_sets_306 (by decide) (fun c306 => ?_) (fun c306 => ?_)
                · exact absurd c306 (by decide)
                · refine lv_iconst (v := 1) C.1 C.2.1 dL_sets_309 rfl ?_
                  refine lv_goto (tgt := 314) C.1 C.2.1 dL_sets_310 (by decide) ?_
                  exact wr_zret () C hr hlocks (rfl) hH hS rfl ((by rw [hM]; exact hLS)) (by decide) (by decide) dL_sets_314
              · exact absurd c285 (by decide)
          · have n254 : ¬ a8 ≤ 2 := fun z => c254 ((nI_leI (a := a8) (b := 2) (by omega) (by omega)).mpr z)
            refine lv_bipush (v := -101) C.1 C.2.1 dL_sets_257 rfl ?_
            refine lv_goto (tgt := 279) C.1 C.2.1 dL_sets_259 (by decide) ?_
            refine lv_istore (lv' := [(10, .int (-101)), (9, .int v9), (8, .int (nI a8)), (0, .ref x), (1, .int 1), (2, .int y), (3, .ref (la 0)), (4, .ref (la 1)), (5, .ref (la 2)), (6, .ref (la 3)), (7, .ref (la 9))]) C.1 C.2.1 dL_sets_279 hl (by decide) rfl (fun ls hl => ?_)
            refine lv_iload C.1 C.2.1 dL_sets_281 (lv_at hl 0 rfl) ?_
            refine lv_bipush (v := -20) C.1 C.2.1 dL_sets_283 rfl ?_
            refine lv_icmp_le (tgt := 295) C.1 C.2.1 dL_sets_285 (by decide) (fun c285 => ?_) (fun c285 => ?_)
            · refine lv_aload_n C.1 C.2.1 dL_sets_295 rfl (lv_at hl 3 rfl) ?_
              refine lv_iconst (v := 0) C.1 C.2.1 dL_sets_296 rfl ?_
              refine lv_iload C.1 C.2.1 dL_sets_297 (lv_at hl 2 rfl) ?_
              refine lv_iload C.1 C.2.1 dL_sets_299 (lv_at hl 1 rfl) ?_
              refine wr_go1 (runT C hE hH hS (l_water hlx hI (nI a8) v9) mv_L_two wm_313 hl.1 dL_sets_301 rfl rfl ⟨rfl, rfl⟩ ⟨Nat.le_of_ble_eq_true rfl, Nat.le_of_ble_eq_true rfl⟩ (Nat.le_of_ble_eq_true rfl) ⟨Nat.le_of_ble_eq_true rfl, Nat.le_of_ble_eq_true rfl⟩) hS (fun u7 M8 H locs hM8 hH hS => ?_)
              obtain ⟨hu, hM⟩ := lqB_f hM8 (fun z => by have z1 := (inx_n (a := a8) (n := 3) (by omega) (by omega)).mp z; omega)
              rw [hu]
              refine lv_iload C.1 C.2.1 dL_sets_304 (lv_at hl 0 rfl) ?_
              refine lv_icmp_ne (tgt := 313) C.1 C.2.1 dL_sets_306 (by decide) (fun c306 => ?_) (fun c306 => ?_)
              · exact absurd c306 (by decide)
              · refine lv_iconst (v := 1) C.1 C.2.1 dL_sets_309 rfl ?_
                refine lv_goto (tgt := 314) C.1 C.2.1 dL_sets_310 (by decide) ?_
                exact wr_zret () C hr hlocks (rfl) hH hS rfl ((by rw [hM]; exact hLS)) (by decide) (by decide) dL_sets_314
            · exact absurd c285 (by decide)
        refine lv_iload_n C.1 C.2.1 dL_sets_222 rfl (lv_at hl 3 rfl) ?_
        refine lv_iconst (v := 3) C.1 C.2.1 dL_sets_223 rfl ?_
        refine lv_ishr C.1 C.2.1 dL_sets_224 ?_
        refine lv_bipush (v := 30) C.1 C.2.1 dL_sets_225 rfl ?_
        refine some_go (N := 30) (runS C hE hH hS (c_some (n := 30) (N := 30) rfl (by omega) (by omega) (y >>> (3 &&& 31))) mv_L_some wm_121 hl.1 dL_sets_227 rfl rfl ⟨rfl, rfl⟩ ⟨Nat.le_of_ble_eq_true rfl, Nat.le_of_ble_eq_true rfl⟩ (Nat.le_of_ble_eq_true rfl) ⟨Nat.le_of_ble_eq_true rfl, Nat.le_of_ble_eq_true rfl⟩) rfl (by omega) (by omega) (fun k227 hk227 => ?_)
        refine lv_if_ne (tgt := 238) C.1 C.2.1 dL_sets_230 (by decide) (fun c230 => ?_) (fun c230 => ?_)
        · have n230 : ¬ k227 = 0 := fun z => c230 (congrArg nI z)
          refine lv_iload_n C.1 C.2.1 dL_sets_238 rfl (lv_at hl 3 rfl) ?_
          refine lv_iconst (v := 3) C.1 C.2.1 dL_sets_239 rfl ?_
          refine lv_ishr C.1 C.2.1 dL_sets_240 ?_
          refine lv_bipush (v := 21) C.1 C.2.1 dL_sets_241 rfl ?_
          refine some_go (N := 21) (runS C hE hH hS (c_some (n := 21) (N := 21) rfl (by omega) (by omega) (y >>> (3 &&& 31))) mv_L_some wm_121 hl.1 dL_sets_243 rfl rfl ⟨rfl, rfl⟩ ⟨Nat.le_of_ble_eq_true rfl, Nat.le_of_ble_eq_true rfl⟩ (Nat.le_of_ble_eq_true rfl) ⟨Nat.le_of_ble_eq_true rfl, Nat.le_of_ble_eq_true rfl⟩) rfl (by omega) (by omega) (fun k243 hk243 => ?_)
          refine lv_bipush (v := 10) C.1 C.2.1 dL_sets_246 rfl ?_
          refine lv_isub C.1 C.2.1 dL_sets_248 ?_
          exact J249 ((nI k243) - 10) (rng_le (rng_s (by omega)) (by decide) (by decide)) ls (hl)
        · have n230 : k227 = 0 := nI_inj (by omega) (by omega) c230
          refine lv_bipush (v := 11) C.1 C.2.1 dL_sets_233 rfl ?_
          refine lv_goto (tgt := 249) C.1 C.2.1 dL_sets_235 (by decide) ?_
          exact J249 11 ⟨by decide, by decide⟩ ls (hl)
      refine lv_iload_n C.1 C.2.1 dL_sets_202 rfl (lv_at hl 2 rfl) ?_
      refine lv_bipush (v := 30) C.1 C.2.1 dL_sets_203 rfl ?_
      refine some_go (N := 30) (runS C hE hH hS (c_some (n := 30) (N := 30) rfl (by omega) (by omega) y) mv_L_some wm_121 hl.1 dL_sets_205 rfl rfl ⟨rfl, rfl⟩ ⟨Nat.le_of_ble_eq_true rfl, Nat.le_of_ble_eq_true rfl⟩ (Nat.le_of_ble_eq_true rfl) ⟨Nat.le_of_ble_eq_true rfl, Nat.le_of_ble_eq_true rfl⟩) rfl (by omega) (by omega) (fun k205 hk205 => ?_)
      refine lv_if_ne (tgt := 215) C.1 C.2.1 dL_sets_208 (by decide) (fun c208 => ?_) (fun c208 => ?_)
      · have n208 : ¬ k205 = 0 := fun z => c208 (congrArg nI z)
        refine lv_iload_n C.1 C.2.1 dL_sets_215 rfl (lv_at hl 2 rfl) ?_
        refine lv_iconst (v := 3) C.1 C.2.1 dL_sets_216 rfl ?_
        refine some_go (N := 3) (runS C hE hH hS (c_some (n := 3) (N := 3) rfl (by omega) (by omega) y) mv_L_some wm_121 hl.1 dL_sets_217 rfl rfl ⟨rfl, rfl⟩ ⟨Nat.le_of_ble_eq_true rfl, Nat.le_of_ble_eq_true rfl⟩ (Nat.le_of_ble_eq_true rfl) ⟨Nat.le_of_ble_eq_true rfl, Nat.le_of_ble_eq_true rfl⟩) rfl (by omega) (by omega) (fun k217 hk217 => ?_)
        exact J220 k217 (by omega) ls (hl)
      · have n208 : k205 = 0 := nI_inj (by omega) (by omega) c208
        refine lv_iconst (v := 3) C.1 C.2.1 dL_sets_211 rfl ?_
        refine lv_goto (tgt := 220) C.1 C.2.1 dL_sets_212 (by decide) ?_
        exact J220 3 (by omega) ls (hl)
  · exact absurd c1 (by decide)
theorem rng_le10 {x : Int32} {l : Int} (h : rng x l 10) : x ≤ 10 := by
  have e : (10 : Int32).toInt = 10 := by decide
  rw [Int32.le_iff_toInt_le, e]
  exact h.2
set_option maxHeartbeats 4000000 in
set_option maxRecDepth 100000 in
theorem s_yarn {l : Launch} {g : gG} {M : Mp} {la : Nat → Nat} {x n : Nat}  (hlx : l.stackTraces = false) (hLS : WS g M x la n) (y : Int32) : Met l yL_sets (WY yL_sets cL_sets 12 (some .boolean)) { frames := 9, cells := 6, slots := 230, locals := 152 } (Wc g M [.ref x, .int 2, .int y, .ref (la 0), .ref (la 1), .ref (la 2), .ref (la 3), .ref (la 9)]) (wrQ (S := Unit) g (fun u_ => (some (.int 1))) (fun u_ M_ => WS g M_ x la n)) 6 230 (gA g) := by
  refine ofM (by decide +kernel) (Nat.le_of_ble_eq_true rfl) (fun p e s m args below meth c ls C hr hlocks hin hE hH hl ea => ?_)
  have hl : lv_has ls 12 [(0, .ref x), (1, .int 2), (2, .int y), (3, .ref (la 0)), (4, .ref (la 1)), (5, .ref (la 2)), (6, .ref (la 3)), (7, .ref (la 9))] := hl
  have hS : va_S (gA g) s.heap s.heap [] := va_S.rf
  obtain ⟨tg, A, pr, br, np, hh, ne, nb, no, sc, ar, lf, hI, hL, hT, hR, hN⟩ := id hLS
  have hX := LX_rf hL
  obtain ⟨⟨hs0, hs5, hs9⟩, iX, iE, iB, iO, iW, iBl, iC⟩ := id hI
  obtain ⟨⟨hc0, hc1, hc2⟩, ⟨sne, snb, sno⟩, rE, ⟨rW, rY⟩, rB, rO, rM, rD, rZ⟩ := id hR
  refine lv_iload_n C.1 C.2.1 dL_sets_0 rfl (lv_at hl 1 rfl) ?_
  refine lv_if_ne (tgt := 197) C.1 C.2.1 dL_sets_1 (by decide) (fun c1 => ?_) (fun c1 => ?_)
  · refine lv_iload_n C.1 C.2.1 dL_sets_197 rfl (lv_at hl 1 rfl) ?_
    refine lv_iconst (v := 1) C.1 C.2.1 dL_sets_198 rfl ?_
    refine lv_icmp_ne (tgt := 315) C.1 C.2.1 dL_sets_199 (by decide) (fun c199 => ?_) (fun c199 => ?_)
    · refine lv_iload_n C.1 C.2.1 dL_sets_315 rfl (lv_at hl 1 rfl) ?_
      refine lv_iconst (v := 2) C.1 C.2.1 dL_sets_316 rfl ?_
      refine lv_icmp_ne (tgt := 489) C.1 C.2.1 dL_sets_317 (by decide) (fun c317 => ?_) (fun c317 => ?_)
      · exact absurd c317 (by decide)
      · have J338 : ∀ (a8 : Nat) (h8 : a8 ≤ 4) (ls : Array Slot), lv_has ls 12 [(0, .ref x), (1, .int 2), (2, .int y), (3, .ref (la 0)), (4, .ref (la 1)), (5, .ref (la 2)), (6, .ref (la 3)), (7, .ref (la 9))] → W p l e { frames := 9, cells := 6, slots := 230, locals := 152 } s m args below meth c s.heap [] 0 0 (MQ below (wrQ (S := Unit) g (fun u_ => (some (.int 1))) (fun u_ M_ => WS g M_ x la n)) args s 6 230 (gA g)) (F0 m 338 ls [.int (nI a8)]) := by
          intro a8 h8 ls hl
          refine lv_istore (lv' := [(8, .int (nI a8)), (0, .ref x), (1, .int 2), (2, .int y), (3, .ref (la 0)), (4, .ref (la 1)), (5, .ref (la 2)), (6, .ref (la 3)), (7, .ref (la 9))]) C.1 C.2.1 dL_sets_338 hl (by decide) rfl (fun ls hl => ?_)
          have J367m : ∀ (ls : Array Slot), lv_has ls 12 [(8, .int (nI a8)), (0, .ref x), (1, .int 2), (2, .int y), (3, .ref (la 0)), (4, .ref (la 1)), (5, .ref (la 2)), (6, .ref (la 3)), (7, .ref (la 9))] → W p l e { frames := 9, cells := 6, slots := 230, locals := 152 } s m args below meth c s.heap [] 0 0 (MQ below (wrQ (S := Unit) g (fun u_ => (some (.int 1))) (fun u_ M_ => WS g M_ x la n)) args s 6 230 (gA g)) (F0 m 367 ls [.int (-11)]) := by
            intro   ls hl
            refine lv_istore (lv' := [(9, .int (-11)), (8, .int (nI a8)), (0, .ref x), (1, .int 2), (2, .int y), (3, .ref (la 0)), (4, .ref (la 1)), (5, .ref (la 2)), (6, .ref (la 3)), (7, .ref (la 9))]) C.1 C.2.1 dL_sets_367 hl (by decide) rfl (fun ls hl => ?_)
            have J396 : ∀ (v10 : Int32) (h10 : rng v10 (-10) 11) (ls : Array Slot), lv_has ls 12 [(9, .int (-11)), (8, .int (nI a8)), (0, .ref x), (1, .int 2), (2, .int y), (3, .ref (la 0)), (4, .ref (la 1)), (5, .ref (la 2)), (6, .ref (la 3)), (7, .ref (la 9))] → W p l e { frames := 9, cells := 6, slots := 230, locals := 152 } s m args below meth c s.heap [] 0 0 (MQ below (wrQ (S := Unit) g (fun u_ => (some (.int 1))) (fun u_ M_ => WS g M_ x la n)) args s 6 230 (gA g)) (F0 m 396 ls [.int v10]) := by
              intro v10 h10 ls hl
              refine lv_istore (lv' := [(10, .int v10), (9, .int (-11)), (8, .int (nI a8)), (0, .ref x), (1, .int 2), (2, .int y), (3, .ref (la 0)), (4, .ref (la 1)), (5, .ref (la 2)), (6, .ref (la 3)), (7, .ref (la 9))]) C.1 C.2.1 dL_sets_396 hl (by decide) rfl (fun ls hl => ?_)
              refine lv_iload C.1 C.2.1 dL_sets_398 (lv_at hl 2 rfl) ?_
              refine lv_iconst (v := 3) C.1 C.2.1 dL_sets_400 rfl ?_
              refine lv_icmp_le (tgt := 409) C.1 C.2.1 dL_sets_401 (by decide) (fun c401 => ?_) (fun c401 => ?_)
              · have n401 : a8 ≤ 3 := (nI_leI (a := a8) (b := 3) (by omega) (by omega)).mp c401
                refine lv_iload C.1 C.2.1 dL_sets_409 (lv_at hl 1 rfl) ?_
                refine lv_bipush (v := -10) C.1 C.2.1 dL_sets_411 rfl ?_
                refine lv_icmp_lt (tgt := 423) C.1 C.2.1 dL_sets_413 (by decide) (fun c413 => ?_) (fun c413 => ?_)
                · refine lv_bipush (v := -102) C.1 C.2.1 dL_sets_423 rfl ?_
                  refine lv_goto (tgt := 437) C.1 C.2.1 dL_sets_425 (by decide) ?_
                  refine lv_istore (lv' := [(11, .int (-102)), (10, .int v10), (9, .int (-11)), (8, .int (nI a8)), (0, .ref x), (1, .int 2), (2, .int y), (3, .ref (la 0)), (4, .ref (la 1)), (5, .ref (la 2)), (6, .ref (la 3)), (7, .ref (la 9))]) C.1 C.2.1 dL_sets_437 hl (by decide) rfl (fun ls hl => ?_)
                  refine lv_iload C.1 C.2.1 dL_sets_439 (lv_at hl 0 rfl) ?_
                  refine lv_bipush (v := -20) C.1 C.2.1 dL_sets_441 rfl ?_
                  refine lv_icmp_le (tgt := 468) C.1 C.2.1 dL_sets_443 (by decide) (fun c443 => ?_) (fun c443 => ?_)
                  · refine lv_aload_n C.1 C.2.1 dL_sets_468 rfl (lv_at hl 4 rfl) ?_
                    refine lv_iload C.1 C.2.1 dL_sets_469 (lv_at hl 3 rfl) ?_
                    refine lv_iload C.1 C.2.1 dL_sets_471 (lv_at hl 2 rfl) ?_
                    refine lv_iload C.1 C.2.1 dL_sets_473 (lv_at hl 1 rfl) ?_
                    refine wr_go1 (runT C hE hH hS (l_yarn hlx hI (nI a8) (-11) v10) mv_L_yarns wm_501 hl.1 dL_sets_475 rfl rfl ⟨rfl, rfl⟩ ⟨Nat.le_of_ble_eq_true rfl, Nat.le_of_ble_eq_true rfl⟩ (Nat.le_of_ble_eq_true rfl) ⟨Nat.le_of_ble_eq_true rfl, Nat.le_of_ble_eq_true rfl⟩) hS (fun u1 M2 H locs hM2 hH hS => ?_)
                    obtain ⟨hu, hM⟩ := lqB_g hM2 ((inx_n (a := a8) (n := 4) (by omega) (by omega)).mpr (by omega)) (fun z => z.1.1 (by decide))
                    rw [hu]
                    refine lv_iload C.1 C.2.1 dL_sets_478 (lv_at hl 0 rfl) ?_
                    refine lv_icmp_ne (tgt := 487) C.1 C.2.1 dL_sets_480 (by decide) (fun c480 => ?_) (fun c480 => ?_)
                    · exact absurd c480 (by decide)
                    · refine lv_iconst (v := 1) C.1 C.2.1 dL_sets_483 rfl ?_
                      refine lv_goto (tgt := 488) C.1 C.2.1 dL_sets_484 (by decide) ?_
                      exact wr_zret () C hr hlocks (rfl) hH hS rfl ((by rw [hM]; exact hLS)) (by decide) (by decide) dL_sets_488
                  · exact absurd c443 (by decide)
                · exact absurd c413 (by decide)
              · have n401 : ¬ a8 ≤ 3 := fun z => c401 ((nI_leI (a := a8) (b := 3) (by omega) (by omega)).mpr z)
                refine lv_bipush (v := -101) C.1 C.2.1 dL_sets_404 rfl ?_
                refine lv_goto (tgt := 437) C.1 C.2.1 dL_sets_406 (by decide) ?_
                refine lv_istore (lv' := [(11, .int (-101)), (10, .int v10), (9, .int (-11)), (8, .int (nI a8)), (0, .ref x), (1, .int 2), (2, .int y), (3, .ref (la 0)), (4, .ref (la 1)), (5, .ref (la 2)), (6, .ref (la 3)), (7, .ref (la 9))]) C.1 C.2.1 dL_sets_437 hl (by decide) rfl (fun ls hl => ?_)
                refine lv_iload C.1 C.2.1 dL_sets_439 (lv_at hl 0 rfl) ?_
                refine lv_bipush (v := -20) C.1 C.2.1 dL_sets_441 rfl ?_
                refine lv_icmp_le (tgt := 468) C.1 C.2.1 dL_sets_443 (by decide) (fun c443 => ?_) (fun c443 => ?_)
                · refine lv_aload_n C.1 C.2.1 dL_sets_468 rfl (lv_at hl 4 rfl) ?_
                  refine lv_iload C.1 C.2.1 dL_sets_469 (lv_at hl 3 rfl) ?_
                  refine lv_iload C.1 C.2.1 dL_sets_471 (lv_at hl 2 rfl) ?_
                  refine lv_iload C.1 C.2.1 dL_sets_473 (lv_at hl 1 rfl) ?_
                  refine wr_go1 (runT C hE hH hS (l_yarn hlx hI (nI a8) (-11) v10) mv_L_yarns wm_501 hl.1 dL_sets_475 rfl rfl ⟨rfl, rfl⟩ ⟨Nat.le_of_ble_eq_true rfl, Nat.le_of_ble_eq_true rfl⟩ (Nat.le_of_ble_eq_true rfl) ⟨Nat.le_of_ble_eq_true rfl, Nat.le_of_ble_eq_true rfl⟩) hS (fun u3 M4 H locs hM4 hH hS => ?_)
                  obtain ⟨hu, hM⟩ := lqB_f hM4 (fun z => by have z1 := (inx_n (a := a8) (n := 4) (by omega) (by omega)).mp z; omega)
                  rw [hu]
                  refine lv_iload C.1 C.2.1 dL_sets_478 (lv_at hl 0 rfl) ?_
                  refine lv_icmp_ne (tgt := 487) C.1 C.2.1 dL_sets_480 (by decide) (fun c480 => ?_) (fun c480 => ?_)
                  · exact absurd c480 (by decide)
                  · refine lv_iconst (v := 1) C.1 C.2.1 dL_sets_483 rfl ?_
                    refine lv_goto (tgt := 488) C.1 C.2.1 dL_sets_484 (by decide) ?_
                    exact wr_zret () C hr hlocks (rfl) hH hS rfl ((by rw [hM]; exact hLS)) (by decide) (by decide) dL_sets_488
                · exact absurd c443 (by decide)
            refine lv_iload_n C.1 C.2.1 dL_sets_369 rfl (lv_at hl 4 rfl) ?_
            refine lv_iconst (v := 5) C.1 C.2.1 dL_sets_370 rfl ?_
            refine lv_ishr C.1 C.2.1 dL_sets_371 ?_
            refine lv_bipush (v := 30) C.1 C.2.1 dL_sets_372 rfl ?_
            refine some_go (N := 30) (runS C hE hH hS (c_some (n := 30) (N := 30) rfl (by omega) (by omega) (y >>> (5 &&& 31))) mv_L_some wm_121 hl.1 dL_sets_374 rfl rfl ⟨rfl, rfl⟩ ⟨Nat.le_of_ble_eq_true rfl, Nat.le_of_ble_eq_true rfl⟩ (Nat.le_of_ble_eq_true rfl) ⟨Nat.le_of_ble_eq_true rfl, Nat.le_of_ble_eq_true rfl⟩) rfl (by omega) (by omega) (fun k374 hk374 => ?_)
            refine lv_if_ne (tgt := 385) C.1 C.2.1 dL_sets_377 (by decide) (fun c377 => ?_) (fun c377 => ?_)
            · have n377 : ¬ k374 = 0 := fun z => c377 (congrArg nI z)
              refine lv_iload_n C.1 C.2.1 dL_sets_385 rfl (lv_at hl 4 rfl) ?_
              refine lv_iconst (v := 5) C.1 C.2.1 dL_sets_386 rfl ?_
              refine lv_ishr C.1 C.2.1 dL_sets_387 ?_
              refine lv_bipush (v := 21) C.1 C.2.1 dL_sets_388 rfl ?_
              refine some_go (N := 21) (runS C hE hH hS (c_some (n := 21) (N := 21) rfl (by omega) (by omega) (y >>> (5 &&& 31))) mv_L_some wm_121 hl.1 dL_sets_390 rfl rfl ⟨rfl, rfl⟩ ⟨Nat.le_of_ble_eq_true rfl, Nat.le_of_ble_eq_true rfl⟩ (Nat.le_of_ble_eq_true rfl) ⟨Nat.le_of_ble_eq_true rfl, Nat.le_of_ble_eq_true rfl⟩) rfl (by omega) (by omega) (fun k390 hk390 => ?_)
              refine lv_bipush (v := 10) C.1 C.2.1 dL_sets_393 rfl ?_
              refine lv_isub C.1 C.2.1 dL_sets_395 ?_
              exact J396 ((nI k390) - 10) (rng_le (rng_s (by omega)) (by decide) (by decide)) ls (hl)
            · have n377 : k374 = 0 := nI_inj (by omega) (by omega) c377
              refine lv_bipush (v := 11) C.1 C.2.1 dL_sets_380 rfl ?_
              refine lv_goto (tgt := 396) C.1 C.2.1 dL_sets_382 (by decide) ?_
              exact J396 11 ⟨by decide, by decide⟩ ls (hl)
          have J367p : ∀ (v9 : Int32) (h9 : rng v9 (-10) 10) (ls : Array Slot), lv_has ls 12 [(8, .int (nI a8)), (0, .ref x), (1, .int 2), (2, .int y), (3, .ref (la 0)), (4, .ref (la 1)), (5, .ref (la 2)), (6, .ref (la 3)), (7, .ref (la 9))] → W p l e { frames := 9, cells := 6, slots := 230, locals := 152 } s m args below meth c s.heap [] 0 0 (MQ below (wrQ (S := Unit) g (fun u_ => (some (.int 1))) (fun u_ M_ => WS g M_ x la n)) args s 6 230 (gA g)) (F0 m 367 ls [.int v9]) := by
            intro v9 h9 ls hl
            refine lv_istore (lv' := [(9, .int v9), (8, .int (nI a8)), (0, .ref x), (1, .int 2), (2, .int y), (3, .ref (la 0)), (4, .ref (la 1)), (5, .ref (la 2)), (6, .ref (la 3)), (7, .ref (la 9))]) C.1 C.2.1 dL_sets_367 hl (by decide) rfl (fun ls hl => ?_)
            have J396 : ∀ (v10 : Int32) (h10 : rng v10 (-10) 11) (ls : Array Slot), lv_has ls 12 [(9, .int v9), (8, .int (nI a8)), (0, .ref x), (1, .int 2), (2, .int y), (3, .ref (la 0)), (4, .ref (la 1)), (5, .ref (la 2)), (6, .ref (la 3)), (7, .ref (la 9))] → W p l e { frames := 9, cells := 6, slots := 230, locals := 152 } s m args below meth c s.heap [] 0 0 (MQ below (wrQ (S := Unit) g (fun u_ => (some (.int 1))) (fun u_ M_ => WS g M_ x la n)) args s 6 230 (gA g)) (F0 m 396 ls [.int v10]) := by
              intro v10 h10 ls hl
              refine lv_istore (lv' := [(10, .int v10), (9, .int v9), (8, .int (nI a8)), (0, .ref x), (1, .int 2), (2, .int y), (3, .ref (la 0)), (4, .ref (la 1)), (5, .ref (la 2)), (6, .ref (la 3)), (7, .ref (la 9))]) C.1 C.2.1 dL_sets_396 hl (by decide) rfl (fun ls hl => ?_)
              refine lv_iload C.1 C.2.1 dL_sets_398 (lv_at hl 2 rfl) ?_
              refine lv_iconst (v := 3) C.1 C.2.1 dL_sets_400 rfl ?_
              refine lv_icmp_le (tgt := 409) C.1 C.2.1 dL_sets_401 (by decide) (fun c401 => ?_) (fun c401 => ?_)
              · have n401 : a8 ≤ 3 := (nI_leI (a := a8) (b := 3) (by omega) (by omega)).mp c401
                refine lv_iload C.1 C.2.1 dL_sets_409 (lv_at hl 1 rfl) ?_
                refine lv_bipush (v := -10) C.1 C.2.1 dL_sets_411 rfl ?_
                refine lv_icmp_lt (tgt := 423) C.1 C.2.1 dL_sets_413 (by decide) (fun c413 => ?_) (fun c413 => ?_)
                · exact absurd c413 (rng_nl h9)
                · refine lv_iload C.1 C.2.1 dL_sets_416 (lv_at hl 0 rfl) ?_
                  refine lv_bipush (v := 10) C.1 C.2.1 dL_sets_418 rfl ?_
                  refine lv_icmp_le (tgt := 428) C.1 C.2.1 dL_sets_420 (by decide) (fun c420 => ?_) (fun c420 => ?_)
                  · refine lv_aload C.1 C.2.1 dL_sets_428 (lv_at hl 8 rfl) ?_
                    refine lv_iconst (v := 3) C.1 C.2.1 dL_sets_430 rfl ?_
                    refine lv_iconst (v := 2) C.1 C.2.1 dL_sets_431 rfl ?_
                    refine lv_iload C.1 C.2.1 dL_sets_432 (lv_at hl 2 rfl) ?_
                    refine lv_imul C.1 C.2.1 dL_sets_434 ?_
                    rw [show ((2 : Int32) * (nI a8)) = nI (2 * a8) from nI_M 2 a8]
                    refine lv_iadd C.1 C.2.1 dL_sets_435 ?_
                    rw [show ((3 : Int32) + (nI (2 * a8))) = nI (3 + 2 * a8) from nI_add 3 (2 * a8)]
                    refine lald (K := 2) (N := 11) (E := 3 + 2 * a8) (f := (lf 2)) (v := ((lf 2) (3 + 2 * a8))) C hE hH hX (by decide) rfl rfl rfl (by omega) (rfl) dL_sets_436 ?_
                    refine lv_istore (lv' := [(11, .int ((lf 2) (3 + 2 * a8))), (10, .int v10), (9, .int v9), (8, .int (nI a8)), (0, .ref x), (1, .int 2), (2, .int y), (3, .ref (la 0)), (4, .ref (la 1)), (5, .ref (la 2)), (6, .ref (la 3)), (7, .ref (la 9))]) C.1 C.2.1 dL_sets_437 hl (by decide) rfl (fun ls hl => ?_)
                    refine lv_iload C.1 C.2.1 dL_sets_439 (lv_at hl 0 rfl) ?_
                    refine lv_bipush (v := -20) C.1 C.2.1 dL_sets_441 rfl ?_
                    refine lv_icmp_le (tgt := 468) C.1 C.2.1 dL_sets_443 (by decide) (fun c443 => ?_) (fun c443 => ?_)
                    · exact absurd c443 (rng_nle (by rw [(rY a8 (by omega)).1]; exact (iW.2.1.elim (fun f z => (z.2 a8 (by omega)).2))))
                    · refine lv_aload C.1 C.2.1 dL_sets_446 (lv_at hl 9 rfl) ?_
                      refine lv_iconst (v := 3) C.1 C.2.1 dL_sets_448 rfl ?_
                      refine lv_iconst (v := 2) C.1 C.2.1 dL_sets_449 rfl ?_
                      refine lv_iload C.1 C.2.1 dL_sets_450 (lv_at hl 3 rfl) ?_
                      refine lv_imul C.1 C.2.1 dL_sets_452 ?_
                      rw [show ((2 : Int32) * (nI a8)) = nI (2 * a8) from nI_M 2 a8]
                      refine lv_iadd C.1 C.2.1 dL_sets_453 ?_
                      rw [show ((3 : Int32) + (nI (2 * a8))) = nI (3 + 2 * a8) from nI_add 3 (2 * a8)]
                      refine lv_iload C.1 C.2.1 dL_sets_454 (lv_at hl 2 rfl) ?_
                      refine last (K := 2) (N := 11) (E := 3 + 2 * a8) (f := (lf 2)) C hE hH hS hX (by decide) rfl rfl rfl (by omega) dL_sets_456 (fun M5 H locs hX6 hH hS => ?_)
                      have hIM5 := WS_up hI hX6 hT (ed_no hE hH)
                      refine lv_aload C.1 C.2.1 dL_sets_457 (lv_at hl 9 rfl) ?_
                      refine lv_iconst (v := 4) C.1 C.2.1 dL_sets_459 rfl ?_
                      refine lv_iconst (v := 2) C.1 C.2.1 dL_sets_460 rfl ?_
                      refine lv_iload C.1 C.2.1 dL_sets_461 (lv_at hl 3 rfl) ?_
                      refine lv_imul C.1 C.2.1 dL_sets_463 ?_
                      rw [show ((2 : Int32) * (nI a8)) = nI (2 * a8) from nI_M 2 a8]
                      refine lv_iadd C.1 C.2.1 dL_sets_464 ?_
                      rw [show ((4 : Int32) + (nI (2 * a8))) = nI (4 + 2 * a8) from nI_add 4 (2 * a8)]
                      refine lv_iload C.1 C.2.1 dL_sets_465 (lv_at hl 1 rfl) ?_
                      refine last (K := 2) (N := 11) (E := 4 + 2 * a8) (f := (upd (lf 2) (3 + 2 * a8) v9)) C hE hH hS hX6 (by decide) rfl rfl rfl (by omega) dL_sets_467 (fun M7 H locs hX8 hH hS => ?_)
                      rw [ua_ua] at hX8
                      have hIM7 := WS_up hI hX8 hT (ed_no hE hH)
                      refine lv_aload_n C.1 C.2.1 dL_sets_468 rfl (lv_at hl 4 rfl) ?_
                      refine lv_iload C.1 C.2.1 dL_sets_469 (lv_at hl 3 rfl) ?_
                      refine lv_iload C.1 C.2.1 dL_sets_471 (lv_at hl 2 rfl) ?_
                      refine lv_iload C.1 C.2.1 dL_sets_473 (lv_at hl 1 rfl) ?_
                      refine wr_go1 (runT C hE hH hS (l_yarn hlx hIM7 (nI a8) v9 v10) mv_L_yarns wm_501 hl.1 dL_sets_475 rfl rfl ⟨rfl, rfl⟩ ⟨Nat.le_of_ble_eq_true rfl, Nat.le_of_ble_eq_true rfl⟩ (Nat.le_of_ble_eq_true rfl) ⟨Nat.le_of_ble_eq_true rfl, Nat.le_of_ble_eq_true rfl⟩) hS (fun u9 M10 H locs hM10 hH hS => ?_)
                      obtain ⟨hu, hx⟩ := lqB_t hM10 ((inx_n (a := a8) (n := 4) (by omega) (by omega)).mpr (by omega)) ⟨inr_g h9 (rng_le10 h9), inr_g h10 c420⟩
                      have hu : u9 = (lf 2) (3 + 2 * a8) := hu.trans ((by rw [nI_clamp (show a8 < 2 ^ 31 by omega)]; exact (rY a8 (by omega)).1.symm))
                      rw [hu]
                      rw [nI_clamp (show a8 < 2 ^ 31 by omega)] at hx
                      have hXr := LX_rf (LI_rx hx hX8.1 hT)
                      refine lv_iload C.1 C.2.1 dL_sets_478 (lv_at hl 0 rfl) ?_
                      refine lv_icmp_ne (tgt := 487) C.1 C.2.1 dL_sets_480 (by decide) (fun c480 => ?_) (fun c480 => ?_)
                      · exact absurd rfl c480
                      · refine lv_iconst (v := 1) C.1 C.2.1 dL_sets_483 rfl ?_
                        refine lv_goto (tgt := 488) C.1 C.2.1 dL_sets_484 (by decide) ?_
                        exact wr_zret () C hr hlocks (rfl) hH hS rfl (WS_mk hx hX8.1 hT ⟨hs0, hs5, hs9⟩ (LR_yarn hR (by omega)) (krN_cg hN (fun _ _ => rfl))) (by decide) (by decide) dL_sets_488
                  · refine lv_bipush (v := -102) C.1 C.2.1 dL_sets_423 rfl ?_
                    refine lv_goto (tgt := 437) C.1 C.2.1 dL_sets_425 (by decide) ?_
                    refine lv_istore (lv' := [(11, .int (-102)), (10, .int v10), (9, .int v9), (8, .int (nI a8)), (0, .ref x), (1, .int 2), (2, .int y), (3, .ref (la 0)), (4, .ref (la 1)), (5, .ref (la 2)), (6, .ref (la 3)), (7, .ref (la 9))]) C.1 C.2.1 dL_sets_437 hl (by decide) rfl (fun ls hl => ?_)
                    refine lv_iload C.1 C.2.1 dL_sets_439 (lv_at hl 0 rfl) ?_
                    refine lv_bipush (v := -20) C.1 C.2.1 dL_sets_441 rfl ?_
                    refine lv_icmp_le (tgt := 468) C.1 C.2.1 dL_sets_443 (by decide) (fun c443 => ?_) (fun c443 => ?_)
                    · refine lv_aload_n C.1 C.2.1 dL_sets_468 rfl (lv_at hl 4 rfl) ?_
                      refine lv_iload C.1 C.2.1 dL_sets_469 (lv_at hl 3 rfl) ?_
                      refine lv_iload C.1 C.2.1 dL_sets_471 (lv_at hl 2 rfl) ?_
                      refine lv_iload C.1 C.2.1 dL_sets_473 (lv_at hl 1 rfl) ?_
                      refine wr_go1 (runT C hE hH hS (l_yarn hlx hI (nI a8) v9 v10) mv_L_yarns wm_501 hl.1 dL_sets_475 rfl rfl ⟨rfl, rfl⟩ ⟨Nat.le_of_ble_eq_true rfl, Nat.le_of_ble_eq_true rfl⟩ (Nat.le_of_ble_eq_true rfl) ⟨Nat.le_of_ble_eq_true rfl, Nat.le_of_ble_eq_true rfl⟩) hS (fun u11 M12 H locs hM12 hH hS => ?_)
                      obtain ⟨hu, hM⟩ := lqB_g hM12 ((inx_n (a := a8) (n := 4) (by omega) (by omega)).mpr (by omega)) (fun z => c420 z.2.2)
                      rw [hu]
                      refine lv_iload C.1 C.2.1 dL_sets_478 (lv_at hl 0 rfl) ?_
                      refine lv_icmp_ne (tgt := 487) C.1 C.2.1 dL_sets_480 (by decide) (fun c480 => ?_) (fun c480 => ?_)
                      · exact absurd c480 (by decide)
                      · refine lv_iconst (v := 1) C.1 C.2.1 dL_sets_483 rfl ?_
                        refine lv_goto (tgt := 488) C.1 C.2.1 dL_sets_484 (by decide) ?_
                        exact wr_zret () C hr hlocks (rfl) hH hS rfl ((by rw [hM]; exact hLS)) (by decide) (by decide) dL_sets_488
                    · exact absurd c443 (by decide)
              · have n401 : ¬ a8 ≤ 3 := fun z => c401 ((nI_leI (a := a8) (b := 3) (by omega) (by omega)).mpr z)
                refine lv_bipush (v := -101) C.1 C.2.1 dL_sets_404 rfl ?_
                refine lv_goto (tgt := 437) C.1 C.2.1 dL_sets_406 (by decide) ?_
                refine lv_istore (lv' := [(11, .int (-101)), (10, .int v10), (9, .int v9), (8, .int (nI a8)), (0, .ref x), (1, .int 2), (2, .int y), (3, .ref (la 0)), (4, .ref (la 1)), (5, .ref (la 2)), (6, .ref (la 3)), (7, .ref (la 9))]) C.1 C.2.1 dL_sets_437 hl (by decide) rfl (fun ls hl => ?_)
                refine lv_iload C.1 C.2.1 dL_sets_439 (lv_at hl 0 rfl) ?_
                refine lv_bipush (v := -20) C.1 C.2.1 dL_sets_441 rfl ?_
                refine lv_icmp_le (tgt := 468) C.1 C.2.1 dL_sets_443 (by decide) (fun c443 => ?_) (fun c443 => ?_)
                · refine lv_aload_n C.1 C.2.1 dL_sets_468 rfl (lv_at hl 4 rfl) ?_
                  refine lv_iload C.1 C.2.1 dL_sets_469 (lv_at hl 3 rfl) ?_
                  refine lv_iload C.1 C.2.1 dL_sets_471 (lv_at hl 2 rfl) ?_
                  refine lv_iload C.1 C.2.1 dL_sets_473 (lv_at hl 1 rfl) ?_
                  refine wr_go1 (runT C hE hH hS (l_yarn hlx hI (nI a8) v9 v10) mv_L_yarns wm_501 hl.1 dL_sets_475 rfl rfl ⟨rfl, rfl⟩ ⟨Nat.le_of_ble_eq_true rfl, Nat.le_of_ble_eq_true rfl⟩ (Nat.le_of_ble_eq_true rfl) ⟨Nat.le_of_ble_eq_true rfl, Nat.le_of_ble_eq_true rfl⟩) hS (fun u13 M14 H locs hM14 hH hS => ?_)
                  obtain ⟨hu, hM⟩ := lqB_f hM14 (fun z => by have z1 := (inx_n (a := a8) (n := 4) (by omega) (by omega)).mp z; omega)
                  rw [hu]
                  refine lv_iload C.1 C.2.1 dL_sets_478 (lv_at hl 0 rfl) ?_
                  refine lv_icmp_ne (tgt := 487) C.1 C.2.1 dL_sets_480 (by decide) (fun c480 => ?_) (fun c480 => ?_)
                  · exact absurd c480 (by decide)
                  · refine lv_iconst (v := 1) C.1 C.2.1 dL_sets_483 rfl ?_
                    refine lv_goto (tgt := 488) C.1 C.2.1 dL_sets_484 (by decide) ?_
                    exact wr_zret () C hr hlocks (rfl) hH hS rfl ((by rw [hM]; exact hLS)) (by decide) (by decide) dL_sets_488
                · exact absurd c443 (by decide)
            refine lv_iload_n C.1 C.2.1 dL_sets_369 rfl (lv_at hl 4 rfl) ?_
            refine lv_iconst (v := 5) C.1 C.2.1 dL_sets_370 rfl ?_
            refine lv_ishr C.1 C.2.1 dL_sets_371 ?_
            refine lv_bipush (v := 30) C.1 C.2.1 dL_sets_372 rfl ?_
            refine some_go (N := 30) (runS C hE hH hS (c_some (n := 30) (N := 30) rfl (by omega) (by omega) (y >>> (5 &&& 31))) mv_L_some wm_121 hl.1 dL_sets_374 rfl rfl ⟨rfl, rfl⟩ ⟨Nat.le_of_ble_eq_true rfl, Nat.le_of_ble_eq_true rfl⟩ (Nat.le_of_ble_eq_true rfl) ⟨Nat.le_of_ble_eq_true rfl, Nat.le_of_ble_eq_true rfl⟩) rfl (by omega) (by omega) (fun k374 hk374 => ?_)
            refine lv_if_ne (tgt := 385) C.1 C.2.1 dL_sets_377 (by decide) (fun c377 => ?_) (fun c377 => ?_)
            · have n377 : ¬ k374 = 0 := fun z => c377 (congrArg nI z)
              refine lv_iload_n C.1 C.2.1 dL_sets_385 rfl (lv_at hl 4 rfl) ?_
              refine lv_iconst (v := 5) C.1 C.2.1 dL_sets_386 rfl ?_
              refine lv_ishr C.1 C.2.1 dL_sets_387 ?_
              refine lv_bipush (v := 21) C.1 C.2.1 dL_sets_388 rfl ?_
              refine some_go (N := 21) (runS C hE hH hS (c_some (n := 21) (N := 21) rfl (by omega) (by omega) (y >>> (5 &&& 31))) mv_L_some wm_121 hl.1 dL_sets_390 rfl rfl ⟨rfl, rfl⟩ ⟨Nat.le_of_ble_eq_true rfl, Nat.le_of_ble_eq_true rfl⟩ (Nat.le_of_ble_eq_true rfl) ⟨Nat.le_of_ble_eq_true rfl, Nat.le_of_ble_eq_true rfl⟩) rfl (by omega) (by omega) (fun k390 hk390 => ?_)
              refine lv_bipush (v := 10) C.1 C.2.1 dL_sets_393 rfl ?_
              refine lv_isub C.1 C.2.1 dL_sets_395 ?_
              exact J396 ((nI k390) - 10) (rng_le (rng_s (by omega)) (by decide) (by decide)) ls (hl)
            · have n377 : k374 = 0 := nI_inj (by omega) (by omega) c377
              refine lv_bipush (v := 11) C.1 C.2.1 dL_sets_380 rfl ?_
              refine lv_goto (tgt := 396) C.1 C.2.1 dL_sets_382 (by decide) ?_
              exact J396 11 ⟨by decide, by decide⟩ ls (hl)
          refine lv_iload_n C.1 C.2.1 dL_sets_340 rfl (lv_at hl 3 rfl) ?_
          refine lv_iconst (v := 3) C.1 C.2.1 dL_sets_341 rfl ?_
          refine lv_ishr C.1 C.2.1 dL_sets_342 ?_
          refine lv_bipush (v := 30) C.1 C.2.1 dL_sets_343 rfl ?_
          refine some_go (N := 30) (runS C hE hH hS (c_some (n := 30) (N := 30) rfl (by omega) (by omega) (y >>> (3 &&& 31))) mv_L_some wm_121 hl.1 dL_sets_345 rfl rfl ⟨rfl, rfl⟩ ⟨Nat.le_of_ble_eq_true rfl, Nat.le_of_ble_eq_true rfl⟩ (Nat.le_of_ble_eq_true rfl) ⟨Nat.le_of_ble_eq_true rfl, Nat.le_of_ble_eq_true rfl⟩) rfl (by omega) (by omega) (fun k345 hk345 => ?_)
          refine lv_if_ne (tgt := 356) C.1 C.2.1 dL_sets_348 (by decide) (fun c348 => ?_) (fun c348 => ?_)
          · have n348 : ¬ k345 = 0 := fun z => c348 (congrArg nI z)
            refine lv_iload_n C.1 C.2.1 dL_sets_356 rfl (lv_at hl 3 rfl) ?_
            refine lv_iconst (v := 3) C.1 C.2.1 dL_sets_357 rfl ?_
            refine lv_ishr C.1 C.2.1 dL_sets_358 ?_
            refine lv_bipush (v := 21) C.1 C.2.1 dL_sets_359 rfl ?_
            refine some_go (N := 21) (runS C hE hH hS (c_some (n := 21) (N := 21) rfl (by omega) (by omega) (y >>> (3 &&& 31))) mv_L_some wm_121 hl.1 dL_sets_361 rfl rfl ⟨rfl, rfl⟩ ⟨Nat.le_of_ble_eq_true rfl, Nat.le_of_ble_eq_true rfl⟩ (Nat.le_of_ble_eq_true rfl) ⟨Nat.le_of_ble_eq_true rfl, Nat.le_of_ble_eq_true rfl⟩) rfl (by omega) (by omega) (fun k361 hk361 => ?_)
            refine lv_bipush (v := 10) C.1 C.2.1 dL_sets_364 rfl ?_
            refine lv_isub C.1 C.2.1 dL_sets_366 ?_
            exact J367p ((nI k361) - 10) (rng_s (by omega)) ls (hl)
          · have n348 : k345 = 0 := nI_inj (by omega) (by omega) c348
            refine lv_bipush (v := -11) C.1 C.2.1 dL_sets_351 rfl ?_
            refine lv_goto (tgt := 367) C.1 C.2.1 dL_sets_353 (by decide) ?_
            exact J367m  ls (hl)
        refine lv_iload_n C.1 C.2.1 dL_sets_320 rfl (lv_at hl 2 rfl) ?_
        refine lv_bipush (v := 30) C.1 C.2.1 dL_sets_321 rfl ?_
        refine some_go (N := 30) (runS C hE hH hS (c_some (n := 30) (N := 30) rfl (by omega) (by omega) y) mv_L_some wm_121 hl.1 dL_sets_323 rfl rfl ⟨rfl, rfl⟩ ⟨Nat.le_of_ble_eq_true rfl, Nat.le_of_ble_eq_true rfl⟩ (Nat.le_of_ble_eq_true rfl) ⟨Nat.le_of_ble_eq_true rfl, Nat.le_of_ble_eq_true rfl⟩) rfl (by omega) (by omega) (fun k323 hk323 => ?_)
        refine lv_if_ne (tgt := 333) C.1 C.2.1 dL_sets_326 (by decide) (fun c326 => ?_) (fun c326 => ?_)
        · have n326 : ¬ k323 = 0 := fun z => c326 (congrArg nI z)
          refine lv_iload_n C.1 C.2.1 dL_sets_333 rfl (lv_at hl 2 rfl) ?_
          refine lv_iconst (v := 4) C.1 C.2.1 dL_sets_334 rfl ?_
          refine some_go (N := 4) (runS C hE hH hS (c_some (n := 4) (N := 4) rfl (by omega) (by omega) y) mv_L_some wm_121 hl.1 dL_sets_335 rfl rfl ⟨rfl, rfl⟩ ⟨Nat.le_of_ble_eq_true rfl, Nat.le_of_ble_eq_true rfl⟩ (Nat.le_of_ble_eq_true rfl) ⟨Nat.le_of_ble_eq_true rfl, Nat.le_of_ble_eq_true rfl⟩) rfl (by omega) (by omega) (fun k335 hk335 => ?_)
          exact J338 k335 (by omega) ls (hl)
        · have n326 : k323 = 0 := nI_inj (by omega) (by omega) c326
          refine lv_iconst (v := 4) C.1 C.2.1 dL_sets_329 rfl ?_
          refine lv_goto (tgt := 338) C.1 C.2.1 dL_sets_330 (by decide) ?_
          exact J338 4 (by omega) ls (hl)
    · exact absurd c199 (by decide)
  · exact absurd c1 (by decide)
set_option maxHeartbeats 4000000 in
set_option maxRecDepth 100000 in
theorem s_bath {l : Launch} {g : gG} {M : Mp} {la : Nat → Nat} {x n : Nat}  (hlx : l.stackTraces = false) (hLS : WS g M x la n) (y : Int32) : Met l yL_sets (WY yL_sets cL_sets 12 (some .boolean)) { frames := 10, cells := 6, slots := 230, locals := 239 } (Wc g M [.ref x, .int 3, .int y, .ref (la 0), .ref (la 1), .ref (la 2), .ref (la 3), .ref (la 9)]) (wrQ (S := Unit) g (fun u_ => (some (.int 1))) (fun u_ M_ => WS g M_ x la n)) 6 230 (gA g) := by
  refine ofM (by decide +kernel) (Nat.le_of_ble_eq_true rfl) (fun p e s m args below meth c ls C hr hlocks hin hE hH hl ea => ?_)
  have hl : lv_has ls 12 [(0, .ref x), (1, .int 3), (2, .int y), (3, .ref (la 0)), (4, .ref (la 1)), (5, .ref (la 2)), (6, .ref (la 3)), (7, .ref (la 9))] := hl
  have hS : va_S (gA g) s.heap s.heap [] := va_S.rf
  obtain ⟨tg, A, pr, br, np, hh, ne, nb, no, sc, ar, lf, hI, hL, hT, hR, hN⟩ := id hLS
  have hX := LX_rf hL
  obtain ⟨⟨hs0, hs5, hs9⟩, iX, iE, iB, iO, iW, iBl, iC⟩ := id hI
  obtain ⟨⟨hc0, hc1, hc2⟩, ⟨sne, snb, sno⟩, rE, ⟨rW, rY⟩, rB, rO, rM, rD, rZ⟩ := id hR
  refine lv_iload_n C.1 C.2.1 dL_sets_0 rfl (lv_at hl 1 rfl) ?_
  refine lv_if_ne (tgt := 197) C.1 C.2.1 dL_sets_1 (by decide) (fun c1 => ?_) (fun c1 => ?_)
  · refine lv_iload_n C.1 C.2.1 dL_sets_197 rfl (lv_at hl 1 rfl) ?_
    refine lv_iconst (v := 1) C.1 C.2.1 dL_sets_198 rfl ?_
    refine lv_icmp_ne (tgt := 315) C.1 C.2.1 dL_sets_199 (by decide) (fun c199 => ?_) (fun c199 => ?_)
    · refine lv_iload_n C.1 C.2.1 dL_sets_315 rfl (lv_at hl 1 rfl) ?_
      refine lv_iconst (v := 2) C.1 C.2.1 dL_sets_316 rfl ?_
      refine lv_icmp_ne (tgt := 489) C.1 C.2.1 dL_sets_317 (by decide) (fun c317 => ?_) (fun c317 => ?_)
      · refine lv_iload_n C.1 C.2.1 dL_sets_489 rfl (lv_at hl 1 rfl) ?_
        refine lv_iconst (v := 3) C.1 C.2.1 dL_sets_490 rfl ?_
        refine lv_icmp_ne (tgt := 640) C.1 C.2.1 dL_sets_491 (by decide) (fun c491 => ?_) (fun c491 => ?_)
        · exact absurd c491 (by decide)
        · have J512m : ∀ (ls : Array Slot), lv_has ls 12 [(0, .ref x), (1, .int 3), (2, .int y), (3, .ref (la 0)), (4, .ref (la 1)), (5, .ref (la 2)), (6, .ref (la 3)), (7, .ref (la 9))] → W p l e { frames := 10, cells := 6, slots := 230, locals := 239 } s m args below meth c s.heap [] 0 0 (MQ below (wrQ (S := Unit) g (fun u_ => (some (.int 1))) (fun u_ M_ => WS g M_ x la n)) args s 6 230 (gA g)) (F0 m 512 ls [.int (-1)]) := by
            intro   ls hl
            refine lv_istore (lv' := [(8, .int (-1)), (0, .ref x), (1, .int 3), (2, .int y), (3, .ref (la 0)), (4, .ref (la 1)), (5, .ref (la 2)), (6, .ref (la 3)), (7, .ref (la 9))]) C.1 C.2.1 dL_sets_512 hl (by decide) rfl (fun ls hl => ?_)
            refine lv_iload_n C.1 C.2.1 dL_sets_514 rfl (lv_at hl 3 rfl) ?_
            refine lv_iconst (v := 3) C.1 C.2.1 dL_sets_515 rfl ?_
            refine lv_ishr C.1 C.2.1 dL_sets_516 ?_
            refine lv_aload_n C.1 C.2.1 dL_sets_517 rfl (lv_at hl 4 rfl) ?_
            refine lv_iconst (v := 0) C.1 C.2.1 dL_sets_518 rfl ?_
            refine lald (K := 0) (N := 3) (E := 0) (f := (lf 0)) (v := (nI ne)) C hE hH hX (by decide) rfl rfl rfl (by omega) (hc0) dL_sets_519 ?_
            refine lv_iconst (v := 1) C.1 C.2.1 dL_sets_520 rfl ?_
            refine lv_iadd C.1 C.2.1 dL_sets_521 ?_
            rw [show ((nI ne) + 1 : Int32) = nI (ne + 1) from nI_add ne 1]
            refine some_go (N := ne + 1) (runS C hE hH hS (c_some (n := nI (ne + 1)) (N := ne + 1) rfl (by omega) (by omega) (y >>> (3 &&& 31))) mv_L_some wm_121 hl.1 dL_sets_522 rfl rfl ⟨rfl, rfl⟩ ⟨Nat.le_of_ble_eq_true rfl, Nat.le_of_ble_eq_true rfl⟩ (Nat.le_of_ble_eq_true rfl) ⟨Nat.le_of_ble_eq_true rfl, Nat.le_of_ble_eq_true rfl⟩) rfl (by omega) (by omega) (fun k522 hk522 => ?_)
            refine lv_istore (lv' := [(9, .int (nI k522)), (8, .int (-1)), (0, .ref x), (1, .int 3), (2, .int y), (3, .ref (la 0)), (4, .ref (la 1)), (5, .ref (la 2)), (6, .ref (la 3)), (7, .ref (la 9))]) C.1 C.2.1 dL_sets_525 hl (by decide) rfl (fun ls hl => ?_)
            have J545f : ∀ (ls : Array Slot), lv_has ls 12 [(9, .int (nI k522)), (8, .int (-1)), (0, .ref x), (1, .int 3), (2, .int y), (3, .ref (la 0)), (4, .ref (la 1)), (5, .ref (la 2)), (6, .ref (la 3)), (7, .ref (la 9))] → W p l e { frames := 10, cells := 6, slots := 230, locals := 239 } s m args below meth c s.heap [] 0 0 (MQ below (wrQ (S := Unit) g (fun u_ => (some (.int 1))) (fun u_ M_ => WS g M_ x la n)) args s 6 230 (gA g)) (F0 m 545 ls [.int 0]) := by
              intro   ls hl
              refine lv_istore (lv' := [(10, .int 0), (9, .int (nI k522)), (8, .int (-1)), (0, .ref x), (1, .int 3), (2, .int y), (3, .ref (la 0)), (4, .ref (la 1)), (5, .ref (la 2)), (6, .ref (la 3)), (7, .ref (la 9))]) C.1 C.2.1 dL_sets_545 hl (by decide) rfl (fun ls hl => ?_)
              refine lv_iload C.1 C.2.1 dL_sets_547 (lv_at hl 0 rfl) ?_
              refine lv_if_eq (tgt := 561) C.1 C.2.1 dL_sets_549 (by decide) (fun c549 => ?_) (fun c549 => ?_)
              · refine lv_iload C.1 C.2.1 dL_sets_561 (lv_at hl 0 rfl) ?_
                refine lv_if_eq (tgt := 607) C.1 C.2.1 dL_sets_563 (by decide) (fun c563 => ?_) (fun c563 => ?_)
                · refine lv_aload_n C.1 C.2.1 dL_sets_607 rfl (lv_at hl 3 rfl) ?_
                  refine lv_iconst (v := 1) C.1 C.2.1 dL_sets_608 rfl ?_
                  refine lv_iload C.1 C.2.1 dL_sets_609 (lv_at hl 2 rfl) ?_
                  refine lv_iload C.1 C.2.1 dL_sets_611 (lv_at hl 1 rfl) ?_
                  refine wr_go1 (runT C hE hH hS (l_bath hlx hI (-1) (nI k522)) mv_L_two wm_313 hl.1 dL_sets_613 rfl rfl ⟨rfl, rfl⟩ ⟨Nat.le_of_ble_eq_true rfl, Nat.le_of_ble_eq_true rfl⟩ (Nat.le_of_ble_eq_true rfl) ⟨Nat.le_of_ble_eq_true rfl, Nat.le_of_ble_eq_true rfl⟩) hS (fun u1 M2 H locs hM2 hH hS => ?_)
                  obtain ⟨hu, hM⟩ := lqB_f hM2 (fun z => z.1.1 (by decide))
                  rw [hu]
                  refine lv_iload C.1 C.2.1 dL_sets_616 (lv_at hl 0 rfl) ?_
                  refine lv_if_eq (tgt := 629) C.1 C.2.1 dL_sets_618 (by decide) (fun c618 => ?_) (fun c618 => ?_)
                  · refine lv_bipush (v := -101) C.1 C.2.1 dL_sets_629 rfl ?_
                    refine lv_icmp_ne (tgt := 638) C.1 C.2.1 dL_sets_631 (by decide) (fun c631 => ?_) (fun c631 => ?_)
                    · exact absurd c631 (by decide)
                    · refine lv_iconst (v := 1) C.1 C.2.1 dL_sets_634 rfl ?_
                      refine lv_goto (tgt := 639) C.1 C.2.1 dL_sets_635 (by decide) ?_
                      exact wr_zret () C hr hlocks (rfl) hH hS rfl ((by rw [hM]; exact hLS)) (by decide) (by decide) dL_sets_639
                  · exact absurd c618 (by decide)
                · exact absurd c563 (by decide)
              · exact absurd c549 (by decide)
            refine lv_iload C.1 C.2.1 dL_sets_527 (lv_at hl 1 rfl) ?_
            refine lv_if_lt (tgt := 544) C.1 C.2.1 dL_sets_529 (by decide) (fun c529 => ?_) (fun c529 => ?_)
            · refine lv_iconst (v := 0) C.1 C.2.1 dL_sets_544 rfl ?_
              exact J545f  ls (hl)
            · exact absurd c529 (by decide)
          have J512p : ∀ (a8 : Nat) (h8 : a8 < 3) (ls : Array Slot), lv_has ls 12 [(0, .ref x), (1, .int 3), (2, .int y), (3, .ref (la 0)), (4, .ref (la 1)), (5, .ref (la 2)), (6, .ref (la 3)), (7, .ref (la 9))] → W p l e { frames := 10, cells := 6, slots := 230, locals := 239 } s m args below meth c s.heap [] 0 0 (MQ below (wrQ (S := Unit) g (fun u_ => (some (.int 1))) (fun u_ M_ => WS g M_ x la n)) args s 6 230 (gA g)) (F0 m 512 ls [.int (nI a8)]) := by
            intro a8 h8 ls hl
            refine lv_istore (lv' := [(8, .int (nI a8)), (0, .ref x), (1, .int 3), (2, .int y), (3, .ref (la 0)), (4, .ref (la 1)), (5, .ref (la 2)), (6, .ref (la 3)), (7, .ref (la 9))]) C.1 C.2.1 dL_sets_512 hl (by decide) rfl (fun ls hl => ?_)
            refine lv_iload_n C.1 C.2.1 dL_sets_514 rfl (lv_at hl 3 rfl) ?_
            refine lv_iconst (v := 3) C.1 C.2.1 dL_sets_515 rfl ?_
            refine lv_ishr C.1 C.2.1 dL_sets_516 ?_
            refine lv_aload_n C.1 C.2.1 dL_sets_517 rfl (lv_at hl 4 rfl) ?_
            refine lv_iconst (v := 0) C.1 C.2.1 dL_sets_518 rfl ?_
            refine lald (K := 0) (N := 3) (E := 0) (f := (lf 0)) (v := (nI ne)) C hE hH hX (by decide) rfl rfl rfl (by omega) (hc0) dL_sets_519 ?_
            refine lv_iconst (v := 1) C.1 C.2.1 dL_sets_520 rfl ?_
            refine lv_iadd C.1 C.2.1 dL_sets_521 ?_
            rw [show ((nI ne) + 1 : Int32) = nI (ne + 1) from nI_add ne 1]
            refine some_go (N := ne + 1) (runS C hE hH hS (c_some (n := nI (ne + 1)) (N := ne + 1) rfl (by omega) (by omega) (y >>> (3 &&& 31))) mv_L_some wm_121 hl.1 dL_sets_522 rfl rfl ⟨rfl, rfl⟩ ⟨Nat.le_of_ble_eq_true rfl, Nat.le_of_ble_eq_true rfl⟩ (Nat.le_of_ble_eq_true rfl) ⟨Nat.le_of_ble_eq_true rfl, Nat.le_of_ble_eq_true rfl⟩) rfl (by omega) (by omega) (fun k522 hk522 => ?_)
            refine lv_istore (lv' := [(9, .int (nI k522)), (8, .int (nI a8)), (0, .ref x), (1, .int 3), (2, .int y), (3, .ref (la 0)), (4, .ref (la 1)), (5, .ref (la 2)), (6, .ref (la 3)), (7, .ref (la 9))]) C.1 C.2.1 dL_sets_525 hl (by decide) rfl (fun ls hl => ?_)
            have J545t : ∀ (hf : k522 < ne) (ls : Array Slot), lv_has ls 12 [(9, .int (nI k522)), (8, .int (nI a8)), (0, .ref x), (1, .int 3), (2, .int y), (3, .ref (la 0)), (4, .ref (la 1)), (5, .ref (la 2)), (6, .ref (la 3)), (7, .ref (la 9))] → W p l e { frames := 10, cells := 6, slots := 230, locals := 239 } s m args below meth c s.heap [] 0 0 (MQ below (wrQ (S := Unit) g (fun u_ => (some (.int 1))) (fun u_ M_ => WS g M_ x la n)) args s 6 230 (gA g)) (F0 m 545 ls [.int 1]) := by
              intro  hf ls hl
              refine lv_istore (lv' := [(10, .int 1), (9, .int (nI k522)), (8, .int (nI a8)), (0, .ref x), (1, .int 3), (2, .int y), (3, .ref (la 0)), (4, .ref (la 1)), (5, .ref (la 2)), (6, .ref (la 3)), (7, .ref (la 9))]) C.1 C.2.1 dL_sets_545 hl (by decide) rfl (fun ls hl => ?_)
              refine lv_iload C.1 C.2.1 dL_sets_547 (lv_at hl 0 rfl) ?_
              refine lv_if_eq (tgt := 561) C.1 C.2.1 dL_sets_549 (by decide) (fun c549 => ?_) (fun c549 => ?_)
              · exact absurd c549 (by decide)
              · refine lv_aload_n C.1 C.2.1 dL_sets_552 rfl (lv_at hl 6 rfl) ?_
                refine lv_iconst (v := 1) C.1 C.2.1 dL_sets_553 rfl ?_
                refine lald (K := 0) (N := 3) (E := 1) (f := (lf 0)) (v := (nI nb)) C hE hH hX (by decide) rfl rfl rfl (by omega) (hc1) dL_sets_554 ?_
                refine lv_iconst (v := 5) C.1 C.2.1 dL_sets_555 rfl ?_
                refine lv_icmp_ne (tgt := 561) C.1 C.2.1 dL_sets_556 (by decide) (fun c556 => ?_) (fun c556 => ?_)
                · have n556 : ¬ nb = 5 := fun z => c556 (congrArg nI z)
                  refine lv_iload C.1 C.2.1 dL_sets_561 (lv_at hl 0 rfl) ?_
                  refine lv_if_eq (tgt := 607) C.1 C.2.1 dL_sets_563 (by decide) (fun c563 => ?_) (fun c563 => ?_)
                  · exact absurd c563 (by decide)
                  · refine lv_aload C.1 C.2.1 dL_sets_566 (lv_at hl 9 rfl) ?_
                    refine lv_iconst (v := 3) C.1 C.2.1 dL_sets_568 rfl ?_
                    refine lv_aload_n C.1 C.2.1 dL_sets_569 rfl (lv_at hl 6 rfl) ?_
                    refine lv_iconst (v := 1) C.1 C.2.1 dL_sets_570 rfl ?_
                    refine lald (K := 0) (N := 3) (E := 1) (f := (lf 0)) (v := (nI nb)) C hE hH hX (by decide) rfl rfl rfl (by omega) (hc1) dL_sets_571 ?_
                    refine lv_imul C.1 C.2.1 dL_sets_572 ?_
                    rw [show ((3 : Int32) * (nI nb)) = nI (3 * nb) from nI_M 3 nb]
                    refine lv_iload C.1 C.2.1 dL_sets_573 (lv_at hl 2 rfl) ?_
                    refine last (K := 3) (N := 15) (E := 3 * nb) (f := (lf 3)) C hE hH hS hX (by decide) rfl rfl rfl (by omega) dL_sets_575 (fun M3 H locs hX4 hH hS => ?_)
                    have hIM3 := WS_up hI hX4 hT (ed_no hE hH)
                    refine lv_aload C.1 C.2.1 dL_sets_576 (lv_at hl 9 rfl) ?_
                    refine lv_iconst (v := 3) C.1 C.2.1 dL_sets_578 rfl ?_
                    refine lv_aload_n C.1 C.2.1 dL_sets_579 rfl (lv_at hl 6 rfl) ?_
                    refine lv_iconst (v := 1) C.1 C.2.1 dL_sets_580 rfl ?_
                    refine lald (K := 0) (N := 3) (E := 1) (f := (lf 0)) (v := (nI nb)) C hE hH hX4 (by decide) rfl rfl rfl (by omega) (hc1) dL_sets_581 ?_
                    refine lv_imul C.1 C.2.1 dL_sets_582 ?_
                    rw [show ((3 : Int32) * (nI nb)) = nI (3 * nb) from nI_M 3 nb]
                    refine lv_iconst (v := 1) C.1 C.2.1 dL_sets_583 rfl ?_
                    refine lv_iadd C.1 C.2.1 dL_sets_584 ?_
                    rw [show ((nI (3 * nb)) + 1 : Int32) = nI (3 * nb + 1) from nI_add (3 * nb) 1]
                    refine lv_iload C.1 C.2.1 dL_sets_585 (lv_at hl 1 rfl) ?_
                    refine last (K := 3) (N := 15) (E := 3 * nb + 1) (f := (upd (lf 3) (3 * nb) (nI a8))) C hE hH hS hX4 (by decide) rfl rfl rfl (by omega) dL_sets_587 (fun M5 H locs hX6 hH hS => ?_)
                    rw [ua_ua] at hX6
                    have hIM5 := WS_up hI hX6 hT (ed_no hE hH)
                    refine lv_aload C.1 C.2.1 dL_sets_588 (lv_at hl 9 rfl) ?_
                    refine lv_iconst (v := 3) C.1 C.2.1 dL_sets_590 rfl ?_
                    refine lv_aload_n C.1 C.2.1 dL_sets_591 rfl (lv_at hl 6 rfl) ?_
                    refine lv_iconst (v := 1) C.1 C.2.1 dL_sets_592 rfl ?_
                    refine lald (K := 0) (N := 3) (E := 1) (f := (lf 0)) (v := (nI nb)) C hE hH hX6 (by decide) rfl rfl rfl (by omega) (hc1) dL_sets_593 ?_
                    refine lv_imul C.1 C.2.1 dL_sets_594 ?_
                    rw [show ((3 : Int32) * (nI nb)) = nI (3 * nb) from nI_M 3 nb]
                    refine lv_iconst (v := 2) C.1 C.2.1 dL_sets_595 rfl ?_
                    refine lv_iadd C.1 C.2.1 dL_sets_596 ?_
                    rw [show ((nI (3 * nb)) + 2 : Int32) = nI (3 * nb + 2) from nI_add (3 * nb) 2]
                    refine lv_bipush (v := 100) C.1 C.2.1 dL_sets_597 rfl ?_
                    refine last (K := 3) (N := 15) (E := 3 * nb + 2) (f := (upd (upd (lf 3) (3 * nb) (nI a8)) (3 * nb + 1) (nI k522))) C hE hH hS hX6 (by decide) rfl rfl rfl (by omega) dL_sets_599 (fun M7 H locs hX8 hH hS => ?_)
                    rw [ua_ua] at hX8
                    have hIM7 := WS_up hI hX8 hT (ed_no hE hH)
                    refine lv_aload_n C.1 C.2.1 dL_sets_600 rfl (lv_at hl 6 rfl) ?_
                    refine lv_iconst (v := 1) C.1 C.2.1 dL_sets_601 rfl ?_
                    refine lv_dup2_11 C.1 C.2.1 dL_sets_602 rfl rfl ?_
                    refine lald (K := 0) (N := 3) (E := 1) (f := (lf 0)) (v := (nI nb)) C hE hH hX8 (by decide) rfl rfl rfl (by omega) (hc1) dL_sets_603 ?_
                    refine lv_iconst (v := 1) C.1 C.2.1 dL_sets_604 rfl ?_
                    refine lv_iadd C.1 C.2.1 dL_sets_605 ?_
                    rw [show ((nI nb) + 1 : Int32) = nI (nb + 1) from nI_add nb 1]
                    refine last (K := 0) (N := 3) (E := 1) (f := (lf 0)) C hE hH hS hX8 (by decide) rfl rfl rfl (by omega) dL_sets_606 (fun M9 H locs hX10 hH hS => ?_)
                    have hIM9 := WS_up hI hX10 hT (ed_no hE hH)
                    refine lv_aload_n C.1 C.2.1 dL_sets_607 rfl (lv_at hl 3 rfl) ?_
                    refine lv_iconst (v := 1) C.1 C.2.1 dL_sets_608 rfl ?_
                    refine lv_iload C.1 C.2.1 dL_sets_609 (lv_at hl 2 rfl) ?_
                    refine lv_iload C.1 C.2.1 dL_sets_611 (lv_at hl 1 rfl) ?_
                    refine wr_go1 (runT C hE hH hS (l_bath hlx hIM9 (nI a8) (nI k522)) mv_L_two wm_313 hl.1 dL_sets_613 rfl rfl ⟨rfl, rfl⟩ ⟨Nat.le_of_ble_eq_true rfl, Nat.le_of_ble_eq_true rfl⟩ (Nat.le_of_ble_eq_true rfl) ⟨Nat.le_of_ble_eq_true rfl, Nat.le_of_ble_eq_true rfl⟩) hS (fun u11 M12 H locs hM12 hH hS => ?_)
                    obtain ⟨hu, hx⟩ := lqB_t hM12 ⟨(inx_n (a := a8) (n := 3) (by omega) (by omega)).mpr (by omega), (inx_n (a := k522) (n := ne) (by omega) (by omega)).mpr (by omega)⟩ (by rw [hs5]; exact (nI_ltI (a := nb) (b := 10) (by omega) (by omega)).mpr (by omega))
                    have hu : u11 = nI nb := hu.trans (hs5)
                    rw [hu]
                    rw [hs5, nI_clamp (show nb < 2 ^ 31 by omega)] at hx
                    have hXr := LX_rf (LI_rx hx hX10.1 hT)
                    refine lv_iload C.1 C.2.1 dL_sets_616 (lv_at hl 0 rfl) ?_
                    refine lv_if_eq (tgt := 629) C.1 C.2.1 dL_sets_618 (by decide) (fun c618 => ?_) (fun c618 => ?_)
                    · exact absurd c618 (by decide)
                    · refine lv_aload_n C.1 C.2.1 dL_sets_621 rfl (lv_at hl 6 rfl) ?_
                      refine lv_iconst (v := 1) C.1 C.2.1 dL_sets_622 rfl ?_
                      refine lald (K := 0) (N := 3) (E := 1) (f := (upd (lf 0) 1 (nI (nb + 1)))) (v := (nI (nb + 1))) C hE hH hXr (by decide) rfl rfl rfl (by omega) (upd_s) dL_sets_623 ?_
                      refine lv_iconst (v := 1) C.1 C.2.1 dL_sets_624 rfl ?_
                      refine lv_isub C.1 C.2.1 dL_sets_625 ?_
                      rw [show (nI (nb + 1) - 1 : Int32) = nI nb from nI_S (Nat.le_add_left 1 nb)]
                      refine lv_goto (tgt := 631) C.1 C.2.1 dL_sets_626 (by decide) ?_
                      refine lv_icmp_ne (tgt := 638) C.1 C.2.1 dL_sets_631 (by decide) (fun c631 => ?_) (fun c631 => ?_)
                      · exact absurd rfl c631
                      · refine lv_iconst (v := 1) C.1 C.2.1 dL_sets_634 rfl ?_
                        refine lv_goto (tgt := 639) C.1 C.2.1 dL_sets_635 (by decide) ?_
                        exact wr_zret () C hr hlocks (rfl) hH hS rfl (WS_mk hx hX10.1 hT ⟨(by unfold us; rw [upd_n (by decide)]; exact hs0), (by unfold us; rw [upd_s, nI_1]), (by unfold us; rw [upd_n (by decide)]; exact hs9)⟩ (LR_bath hR (by omega)) (krN_cg hN (fun _ _ => rfl))) (by decide) (by decide) dL_sets_639
                · have n556 : nb = 5 := nI_inj (by omega) (by omega) c556
                  refine lv_iconst (v := 1) C.1 C.2.1 dL_sets_559 rfl ?_
                  exact wr_zret () C hr hlocks (rfl) hH hS rfl (hLS) (by decide) (by decide) dL_sets_560
            have J545f : ∀ (hf : ¬ k522 < ne) (ls : Array Slot), lv_has ls 12 [(9, .int (nI k522)), (8, .int (nI a8)), (0, .ref x), (1, .int 3), (2, .int y), (3, .ref (la 0)), (4, .ref (la 1)), (5, .ref (la 2)), (6, .ref (la 3)), (7, .ref (la 9))] → W p l e { frames := 10, cells := 6, slots := 230, locals := 239 } s m args below meth c s.heap [] 0 0 (MQ below (wrQ (S := Unit) g (fun u_ => (some (.int 1))) (fun u_ M_ => WS g M_ x la n)) args s 6 230 (gA g)) (F0 m 545 ls [.int 0]) := by
              intro  hf ls hl
              refine lv_istore (lv' := [(10, .int 0), (9, .int (nI k522)), (8, .int (nI a8)), (0, .ref x), (1, .int 3), (2, .int y), (3, .ref (la 0)), (4, .ref (la 1)), (5, .ref (la 2)), (6, .ref (la 3)), (7, .ref (la 9))]) C.1 C.2.1 dL_sets_545 hl (by decide) rfl (fun ls hl => ?_)
              refine lv_iload C.1 C.2.1 dL_sets_547 (lv_at hl 0 rfl) ?_
              refine lv_if_eq (tgt := 561) C.1 C.2.1 dL_sets_549 (by decide) (fun c549 => ?_) (fun c549 => ?_)
              · refine lv_iload C.1 C.2.1 dL_sets_561 (lv_at hl 0 rfl) ?_
                refine lv_if_eq (tgt := 607) C.1 C.2.1 dL_sets_563 (by decide) (fun c563 => ?_) (fun c563 => ?_)
                · refine lv_aload_n C.1 C.2.1 dL_sets_607 rfl (lv_at hl 3 rfl) ?_
                  refine lv_iconst (v := 1) C.1 C.2.1 dL_sets_608 rfl ?_
                  refine lv_iload C.1 C.2.1 dL_sets_609 (lv_at hl 2 rfl) ?_
                  refine lv_iload C.1 C.2.1 dL_sets_611 (lv_at hl 1 rfl) ?_
                  refine wr_go1 (runT C hE hH hS (l_bath hlx hI (nI a8) (nI k522)) mv_L_two wm_313 hl.1 dL_sets_613 rfl rfl ⟨rfl, rfl⟩ ⟨Nat.le_of_ble_eq_true rfl, Nat.le_of_ble_eq_true rfl⟩ (Nat.le_of_ble_eq_true rfl) ⟨Nat.le_of_ble_eq_true rfl, Nat.le_of_ble_eq_true rfl⟩) hS (fun u13 M14 H locs hM14 hH hS => ?_)
                  obtain ⟨hu, hM⟩ := lqB_f hM14 (fun z => hf (by have z1 := (inx_n (a := k522) (n := ne) (by omega) (by omega)).mp z.2; omega))
                  rw [hu]
                  refine lv_iload C.1 C.2.1 dL_sets_616 (lv_at hl 0 rfl) ?_
                  refine lv_if_eq (tgt := 629) C.1 C.2.1 dL_sets_618 (by decide) (fun c618 => ?_) (fun c618 => ?_)
                  · refine lv_bipush (v := -101) C.1 C.2.1 dL_sets_629 rfl ?_
                    refine lv_icmp_ne (tgt := 638) C.1 C.2.1 dL_sets_631 (by decide) (fun c631 => ?_) (fun c631 => ?_)
                    · exact absurd c631 (by decide)
                    · refine lv_iconst (v := 1) C.1 C.2.1 dL_sets_634 rfl ?_
                      refine lv_goto (tgt := 639) C.1 C.2.1 dL_sets_635 (by decide) ?_
                      exact wr_zret () C hr hlocks (rfl) hH hS rfl ((by rw [hM]; exact hLS)) (by decide) (by decide) dL_sets_639
                  · exact absurd c618 (by decide)
                · exact absurd c563 (by decide)
              · exact absurd c549 (by decide)
            refine lv_iload C.1 C.2.1 dL_sets_527 (lv_at hl 1 rfl) ?_
            refine lv_if_lt (tgt := 544) C.1 C.2.1 dL_sets_529 (by decide) (fun c529 => ?_) (fun c529 => ?_)
            · exact absurd (n_ge (by omega) (by decide)) (n_nlt c529)
            · refine lv_iload C.1 C.2.1 dL_sets_532 (lv_at hl 0 rfl) ?_
              refine lv_aload_n C.1 C.2.1 dL_sets_534 rfl (lv_at hl 5 rfl) ?_
              refine lv_iconst (v := 0) C.1 C.2.1 dL_sets_535 rfl ?_
              refine lald (K := 0) (N := 3) (E := 0) (f := (lf 0)) (v := (nI ne)) C hE hH hX (by decide) rfl rfl rfl (by omega) (hc0) dL_sets_536 ?_
              refine lv_icmp_ge (tgt := 544) C.1 C.2.1 dL_sets_537 (by decide) (fun c537 => ?_) (fun c537 => ?_)
              · have n537 : ne ≤ k522 := (nI_leI (a := ne) (b := k522) (by omega) (by omega)).mp c537
                refine lv_iconst (v := 0) C.1 C.2.1 dL_sets_544 rfl ?_
                exact J545f (by omega) ls (hl)
              · have n537 : ¬ ne ≤ k522 := fun z => c537 ((nI_leI (a := ne) (b := k522) (by omega) (by omega)).mpr z)
                refine lv_iconst (v := 1) C.1 C.2.1 dL_sets_540 rfl ?_
                refine lv_goto (tgt := 545) C.1 C.2.1 dL_sets_541 (by decide) ?_
                exact J545t (by omega) ls (hl)
          refine lv_iload_n C.1 C.2.1 dL_sets_494 rfl (lv_at hl 2 rfl) ?_
          refine lv_bipush (v := 30) C.1 C.2.1 dL_sets_495 rfl ?_
          refine some_go (N := 30) (runS C hE hH hS (c_some (n := 30) (N := 30) rfl (by omega) (by omega) y) mv_L_some wm_121 hl.1 dL_sets_497 rfl rfl ⟨rfl, rfl⟩ ⟨Nat.le_of_ble_eq_true rfl, Nat.le_of_ble_eq_true rfl⟩ (Nat.le_of_ble_eq_true rfl) ⟨Nat.le_of_ble_eq_true rfl, Nat.le_of_ble_eq_true rfl⟩) rfl (by omega) (by omega) (fun k497 hk497 => ?_)
          refine lv_if_ne (tgt := 507) C.1 C.2.1 dL_sets_500 (by decide) (fun c500 => ?_) (fun c500 => ?_)
          · have n500 : ¬ k497 = 0 := fun z => c500 (congrArg nI z)
            refine lv_iload_n C.1 C.2.1 dL_sets_507 rfl (lv_at hl 2 rfl) ?_
            refine lv_iconst (v := 3) C.1 C.2.1 dL_sets_508 rfl ?_
            refine some_go (N := 3) (runS C hE hH hS (c_some (n := 3) (N := 3) rfl (by omega) (by omega) y) mv_L_some wm_121 hl.1 dL_sets_509 rfl rfl ⟨rfl, rfl⟩ ⟨Nat.le_of_ble_eq_true rfl, Nat.le_of_ble_eq_true rfl⟩ (Nat.le_of_ble_eq_true rfl) ⟨Nat.le_of_ble_eq_true rfl, Nat.le_of_ble_eq_true rfl⟩) rfl (by omega) (by omega) (fun k509 hk509 => ?_)
            exact J512p k509 (by omega) ls (hl)
          · have n500 : k497 = 0 := nI_inj (by omega) (by omega) c500
            refine lv_iconst (v := -1) C.1 C.2.1 dL_sets_503 rfl ?_
            refine lv_goto (tgt := 512) C.1 C.2.1 dL_sets_504 (by decide) ?_
            exact J512m  ls (hl)
      · exact absurd c317 (by decide)
    · exact absurd c199 (by decide)
  · exact absurd c1 (by decide)
set_option maxHeartbeats 4000000 in
set_option maxRecDepth 100000 in
theorem s_freshen {l : Launch} {g : gG} {M : Mp} {la : Nat → Nat} {x n : Nat}  (hlx : l.stackTraces = false) (hLS : WS g M x la n) (y : Int32) : Met l yL_sets (WY yL_sets cL_sets 12 (some .boolean)) { frames := 10, cells := 6, slots := 230, locals := 168 } (Wc g M [.ref x, .int 4, .int y, .ref (la 0), .ref (la 1), .ref (la 2), .ref (la 3), .ref (la 9)]) (wrQ (S := Unit) g (fun u_ => (some (.int 1))) (fun u_ M_ => WS g M_ x la n)) 6 230 (gA g) := by
  refine ofM (by decide +kernel) (Nat.le_of_ble_eq_true rfl) (fun p e s m args below meth c ls C hr hlocks hin hE hH hl ea => ?_)
  have hl : lv_has ls 12 [(0, .ref x), (1, .int 4), (2, .int y), (3, .ref (la 0)), (4, .ref (la 1)), (5, .ref (la 2)), (6, .ref (la 3)), (7, .ref (la 9))] := hl
  have hS : va_S (gA g) s.heap s.heap [] := va_S.rf
  obtain ⟨tg, A, pr, br, np, hh, ne, nb, no, sc, ar, lf, hI, hL, hT, hR, hN⟩ := id hLS
  have hX := LX_rf hL
  obtain ⟨⟨hs0, hs5, hs9⟩, iX, iE, iB, iO, iW, iBl, iC⟩ := id hI
  obtain ⟨⟨hc0, hc1, hc2⟩, ⟨sne, snb, sno⟩, rE, ⟨rW, rY⟩, rB, rO, rM, rD, rZ⟩ := id hR
  refine lv_iload_n C.1 C.2.1 dL_sets_0 rfl (lv_at hl 1 rfl) ?_
  refine lv_if_ne (tgt := 197) C.1 C.2.1 dL_sets_1 (by decide) (fun c1 => ?_) (fun c1 => ?_)
  · refine lv_iload_n C.1 C.2.1 dL_sets_197 rfl (lv_at hl 1 rfl) ?_
    refine lv_iconst (v := 1) C.1 C.2.1 dL_sets_198 rfl ?_
    refine lv_icmp_ne (tgt := 315) C.1 C.2.1 dL_sets_199 (by decide) (fun c199 => ?_) (fun c199 => ?_)
    · refine lv_iload_n C.1 C.2.1 dL_sets_315 rfl (lv_at hl 1 rfl) ?_
      refine lv_iconst (v := 2) C.1 C.2.1 dL_sets_316 rfl ?_
      refine lv_icmp_ne (tgt := 489) C.1 C.2.1 dL_sets_317 (by decide) (fun c317 => ?_) (fun c317 => ?_)
      · refine lv_iload_n C.1 C.2.1 dL_sets_489 rfl (lv_at hl 1 rfl) ?_
        refine lv_iconst (v := 3) C.1 C.2.1 dL_sets_490 rfl ?_
        refine lv_icmp_ne (tgt := 640) C.1 C.2.1 dL_sets_491 (by decide) (fun c491 => ?_) (fun c491 => ?_)
        · refine lv_iload_n C.1 C.2.1 dL_sets_640 rfl (lv_at hl 1 rfl) ?_
          refine lv_iconst (v := 4) C.1 C.2.1 dL_sets_641 rfl ?_
          refine lv_icmp_ne (tgt := 714) C.1 C.2.1 dL_sets_642 (by decide) (fun c642 => ?_) (fun c642 => ?_)
          · exact absurd c642 (by decide)
          · refine lv_iload_n C.1 C.2.1 dL_sets_645 rfl (lv_at hl 2 rfl) ?_
            refine lv_aload_n C.1 C.2.1 dL_sets_646 rfl (lv_at hl 3 rfl) ?_
            refine lv_iconst (v := 1) C.1 C.2.1 dL_sets_647 rfl ?_
            refine lald (K := 0) (N := 3) (E := 1) (f := (lf 0)) (v := (nI nb)) C hE hH hX (by decide) rfl rfl rfl (by omega) (hc1) dL_sets_648 ?_
            refine lv_iconst (v := 1) C.1 C.2.1 dL_sets_649 rfl ?_
            refine lv_iadd C.1 C.2.1 dL_sets_650 ?_
            rw [show ((nI nb) + 1 : Int32) = nI (nb + 1) from nI_add nb 1]
            refine some_go (N := nb + 1) (runS C hE hH hS (c_some (n := nI (nb + 1)) (N := nb + 1) rfl (by omega) (by omega) y) mv_L_some wm_121 hl.1 dL_sets_651 rfl rfl ⟨rfl, rfl⟩ ⟨Nat.le_of_ble_eq_true rfl, Nat.le_of_ble_eq_true rfl⟩ (Nat.le_of_ble_eq_true rfl) ⟨Nat.le_of_ble_eq_true rfl, Nat.le_of_ble_eq_true rfl⟩) rfl (by omega) (by omega) (fun k651 hk651 => ?_)
            refine lv_istore (lv' := [(8, .int (nI k651)), (0, .ref x), (1, .int 4), (2, .int y), (3, .ref (la 0)), (4, .ref (la 1)), (5, .ref (la 2)), (6, .ref (la 3)), (7, .ref (la 9))]) C.1 C.2.1 dL_sets_654 hl (by decide) rfl (fun ls hl => ?_)
            refine lv_iload C.1 C.2.1 dL_sets_656 (lv_at hl 0 rfl) ?_
            refine lv_aload_n C.1 C.2.1 dL_sets_658 rfl (lv_at hl 4 rfl) ?_
            refine lv_iconst (v := 1) C.1 C.2.1 dL_sets_659 rfl ?_
            refine lald (K := 0) (N := 3) (E := 1) (f := (lf 0)) (v := (nI nb)) C hE hH hX (by decide) rfl rfl rfl (by omega) (hc1) dL_sets_660 ?_
            refine lv_icmp_ge (tgt := 676) C.1 C.2.1 dL_sets_661 (by decide) (fun c661 => ?_) (fun c661 => ?_)
            · have n661 : nb ≤ k651 := (nI_leI (a := nb) (b := k651) (by omega) (by omega)).mp c661
              refine lv_bipush (v := -101) C.1 C.2.1 dL_sets_676 rfl ?_
              refine lv_istore (lv' := [(9, .int (-101)), (8, .int (nI k651)), (0, .ref x), (1, .int 4), (2, .int y), (3, .ref (la 0)), (4, .ref (la 1)), (5, .ref (la 2)), (6, .ref (la 3)), (7, .ref (la 9))]) C.1 C.2.1 dL_sets_678 hl (by decide) rfl (fun ls hl => ?_)
              refine lv_iload C.1 C.2.1 dL_sets_680 (lv_at hl 0 rfl) ?_
              refine lv_if_lt (tgt := 696) C.1 C.2.1 dL_sets_682 (by decide) (fun c682 => ?_) (fun c682 => ?_)
              · refine lv_aload_n C.1 C.2.1 dL_sets_696 rfl (lv_at hl 2 rfl) ?_
                refine lv_iconst (v := 0) C.1 C.2.1 dL_sets_697 rfl ?_
                refine lv_iload C.1 C.2.1 dL_sets_698 (lv_at hl 1 rfl) ?_
                refine wr_go1 (runT C hE hH hS (l_freshen hlx hI (nI k651)) mv_L_one wm_508 hl.1 dL_sets_700 rfl rfl ⟨rfl, rfl⟩ ⟨Nat.le_of_ble_eq_true rfl, Nat.le_of_ble_eq_true rfl⟩ (Nat.le_of_ble_eq_true rfl) ⟨Nat.le_of_ble_eq_true rfl, Nat.le_of_ble_eq_true rfl⟩) hS (fun u1 M2 H locs hM2 hH hS => ?_)
                obtain ⟨hu, hM⟩ := lqA_f hM2 (fun z => by have z1 := (inx_n (a := k651) (n := nb) (by omega) (by omega)).mp z; omega)
                rw [hu]
                refine lv_iload C.1 C.2.1 dL_sets_703 (lv_at hl 0 rfl) ?_
                refine lv_icmp_ne (tgt := 712) C.1 C.2.1 dL_sets_705 (by decide) (fun c705 => ?_) (fun c705 => ?_)
                · exact absurd c705 (by decide)
                · refine lv_iconst (v := 1) C.1 C.2.1 dL_sets_708 rfl ?_
                  refine lv_goto (tgt := 713) C.1 C.2.1 dL_sets_709 (by decide) ?_
                  exact wr_zret () C hr hlocks (rfl) hH hS rfl ((by rw [hM]; exact hLS)) (by decide) (by decide) dL_sets_713
              · exact absurd c682 (by decide)
            · have n661 : ¬ nb ≤ k651 := fun z => c661 ((nI_leI (a := nb) (b := k651) (by omega) (by omega)).mpr z)
              refine lv_aload C.1 C.2.1 dL_sets_664 (lv_at hl 7 rfl) ?_
              refine lv_iconst (v := 3) C.1 C.2.1 dL_sets_666 rfl ?_
              refine lv_iload C.1 C.2.1 dL_sets_667 (lv_at hl 0 rfl) ?_
              refine lv_imul C.1 C.2.1 dL_sets_669 ?_
              rw [show ((3 : Int32) * (nI k651)) = nI (3 * k651) from nI_M 3 k651]
              refine lv_iconst (v := 2) C.1 C.2.1 dL_sets_670 rfl ?_
              refine lv_iadd C.1 C.2.1 dL_sets_671 ?_
              rw [show ((nI (3 * k651)) + 2 : Int32) = nI (3 * k651 + 2) from nI_add (3 * k651) 2]
              refine lald (K := 3) (N := 15) (E := 3 * k651 + 2) (f := (lf 3)) (v := ((lf 3) (3 * k651 + 2))) C hE hH hX (by decide) rfl rfl rfl (by omega) (rfl) dL_sets_672 ?_
              refine lv_goto (tgt := 678) C.1 C.2.1 dL_sets_673 (by decide) ?_
              refine lv_istore (lv' := [(9, .int ((lf 3) (3 * k651 + 2))), (8, .int (nI k651)), (0, .ref x), (1, .int 4), (2, .int y), (3, .ref (la 0)), (4, .ref (la 1)), (5, .ref (la 2)), (6, .ref (la 3)), (7, .ref (la 9))]) C.1 C.2.1 dL_sets_678 hl (by decide) rfl (fun ls hl => ?_)
              refine lv_iload C.1 C.2.1 dL_sets_680 (lv_at hl 0 rfl) ?_
              refine lv_if_lt (tgt := 696) C.1 C.2.1 dL_sets_682 (by decide) (fun c682 => ?_) (fun c682 => ?_)
              · exact absurd c682 (rng_n0 (by rw [(rB k651 (by omega)).2.2]; exact (RI_w hI (by omega)).2))
              · refine lv_aload C.1 C.2.1 dL_sets_685 (lv_at hl 8 rfl) ?_
                refine lv_iconst (v := 3) C.1 C.2.1 dL_sets_687 rfl ?_
                refine lv_iload C.1 C.2.1 dL_sets_688 (lv_at hl 1 rfl) ?_
                refine lv_imul C.1 C.2.1 dL_sets_690 ?_
                rw [show ((3 : Int32) * (nI k651)) = nI (3 * k651) from nI_M 3 k651]
                refine lv_iconst (v := 2) C.1 C.2.1 dL_sets_691 rfl ?_
                refine lv_iadd C.1 C.2.1 dL_sets_692 ?_
                rw [show ((nI (3 * k651)) + 2 : Int32) = nI (3 * k651 + 2) from nI_add (3 * k651) 2]
                refine lv_bipush (v := 100) C.1 C.2.1 dL_sets_693 rfl ?_
                refine last (K := 3) (N := 15) (E := 3 * k651 + 2) (f := (lf 3)) C hE hH hS hX (by decide) rfl rfl rfl (by omega) dL_sets_695 (fun M3 H locs hX4 hH hS => ?_)
                have hIM3 := WS_up hI hX4 hT (ed_no hE hH)
                refine lv_aload_n C.1 C.2.1 dL_sets_696 rfl (lv_at hl 2 rfl) ?_
                refine lv_iconst (v := 0) C.1 C.2.1 dL_sets_697 rfl ?_
                refine lv_iload C.1 C.2.1 dL_sets_698 (lv_at hl 1 rfl) ?_
                refine wr_go1 (runT C hE hH hS (l_freshen hlx hIM3 (nI k651)) mv_L_one wm_508 hl.1 dL_sets_700 rfl rfl ⟨rfl, rfl⟩ ⟨Nat.le_of_ble_eq_true rfl, Nat.le_of_ble_eq_true rfl⟩ (Nat.le_of_ble_eq_true rfl) ⟨Nat.le_of_ble_eq_true rfl, Nat.le_of_ble_eq_true rfl⟩) hS (fun u5 M6 H locs hM6 hH hS => ?_)
                obtain ⟨hu, hx⟩ := lqA_t hM6 ((inx_n (a := k651) (n := nb) (by omega) (by omega)).mpr (by omega))
                have hu : u5 = (lf 3) (3 * k651 + 2) := hu.trans ((by rw [nI_clamp (show k651 < 2 ^ 31 by omega)]; exact (rB k651 (by omega)).2.2.symm))
                rw [hu]
                rw [nI_clamp (show k651 < 2 ^ 31 by omega)] at hx
                have hXr := LX_rf (LI_rx hx hX4.1 hT)
                refine lv_iload C.1 C.2.1 dL_sets_703 (lv_at hl 0 rfl) ?_
                refine lv_icmp_ne (tgt := 712) C.1 C.2.1 dL_sets_705 (by decide) (fun c705 => ?_) (fun c705 => ?_)
                · exact absurd rfl c705
                · refine lv_iconst (v := 1) C.1 C.2.1 dL_sets_708 rfl ?_
                  refine lv_goto (tgt := 713) C.1 C.2.1 dL_sets_709 (by decide) ?_
                  exact wr_zret () C hr hlocks (rfl) hH hS rfl (WS_mk hx hX4.1 hT ⟨hs0, hs5, hs9⟩ (LR_fresh hR (by omega)) (krN_cg hN (fun _ _ => rfl))) (by decide) (by decide) dL_sets_713
        · exact absurd c491 (by decide)
      · exact absurd c317 (by decide)
    · exact absurd c199 (by decide)
  · exact absurd c1 (by decide)
set_option maxHeartbeats 4000000 in
set_option maxRecDepth 100000 in
theorem s_shrinks {l : Launch} {g : gG} {M : Mp} {la : Nat → Nat} {x n : Nat}  (hlx : l.stackTraces = false) (hLS : WS g M x la n) (y : Int32) : Met l yL_sets (WY yL_sets cL_sets 12 (some .boolean)) { frames := 9, cells := 6, slots := 230, locals := 151 } (Wc g M [.ref x, .int 5, .int y, .ref (la 0), .ref (la 1), .ref (la 2), .ref (la 3), .ref (la 9)]) (wrQ (S := Unit) g (fun u_ => (some (.int 1))) (fun u_ M_ => WS g M_ x la n)) 6 230 (gA g) := by
  refine ofM (by decide +kernel) (Nat.le_of_ble_eq_true rfl) (fun p e s m args below meth c ls C hr hlocks hin hE hH hl ea => ?_)
  have hl : lv_has ls 12 [(0, .ref x), (1, .int 5), (2, .int y), (3, .ref (la 0)), (4, .ref (la 1)), (5, .ref (la 2)), (6, .ref (la 3)), (7, .ref (la 9))] := hl
  have hS : va_S (gA g) s.heap s.heap [] := va_S.rf
  obtain ⟨tg, A, pr, br, np, hh, ne, nb, no, sc, ar, lf, hI, hL, hT, hR, hN⟩ := id hLS
  have hX := LX_rf hL
  obtain ⟨⟨hs0, hs5, hs9⟩, iX, iE, iB, iO, iW, iBl, iC⟩ := id hI
  obtain ⟨⟨hc0, hc1, hc2⟩, ⟨sne, snb, sno⟩, rE, ⟨rW, rY⟩, rB, rO, rM, rD, rZ⟩ := id hR
  refine lv_iload_n C.1 C.2.1 dL_sets_0 rfl (lv_at hl 1 rfl) ?_
  refine lv_if_ne (tgt := 197) C.1 C.2.1 dL_sets_1 (by decide) (fun c1 => ?_) (fun c1 => ?_)
  · refine lv_iload_n C.1 C.2.1 dL_sets_197 rfl (lv_at hl 1 rfl) ?_
    refine lv_iconst (v := 1) C.1 C.2.1 dL_sets_198 rfl ?_
    refine lv_icmp_ne (tgt := 315) C.1 C.2.1 dL_sets_199 (by decide) (fun c199 => ?_) (fun c199 => ?_)
    · refine lv_iload_n C.1 C.2.1 dL_sets_315 rfl (lv_at hl 1 rfl) ?_
      refine lv_iconst (v := 2) C.1 C.2.1 dL_sets_316 rfl ?_
      refine lv_icmp_ne (tgt := 489) C.1 C.2.1 dL_sets_317 (by decide) (fun c317 => ?_) (fun c317 => ?_)
      · refine lv_iload_n C.1 C.2.1 dL_sets_489 rfl (lv_at hl 1 rfl) ?_
        refine lv_iconst (v := 3) C.1 C.2.1 dL_sets_490 rfl ?_
        refine lv_icmp_ne (tgt := 640) C.1 C.2.1 dL_sets_491 (by decide) (fun c491 => ?_) (fun c491 => ?_)
        · refine lv_iload_n C.1 C.2.1 dL_sets_640 rfl (lv_at hl 1 rfl) ?_
          refine lv_iconst (v := 4) C.1 C.2.1 dL_sets_641 rfl ?_
          refine lv_icmp_ne (tgt := 714) C.1 C.2.1 dL_sets_642 (by decide) (fun c642 => ?_) (fun c642 => ?_)
          · have J732 : ∀ (a8 : Nat) (h8 : a8 ≤ 3) (ls : Array Slot), lv_has ls 12 [(0, .ref x), (1, .int 5), (2, .int y), (3, .ref (la 0)), (4, .ref (la 1)), (5, .ref (la 2)), (6, .ref (la 3)), (7, .ref (la 9))] → W p l e { frames := 9, cells := 6, slots := 230, locals := 151 } s m args below meth c s.heap [] 0 0 (MQ below (wrQ (S := Unit) g (fun u_ => (some (.int 1))) (fun u_ M_ => WS g M_ x la n)) args s 6 230 (gA g)) (F0 m 732 ls [.int (nI a8)]) := by
              intro a8 h8 ls hl
              refine lv_istore (lv' := [(8, .int (nI a8)), (0, .ref x), (1, .int 5), (2, .int y), (3, .ref (la 0)), (4, .ref (la 1)), (5, .ref (la 2)), (6, .ref (la 3)), (7, .ref (la 9))]) C.1 C.2.1 dL_sets_732 hl (by decide) rfl (fun ls hl => ?_)
              have J772 : ∀ (a9 : Nat) (h9 : a9 ≤ 91) (ls : Array Slot), lv_has ls 12 [(8, .int (nI a8)), (0, .ref x), (1, .int 5), (2, .int y), (3, .ref (la 0)), (4, .ref (la 1)), (5, .ref (la 2)), (6, .ref (la 3)), (7, .ref (la 9))] → W p l e { frames := 9, cells := 6, slots := 230, locals := 151 } s m args below meth c s.heap [] 0 0 (MQ below (wrQ (S := Unit) g (fun u_ => (some (.int 1))) (fun u_ M_ => WS g M_ x la n)) args s 6 230 (gA g)) (F0 m 772 ls [.int (nI a9)]) := by
                intro a9 h9 ls hl
                refine lv_istore (lv' := [(9, .int (nI a9)), (8, .int (nI a8)), (0, .ref x), (1, .int 5), (2, .int y), (3, .ref (la 0)), (4, .ref (la 1)), (5, .ref (la 2)), (6, .ref (la 3)), (7, .ref (la 9))]) C.1 C.2.1 dL_sets_772 hl (by decide) rfl (fun ls hl => ?_)
                refine lv_iload C.1 C.2.1 dL_sets_774 (lv_at hl 1 rfl) ?_
                refine lv_iconst (v := 2) C.1 C.2.1 dL_sets_776 rfl ?_
                refine lv_icmp_le (tgt := 785) C.1 C.2.1 dL_sets_777 (by decide) (fun c777 => ?_) (fun c777 => ?_)
                · have n777 : a8 ≤ 2 := (nI_leI (a := a8) (b := 2) (by omega) (by omega)).mp c777
                  refine lv_iload C.1 C.2.1 dL_sets_785 (lv_at hl 0 rfl) ?_
                  refine lv_bipush (v := 90) C.1 C.2.1 dL_sets_787 rfl ?_
                  refine lv_icmp_le (tgt := 797) C.1 C.2.1 dL_sets_789 (by decide) (fun c789 => ?_) (fun c789 => ?_)
                  · have n789 : a9 ≤ 90 := (nI_leI (a := a9) (b := 90) (by omega) (by omega)).mp c789
                    refine lv_aload C.1 C.2.1 dL_sets_797 (lv_at hl 9 rfl) ?_
                    refine lv_iload C.1 C.2.1 dL_sets_799 (lv_at hl 1 rfl) ?_
                    refine lald (K := 9) (N := 3) (E := a8) (f := (lf 9)) (v := ((lf 9) a8)) C hE hH hX (by decide) rfl rfl rfl (by omega) (rfl) dL_sets_801 ?_
                    refine lv_istore (lv' := [(10, .int ((lf 9) a8)), (9, .int (nI a9)), (8, .int (nI a8)), (0, .ref x), (1, .int 5), (2, .int y), (3, .ref (la 0)), (4, .ref (la 1)), (5, .ref (la 2)), (6, .ref (la 3)), (7, .ref (la 9))]) C.1 C.2.1 dL_sets_802 hl (by decide) rfl (fun ls hl => ?_)
                    refine lv_iload C.1 C.2.1 dL_sets_804 (lv_at hl 0 rfl) ?_
                    refine lv_if_lt (tgt := 816) C.1 C.2.1 dL_sets_806 (by decide) (fun c806 => ?_) (fun c806 => ?_)
                    · exact absurd c806 (rng_n0 (by rw [rZ a8 (by omega)]; exact (iC.2 a8 (by omega)).2.1))
                    · refine lv_aload C.1 C.2.1 dL_sets_809 (lv_at hl 10 rfl) ?_
                      refine lv_iload C.1 C.2.1 dL_sets_811 (lv_at hl 2 rfl) ?_
                      refine lv_iload C.1 C.2.1 dL_sets_813 (lv_at hl 1 rfl) ?_
                      refine last (K := 9) (N := 3) (E := a8) (f := (lf 9)) C hE hH hS hX (by decide) rfl rfl rfl (by omega) dL_sets_815 (fun M1 H locs hX2 hH hS => ?_)
                      have hIM1 := WS_up hI hX2 hT (ed_no hE hH)
                      refine lv_aload_n C.1 C.2.1 dL_sets_816 rfl (lv_at hl 3 rfl) ?_
                      refine lv_iconst (v := 3) C.1 C.2.1 dL_sets_817 rfl ?_
                      refine lv_iload C.1 C.2.1 dL_sets_818 (lv_at hl 2 rfl) ?_
                      refine lv_iload C.1 C.2.1 dL_sets_820 (lv_at hl 1 rfl) ?_
                      refine wr_go1 (runT C hE hH hS (l_shrinks hlx hIM1 (nI a8) (nI a9)) mv_L_two wm_313 hl.1 dL_sets_822 rfl rfl ⟨rfl, rfl⟩ ⟨Nat.le_of_ble_eq_true rfl, Nat.le_of_ble_eq_true rfl⟩ (Nat.le_of_ble_eq_true rfl) ⟨Nat.le_of_ble_eq_true rfl, Nat.le_of_ble_eq_true rfl⟩) hS (fun u3 M4 H locs hM4 hH hS => ?_)
                      obtain ⟨hu, hx⟩ := lqB_t hM4 ((inx_n (a := a8) (n := 3) (by omega) (by omega)).mpr (by omega)) ((inr_n (a := a9) (n := 90) (by omega) (by omega)).mpr (by omega))
                      have hu : u3 = (lf 9) a8 := hu.trans ((by rw [nI_clamp (show a8 < 2 ^ 31 by omega)]; exact (rZ a8 (by omega)).symm))
                      rw [hu]
                      rw [nI_clamp (show a8 < 2 ^ 31 by omega)] at hx
                      have hXr := LX_rf (LI_rx hx hX2.1 hT)
                      refine lv_iload C.1 C.2.1 dL_sets_825 (lv_at hl 0 rfl) ?_
                      refine lv_icmp_ne (tgt := 834) C.1 C.2.1 dL_sets_827 (by decide) (fun c827 => ?_) (fun c827 => ?_)
                      · exact absurd rfl c827
                      · refine lv_iconst (v := 1) C.1 C.2.1 dL_sets_830 rfl ?_
                        refine lv_goto (tgt := 835) C.1 C.2.1 dL_sets_831 (by decide) ?_
                        exact wr_zret () C hr hlocks (rfl) hH hS rfl (WS_mk hx hX2.1 hT ⟨hs0, hs5, hs9⟩ (LR_shrinks hR) (krN_cg hN (fun _ _ => rfl))) (by decide) (by decide) dL_sets_835
                  · have n789 : ¬ a9 ≤ 90 := fun z => c789 ((nI_leI (a := a9) (b := 90) (by omega) (by omega)).mpr z)
                    refine lv_bipush (v := -102) C.1 C.2.1 dL_sets_792 rfl ?_
                    refine lv_goto (tgt := 802) C.1 C.2.1 dL_sets_794 (by decide) ?_
                    refine lv_istore (lv' := [(10, .int (-102)), (9, .int (nI a9)), (8, .int (nI a8)), (0, .ref x), (1, .int 5), (2, .int y), (3, .ref (la 0)), (4, .ref (la 1)), (5, .ref (la 2)), (6, .ref (la 3)), (7, .ref (la 9))]) C.1 C.2.1 dL_sets_802 hl (by decide) rfl (fun ls hl => ?_)
                    refine lv_iload C.1 C.2.1 dL_sets_804 (lv_at hl 0 rfl) ?_
                    refine lv_if_lt (tgt := 816) C.1 C.2.1 dL_sets_806 (by decide) (fun c806 => ?_) (fun c806 => ?_)
                    · refine lv_aload_n C.1 C.2.1 dL_sets_816 rfl (lv_at hl 3 rfl) ?_
                      refine lv_iconst (v := 3) C.1 C.2.1 dL_sets_817 rfl ?_
                      refine lv_iload C.1 C.2.1 dL_sets_818 (lv_at hl 2 rfl) ?_
                      refine lv_iload C.1 C.2.1 dL_sets_820 (lv_at hl 1 rfl) ?_
                      refine wr_go1 (runT C hE hH hS (l_shrinks hlx hI (nI a8) (nI a9)) mv_L_two wm_313 hl.1 dL_sets_822 rfl rfl ⟨rfl, rfl⟩ ⟨Nat.le_of_ble_eq_true rfl, Nat.le_of_ble_eq_true rfl⟩ (Nat.le_of_ble_eq_true rfl) ⟨Nat.le_of_ble_eq_true rfl, Nat.le_of_ble_eq_true rfl⟩) hS (fun u5 M6 H locs hM6 hH hS => ?_)
                      obtain ⟨hu, hM⟩ := lqB_g hM6 ((inx_n (a := a8) (n := 3) (by omega) (by omega)).mpr (by omega)) (fun z => by have z1 := (inr_n (a := a9) (n := 90) (by omega) (by omega)).mp z; omega)
                      rw [hu]
                      refine lv_iload C.1 C.2.1 dL_sets_825 (lv_at hl 0 rfl) ?_
                      refine lv_icmp_ne (tgt := 834) C.1 C.2.1 dL_sets_827 (by decide) (fun c827 => ?_) (fun c827 => ?_)
                      · exact absurd c827 (by decide)
                      · refine lv_iconst (v := 1) C.1 C.2.1 dL_sets_830 rfl ?_
                        refine lv_goto (tgt := 835) C.1 C.2.1 dL_sets_831 (by decide) ?_
                        exact wr_zret () C hr hlocks (rfl) hH hS rfl ((by rw [hM]; exact hLS)) (by decide) (by decide) dL_sets_835
                    · exact absurd c806 (by decide)
                · have n777 : ¬ a8 ≤ 2 := fun z => c777 ((nI_leI (a := a8) (b := 2) (by omega) (by omega)).mpr z)
                  refine lv_bipush (v := -101) C.1 C.2.1 dL_sets_780 rfl ?_
                  refine lv_goto (tgt := 802) C.1 C.2.1 dL_sets_782 (by decide) ?_
                  refine lv_istore (lv' := [(10, .int (-101)), (9, .int (nI a9)), (8, .int (nI a8)), (0, .ref x), (1, .int 5), (2, .int y), (3, .ref (la 0)), (4, .ref (la 1)), (5, .ref (la 2)), (6, .ref (la 3)), (7, .ref (la 9))]) C.1 C.2.1 dL_sets_802 hl (by decide) rfl (fun ls hl => ?_)
                  refine lv_iload C.1 C.2.1 dL_sets_804 (lv_at hl 0 rfl) ?_
                  refine lv_if_lt (tgt := 816) C.1 C.2.1 dL_sets_806 (by decide) (fun c806 => ?_) (fun c806 => ?_)
                  · refine lv_aload_n C.1 C.2.1 dL_sets_816 rfl (lv_at hl 3 rfl) ?_
                    refine lv_iconst (v := 3) C.1 C.2.1 dL_sets_817 rfl ?_
                    refine lv_iload C.1 C.2.1 dL_sets_818 (lv_at hl 2 rfl) ?_
                    refine lv_iload C.1 C.2.1 dL_sets_820 (lv_at hl 1 rfl) ?_
                    refine wr_go1 (runT C hE hH hS (l_shrinks hlx hI (nI a8) (nI a9)) mv_L_two wm_313 hl.1 dL_sets_822 rfl rfl ⟨rfl, rfl⟩ ⟨Nat.le_of_ble_eq_true rfl, Nat.le_of_ble_eq_true rfl⟩ (Nat.le_of_ble_eq_true rfl) ⟨Nat.le_of_ble_eq_true rfl, Nat.le_of_ble_eq_true rfl⟩) hS (fun u7 M8 H locs hM8 hH hS => ?_)
                    obtain ⟨hu, hM⟩ := lqB_f hM8 (fun z => by have z1 := (inx_n (a := a8) (n := 3) (by omega) (by omega)).mp z; omega)
                    rw [hu]
                    refine lv_iload C.1 C.2.1 dL_sets_825 (lv_at hl 0 rfl) ?_
                    refine lv_icmp_ne (tgt := 834) C.1 C.2.1 dL_sets_827 (by decide) (fun c827 => ?_) (fun c827 => ?_)
                    · exact absurd c827 (by decide)
                    · refine lv_iconst (v := 1) C.1 C.2.1 dL_sets_830 rfl ?_
                      refine lv_goto (tgt := 835) C.1 C.2.1 dL_sets_831 (by decide) ?_
                      exact wr_zret () C hr hlocks (rfl) hH hS rfl ((by rw [hM]; exact hLS)) (by decide) (by decide) dL_sets_835
                  · exact absurd c806 (by decide)
              refine lv_iload_n C.1 C.2.1 dL_sets_734 rfl (lv_at hl 3 rfl) ?_
              refine lv_iconst (v := 3) C.1 C.2.1 dL_sets_735 rfl ?_
              refine lv_ishr C.1 C.2.1 dL_sets_736 ?_
              refine lv_bipush (v := 30) C.1 C.2.1 dL_sets_737 rfl ?_
              refine some_go (N := 30) (runS C hE hH hS (c_some (n := 30) (N := 30) rfl (by omega) (by omega) (y >>> (3 &&& 31))) mv_L_some wm_121 hl.1 dL_sets_739 rfl rfl ⟨rfl, rfl⟩ ⟨Nat.le_of_ble_eq_true rfl, Nat.le_of_ble_eq_true rfl⟩ (Nat.le_of_ble_eq_true rfl) ⟨Nat.le_of_ble_eq_true rfl, Nat.le_of_ble_eq_true rfl⟩) rfl (by omega) (by omega) (fun k739 hk739 => ?_)
              refine lv_if_ne (tgt := 750) C.1 C.2.1 dL_sets_742 (by decide) (fun c742 => ?_) (fun c742 => ?_)
              · have n742 : ¬ k739 = 0 := fun z => c742 (congrArg nI z)
                refine lv_iload_n C.1 C.2.1 dL_sets_750 rfl (lv_at hl 3 rfl) ?_
                refine lv_iconst (v := 3) C.1 C.2.1 dL_sets_751 rfl ?_
                refine lv_ishr C.1 C.2.1 dL_sets_752 ?_
                refine lv_iconst (v := 2) C.1 C.2.1 dL_sets_753 rfl ?_
                refine some_go (N := 2) (runS C hE hH hS (c_some (n := 2) (N := 2) rfl (by omega) (by omega) (y >>> (3 &&& 31))) mv_L_some wm_121 hl.1 dL_sets_754 rfl rfl ⟨rfl, rfl⟩ ⟨Nat.le_of_ble_eq_true rfl, Nat.le_of_ble_eq_true rfl⟩ (Nat.le_of_ble_eq_true rfl) ⟨Nat.le_of_ble_eq_true rfl, Nat.le_of_ble_eq_true rfl⟩) rfl (by omega) (by omega) (fun k754 hk754 => ?_)
                refine lv_if_ne (tgt := 764) C.1 C.2.1 dL_sets_757 (by decide) (fun c757 => ?_) (fun c757 => ?_)
                · have n757 : ¬ k754 = 0 := fun z => c757 (congrArg nI z)
                  refine lv_iload_n C.1 C.2.1 dL_sets_764 rfl (lv_at hl 3 rfl) ?_
                  refine lv_iconst (v := 4) C.1 C.2.1 dL_sets_765 rfl ?_
                  refine lv_ishr C.1 C.2.1 dL_sets_766 ?_
                  refine lv_bipush (v := 91) C.1 C.2.1 dL_sets_767 rfl ?_
                  refine some_go (N := 91) (runS C hE hH hS (c_some (n := 91) (N := 91) rfl (by omega) (by omega) (y >>> (4 &&& 31))) mv_L_some wm_121 hl.1 dL_sets_769 rfl rfl ⟨rfl, rfl⟩ ⟨Nat.le_of_ble_eq_true rfl, Nat.le_of_ble_eq_true rfl⟩ (Nat.le_of_ble_eq_true rfl) ⟨Nat.le_of_ble_eq_true rfl, Nat.le_of_ble_eq_true rfl⟩) rfl (by omega) (by omega) (fun k769 hk769 => ?_)
                  exact J772 k769 (by omega) ls (hl)
                · have n757 : k754 = 0 := nI_inj (by omega) (by omega) c757
                  refine lv_iconst (v := 0) C.1 C.2.1 dL_sets_760 rfl ?_
                  refine lv_goto (tgt := 772) C.1 C.2.1 dL_sets_761 (by decide) ?_
                  exact J772 0 (by omega) ls (hl)
              · have n742 : k739 = 0 := nI_inj (by omega) (by omega) c742
                refine lv_bipush (v := 91) C.1 C.2.1 dL_sets_745 rfl ?_
                refine lv_goto (tgt := 772) C.1 C.2.1 dL_sets_747 (by decide) ?_
                exact J772 91 (by omega) ls (hl)
            refine lv_iload_n C.1 C.2.1 dL_sets_714 rfl (lv_at hl 2 rfl) ?_
            refine lv_bipush (v := 30) C.1 C.2.1 dL_sets_715 rfl ?_
            refine some_go (N := 30) (runS C hE hH hS (c_some (n := 30) (N := 30) rfl (by omega) (by omega) y) mv_L_some wm_121 hl.1 dL_sets_717 rfl rfl ⟨rfl, rfl⟩ ⟨Nat.le_of_ble_eq_true rfl, Nat.le_of_ble_eq_true rfl⟩ (Nat.le_of_ble_eq_true rfl) ⟨Nat.le_of_ble_eq_true rfl, Nat.le_of_ble_eq_true rfl⟩) rfl (by omega) (by omega) (fun k717 hk717 => ?_)
            refine lv_if_ne (tgt := 727) C.1 C.2.1 dL_sets_720 (by decide) (fun c720 => ?_) (fun c720 => ?_)
            · have n720 : ¬ k717 = 0 := fun z => c720 (congrArg nI z)
              refine lv_iload_n C.1 C.2.1 dL_sets_727 rfl (lv_at hl 2 rfl) ?_
              refine lv_iconst (v := 2) C.1 C.2.1 dL_sets_728 rfl ?_
              refine some_go (N := 2) (runS C hE hH hS (c_some (n := 2) (N := 2) rfl (by omega) (by omega) y) mv_L_some wm_121 hl.1 dL_sets_729 rfl rfl ⟨rfl, rfl⟩ ⟨Nat.le_of_ble_eq_true rfl, Nat.le_of_ble_eq_true rfl⟩ (Nat.le_of_ble_eq_true rfl) ⟨Nat.le_of_ble_eq_true rfl, Nat.le_of_ble_eq_true rfl⟩) rfl (by omega) (by omega) (fun k729 hk729 => ?_)
              exact J732 k729 (by omega) ls (hl)
            · have n720 : k717 = 0 := nI_inj (by omega) (by omega) c720
              refine lv_iconst (v := 3) C.1 C.2.1 dL_sets_723 rfl ?_
              refine lv_goto (tgt := 732) C.1 C.2.1 dL_sets_724 (by decide) ?_
              exact J732 3 (by omega) ls (hl)
          · exact absurd c642 (by decide)
        · exact absurd c491 (by decide)
      · exact absurd c317 (by decide)
    · exact absurd c199 (by decide)
  · exact absurd c1 (by decide)
