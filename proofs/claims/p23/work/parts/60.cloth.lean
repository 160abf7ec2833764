/-! THE LAW: CLOTH -/
set_option maxHeartbeats 4000000 in
set_option maxRecDepth 100000 in
theorem t_give {l : Launch} {g : gG} {M : Mp} {la : Nat → Nat} {x n : Nat}  (hlx : l.stackTraces = false) (hLS : WS g M x la n) (hn : n ≤ 98) (y : Int32) : Met l yL_cloth (WY yL_cloth cL_cloth 13 (some .boolean)) { frames := 9, cells := 7, slots := 235, locals := 155 } (Wc g M [.ref x, .int 0, .int y, .ref (la 8), .ref (la 9)]) (wrQ (S := Unit) g (fun u_ => (some (.int 1))) (fun u_ M_ => WS g M_ x la (n + 1))) 7 235 (gA g) := by
  refine ofM (by decide +kernel) (Nat.le_of_ble_eq_true rfl) (fun p e s m args below meth c ls C hr hlocks hin hE hH hl ea => ?_)
  have hl : lv_has ls 13 [(0, .ref x), (1, .int 0), (2, .int y), (3, .ref (la 8)), (4, .ref (la 9))] := hl
  have hS : va_S (gA g) s.heap s.heap [] := va_S.rf
  obtain ⟨tg, A, pr, br, np, hh, ne, nb, no, sc, ar, lf, hI, hL, hT, hR, hN⟩ := id hLS
  have hX := LX_rf hL
  obtain ⟨⟨hs0, hs5, hs9⟩, iX, iE, iB, iO, iW, iBl, iC⟩ := id hI
  obtain ⟨⟨hc0, hc1, hc2⟩, ⟨sne, snb, sno⟩, rE, ⟨rW, rY⟩, rB, rO, rM, rD, rZ⟩ := id hR
  have J18 : ∀ (a5 : Nat) (h5 : a5 < 2 ∨ a5 = 3) (ls : Array Slot), lv_has ls 13 [(0, .ref x), (1, .int 0), (2, .int y), (3, .ref (la 8)), (4, .ref (la 9))] → W p l e { frames := 9, cells := 7, slots := 235, locals := 155 } s m args below meth c s.heap [] 0 0 (MQ below (wrQ (S := Unit) g (fun u_ => (some (.int 1))) (fun u_ M_ => WS g M_ x la (n + 1))) args s 7 235 (gA g)) (F0 m 18 ls [.int (nI a5)]) := by
    intro a5 h5 ls hl
    refine lv_istore (lv' := [(5, .int (nI a5)), (0, .ref x), (1, .int 0), (2, .int y), (3, .ref (la 8)), (4, .ref (la 9))]) C.1 C.2.1 dL_cloth_18 hl (by decide) rfl (fun ls hl => ?_)
    refine lv_iload_n C.1 C.2.1 dL_cloth_20 rfl (lv_at hl 2 rfl) ?_
    refine lv_if_ne (tgt := 279) C.1 C.2.1 dL_cloth_21 (by decide) (fun c21 => ?_) (fun c21 => ?_)
    · exact absurd c21 (by decide)
    · have J46 : ∀ (a6 : Nat) (h6 : a6 ≤ 5) (ls : Array Slot), lv_has ls 13 [(5, .int (nI a5)), (0, .ref x), (1, .int 0), (2, .int y), (3, .ref (la 8)), (4, .ref (la 9))] → W p l e { frames := 9, cells := 7, slots := 235, locals := 155 } s m args below meth c s.heap [] 0 0 (MQ below (wrQ (S := Unit) g (fun u_ => (some (.int 1))) (fun u_ M_ => WS g M_ x la (n + 1))) args s 7 235 (gA g)) (F0 m 46 ls [.int (nI a6)]) := by
        intro a6 h6 ls hl
        refine lv_istore (lv' := [(6, .int (nI a6)), (5, .int (nI a5)), (0, .ref x), (1, .int 0), (2, .int y), (3, .ref (la 8)), (4, .ref (la 9))]) C.1 C.2.1 dL_cloth_46 hl (by decide) rfl (fun ls hl => ?_)
        have J70m : ∀ (ls : Array Slot), lv_has ls 13 [(6, .int (nI a6)), (5, .int (nI a5)), (0, .ref x), (1, .int 0), (2, .int y), (3, .ref (la 8)), (4, .ref (la 9))] → W p l e { frames := 9, cells := 7, slots := 235, locals := 155 } s m args below meth c s.heap [] 0 0 (MQ below (wrQ (S := Unit) g (fun u_ => (some (.int 1))) (fun u_ M_ => WS g M_ x la (n + 1))) args s 7 235 (gA g)) (F0 m 70 ls [.int (-1)]) := by
          intro   ls hl
          refine lv_istore (lv' := [(7, .int (-1)), (6, .int (nI a6)), (5, .int (nI a5)), (0, .ref x), (1, .int 0), (2, .int y), (3, .ref (la 8)), (4, .ref (la 9))]) C.1 C.2.1 dL_cloth_70 hl (by decide) rfl (fun ls hl => ?_)
          have J111 : ∀ (a8 : Nat) (h8 : a8 ≤ 1001) (ls : Array Slot), lv_has ls 13 [(7, .int (-1)), (6, .int (nI a6)), (5, .int (nI a5)), (0, .ref x), (1, .int 0), (2, .int y), (3, .ref (la 8)), (4, .ref (la 9))] → W p l e { frames := 9, cells := 7, slots := 235, locals := 155 } s m args below meth c s.heap [] 0 0 (MQ below (wrQ (S := Unit) g (fun u_ => (some (.int 1))) (fun u_ M_ => WS g M_ x la (n + 1))) args s 7 235 (gA g)) (F0 m 111 ls [.int (nI a8)]) := by
            intro a8 h8 ls hl
            refine lv_istore (lv' := [(8, .int (nI a8)), (7, .int (-1)), (6, .int (nI a6)), (5, .int (nI a5)), (0, .ref x), (1, .int 0), (2, .int y), (3, .ref (la 8)), (4, .ref (la 9))]) C.1 C.2.1 dL_cloth_111 hl (by decide) rfl (fun ls hl => ?_)
            have J135f : ∀ (ls : Array Slot), lv_has ls 13 [(8, .int (nI a8)), (7, .int (-1)), (6, .int (nI a6)), (5, .int (nI a5)), (0, .ref x), (1, .int 0), (2, .int y), (3, .ref (la 8)), (4, .ref (la 9))] → W p l e { frames := 9, cells := 7, slots := 235, locals := 155 } s m args below meth c s.heap [] 0 0 (MQ below (wrQ (S := Unit) g (fun u_ => (some (.int 1))) (fun u_ M_ => WS g M_ x la (n + 1))) args s 7 235 (gA g)) (F0 m 135 ls [.int 0]) := by
              intro   ls hl
              refine lv_istore (lv' := [(9, .int 0), (8, .int (nI a8)), (7, .int (-1)), (6, .int (nI a6)), (5, .int (nI a5)), (0, .ref x), (1, .int 0), (2, .int y), (3, .ref (la 8)), (4, .ref (la 9))]) C.1 C.2.1 dL_cloth_135 hl (by decide) rfl (fun ls hl => ?_)
              have J167f : ∀ (ls : Array Slot), lv_has ls 13 [(9, .int 0), (8, .int (nI a8)), (7, .int (-1)), (6, .int (nI a6)), (5, .int (nI a5)), (0, .ref x), (1, .int 0), (2, .int y), (3, .ref (la 8)), (4, .ref (la 9))] → W p l e { frames := 9, cells := 7, slots := 235, locals := 155 } s m args below meth c s.heap [] 0 0 (MQ below (wrQ (S := Unit) g (fun u_ => (some (.int 1))) (fun u_ M_ => WS g M_ x la (n + 1))) args s 7 235 (gA g)) (F0 m 167 ls [.int 0]) := by
                intro   ls hl
                refine lv_istore (lv' := [(10, .int 0), (9, .int 0), (8, .int (nI a8)), (7, .int (-1)), (6, .int (nI a6)), (5, .int (nI a5)), (0, .ref x), (1, .int 0), (2, .int y), (3, .ref (la 8)), (4, .ref (la 9))]) C.1 C.2.1 dL_cloth_167 hl (by decide) rfl (fun ls hl => ?_)
                refine lv_iload C.1 C.2.1 dL_cloth_169 (lv_at hl 1 rfl) ?_
                refine lv_if_ne (tgt := 179) C.1 C.2.1 dL_cloth_171 (by decide) (fun c171 => ?_) (fun c171 => ?_)
                · exact absurd c171 (by decide)
                · refine lv_bipush (v := -101) C.1 C.2.1 dL_cloth_174 rfl ?_
                  refine lv_goto (tgt := 190) C.1 C.2.1 dL_cloth_176 (by decide) ?_
                  refine lv_istore (lv' := [(11, .int (-101)), (10, .int 0), (9, .int 0), (8, .int (nI a8)), (7, .int (-1)), (6, .int (nI a6)), (5, .int (nI a5)), (0, .ref x), (1, .int 0), (2, .int y), (3, .ref (la 8)), (4, .ref (la 9))]) C.1 C.2.1 dL_cloth_190 hl (by decide) rfl (fun ls hl => ?_)
                  refine lv_iload C.1 C.2.1 dL_cloth_192 (lv_at hl 1 rfl) ?_
                  refine lv_if_eq (tgt := 256) C.1 C.2.1 dL_cloth_194 (by decide) (fun c194 => ?_) (fun c194 => ?_)
                  · refine lv_aload_n C.1 C.2.1 dL_cloth_256 rfl (lv_at hl 7 rfl) ?_
                    refine lv_iload C.1 C.2.1 dL_cloth_257 (lv_at hl 5 rfl) ?_
                    refine lv_iload C.1 C.2.1 dL_cloth_259 (lv_at hl 4 rfl) ?_
                    refine lv_iload C.1 C.2.1 dL_cloth_261 (lv_at hl 6 rfl) ?_
                    refine lv_iload C.1 C.2.1 dL_cloth_263 (lv_at hl 3 rfl) ?_
                    refine wr_go1 (runT C hE hH hS (l_give hlx hI (nI a6) (-1) (nI a5) (nI a8)) mv_L_gives wm_680 hl.1 dL_cloth_265 rfl rfl ⟨rfl, rfl⟩ ⟨Nat.le_of_ble_eq_true rfl, Nat.le_of_ble_eq_true rfl⟩ (Nat.le_of_ble_eq_true rfl) ⟨Nat.le_of_ble_eq_true rfl, Nat.le_of_ble_eq_true rfl⟩) hS (fun u1 M2 H locs hM2 hH hS => ?_)
                    obtain ⟨hu, hM⟩ := lqC_f hM2 (fun z => z.1.2.1 (by decide))
                    rw [hu]
                    refine lv_iload C.1 C.2.1 dL_cloth_268 (lv_at hl 0 rfl) ?_
                    refine lv_icmp_ne (tgt := 277) C.1 C.2.1 dL_cloth_270 (by decide) (fun c270 => ?_) (fun c270 => ?_)
                    · exact absurd c270 (by decide)
                    · refine lv_iconst (v := 1) C.1 C.2.1 dL_cloth_273 rfl ?_
                      refine lv_goto (tgt := 278) C.1 C.2.1 dL_cloth_274 (by decide) ?_
                      exact wr_zret () C hr hlocks (rfl) hH hS rfl ((by rw [hM]; exact WS_le hLS (Nat.le_succ n))) (by decide) (by decide) dL_cloth_278
                  · exact absurd c194 (by decide)
              refine lv_iload C.1 C.2.1 dL_cloth_137 (lv_at hl 0 rfl) ?_
              refine lv_if_eq (tgt := 166) C.1 C.2.1 dL_cloth_139 (by decide) (fun c139 => ?_) (fun c139 => ?_)
              · refine lv_iconst (v := 0) C.1 C.2.1 dL_cloth_166 rfl ?_
                exact J167f  ls (hl)
              · exact absurd c139 (by decide)
            refine lv_iload C.1 C.2.1 dL_cloth_113 (lv_at hl 3 rfl) ?_
            refine lv_iconst (v := 3) C.1 C.2.1 dL_cloth_115 rfl ?_
            refine lv_icmp_ge (tgt := 134) C.1 C.2.1 dL_cloth_116 (by decide) (fun c116 => ?_) (fun c116 => ?_)
            · have n116 : 3 ≤ a5 := (nI_leI (a := 3) (b := a5) (by omega) (by omega)).mp c116
              refine lv_iconst (v := 0) C.1 C.2.1 dL_cloth_134 rfl ?_
              exact J135f  ls (hl)
            · have n116 : ¬ 3 ≤ a5 := fun z => c116 ((nI_leI (a := 3) (b := a5) (by omega) (by omega)).mpr z)
              refine lv_iload C.1 C.2.1 dL_cloth_119 (lv_at hl 2 rfl) ?_
              refine lv_iconst (v := 5) C.1 C.2.1 dL_cloth_121 rfl ?_
              refine lv_icmp_ge (tgt := 134) C.1 C.2.1 dL_cloth_122 (by decide) (fun c122 => ?_) (fun c122 => ?_)
              · have n122 : 5 ≤ a6 := (nI_leI (a := 5) (b := a6) (by omega) (by omega)).mp c122
                refine lv_iconst (v := 0) C.1 C.2.1 dL_cloth_134 rfl ?_
                exact J135f  ls (hl)
              · have n122 : ¬ 5 ≤ a6 := fun z => c122 ((nI_leI (a := 5) (b := a6) (by omega) (by omega)).mpr z)
                refine lv_iload C.1 C.2.1 dL_cloth_125 (lv_at hl 1 rfl) ?_
                refine lv_if_lt (tgt := 134) C.1 C.2.1 dL_cloth_127 (by decide) (fun c127 => ?_) (fun c127 => ?_)
                · refine lv_iconst (v := 0) C.1 C.2.1 dL_cloth_134 rfl ?_
                  exact J135f  ls (hl)
                · exact absurd c127 (by decide)
          refine lv_iload_n C.1 C.2.1 dL_cloth_72 rfl (lv_at hl 5 rfl) ?_
          refine lv_bipush (v := 7) C.1 C.2.1 dL_cloth_73 rfl ?_
          refine lv_ishr C.1 C.2.1 dL_cloth_75 ?_
          refine lv_bipush (v := 30) C.1 C.2.1 dL_cloth_76 rfl ?_
          refine some_go (N := 30) (runS C hE hH hS (c_some (n := 30) (N := 30) rfl (by omega) (by omega) (y >>> (7 &&& 31))) mv_L_some wm_121 hl.1 dL_cloth_78 rfl rfl ⟨rfl, rfl⟩ ⟨Nat.le_of_ble_eq_true rfl, Nat.le_of_ble_eq_true rfl⟩ (Nat.le_of_ble_eq_true rfl) ⟨Nat.le_of_ble_eq_true rfl, Nat.le_of_ble_eq_true rfl⟩) rfl (by omega) (by omega) (fun k78 hk78 => ?_)
          refine lv_if_ne (tgt := 99) C.1 C.2.1 dL_cloth_81 (by decide) (fun c81 => ?_) (fun c81 => ?_)
          · have n81 : ¬ k78 = 0 := fun z => c81 (congrArg nI z)
            refine lv_iconst (v := 1) C.1 C.2.1 dL_cloth_99 rfl ?_
            refine lv_iload_n C.1 C.2.1 dL_cloth_100 rfl (lv_at hl 5 rfl) ?_
            refine lv_bipush (v := 7) C.1 C.2.1 dL_cloth_101 rfl ?_
            refine lv_ishr C.1 C.2.1 dL_cloth_103 ?_
            refine lv_sipush (v := 1000) C.1 C.2.1 dL_cloth_104 rfl ?_
            refine some_go (N := 1000) (runS C hE hH hS (c_some (n := 1000) (N := 1000) rfl (by omega) (by omega) (y >>> (7 &&& 31))) mv_L_some wm_121 hl.1 dL_cloth_107 rfl rfl ⟨rfl, rfl⟩ ⟨Nat.le_of_ble_eq_true rfl, Nat.le_of_ble_eq_true rfl⟩ (Nat.le_of_ble_eq_true rfl) ⟨Nat.le_of_ble_eq_true rfl, Nat.le_of_ble_eq_true rfl⟩) rfl (by omega) (by omega) (fun k107 hk107 => ?_)
            refine lv_iadd C.1 C.2.1 dL_cloth_110 ?_
            rw [show ((1 : Int32) + (nI k107)) = nI (1 + k107) from nI_add 1 k107]
            exact J111 (1 + k107) (by omega) ls (hl)
          · have n81 : k78 = 0 := nI_inj (by omega) (by omega) c81
            refine lv_sipush (v := 1001) C.1 C.2.1 dL_cloth_84 rfl ?_
            refine lv_iload_n C.1 C.2.1 dL_cloth_87 rfl (lv_at hl 5 rfl) ?_
            refine lv_bipush (v := 8) C.1 C.2.1 dL_cloth_88 rfl ?_
            refine lv_ishr C.1 C.2.1 dL_cloth_90 ?_
            refine lv_iconst (v := 2) C.1 C.2.1 dL_cloth_91 rfl ?_
            refine some_go (N := 2) (runS C hE hH hS (c_some (n := 2) (N := 2) rfl (by omega) (by omega) (y >>> (8 &&& 31))) mv_L_some wm_121 hl.1 dL_cloth_92 rfl rfl ⟨rfl, rfl⟩ ⟨Nat.le_of_ble_eq_true rfl, Nat.le_of_ble_eq_true rfl⟩ (Nat.le_of_ble_eq_true rfl) ⟨Nat.le_of_ble_eq_true rfl, Nat.le_of_ble_eq_true rfl⟩) rfl (by omega) (by omega) (fun k92 hk92 => ?_)
            refine lv_imul C.1 C.2.1 dL_cloth_95 ?_
            rw [show ((1001 : Int32) * (nI k92)) = nI (1001 * k92) from nI_M 1001 k92]
            refine lv_goto (tgt := 111) C.1 C.2.1 dL_cloth_96 (by decide) ?_
            exact J111 (1001 * k92) (by omega) ls (hl)
        have J70p : ∀ (a7 : Nat) (h7 : a7 < 5) (ls : Array Slot), lv_has ls 13 [(6, .int (nI a6)), (5, .int (nI a5)), (0, .ref x), (1, .int 0), (2, .int y), (3, .ref (la 8)), (4, .ref (la 9))] → W p l e { frames := 9, cells := 7, slots := 235, locals := 155 } s m args below meth c s.heap [] 0 0 (MQ below (wrQ (S := Unit) g (fun u_ => (some (.int 1))) (fun u_ M_ => WS g M_ x la (n + 1))) args s 7 235 (gA g)) (F0 m 70 ls [.int (nI a7)]) := by
          intro a7 h7 ls hl
          refine lv_istore (lv' := [(7, .int (nI a7)), (6, .int (nI a6)), (5, .int (nI a5)), (0, .ref x), (1, .int 0), (2, .int y), (3, .ref (la 8)), (4, .ref (la 9))]) C.1 C.2.1 dL_cloth_70 hl (by decide) rfl (fun ls hl => ?_)
          have J111 : ∀ (a8 : Nat) (h8 : a8 ≤ 1001) (ls : Array Slot), lv_has ls 13 [(7, .int (nI a7)), (6, .int (nI a6)), (5, .int (nI a5)), (0, .ref x), (1, .int 0), (2, .int y), (3, .ref (la 8)), (4, .ref (la 9))] → W p l e { frames := 9, cells := 7, slots := 235, locals := 155 } s m args below meth c s.heap [] 0 0 (MQ below (wrQ (S := Unit) g (fun u_ => (some (.int 1))) (fun u_ M_ => WS g M_ x la (n + 1))) args s 7 235 (gA g)) (F0 m 111 ls [.int (nI a8)]) := by
            intro a8 h8 ls hl
            refine lv_istore (lv' := [(8, .int (nI a8)), (7, .int (nI a7)), (6, .int (nI a6)), (5, .int (nI a5)), (0, .ref x), (1, .int 0), (2, .int y), (3, .ref (la 8)), (4, .ref (la 9))]) C.1 C.2.1 dL_cloth_111 hl (by decide) rfl (fun ls hl => ?_)
            have J135t : ∀ (hf : a5 < 3 ∧ a6 < 5) (ls : Array Slot), lv_has ls 13 [(8, .int (nI a8)), (7, .int (nI a7)), (6, .int (nI a6)), (5, .int (nI a5)), (0, .ref x), (1, .int 0), (2, .int y), (3, .ref (la 8)), (4, .ref (la 9))] → W p l e { frames := 9, cells := 7, slots := 235, locals := 155 } s m args below meth c s.heap [] 0 0 (MQ below (wrQ (S := Unit) g (fun u_ => (some (.int 1))) (fun u_ M_ => WS g M_ x la (n + 1))) args s 7 235 (gA g)) (F0 m 135 ls [.int 1]) := by
              intro  hf ls hl
              refine lv_istore (lv' := [(9, .int 1), (8, .int (nI a8)), (7, .int (nI a7)), (6, .int (nI a6)), (5, .int (nI a5)), (0, .ref x), (1, .int 0), (2, .int y), (3, .ref (la 8)), (4, .ref (la 9))]) C.1 C.2.1 dL_cloth_135 hl (by decide) rfl (fun ls hl => ?_)
              have J167t : ∀ (hw : ¬ a6 = a7 ∧ 0 < a8 ∧ a8 < 1001) (ls : Array Slot), lv_has ls 13 [(9, .int 1), (8, .int (nI a8)), (7, .int (nI a7)), (6, .int (nI a6)), (5, .int (nI a5)), (0, .ref x), (1, .int 0), (2, .int y), (3, .ref (la 8)), (4, .ref (la 9))] → W p l e { frames := 9, cells := 7, slots := 235, locals := 155 } s m args below meth c s.heap [] 0 0 (MQ below (wrQ (S := Unit) g (fun u_ => (some (.int 1))) (fun u_ M_ => WS g M_ x la (n + 1))) args s 7 235 (gA g)) (F0 m 167 ls [.int 1]) := by
                intro  hw ls hl
                refine lv_istore (lv' := [(10, .int 1), (9, .int 1), (8, .int (nI a8)), (7, .int (nI a7)), (6, .int (nI a6)), (5, .int (nI a5)), (0, .ref x), (1, .int 0), (2, .int y), (3, .ref (la 8)), (4, .ref (la 9))]) C.1 C.2.1 dL_cloth_167 hl (by decide) rfl (fun ls hl => ?_)
                refine lv_iload C.1 C.2.1 dL_cloth_169 (lv_at hl 1 rfl) ?_
                refine lv_if_ne (tgt := 179) C.1 C.2.1 dL_cloth_171 (by decide) (fun c171 => ?_) (fun c171 => ?_)
                · refine lv_iload C.1 C.2.1 dL_cloth_179 (lv_at hl 0 rfl) ?_
                  refine lv_if_ne (tgt := 189) C.1 C.2.1 dL_cloth_181 (by decide) (fun c181 => ?_) (fun c181 => ?_)
                  · refine lv_iconst (v := 0) C.1 C.2.1 dL_cloth_189 rfl ?_
                    refine lv_istore (lv' := [(11, .int 0), (10, .int 1), (9, .int 1), (8, .int (nI a8)), (7, .int (nI a7)), (6, .int (nI a6)), (5, .int (nI a5)), (0, .ref x), (1, .int 0), (2, .int y), (3, .ref (la 8)), (4, .ref (la 9))]) C.1 C.2.1 dL_cloth_190 hl (by decide) rfl (fun ls hl => ?_)
                    refine lv_iload C.1 C.2.1 dL_cloth_192 (lv_at hl 1 rfl) ?_
                    refine lv_if_eq (tgt := 256) C.1 C.2.1 dL_cloth_194 (by decide) (fun c194 => ?_) (fun c194 => ?_)
                    · exact absurd c194 (by decide)
                    · refine lv_iload C.1 C.2.1 dL_cloth_197 (lv_at hl 3 rfl) ?_
                      refine lv_bipush (v := 100) C.1 C.2.1 dL_cloth_199 rfl ?_
                      refine lv_aload C.1 C.2.1 dL_cloth_201 (lv_at hl 11 rfl) ?_
                      refine lv_iload C.1 C.2.1 dL_cloth_203 (lv_at hl 6 rfl) ?_
                      refine lald (K := 9) (N := 3) (E := a5) (f := (lf 9)) (v := ((lf 9) a5)) C hE hH hX (by decide) rfl rfl rfl (by omega) (rfl) dL_cloth_205 ?_
                      refine lv_isub C.1 C.2.1 dL_cloth_206 ?_
                      refine lv_imul C.1 C.2.1 dL_cloth_207 ?_
                      refine lv_istore (lv' := [(12, .int ((nI a8) * (100 - ((lf 9) a5)))), (11, .int 0), (10, .int 1), (9, .int 1), (8, .int (nI a8)), (7, .int (nI a7)), (6, .int (nI a6)), (5, .int (nI a5)), (0, .ref x), (1, .int 0), (2, .int y), (3, .ref (la 8)), (4, .ref (la 9))]) C.1 C.2.1 dL_cloth_208 hl (by decide) rfl (fun ls hl => ?_)
                      refine lv_aload_n C.1 C.2.1 dL_cloth_210 rfl (lv_at hl 11 rfl) ?_
                      refine lv_bipush (v := 25) C.1 C.2.1 dL_cloth_211 rfl ?_
                      refine lv_iload C.1 C.2.1 dL_cloth_213 (lv_at hl 7 rfl) ?_
                      refine lv_imul C.1 C.2.1 dL_cloth_215 ?_
                      rw [show ((25 : Int32) * (nI a5)) = nI (25 * a5) from nI_M 25 a5]
                      refine lv_iconst (v := 5) C.1 C.2.1 dL_cloth_216 rfl ?_
                      refine lv_iload C.1 C.2.1 dL_cloth_217 (lv_at hl 5 rfl) ?_
                      refine lv_imul C.1 C.2.1 dL_cloth_219 ?_
                      rw [show ((5 : Int32) * (nI a7)) = nI (5 * a7) from nI_M 5 a7]
                      refine lv_iadd C.1 C.2.1 dL_cloth_220 ?_
                      rw [show ((nI (25 * a5)) + (nI (5 * a7)) : Int32) = nI (25 * a5 + 5 * a7) from nI_add (25 * a5) (5 * a7)]
                      refine lv_iload C.1 C.2.1 dL_cloth_221 (lv_at hl 6 rfl) ?_
                      refine lv_iadd C.1 C.2.1 dL_cloth_223 ?_
                      rw [show ((nI (25 * a5 + 5 * a7)) + (nI a6) : Int32) = nI (25 * a5 + 5 * a7 + a6) from nI_add (25 * a5 + 5 * a7) a6]
                      refine lv_dup2_11 C.1 C.2.1 dL_cloth_224 rfl rfl ?_
                      refine lald (K := 8) (N := 50) (E := 25 * a5 + 5 * a7 + a6) (f := (lf 8)) (v := ((lf 8) (25 * a5 + 5 * a7 + a6))) C hE hH hX (by decide) rfl rfl rfl (by omega) (rfl) dL_cloth_225 ?_
                      refine lv_iload C.1 C.2.1 dL_cloth_226 (lv_at hl 0 rfl) ?_
                      refine lv_iload C.1 C.2.1 dL_cloth_228 (lv_at hl 0 rfl) ?_
                      refine lv_bipush (v := 100) C.1 C.2.1 dL_cloth_230 rfl ?_
                      refine lv_irem C.1 C.2.1 dL_cloth_232 (by decide) ?_
                      refine lv_isub C.1 C.2.1 dL_cloth_233 ?_
                      refine lv_bipush (v := 100) C.1 C.2.1 dL_cloth_234 rfl ?_
                      refine lv_idiv C.1 C.2.1 dL_cloth_236 (by decide) ?_
                      refine lv_iadd C.1 C.2.1 dL_cloth_237 ?_
                      refine last (K := 8) (N := 50) (E := 25 * a5 + 5 * a7 + a6) (f := (lf 8)) C hE hH hS hX (by decide) rfl rfl rfl (by omega) dL_cloth_238 (fun M3 H locs hX4 hH hS => ?_)
                      have hIM3 := WS_up hI hX4 hT (ed_no hE hH)
                      refine lv_aload_n C.1 C.2.1 dL_cloth_239 rfl (lv_at hl 11 rfl) ?_
                      refine lv_bipush (v := 25) C.1 C.2.1 dL_cloth_240 rfl ?_
                      refine lv_iload C.1 C.2.1 dL_cloth_242 (lv_at hl 7 rfl) ?_
                      refine lv_imul C.1 C.2.1 dL_cloth_244 ?_
                      rw [show ((25 : Int32) * (nI a5)) = nI (25 * a5) from nI_M 25 a5]
                      refine lv_iconst (v := 5) C.1 C.2.1 dL_cloth_245 rfl ?_
                      refine lv_iload C.1 C.2.1 dL_cloth_246 (lv_at hl 5 rfl) ?_
                      refine lv_imul C.1 C.2.1 dL_cloth_248 ?_
                      rw [show ((5 : Int32) * (nI a7)) = nI (5 * a7) from nI_M 5 a7]
                      refine lv_iadd C.1 C.2.1 dL_cloth_249 ?_
                      rw [show ((nI (25 * a5)) + (nI (5 * a7)) : Int32) = nI (25 * a5 + 5 * a7) from nI_add (25 * a5) (5 * a7)]
                      refine lv_iload C.1 C.2.1 dL_cloth_250 (lv_at hl 6 rfl) ?_
                      refine lv_iadd C.1 C.2.1 dL_cloth_252 ?_
                      rw [show ((nI (25 * a5 + 5 * a7)) + (nI a6) : Int32) = nI (25 * a5 + 5 * a7 + a6) from nI_add (25 * a5 + 5 * a7) a6]
                      refine lald (K := 8) (N := 50) (E := 25 * a5 + 5 * a7 + a6) (f := (upd (lf 8) (25 * a5 + 5 * a7 + a6) (((lf 8) (25 * a5 + 5 * a7 + a6)) + ((((nI a8) * (100 - ((lf 9) a5))) - (((nI a8) * (100 - ((lf 9) a5))) - ((nI a8) * (100 - ((lf 9) a5))) / 100 * 100)) / 100)))) (v := ((lf 8) (25 * a5 + 5 * a7 + a6) + ((nI a8) * (100 - ((lf 9) a5)) - ((nI a8) * (100 - ((lf 9) a5)) - (nI a8) * (100 - ((lf 9) a5)) / 100 * 100)) / 100)) C hE hH hX4 (by decide) rfl rfl rfl (by omega) (upd_s) dL_cloth_253 ?_
                      refine lv_istore (lv' := [(11, .int ((lf 8) (25 * a5 + 5 * a7 + a6) + ((nI a8) * (100 - ((lf 9) a5)) - ((nI a8) * (100 - ((lf 9) a5)) - (nI a8) * (100 - ((lf 9) a5)) / 100 * 100)) / 100)), (12, .int ((nI a8) * (100 - ((lf 9) a5)))), (10, .int 1), (9, .int 1), (8, .int (nI a8)), (7, .int (nI a7)), (6, .int (nI a6)), (5, .int (nI a5)), (0, .ref x), (1, .int 0), (2, .int y), (3, .ref (la 8)), (4, .ref (la 9))]) C.1 C.2.1 dL_cloth_254 hl (by decide) rfl (fun ls hl => ?_)
                      refine lv_aload_n C.1 C.2.1 dL_cloth_256 rfl (lv_at hl 8 rfl) ?_
                      refine lv_iload C.1 C.2.1 dL_cloth_257 (lv_at hl 6 rfl) ?_
                      refine lv_iload C.1 C.2.1 dL_cloth_259 (lv_at hl 5 rfl) ?_
                      refine lv_iload C.1 C.2.1 dL_cloth_261 (lv_at hl 7 rfl) ?_
                      refine lv_iload C.1 C.2.1 dL_cloth_263 (lv_at hl 4 rfl) ?_
                      refine wr_go1 (runT C hE hH hS (l_give hlx hIM3 (nI a6) (nI a7) (nI a5) (nI a8)) mv_L_gives wm_680 hl.1 dL_cloth_265 rfl rfl ⟨rfl, rfl⟩ ⟨Nat.le_of_ble_eq_true rfl, Nat.le_of_ble_eq_true rfl⟩ (Nat.le_of_ble_eq_true rfl) ⟨Nat.le_of_ble_eq_true rfl, Nat.le_of_ble_eq_true rfl⟩) hS (fun u5 M6 H locs hM6 hH hS => ?_)
                      rw [nI_clamp (show a5 < 2 ^ 31 by omega), nI_clamp (show a6 < 2 ^ 31 by omega), nI_clamp (show a7 < 2 ^ 31 by omega)] at hM6
                      have hz := zsh_rng (nI_rng (a := a8) (l := 1) (h := 1000) (by omega) (by omega) (by omega)) (iC.2 a5 (by omega)).2.1
                      have hge := give_eq (nI_rng (a := a8) (l := 1) (h := 1000) (by omega) (by omega) (by omega)) (iC.2 a5 (by omega)).2.1
                      have hv : (lf 8) (25 * a5 + 5 * a7 + a6) + ((nI a8) * (100 - ((lf 9) a5)) - ((nI a8) * (100 - ((lf 9) a5)) - (nI a8) * (100 - ((lf 9) a5)) / 100 * 100)) / 100 = ar 21 (25 * a5 + 5 * a7 + a6) + zsh (nI a8) (ar 20 a5) := by rw [rD _ (by omega), rZ a5 (by omega), hge]
                      obtain ⟨hu, hx⟩ := lqC_t hM6 ⟨⟨(inx_n (a := a6) (n := 5) (by omega) (by omega)).mpr (by omega), (inx_n (a := a7) (n := 5) (by omega) (by omega)).mpr (by omega)⟩, (inx_n (a := a5) (n := 3) (by omega) (by omega)).mpr (by omega)⟩ ⟨fun w => hw.1 (nI_inj (by omega) (by omega) w), (inr_1 (a := a8) (n := 1000) (by omega) (by omega)).mpr (by omega)⟩ (deb_le hN hn (by omega) (by omega) (by omega) hz.1 hz.2)
                      have hu : u5 = (lf 8) (25 * a5 + 5 * a7 + a6) + ((nI a8) * (100 - ((lf 9) a5)) - ((nI a8) * (100 - ((lf 9) a5)) - (nI a8) * (100 - ((lf 9) a5)) / 100 * 100)) / 100 := hu.trans (hv.symm)
                      rw [hu]
                      have hXr := LX_rf (LI_rx hx hX4.1 hT)
                      refine lv_iload C.1 C.2.1 dL_cloth_268 (lv_at hl 0 rfl) ?_
                      refine lv_icmp_ne (tgt := 277) C.1 C.2.1 dL_cloth_270 (by decide) (fun c270 => ?_) (fun c270 => ?_)
                      · exact absurd rfl c270
                      · refine lv_iconst (v := 1) C.1 C.2.1 dL_cloth_273 rfl ?_
                        refine lv_goto (tgt := 278) C.1 C.2.1 dL_cloth_274 (by decide) ?_
                        exact wr_zret () C hr hlocks (rfl) hH hS rfl (WS_mk hx hX4.1 hT ⟨hs0, hs5, hs9⟩ (by rw [hv]; exact LR_give hR) (krN_give hN (by omega) (by omega) (by omega) (by omega) rfl hz.1 hz.2)) (by decide) (by decide) dL_cloth_278
                  · exact absurd c181 (by decide)
                · exact absurd c171 (by decide)
              have J167f : ∀ (hw : ¬ (¬ a6 = a7 ∧ 0 < a8 ∧ a8 < 1001)) (ls : Array Slot), lv_has ls 13 [(9, .int 1), (8, .int (nI a8)), (7, .int (nI a7)), (6, .int (nI a6)), (5, .int (nI a5)), (0, .ref x), (1, .int 0), (2, .int y), (3, .ref (la 8)), (4, .ref (la 9))] → W p l e { frames := 9, cells := 7, slots := 235, locals := 155 } s m args below meth c s.heap [] 0 0 (MQ below (wrQ (S := Unit) g (fun u_ => (some (.int 1))) (fun u_ M_ => WS g M_ x la (n + 1))) args s 7 235 (gA g)) (F0 m 167 ls [.int 0]) := by
                intro  hw ls hl
                refine lv_istore (lv' := [(10, .int 0), (9, .int 1), (8, .int (nI a8)), (7, .int (nI a7)), (6, .int (nI a6)), (5, .int (nI a5)), (0, .ref x), (1, .int 0), (2, .int y), (3, .ref (la 8)), (4, .ref (la 9))]) C.1 C.2.1 dL_cloth_167 hl (by decide) rfl (fun ls hl => ?_)
                refine lv_iload C.1 C.2.1 dL_cloth_169 (lv_at hl 1 rfl) ?_
                refine lv_if_ne (tgt := 179) C.1 C.2.1 dL_cloth_171 (by decide) (fun c171 => ?_) (fun c171 => ?_)
                · refine lv_iload C.1 C.2.1 dL_cloth_179 (lv_at hl 0 rfl) ?_
                  refine lv_if_ne (tgt := 189) C.1 C.2.1 dL_cloth_181 (by decide) (fun c181 => ?_) (fun c181 => ?_)
                  · exact absurd c181 (by decide)
                  · refine lv_bipush (v := -102) C.1 C.2.1 dL_cloth_184 rfl ?_
                    refine lv_goto (tgt := 190) C.1 C.2.1 dL_cloth_186 (by decide) ?_
                    refine lv_istore (lv' := [(11, .int (-102)), (10, .int 0), (9, .int 1), (8, .int (nI a8)), (7, .int (nI a7)), (6, .int (nI a6)), (5, .int (nI a5)), (0, .ref x), (1, .int 0), (2, .int y), (3, .ref (la 8)), (4, .ref (la 9))]) C.1 C.2.1 dL_cloth_190 hl (by decide) rfl (fun ls hl => ?_)
                    refine lv_iload C.1 C.2.1 dL_cloth_192 (lv_at hl 1 rfl) ?_
                    refine lv_if_eq (tgt := 256) C.1 C.2.1 dL_cloth_194 (by decide) (fun c194 => ?_) (fun c194 => ?_)
                    · refine lv_aload_n C.1 C.2.1 dL_cloth_256 rfl (lv_at hl 7 rfl) ?_
                      refine lv_iload C.1 C.2.1 dL_cloth_257 (lv_at hl 5 rfl) ?_
                      refine lv_iload C.1 C.2.1 dL_cloth_259 (lv_at hl 4 rfl) ?_
                      refine lv_iload C.1 C.2.1 dL_cloth_261 (lv_at hl 6 rfl) ?_
                      refine lv_iload C.1 C.2.1 dL_cloth_263 (lv_at hl 3 rfl) ?_
                      refine wr_go1 (runT C hE hH hS (l_give hlx hI (nI a6) (nI a7) (nI a5) (nI a8)) mv_L_gives wm_680 hl.1 dL_cloth_265 rfl rfl ⟨rfl, rfl⟩ ⟨Nat.le_of_ble_eq_true rfl, Nat.le_of_ble_eq_true rfl⟩ (Nat.le_of_ble_eq_true rfl) ⟨Nat.le_of_ble_eq_true rfl, Nat.le_of_ble_eq_true rfl⟩) hS (fun u7 M8 H locs hM8 hH hS => ?_)
                      obtain ⟨hu, hM⟩ := lqC_g hM8 ⟨⟨(inx_n (a := a6) (n := 5) (by omega) (by omega)).mpr (by omega), (inx_n (a := a7) (n := 5) (by omega) (by omega)).mpr (by omega)⟩, (inx_n (a := a5) (n := 3) (by omega) (by omega)).mpr (by omega)⟩ (fun z => hw ⟨fun w => z.1 (congrArg nI w), by have z1 := (inr_1 (a := a8) (n := 1000) (by omega) (by omega)).mp z.2; omega⟩)
                      rw [hu]
                      refine lv_iload C.1 C.2.1 dL_cloth_268 (lv_at hl 0 rfl) ?_
                      refine lv_icmp_ne (tgt := 277) C.1 C.2.1 dL_cloth_270 (by decide) (fun c270 => ?_) (fun c270 => ?_)
                      · exact absurd c270 (by decide)
                      · refine lv_iconst (v := 1) C.1 C.2.1 dL_cloth_273 rfl ?_
                        refine lv_goto (tgt := 278) C.1 C.2.1 dL_cloth_274 (by decide) ?_
                        exact wr_zret () C hr hlocks (rfl) hH hS rfl ((by rw [hM]; exact WS_le hLS (Nat.le_succ n))) (by decide) (by decide) dL_cloth_278
                    · exact absurd c194 (by decide)
                · exact absurd c171 (by decide)
              refine lv_iload C.1 C.2.1 dL_cloth_137 (lv_at hl 0 rfl) ?_
              refine lv_if_eq (tgt := 166) C.1 C.2.1 dL_cloth_139 (by decide) (fun c139 => ?_) (fun c139 => ?_)
              · exact absurd c139 (by decide)
              · refine lv_iload C.1 C.2.1 dL_cloth_142 (lv_at hl 3 rfl) ?_
                refine lv_iload C.1 C.2.1 dL_cloth_144 (lv_at hl 2 rfl) ?_
                refine lv_icmp_eq (tgt := 166) C.1 C.2.1 dL_cloth_146 (by decide) (fun c146 => ?_) (fun c146 => ?_)
                · have n146 : a6 = a7 := nI_inj (by omega) (by omega) c146
                  refine lv_iconst (v := 0) C.1 C.2.1 dL_cloth_166 rfl ?_
                  exact J167f (by omega) ls (hl)
                · have n146 : ¬ a6 = a7 := fun z => c146 (congrArg nI z)
                  refine lv_iload C.1 C.2.1 dL_cloth_149 (lv_at hl 1 rfl) ?_
                  refine lv_if_le (tgt := 166) C.1 C.2.1 dL_cloth_151 (by decide) (fun c151 => ?_) (fun c151 => ?_)
                  · have n151 : a8 ≤ 0 := (nI_leI (a := a8) (b := 0) (by omega) (by omega)).mp c151
                    refine lv_iconst (v := 0) C.1 C.2.1 dL_cloth_166 rfl ?_
                    exact J167f (by omega) ls (hl)
                  · have n151 : ¬ a8 ≤ 0 := fun z => c151 ((nI_leI (a := a8) (b := 0) (by omega) (by omega)).mpr z)
                    refine lv_iload C.1 C.2.1 dL_cloth_154 (lv_at hl 1 rfl) ?_
                    refine lv_sipush (v := 1001) C.1 C.2.1 dL_cloth_156 rfl ?_
                    refine lv_icmp_ge (tgt := 166) C.1 C.2.1 dL_cloth_159 (by decide) (fun c159 => ?_) (fun c159 => ?_)
                    · have n159 : 1001 ≤ a8 := (nI_leI (a := 1001) (b := a8) (by omega) (by omega)).mp c159
                      refine lv_iconst (v := 0) C.1 C.2.1 dL_cloth_166 rfl ?_
                      exact J167f (by omega) ls (hl)
                    · have n159 : ¬ 1001 ≤ a8 := fun z => c159 ((nI_leI (a := 1001) (b := a8) (by omega) (by omega)).mpr z)
                      refine lv_iconst (v := 1) C.1 C.2.1 dL_cloth_162 rfl ?_
                      refine lv_goto (tgt := 167) C.1 C.2.1 dL_cloth_163 (by decide) ?_
                      exact J167t (by omega) ls (hl)
            have J135f : ∀ (hf : ¬ (a5 < 3 ∧ a6 < 5)) (ls : Array Slot), lv_has ls 13 [(8, .int (nI a8)), (7, .int (nI a7)), (6, .int (nI a6)), (5, .int (nI a5)), (0, .ref x), (1, .int 0), (2, .int y), (3, .ref (la 8)), (4, .ref (la 9))] → W p l e { frames := 9, cells := 7, slots := 235, locals := 155 } s m args below meth c s.heap [] 0 0 (MQ below (wrQ (S := Unit) g (fun u_ => (some (.int 1))) (fun u_ M_ => WS g M_ x la (n + 1))) args s 7 235 (gA g)) (F0 m 135 ls [.int 0]) := by
              intro  hf ls hl
              refine lv_istore (lv' := [(9, .int 0), (8, .int (nI a8)), (7, .int (nI a7)), (6, .int (nI a6)), (5, .int (nI a5)), (0, .ref x), (1, .int 0), (2, .int y), (3, .ref (la 8)), (4, .ref (la 9))]) C.1 C.2.1 dL_cloth_135 hl (by decide) rfl (fun ls hl => ?_)
              have J167f : ∀ (ls : Array Slot), lv_has ls 13 [(9, .int 0), (8, .int (nI a8)), (7, .int (nI a7)), (6, .int (nI a6)), (5, .int (nI a5)), (0, .ref x), (1, .int 0), (2, .int y), (3, .ref (la 8)), (4, .ref (la 9))] → W p l e { frames := 9, cells := 7, slots := 235, locals := 155 } s m args below meth c s.heap [] 0 0 (MQ below (wrQ (S := Unit) g (fun u_ => (some (.int 1))) (fun u_ M_ => WS g M_ x la (n + 1))) args s 7 235 (gA g)) (F0 m 167 ls [.int 0]) := by
                intro   ls hl
                refine lv_istore (lv' := [(10, .int 0), (9, .int 0), (8, .int (nI a8)), (7, .int (nI a7)), (6, .int (nI a6)), (5, .int (nI a5)), (0, .ref x), (1, .int 0), (2, .int y), (3, .ref (la 8)), (4, .ref (la 9))]) C.1 C.2.1 dL_cloth_167 hl (by decide) rfl (fun ls hl => ?_)
                refine lv_iload C.1 C.2.1 dL_cloth_169 (lv_at hl 1 rfl) ?_
                refine lv_if_ne (tgt := 179) C.1 C.2.1 dL_cloth_171 (by decide) (fun c171 => ?_) (fun c171 => ?_)
                · exact absurd c171 (by decide)
                · refine lv_bipush (v := -101) C.1 C.2.1 dL_cloth_174 rfl ?_
                  refine lv_goto (tgt := 190) C.1 C.2.1 dL_cloth_176 (by decide) ?_
                  refine lv_istore (lv' := [(11, .int (-101)), (10, .int 0), (9, .int 0), (8, .int (nI a8)), (7, .int (nI a7)), (6, .int (nI a6)), (5, .int (nI a5)), (0, .ref x), (1, .int 0), (2, .int y), (3, .ref (la 8)), (4, .ref (la 9))]) C.1 C.2.1 dL_cloth_190 hl (by decide) rfl (fun ls hl => ?_)
                  refine lv_iload C.1 C.2.1 dL_cloth_192 (lv_at hl 1 rfl) ?_
                  refine lv_if_eq (tgt := 256) C.1 C.2.1 dL_cloth_194 (by decide) (fun c194 => ?_) (fun c194 => ?_)
                  · refine lv_aload_n C.1 C.2.1 dL_cloth_256 rfl (lv_at hl 7 rfl) ?_
                    refine lv_iload C.1 C.2.1 dL_cloth_257 (lv_at hl 5 rfl) ?_
                    refine lv_iload C.1 C.2.1 dL_cloth_259 (lv_at hl 4 rfl) ?_
                    refine lv_iload C.1 C.2.1 dL_cloth_261 (lv_at hl 6 rfl) ?_
                    refine lv_iload C.1 C.2.1 dL_cloth_263 (lv_at hl 3 rfl) ?_
                    refine wr_go1 (runT C hE hH hS (l_give hlx hI (nI a6) (nI a7) (nI a5) (nI a8)) mv_L_gives wm_680 hl.1 dL_cloth_265 rfl rfl ⟨rfl, rfl⟩ ⟨Nat.le_of_ble_eq_true rfl, Nat.le_of_ble_eq_true rfl⟩ (Nat.le_of_ble_eq_true rfl) ⟨Nat.le_of_ble_eq_true rfl, Nat.le_of_ble_eq_true rfl⟩) hS (fun u9 M10 H locs hM10 hH hS => ?_)
                    obtain ⟨hu, hM⟩ := lqC_f hM10 (fun z => hf ⟨(inx_n (a := a5) (n := 3) (by omega) (by omega)).mp z.2, (inx_n (a := a6) (n := 5) (by omega) (by omega)).mp z.1.1⟩)
                    rw [hu]
                    refine lv_iload C.1 C.2.1 dL_cloth_268 (lv_at hl 0 rfl) ?_
                    refine lv_icmp_ne (tgt := 277) C.1 C.2.1 dL_cloth_270 (by decide) (fun c270 => ?_) (fun c270 => ?_)
                    · exact absurd c270 (by decide)
                    · refine lv_iconst (v := 1) C.1 C.2.1 dL_cloth_273 rfl ?_
                      refine lv_goto (tgt := 278) C.1 C.2.1 dL_cloth_274 (by decide) ?_
                      exact wr_zret () C hr hlocks (rfl) hH hS rfl ((by rw [hM]; exact WS_le hLS (Nat.le_succ n))) (by decide) (by decide) dL_cloth_278
                  · exact absurd c194 (by decide)
              refine lv_iload C.1 C.2.1 dL_cloth_137 (lv_at hl 0 rfl) ?_
              refine lv_if_eq (tgt := 166) C.1 C.2.1 dL_cloth_139 (by decide) (fun c139 => ?_) (fun c139 => ?_)
              · refine lv_iconst (v := 0) C.1 C.2.1 dL_cloth_166 rfl ?_
                exact J167f  ls (hl)
              · exact absurd c139 (by decide)
            refine lv_iload C.1 C.2.1 dL_cloth_113 (lv_at hl 3 rfl) ?_
            refine lv_iconst (v := 3) C.1 C.2.1 dL_cloth_115 rfl ?_
            refine lv_icmp_ge (tgt := 134) C.1 C.2.1 dL_cloth_116 (by decide) (fun c116 => ?_) (fun c116 => ?_)
            · have n116 : 3 ≤ a5 := (nI_leI (a := 3) (b := a5) (by omega) (by omega)).mp c116
              refine lv_iconst (v := 0) C.1 C.2.1 dL_cloth_134 rfl ?_
              exact J135f (by omega) ls (hl)
            · have n116 : ¬ 3 ≤ a5 := fun z => c116 ((nI_leI (a := 3) (b := a5) (by omega) (by omega)).mpr z)
              refine lv_iload C.1 C.2.1 dL_cloth_119 (lv_at hl 2 rfl) ?_
              refine lv_iconst (v := 5) C.1 C.2.1 dL_cloth_121 rfl ?_
              refine lv_icmp_ge (tgt := 134) C.1 C.2.1 dL_cloth_122 (by decide) (fun c122 => ?_) (fun c122 => ?_)
              · have n122 : 5 ≤ a6 := (nI_leI (a := 5) (b := a6) (by omega) (by omega)).mp c122
                refine lv_iconst (v := 0) C.1 C.2.1 dL_cloth_134 rfl ?_
                exact J135f (by omega) ls (hl)
              · have n122 : ¬ 5 ≤ a6 := fun z => c122 ((nI_leI (a := 5) (b := a6) (by omega) (by omega)).mpr z)
                refine lv_iload C.1 C.2.1 dL_cloth_125 (lv_at hl 1 rfl) ?_
                refine lv_if_lt (tgt := 134) C.1 C.2.1 dL_cloth_127 (by decide) (fun c127 => ?_) (fun c127 => ?_)
                · exact absurd (n_ge (by omega) (by decide)) (n_nlt c127)
                · refine lv_iconst (v := 1) C.1 C.2.1 dL_cloth_130 rfl ?_
                  refine lv_goto (tgt := 135) C.1 C.2.1 dL_cloth_131 (by decide) ?_
                  exact J135t (by omega) ls (hl)
          refine lv_iload_n C.1 C.2.1 dL_cloth_72 rfl (lv_at hl 5 rfl) ?_
          refine lv_bipush (v := 7) C.1 C.2.1 dL_cloth_73 rfl ?_
          refine lv_ishr C.1 C.2.1 dL_cloth_75 ?_
          refine lv_bipush (v := 30) C.1 C.2.1 dL_cloth_76 rfl ?_
          refine some_go (N := 30) (runS C hE hH hS (c_some (n := 30) (N := 30) rfl (by omega) (by omega) (y >>> (7 &&& 31))) mv_L_some wm_121 hl.1 dL_cloth_78 rfl rfl ⟨rfl, rfl⟩ ⟨Nat.le_of_ble_eq_true rfl, Nat.le_of_ble_eq_true rfl⟩ (Nat.le_of_ble_eq_true rfl) ⟨Nat.le_of_ble_eq_true rfl, Nat.le_of_ble_eq_true rfl⟩) rfl (by omega) (by omega) (fun k78 hk78 => ?_)
          refine lv_if_ne (tgt := 99) C.1 C.2.1 dL_cloth_81 (by decide) (fun c81 => ?_) (fun c81 => ?_)
          · have n81 : ¬ k78 = 0 := fun z => c81 (congrArg nI z)
            refine lv_iconst (v := 1) C.1 C.2.1 dL_cloth_99 rfl ?_
            refine lv_iload_n C.1 C.2.1 dL_cloth_100 rfl (lv_at hl 5 rfl) ?_
            refine lv_bipush (v := 7) C.1 C.2.1 dL_cloth_101 rfl ?_
            refine lv_ishr C.1 C.2.1 dL_cloth_103 ?_
            refine lv_sipush (v := 1000) C.1 C.2.1 dL_cloth_104 rfl ?_
            refine some_go (N := 1000) (runS C hE hH hS (c_some (n := 1000) (N := 1000) rfl (by omega) (by omega) (y >>> (7 &&& 31))) mv_L_some wm_121 hl.1 dL_cloth_107 rfl rfl ⟨rfl, rfl⟩ ⟨Nat.le_of_ble_eq_true rfl, Nat.le_of_ble_eq_true rfl⟩ (Nat.le_of_ble_eq_true rfl) ⟨Nat.le_of_ble_eq_true rfl, Nat.le_of_ble_eq_true rfl⟩) rfl (by omega) (by omega) (fun k107 hk107 => ?_)
            refine lv_iadd C.1 C.2.1 dL_cloth_110 ?_
            rw [show ((1 : Int32) + (nI k107)) = nI (1 + k107) from nI_add 1 k107]
            exact J111 (1 + k107) (by omega) ls (hl)
          · have n81 : k78 = 0 := nI_inj (by omega) (by omega) c81
            refine lv_sipush (v := 1001) C.1 C.2.1 dL_cloth_84 rfl ?_
            refine lv_iload_n C.1 C.2.1 dL_cloth_87 rfl (lv_at hl 5 rfl) ?_
            refine lv_bipush (v := 8) C.1 C.2.1 dL_cloth_88 rfl ?_
            refine lv_ishr C.1 C.2.1 dL_cloth_90 ?_
            refine lv_iconst (v := 2) C.1 C.2.1 dL_cloth_91 rfl ?_
            refine some_go (N := 2) (runS C hE hH hS (c_some (n := 2) (N := 2) rfl (by omega) (by omega) (y >>> (8 &&& 31))) mv_L_some wm_121 hl.1 dL_cloth_92 rfl rfl ⟨rfl, rfl⟩ ⟨Nat.le_of_ble_eq_true rfl, Nat.le_of_ble_eq_true rfl⟩ (Nat.le_of_ble_eq_true rfl) ⟨Nat.le_of_ble_eq_true rfl, Nat.le_of_ble_eq_true rfl⟩) rfl (by omega) (by omega) (fun k92 hk92 => ?_)
            refine lv_imul C.1 C.2.1 dL_cloth_95 ?_
            rw [show ((1001 : Int32) * (nI k92)) = nI (1001 * k92) from nI_M 1001 k92]
            refine lv_goto (tgt := 111) C.1 C.2.1 dL_cloth_96 (by decide) ?_
            exact J111 (1001 * k92) (by omega) ls (hl)
        refine lv_iload_n C.1 C.2.1 dL_cloth_48 rfl (lv_at hl 4 rfl) ?_
        refine lv_iconst (v := 5) C.1 C.2.1 dL_cloth_49 rfl ?_
        refine lv_ishr C.1 C.2.1 dL_cloth_50 ?_
        refine lv_bipush (v := 40) C.1 C.2.1 dL_cloth_51 rfl ?_
        refine some_go (N := 40) (runS C hE hH hS (c_some (n := 40) (N := 40) rfl (by omega) (by omega) (y >>> (5 &&& 31))) mv_L_some wm_121 hl.1 dL_cloth_53 rfl rfl ⟨rfl, rfl⟩ ⟨Nat.le_of_ble_eq_true rfl, Nat.le_of_ble_eq_true rfl⟩ (Nat.le_of_ble_eq_true rfl) ⟨Nat.le_of_ble_eq_true rfl, Nat.le_of_ble_eq_true rfl⟩) rfl (by omega) (by omega) (fun k53 hk53 => ?_)
        refine lv_if_ne (tgt := 63) C.1 C.2.1 dL_cloth_56 (by decide) (fun c56 => ?_) (fun c56 => ?_)
        · have n56 : ¬ k53 = 0 := fun z => c56 (congrArg nI z)
          refine lv_iload_n C.1 C.2.1 dL_cloth_63 rfl (lv_at hl 4 rfl) ?_
          refine lv_iconst (v := 5) C.1 C.2.1 dL_cloth_64 rfl ?_
          refine lv_ishr C.1 C.2.1 dL_cloth_65 ?_
          refine lv_iconst (v := 5) C.1 C.2.1 dL_cloth_66 rfl ?_
          refine some_go (N := 5) (runS C hE hH hS (c_some (n := 5) (N := 5) rfl (by omega) (by omega) (y >>> (5 &&& 31))) mv_L_some wm_121 hl.1 dL_cloth_67 rfl rfl ⟨rfl, rfl⟩ ⟨Nat.le_of_ble_eq_true rfl, Nat.le_of_ble_eq_true rfl⟩ (Nat.le_of_ble_eq_true rfl) ⟨Nat.le_of_ble_eq_true rfl, Nat.le_of_ble_eq_true rfl⟩) rfl (by omega) (by omega) (fun k67 hk67 => ?_)
          exact J70p k67 (by omega) ls (hl)
        · have n56 : k53 = 0 := nI_inj (by omega) (by omega) c56
          refine lv_iconst (v := -1) C.1 C.2.1 dL_cloth_59 rfl ?_
          refine lv_goto (tgt := 70) C.1 C.2.1 dL_cloth_60 (by decide) ?_
          exact J70m  ls (hl)
      refine lv_iload_n C.1 C.2.1 dL_cloth_24 rfl (lv_at hl 3 rfl) ?_
      refine lv_iconst (v := 3) C.1 C.2.1 dL_cloth_25 rfl ?_
      refine lv_ishr C.1 C.2.1 dL_cloth_26 ?_
      refine lv_bipush (v := 40) C.1 C.2.1 dL_cloth_27 rfl ?_
      refine some_go (N := 40) (runS C hE hH hS (c_some (n := 40) (N := 40) rfl (by omega) (by omega) (y >>> (3 &&& 31))) mv_L_some wm_121 hl.1 dL_cloth_29 rfl rfl ⟨rfl, rfl⟩ ⟨Nat.le_of_ble_eq_true rfl, Nat.le_of_ble_eq_true rfl⟩ (Nat.le_of_ble_eq_true rfl) ⟨Nat.le_of_ble_eq_true rfl, Nat.le_of_ble_eq_true rfl⟩) rfl (by omega) (by omega) (fun k29 hk29 => ?_)
      refine lv_if_ne (tgt := 39) C.1 C.2.1 dL_cloth_32 (by decide) (fun c32 => ?_) (fun c32 => ?_)
      · have n32 : ¬ k29 = 0 := fun z => c32 (congrArg nI z)
        refine lv_iload_n C.1 C.2.1 dL_cloth_39 rfl (lv_at hl 3 rfl) ?_
        refine lv_iconst (v := 3) C.1 C.2.1 dL_cloth_40 rfl ?_
        refine lv_ishr C.1 C.2.1 dL_cloth_41 ?_
        refine lv_iconst (v := 5) C.1 C.2.1 dL_cloth_42 rfl ?_
        refine some_go (N := 5) (runS C hE hH hS (c_some (n := 5) (N := 5) rfl (by omega) (by omega) (y >>> (3 &&& 31))) mv_L_some wm_121 hl.1 dL_cloth_43 rfl rfl ⟨rfl, rfl⟩ ⟨Nat.le_of_ble_eq_true rfl, Nat.le_of_ble_eq_true rfl⟩ (Nat.le_of_ble_eq_true rfl) ⟨Nat.le_of_ble_eq_true rfl, Nat.le_of_ble_eq_true rfl⟩) rfl (by omega) (by omega) (fun k43 hk43 => ?_)
        exact J46 k43 (by omega) ls (hl)
      · have n32 : k29 = 0 := nI_inj (by omega) (by omega) c32
        refine lv_iconst (v := 5) C.1 C.2.1 dL_cloth_35 rfl ?_
        refine lv_goto (tgt := 46) C.1 C.2.1 dL_cloth_36 (by decide) ?_
        exact J46 5 (by omega) ls (hl)
  refine lv_iload_n C.1 C.2.1 dL_cloth_0 rfl (lv_at hl 2 rfl) ?_
  refine lv_bipush (v := 40) C.1 C.2.1 dL_cloth_1 rfl ?_
  refine some_go (N := 40) (runS C hE hH hS (c_some (n := 40) (N := 40) rfl (by omega) (by omega) y) mv_L_some wm_121 hl.1 dL_cloth_3 rfl rfl ⟨rfl, rfl⟩ ⟨Nat.le_of_ble_eq_true rfl, Nat.le_of_ble_eq_true rfl⟩ (Nat.le_of_ble_eq_true rfl) ⟨Nat.le_of_ble_eq_true rfl, Nat.le_of_ble_eq_true rfl⟩) rfl (by omega) (by omega) (fun k3 hk3 => ?_)
  refine lv_if_ne (tgt := 13) C.1 C.2.1 dL_cloth_6 (by decide) (fun c6 => ?_) (fun c6 => ?_)
  · have n6 : ¬ k3 = 0 := fun z => c6 (congrArg nI z)
    refine lv_iload_n C.1 C.2.1 dL_cloth_13 rfl (lv_at hl 2 rfl) ?_
    refine lv_iconst (v := 2) C.1 C.2.1 dL_cloth_14 rfl ?_
    refine some_go (N := 2) (runS C hE hH hS (c_some (n := 2) (N := 2) rfl (by omega) (by omega) y) mv_L_some wm_121 hl.1 dL_cloth_15 rfl rfl ⟨rfl, rfl⟩ ⟨Nat.le_of_ble_eq_true rfl, Nat.le_of_ble_eq_true rfl⟩ (Nat.le_of_ble_eq_true rfl) ⟨Nat.le_of_ble_eq_true rfl, Nat.le_of_ble_eq_true rfl⟩) rfl (by omega) (by omega) (fun k15 hk15 => ?_)
    exact J18 k15 (by omega) ls (hl)
  · have n6 : k3 = 0 := nI_inj (by omega) (by omega) c6
    refine lv_iconst (v := 3) C.1 C.2.1 dL_cloth_9 rfl ?_
    refine lv_goto (tgt := 18) C.1 C.2.1 dL_cloth_10 (by decide) ?_
    exact J18 3 (by omega) ls (hl)
set_option maxHeartbeats 4000000 in
set_option maxRecDepth 100000 in
theorem t_net {l : Launch} {g : gG} {M : Mp} {la : Nat → Nat} {x n : Nat}  (hlx : l.stackTraces = false) (hLS : WS g M x la n) (hn : n ≤ 98) (y : Int32) : Met l yL_cloth (WY yL_cloth cL_cloth 13 (some .boolean)) { frames := 9, cells := 7, slots := 235, locals := 147 } (Wc g M [.ref x, .int 1, .int y, .ref (la 8), .ref (la 9)]) (wrQ (S := Unit) g (fun u_ => (some (.int 1))) (fun u_ M_ => WS g M_ x la (n + 1))) 7 235 (gA g) := by
  refine ofM (by decide +kernel) (Nat.le_of_ble_eq_true rfl) (fun p e s m args below meth c ls C hr hlocks hin hE hH hl ea => ?_)
  have hl : lv_has ls 13 [(0, .ref x), (1, .int 1), (2, .int y), (3, .ref (la 8)), (4, .ref (la 9))] := hl
  have hS : va_S (gA g) s.heap s.heap [] := va_S.rf
  obtain ⟨tg, A, pr, br, np, hh, ne, nb, no, sc, ar, lf, hI, hL, hT, hR, hN⟩ := id hLS
  have hX := LX_rf hL
  obtain ⟨⟨hs0, hs5, hs9⟩, iX, iE, iB, iO, iW, iBl, iC⟩ := id hI
  obtain ⟨⟨hc0, hc1, hc2⟩, ⟨sne, snb, sno⟩, rE, ⟨rW, rY⟩, rB, rO, rM, rD, rZ⟩ := id hR
  have J18 : ∀ (a5 : Nat) (h5 : a5 < 2 ∨ a5 = 3) (ls : Array Slot), lv_has ls 13 [(0, .ref x), (1, .int 1), (2, .int y), (3, .ref (la 8)), (4, .ref (la 9))] → W p l e { frames := 9, cells := 7, slots := 235, locals := 147 } s m args below meth c s.heap [] 0 0 (MQ below (wrQ (S := Unit) g (fun u_ => (some (.int 1))) (fun u_ M_ => WS g M_ x la (n + 1))) args s 7 235 (gA g)) (F0 m 18 ls [.int (nI a5)]) := by
    intro a5 h5 ls hl
    refine lv_istore (lv' := [(5, .int (nI a5)), (0, .ref x), (1, .int 1), (2, .int y), (3, .ref (la 8)), (4, .ref (la 9))]) C.1 C.2.1 dL_cloth_18 hl (by decide) rfl (fun ls hl => ?_)
    refine lv_iload_n C.1 C.2.1 dL_cloth_20 rfl (lv_at hl 2 rfl) ?_
    refine lv_if_ne (tgt := 279) C.1 C.2.1 dL_cloth_21 (by decide) (fun c21 => ?_) (fun c21 => ?_)
    · refine lv_iconst (v := 0) C.1 C.2.1 dL_cloth_279 rfl ?_
      refine lv_istore (lv' := [(6, .int 0), (5, .int (nI a5)), (0, .ref x), (1, .int 1), (2, .int y), (3, .ref (la 8)), (4, .ref (la 9))]) C.1 C.2.1 dL_cloth_280 hl (by decide) rfl (fun ls hl => ?_)
      refine lv_iload C.1 C.2.1 dL_cloth_282 (lv_at hl 1 rfl) ?_
      refine lv_iconst (v := 3) C.1 C.2.1 dL_cloth_284 rfl ?_
      refine lv_icmp_ge (tgt := 480) C.1 C.2.1 dL_cloth_285 (by decide) (fun c285 => ?_) (fun c285 => ?_)
      · have n285 : 3 ≤ a5 := (nI_leI (a := 3) (b := a5) (by omega) (by omega)).mp c285
        refine lv_aload_n C.1 C.2.1 dL_cloth_480 rfl (lv_at hl 2 rfl) ?_
        refine lv_iconst (v := 3) C.1 C.2.1 dL_cloth_481 rfl ?_
        refine lv_iload C.1 C.2.1 dL_cloth_482 (lv_at hl 1 rfl) ?_
        refine wr_go1 (runT C hE hH hS (l_net hlx hI (nI a5)) mv_L_one wm_508 hl.1 dL_cloth_484 rfl rfl ⟨rfl, rfl⟩ ⟨Nat.le_of_ble_eq_true rfl, Nat.le_of_ble_eq_true rfl⟩ (Nat.le_of_ble_eq_true rfl) ⟨Nat.le_of_ble_eq_true rfl, Nat.le_of_ble_eq_true rfl⟩) hS (fun u1 M2 H locs hM2 hH hS => ?_)
        obtain ⟨hu, hM⟩ := lqA_f hM2 (fun z => by have z1 := (inx_n (a := a5) (n := 3) (by omega) (by omega)).mp z; omega)
        rw [hu]
        refine lv_iload C.1 C.2.1 dL_cloth_487 (lv_at hl 1 rfl) ?_
        refine lv_iconst (v := 3) C.1 C.2.1 dL_cloth_489 rfl ?_
        refine lv_icmp_ge (tgt := 498) C.1 C.2.1 dL_cloth_490 (by decide) (fun c490 => ?_) (fun c490 => ?_)
        · have n490 : 3 ≤ a5 := (nI_leI (a := 3) (b := a5) (by omega) (by omega)).mp c490
          refine lv_bipush (v := -101) C.1 C.2.1 dL_cloth_498 rfl ?_
          refine lv_icmp_ne (tgt := 507) C.1 C.2.1 dL_cloth_500 (by decide) (fun c500 => ?_) (fun c500 => ?_)
          · exact absurd c500 (by decide)
          · refine lv_iconst (v := 1) C.1 C.2.1 dL_cloth_503 rfl ?_
            refine lv_goto (tgt := 508) C.1 C.2.1 dL_cloth_504 (by decide) ?_
            exact wr_zret () C hr hlocks (rfl) hH hS rfl ((by rw [hM]; exact WS_le hLS (Nat.le_succ n))) (by decide) (by decide) dL_cloth_508
        · exact absurd ((nI_leI (a := 3) (b := a5) (by omega) (by omega)).mpr n285) c490
      · have n285 : ¬ 3 ≤ a5 := fun z => c285 ((nI_leI (a := 3) (b := a5) (by omega) (by omega)).mpr z)
        refine lv_iconst (v := 5) C.1 C.2.1 dL_cloth_288 rfl ?_
        refine mnewI (N := 5) C hE hH hS wm_91 (by decide) (by decide) (Nat.le_of_ble_eq_true rfl) (by decide) (by decide) dL_cloth_289 (fun q3 H nq3 gq3 hH hS => ?_)
        have hQ0 : LQ g M (mu M q3 (eI g 5 (fun _ => 0))) la (ua lf 8 (lf 8)) q3 (fun _ => 0) := by rw [ua_id]; exact ⟨LX_new hX nq3 (fun b h => h), mu_s, nq3⟩
        refine lv_astore (lv' := [(7, .ref q3), (6, .int 0), (5, .int (nI a5)), (0, .ref x), (1, .int 1), (2, .int y), (3, .ref (la 8)), (4, .ref (la 9))]) C.1 C.2.1 dL_cloth_291 hl (by decide) rfl (fun ls hl => ?_)
        refine lv_iconst (v := 0) C.1 C.2.1 dL_cloth_293 rfl ?_
        refine lv_istore (lv' := [(8, .int 0), (7, .ref q3), (6, .int 0), (5, .int (nI a5)), (0, .ref x), (1, .int 1), (2, .int y), (3, .ref (la 8)), (4, .ref (la 9))]) C.1 C.2.1 dL_cloth_294 hl (by decide) rfl (fun ls hl => ?_)
        have loop296 : ∀ (fu : Nat) (M9 : Mp) (i : Nat) (U : Nat → Int32), (LQ g M M9 la (ua lf 8 (lf 8)) q3 U) → (i ≤ 5) → (5 < i + fu) → (∀ t, t < i → U t = zps (lf 8) a5 t 25) →  ∀ (H : Heap) (locs : List Loc), Hw g M9 H → va_S (gA g) s.heap H locs → ∀ (ls : Array Slot), lv_has ls 13 [(7, .ref q3), (5, .int (nI a5)), (0, .ref x), (1, .int 1), (2, .int y), (3, .ref (la 8)), (4, .ref (la 9)), (6, .int 0), (8, .int (nI i))] → W p l e { frames := 9, cells := 7, slots := 235, locals := 147 } s m args below meth c H locs 1 5 (MQ below (wrQ (S := Unit) g (fun u_ => (some (.int 1))) (fun u_ M_ => WS g M_ x la (n + 1))) args s 7 235 (gA g)) (F0 m 296 ls []) := by
          intro fu
          induction fu with
          | zero => intro M9 i U hQ hi hfu hU; exact absurd hfu (by omega)
          | succ fu ih296 =>
            intro M9 i U hQ hi hfu hU H locs hH hS ls hl
            refine lv_iload C.1 C.2.1 dL_cloth_296 (lv_at hl 8 rfl) ?_
            refine lv_iconst (v := 5) C.1 C.2.1 dL_cloth_298 rfl ?_
            refine lv_icmp_ge (tgt := 321) C.1 C.2.1 dL_cloth_299 (by decide) (fun c299 => ?_) (fun c299 => ?_)
            · have n299 : 5 ≤ i := (nI_leI (a := 5) (b := i) (by omega) (by omega)).mp c299
              have hU5 : ∀ t, t < 5 → U t = zU ar a5 t := fun t ht => (hU t (by omega)).trans (zps_zU rD (by omega) ht)
              have hQ1 := hQ
              refine lv_iconst (v := 0) C.1 C.2.1 dL_cloth_321 rfl ?_
              refine lv_istore (lv' := [(8, .int 0), (7, .ref q3), (5, .int (nI a5)), (0, .ref x), (1, .int 1), (2, .int y), (3, .ref (la 8)), (4, .ref (la 9)), (6, .int 0)]) C.1 C.2.1 dL_cloth_322 hl (by decide) rfl (fun ls hl => ?_)
              have loop324 : ∀ (fu : Nat) (M9 : Mp) (i2 : Nat) (D : Nat → Int32), (LQ g M M9 la (ua lf 8 D) q3 U) → (i2 ≤ 25) → (25 < i2 + fu) → (∀ t, D t = if 25 * a5 ≤ t ∧ t < 25 * a5 + i2 then 0 else lf 8 t) →  ∀ (H : Heap) (locs : List Loc), Hw g M9 H → va_S (gA g) s.heap H locs → ∀ (ls : Array Slot), lv_has ls 13 [(7, .ref q3), (5, .int (nI a5)), (0, .ref x), (1, .int 1), (2, .int y), (3, .ref (la 8)), (4, .ref (la 9)), (6, .int 0), (8, .int (nI i2))] → W p l e { frames := 9, cells := 7, slots := 235, locals := 147 } s m args below meth c H locs 1 5 (MQ below (wrQ (S := Unit) g (fun u_ => (some (.int 1))) (fun u_ M_ => WS g M_ x la (n + 1))) args s 7 235 (gA g)) (F0 m 324 ls []) := by
                intro fu
                induction fu with
                | zero => intro M9 i2 D hQ hi2 hfu2 hD; exact absurd hfu2 (by omega)
                | succ fu ih324 =>
                  intro M9 i2 D hQ hi2 hfu2 hD H locs hH hS ls hl
                  refine lv_iload C.1 C.2.1 dL_cloth_324 (lv_at hl 8 rfl) ?_
                  refine lv_bipush (v := 25) C.1 C.2.1 dL_cloth_326 rfl ?_
                  refine lv_icmp_ge (tgt := 348) C.1 C.2.1 dL_cloth_328 (by decide) (fun c328 => ?_) (fun c328 => ?_)
                  · have n328 : 25 ≤ i2 := (nI_leI (a := 25) (b := i2) (by omega) (by omega)).mp c328
                    obtain ⟨zc, hzc⟩ : ∃ z : Nat, z = (znet 5 ar a5).1 := ⟨_, rfl⟩
                    obtain ⟨zb, hzb⟩ : ∃ z : Nat → Nat → Int32, z = (znet 5 ar a5).2.1 := ⟨_, rfl⟩
                    have hN0 : NL a5 0 0 0 D U (zc, zb) := NL_0 (fun a b ha hb => by rw [hD, if_pos (by omega)]) hU5 (fun t ht => NZ_rg (hN a5 (by omega)) (by omega) ht) hzc hzb
                    have hD0 : ∀ t, t < 25 * a5 ∨ 25 * a5 + 25 ≤ t → D t = lf 8 t := fun t ht => by rw [hD, if_neg (by omega)]
                    have hQ2 := hQ
                    refine lv_iconst (v := 0) C.1 C.2.1 dL_cloth_348 rfl ?_
                    refine lv_istore (lv' := [(8, .int 0), (7, .ref q3), (5, .int (nI a5)), (0, .ref x), (1, .int 1), (2, .int y), (3, .ref (la 8)), (4, .ref (la 9)), (6, .int 0)]) C.1 C.2.1 dL_cloth_349 hl (by decide) rfl (fun ls hl => ?_)
                    have loop351 : ∀ (fu : Nat) (M9 : Mp) (kk cnt : Nat) (D3 U3 : Nat → Int32), (LQ g M M9 la (ua lf 8 D3) q3 U3) → (kk ≤ 5) → (5 < kk + fu) → (NL a5 cnt kk 0 D3 U3 (zc, zb)) → (∀ t, t < 25 * a5 ∨ 25 * a5 + 25 ≤ t → D3 t = lf 8 t) → (cnt ≤ 5 * kk) →  ∀ (H : Heap) (locs : List Loc), Hw g M9 H → va_S (gA g) s.heap H locs → ∀ (ls : Array Slot), lv_has ls 13 [(7, .ref q3), (5, .int (nI a5)), (0, .ref x), (1, .int 1), (2, .int y), (3, .ref (la 8)), (4, .ref (la 9)), (6, .int (nI cnt)), (8, .int (nI kk))] → W p l e { frames := 9, cells := 7, slots := 235, locals := 147 } s m args below meth c H locs 1 5 (MQ below (wrQ (S := Unit) g (fun u_ => (some (.int 1))) (fun u_ M_ => WS g M_ x la (n + 1))) args s 7 235 (gA g)) (F0 m 351 ls []) := by
                      intro fu
                      induction fu with
                      | zero => intro M9 kk cnt D3 U3 hQ3 hk5 hfu3 hN3 hD3 hcn; exact absurd hfu3 (by omega)
                      | succ fu ih351 =>
                        intro M9 kk cnt D3 U3 hQ3 hk5 hfu3 hN3 hD3 hcn H locs hH hS ls hl
                        refine lv_iload C.1 C.2.1 dL_cloth_351 (lv_at hl 8 rfl) ?_
                        refine lv_iconst (v := 5) C.1 C.2.1 dL_cloth_353 rfl ?_
                        refine lv_icmp_ge (tgt := 480) C.1 C.2.1 dL_cloth_354 (by decide) (fun c354 => ?_) (fun c354 => ?_)
                        · have n354 : 5 ≤ kk := (nI_leI (a := 5) (b := kk) (by omega) (by omega)).mp c354
                          obtain ⟨hf1, hf2⟩ := NL_fin (show NL a5 cnt 5 0 D3 U3 (zc, zb) by rw [show 5 = kk by omega]; exact hN3)
                          have hIQ := WS_up hI hQ3.1 hT (ed_no hE hH)
                          refine lv_aload_n C.1 C.2.1 dL_cloth_480 rfl (lv_at hl 2 rfl) ?_
                          refine lv_iconst (v := 3) C.1 C.2.1 dL_cloth_481 rfl ?_
                          refine lv_iload C.1 C.2.1 dL_cloth_482 (lv_at hl 1 rfl) ?_
                          refine wr_go1 (runT C hE hH hS (l_net hlx hIQ (nI a5)) mv_L_one wm_508 hl.1 dL_cloth_484 rfl rfl ⟨rfl, rfl⟩ ⟨Nat.le_of_ble_eq_true rfl, Nat.le_of_ble_eq_true rfl⟩ (Nat.le_of_ble_eq_true rfl) ⟨Nat.le_of_ble_eq_true rfl, Nat.le_of_ble_eq_true rfl⟩) hS (fun u4 M5 H locs hM5 hH hS => ?_)
                          rw [nI_clamp (show a5 < 2 ^ 31 by omega)] at hM5
                          obtain ⟨hu, hx⟩ := lqA_t hM5 ((inx_n (a := a5) (n := 3) (by omega) (by omega)).mpr (by omega))
                          have hu : u4 = nI cnt := hu.trans (congrArg nI (hzc.symm.trans hf1.symm))
                          rw [hu]
                          refine lv_iload C.1 C.2.1 dL_cloth_487 (lv_at hl 1 rfl) ?_
                          refine lv_iconst (v := 3) C.1 C.2.1 dL_cloth_489 rfl ?_
                          refine lv_icmp_ge (tgt := 498) C.1 C.2.1 dL_cloth_490 (by decide) (fun c490 => ?_) (fun c490 => ?_)
                          · exact absurd ((nI_leI (a := 3) (b := a5) (by omega) (by omega)).mp c490) n285
                          · have n490 : ¬ 3 ≤ a5 := fun z => c490 ((nI_leI (a := 3) (b := a5) (by omega) (by omega)).mpr z)
                            refine lv_iload C.1 C.2.1 dL_cloth_493 (lv_at hl 7 rfl) ?_
                            refine lv_goto (tgt := 500) C.1 C.2.1 dL_cloth_495 (by decide) ?_
                            refine lv_icmp_ne (tgt := 507) C.1 C.2.1 dL_cloth_500 (by decide) (fun c500 => ?_) (fun c500 => ?_)
                            · exact absurd rfl c500
                            · refine lv_iconst (v := 1) C.1 C.2.1 dL_cloth_503 rfl ?_
                              refine lv_goto (tgt := 508) C.1 C.2.1 dL_cloth_504 (by decide) ?_
                              exact wr_zret () C hr hlocks (rfl) hH hS rfl ((WS_mk hx hQ3.1.1 hT ⟨hs0, hs5, hs9⟩ (LR_net hR (znetf_eq rD hzb hf2 hD3)) (krN_netf hN (by omega)))) (by decide) (by decide) dL_cloth_508
                        · have n354 : ¬ 5 ≤ kk := fun z => c354 ((nI_leI (a := 5) (b := kk) (by omega) (by omega)).mpr z)
                          refine lv_iconst (v := 0) C.1 C.2.1 dL_cloth_357 rfl ?_
                          refine lv_istore (lv' := [(9, .int 0), (7, .ref q3), (5, .int (nI a5)), (0, .ref x), (1, .int 1), (2, .int y), (3, .ref (la 8)), (4, .ref (la 9)), (6, .int (nI cnt)), (8, .int (nI kk))]) C.1 C.2.1 dL_cloth_358 hl (by decide) rfl (fun ls hl => ?_)
                          have loop360 : ∀ (fu : Nat) (M9 : Mp) (jj cn4 : Nat) (D4 U4 : Nat → Int32), (LQ g M M9 la (ua lf 8 D4) q3 U4) → (jj ≤ 5) → (5 < jj + fu) → (NL a5 cn4 kk jj D4 U4 (zc, zb)) → (∀ t, t < 25 * a5 ∨ 25 * a5 + 25 ≤ t → D4 t = lf 8 t) → (cn4 ≤ 5 * kk + jj) →  ∀ (H : Heap) (locs : List Loc), Hw g M9 H → va_S (gA g) s.heap H locs → ∀ (ls : Array Slot), lv_has ls 13 [(7, .ref q3), (5, .int (nI a5)), (0, .ref x), (1, .int 1), (2, .int y), (3, .ref (la 8)), (4, .ref (la 9)), (6, .int (nI cn4)), (8, .int (nI kk)), (9, .int (nI jj))] → W p l e { frames := 9, cells := 7, slots := 235, locals := 147 } s m args below meth c H locs 1 5 (MQ below (wrQ (S := Unit) g (fun u_ => (some (.int 1))) (fun u_ M_ => WS g M_ x la (n + 1))) args s 7 235 (gA g)) (F0 m 360 ls []) := by
                            intro fu
                            induction fu with
                            | zero => intro M9 jj cn4 D4 U4 hQ4 hj5 hfu4 hN4 hD4 hcn4; exact absurd hfu4 (by omega)
                            | succ fu ih360 =>
                              intro M9 jj cn4 D4 U4 hQ4 hj5 hfu4 hN4 hD4 hcn4 H locs hH hS ls hl
                              refine lv_iload C.1 C.2.1 dL_cloth_360 (lv_at hl 9 rfl) ?_
                              refine lv_iconst (v := 5) C.1 C.2.1 dL_cloth_362 rfl ?_
                              refine lv_icmp_ge (tgt := 474) C.1 C.2.1 dL_cloth_363 (by decide) (fun c363 => ?_) (fun c363 => ?_)
                              · have n363 : 5 ≤ jj := (nI_leI (a := 5) (b := jj) (by omega) (by omega)).mp c363
                                refine lv_iinc (v := nI (kk + 1)) (lv' := [(8, .int (nI (kk + 1))), (7, .ref q3), (5, .int (nI a5)), (0, .ref x), (1, .int 1), (2, .int y), (3, .ref (la 8)), (4, .ref (la 9)), (6, .int (nI cn4)), (9, .int (nI jj))]) C.1 C.2.1 dL_cloth_474 hl (k := 8) rfl (nI_1 kk) (by decide) rfl (fun ls hl => ?_)
                                refine lv_goto (tgt := 351) C.1 C.2.1 dL_cloth_477 (by decide) ?_
                                exact ih351 M9 (kk + 1) cn4 D4 U4 (hQ4) (by omega) (by omega) ((NL_row (by rw [show 5 = jj by omega]; exact hN4) (by omega))) (hD4) (by omega) H locs hH hS ls (lv_sub hl [1, 2, 3, 4, 5, 6, 7, 8, 0] rfl)
                              · have n363 : ¬ 5 ≤ jj := fun z => c363 ((nI_leI (a := 5) (b := jj) (by omega) (by omega)).mpr z)
                                have J414z : ∀ (hz : ¬ (U4 kk < 0 ∧ 0 < U4 jj)) (ls : Array Slot), lv_has ls 13 [(7, .ref q3), (5, .int (nI a5)), (0, .ref x), (1, .int 1), (2, .int y), (3, .ref (la 8)), (4, .ref (la 9)), (6, .int (nI cn4)), (8, .int (nI kk)), (9, .int (nI jj))] → W p l e { frames := 9, cells := 7, slots := 235, locals := 147 } s m args below meth c H locs 1 5 (MQ below (wrQ (S := Unit) g (fun u_ => (some (.int 1))) (fun u_ M_ => WS g M_ x la (n + 1))) args s 7 235 (gA g)) (F0 m 414 ls [.int 0]) := by
                                  intro  hz ls hl
                                  refine lv_istore (lv' := [(10, .int 0), (7, .ref q3), (5, .int (nI a5)), (0, .ref x), (1, .int 1), (2, .int y), (3, .ref (la 8)), (4, .ref (la 9)), (6, .int (nI cn4)), (8, .int (nI kk)), (9, .int (nI jj))]) C.1 C.2.1 dL_cloth_414 hl (by decide) rfl (fun ls hl => ?_)
                                  refine lv_aload_n C.1 C.2.1 dL_cloth_416 rfl (lv_at hl 6 rfl) ?_
                                  refine lv_bipush (v := 25) C.1 C.2.1 dL_cloth_417 rfl ?_
                                  refine lv_iload C.1 C.2.1 dL_cloth_419 (lv_at hl 2 rfl) ?_
                                  refine lv_imul C.1 C.2.1 dL_cloth_421 ?_
                                  rw [show ((25 : Int32) * (nI a5)) = nI (25 * a5) from nI_M 25 a5]
                                  refine lv_iconst (v := 5) C.1 C.2.1 dL_cloth_422 rfl ?_
                                  refine lv_iload C.1 C.2.1 dL_cloth_423 (lv_at hl 9 rfl) ?_
                                  refine lv_imul C.1 C.2.1 dL_cloth_425 ?_
                                  rw [show ((5 : Int32) * (nI kk)) = nI (5 * kk) from nI_M 5 kk]
                                  refine lv_iadd C.1 C.2.1 dL_cloth_426 ?_
                                  rw [show ((nI (25 * a5)) + (nI (5 * kk)) : Int32) = nI (25 * a5 + 5 * kk) from nI_add (25 * a5) (5 * kk)]
                                  refine lv_iload C.1 C.2.1 dL_cloth_427 (lv_at hl 10 rfl) ?_
                                  refine lv_iadd C.1 C.2.1 dL_cloth_429 ?_
                                  rw [show ((nI (25 * a5 + 5 * kk)) + (nI jj) : Int32) = nI (25 * a5 + 5 * kk + jj) from nI_add (25 * a5 + 5 * kk) jj]
                                  refine lv_iload C.1 C.2.1 dL_cloth_430 (lv_at hl 0 rfl) ?_
                                  refine lastq (K := 8) (N := 50) (E := 25 * a5 + 5 * kk + jj) (h := D4) C hE hH hS hQ4 (by decide) rfl rfl rfl (by omega) dL_cloth_432 (fun M6 H locs hQ7 hH hS => ?_)
                                  rw [ua_ua] at hQ7
                                  refine lv_aload C.1 C.2.1 dL_cloth_433 (lv_at hl 1 rfl) ?_
                                  refine lv_iload C.1 C.2.1 dL_cloth_435 (lv_at hl 9 rfl) ?_
                                  refine lv_dup2_11 C.1 C.2.1 dL_cloth_437 rfl rfl ?_
                                  refine qald (E := kk) (v := (U4 kk)) C hE hH hQ7 rfl (by omega) (rfl) dL_cloth_438 ?_
                                  refine lv_iload C.1 C.2.1 dL_cloth_439 (lv_at hl 0 rfl) ?_
                                  refine lv_iadd C.1 C.2.1 dL_cloth_441 ?_
                                  refine qast (E := kk) C hE hH hS hQ7 rfl (by omega) dL_cloth_442 (fun M8 H locs hQ9 hH hS => ?_)
                                  refine lv_aload C.1 C.2.1 dL_cloth_443 (lv_at hl 1 rfl) ?_
                                  refine lv_iload C.1 C.2.1 dL_cloth_445 (lv_at hl 10 rfl) ?_
                                  refine lv_dup2_11 C.1 C.2.1 dL_cloth_447 rfl rfl ?_
                                  refine qald (E := jj) (v := ((upd U4 kk ((U4 kk) + 0)) jj)) C hE hH hQ9 rfl (by omega) (rfl) dL_cloth_448 ?_
                                  refine lv_iload C.1 C.2.1 dL_cloth_449 (lv_at hl 0 rfl) ?_
                                  refine lv_isub C.1 C.2.1 dL_cloth_451 ?_
                                  refine qast (E := jj) C hE hH hS hQ9 rfl (by omega) dL_cloth_452 (fun M10 H locs hQ11 hH hS => ?_)
                                  have hN5 := NL_z hN4 (by omega) (by omega) hz
                                  refine lv_iload C.1 C.2.1 dL_cloth_453 (lv_at hl 8 rfl) ?_
                                  refine lv_iload C.1 C.2.1 dL_cloth_455 (lv_at hl 0 rfl) ?_
                                  refine lv_if_le (tgt := 464) C.1 C.2.1 dL_cloth_457 (by decide) (fun c457 => ?_) (fun c457 => ?_)
                                  · refine lv_iconst (v := 0) C.1 C.2.1 dL_cloth_464 rfl ?_
                                    refine lv_iadd C.1 C.2.1 dL_cloth_465 ?_
                                    rw [show ((nI cn4) + 0 : Int32) = nI (cn4 + 0) from nI_add cn4 0]
                                    refine lv_istore (lv' := [(6, .int (nI (cn4 + 0))), (10, .int 0), (7, .ref q3), (5, .int (nI a5)), (0, .ref x), (1, .int 1), (2, .int y), (3, .ref (la 8)), (4, .ref (la 9)), (8, .int (nI kk)), (9, .int (nI jj))]) C.1 C.2.1 dL_cloth_466 hl (by decide) rfl (fun ls hl => ?_)
                                    refine lv_iinc (v := nI (jj + 1)) (lv' := [(9, .int (nI (jj + 1))), (6, .int (nI (cn4 + 0))), (10, .int 0), (7, .ref q3), (5, .int (nI a5)), (0, .ref x), (1, .int 1), (2, .int y), (3, .ref (la 8)), (4, .ref (la 9)), (8, .int (nI kk))]) C.1 C.2.1 dL_cloth_468 hl (k := 10) rfl (nI_1 jj) (by decide) rfl (fun ls hl => ?_)
                                    refine lv_goto (tgt := 360) C.1 C.2.1 dL_cloth_471 (by decide) ?_
                                    exact ih360 M10 (jj + 1) (cn4 + 0) (upd D4 (25 * a5 + 5 * kk + jj) 0) (upd (upd U4 kk ((U4 kk) + 0)) jj (((upd U4 kk ((U4 kk) + 0)) jj) - 0)) (hQ11) (by omega) (by omega) (hN5) (fun t ht => by rw [upd_n (by omega)]; exact hD4 t ht) (by omega) H locs hH hS ls (lv_sub hl [3, 4, 5, 6, 7, 8, 9, 1, 10, 0] rfl)
                                  · exact absurd c457 (by decide)
                                have J414p : ∀ (b9 : Int32) (hb : b9 = mbo (U4 kk) (U4 jj)) (hk0 : U4 kk < 0) (hj0 : 0 < U4 jj) (ls : Array Slot), lv_has ls 13 [(7, .ref q3), (5, .int (nI a5)), (0, .ref x), (1, .int 1), (2, .int y), (3, .ref (la 8)), (4, .ref (la 9)), (6, .int (nI cn4)), (8, .int (nI kk)), (9, .int (nI jj))] → W p l e { frames := 9, cells := 7, slots := 235, locals := 147 } s m args below meth c H locs 1 5 (MQ below (wrQ (S := Unit) g (fun u_ => (some (.int 1))) (fun u_ M_ => WS g M_ x la (n + 1))) args s 7 235 (gA g)) (F0 m 414 ls [.int b9]) := by
                                  intro b9 hb hk0 hj0 ls hl
                                  refine lv_istore (lv' := [(10, .int b9), (7, .ref q3), (5, .int (nI a5)), (0, .ref x), (1, .int 1), (2, .int y), (3, .ref (la 8)), (4, .ref (la 9)), (6, .int (nI cn4)), (8, .int (nI kk)), (9, .int (nI jj))]) C.1 C.2.1 dL_cloth_414 hl (by decide) rfl (fun ls hl => ?_)
                                  refine lv_aload_n C.1 C.2.1 dL_cloth_416 rfl (lv_at hl 6 rfl) ?_
                                  refine lv_bipush (v := 25) C.1 C.2.1 dL_cloth_417 rfl ?_
                                  refine lv_iload C.1 C.2.1 dL_cloth_419 (lv_at hl 2 rfl) ?_
                                  refine lv_imul C.1 C.2.1 dL_cloth_421 ?_
                                  rw [show ((25 : Int32) * (nI a5)) = nI (25 * a5) from nI_M 25 a5]
                                  refine lv_iconst (v := 5) C.1 C.2.1 dL_cloth_422 rfl ?_
                                  refine lv_iload C.1 C.2.1 dL_cloth_423 (lv_at hl 9 rfl) ?_
                                  refine lv_imul C.1 C.2.1 dL_cloth_425 ?_
                                  rw [show ((5 : Int32) * (nI kk)) = nI (5 * kk) from nI_M 5 kk]
                                  refine lv_iadd C.1 C.2.1 dL_cloth_426 ?_
                                  rw [show ((nI (25 * a5)) + (nI (5 * kk)) : Int32) = nI (25 * a5 + 5 * kk) from nI_add (25 * a5) (5 * kk)]
                                  refine lv_iload C.1 C.2.1 dL_cloth_427 (lv_at hl 10 rfl) ?_
                                  refine lv_iadd C.1 C.2.1 dL_cloth_429 ?_
                                  rw [show ((nI (25 * a5 + 5 * kk)) + (nI jj) : Int32) = nI (25 * a5 + 5 * kk + jj) from nI_add (25 * a5 + 5 * kk) jj]
                                  refine lv_iload C.1 C.2.1 dL_cloth_430 (lv_at hl 0 rfl) ?_
                                  refine lastq (K := 8) (N := 50) (E := 25 * a5 + 5 * kk + jj) (h := D4) C hE hH hS hQ4 (by decide) rfl rfl rfl (by omega) dL_cloth_432 (fun M12 H locs hQ13 hH hS => ?_)
                                  rw [ua_ua] at hQ13
                                  refine lv_aload C.1 C.2.1 dL_cloth_433 (lv_at hl 1 rfl) ?_
                                  refine lv_iload C.1 C.2.1 dL_cloth_435 (lv_at hl 9 rfl) ?_
                                  refine lv_dup2_11 C.1 C.2.1 dL_cloth_437 rfl rfl ?_
                                  refine qald (E := kk) (v := (U4 kk)) C hE hH hQ13 rfl (by omega) (rfl) dL_cloth_438 ?_
                                  refine lv_iload C.1 C.2.1 dL_cloth_439 (lv_at hl 0 rfl) ?_
                                  refine lv_iadd C.1 C.2.1 dL_cloth_441 ?_
                                  refine qast (E := kk) C hE hH hS hQ13 rfl (by omega) dL_cloth_442 (fun M14 H locs hQ15 hH hS => ?_)
                                  refine lv_aload C.1 C.2.1 dL_cloth_443 (lv_at hl 1 rfl) ?_
                                  refine lv_iload C.1 C.2.1 dL_cloth_445 (lv_at hl 10 rfl) ?_
                                  refine lv_dup2_11 C.1 C.2.1 dL_cloth_447 rfl rfl ?_
                                  refine qald (E := jj) (v := ((upd U4 kk ((U4 kk) + b9)) jj)) C hE hH hQ15 rfl (by omega) (rfl) dL_cloth_448 ?_
                                  refine lv_iload C.1 C.2.1 dL_cloth_449 (lv_at hl 0 rfl) ?_
                                  refine lv_isub C.1 C.2.1 dL_cloth_451 ?_
                                  refine qast (E := jj) C hE hH hS hQ15 rfl (by omega) dL_cloth_452 (fun M16 H locs hQ17 hH hS => ?_)
                                  obtain ⟨hN5, hbp⟩ := NL_p hN4 (by omega) (by omega) hk0 hj0 hb
                                  refine lv_iload C.1 C.2.1 dL_cloth_453 (lv_at hl 8 rfl) ?_
                                  refine lv_iload C.1 C.2.1 dL_cloth_455 (lv_at hl 0 rfl) ?_
                                  refine lv_if_le (tgt := 464) C.1 C.2.1 dL_cloth_457 (by decide) (fun c457 => ?_) (fun c457 => ?_)
                                  · exact absurd hbp (Int32.not_lt.mpr c457)
                                  · refine lv_iconst (v := 1) C.1 C.2.1 dL_cloth_460 rfl ?_
                                    refine lv_goto (tgt := 465) C.1 C.2.1 dL_cloth_461 (by decide) ?_
                                    refine lv_iadd C.1 C.2.1 dL_cloth_465 ?_
                                    rw [show ((nI cn4) + 1 : Int32) = nI (cn4 + 1) from nI_add cn4 1]
                                    refine lv_istore (lv' := [(6, .int (nI (cn4 + 1))), (10, .int b9), (7, .ref q3), (5, .int (nI a5)), (0, .ref x), (1, .int 1), (2, .int y), (3, .ref (la 8)), (4, .ref (la 9)), (8, .int (nI kk)), (9, .int (nI jj))]) C.1 C.2.1 dL_cloth_466 hl (by decide) rfl (fun ls hl => ?_)
                                    refine lv_iinc (v := nI (jj + 1)) (lv' := [(9, .int (nI (jj + 1))), (6, .int (nI (cn4 + 1))), (10, .int b9), (7, .ref q3), (5, .int (nI a5)), (0, .ref x), (1, .int 1), (2, .int y), (3, .ref (la 8)), (4, .ref (la 9)), (8, .int (nI kk))]) C.1 C.2.1 dL_cloth_468 hl (k := 10) rfl (nI_1 jj) (by decide) rfl (fun ls hl => ?_)
                                    refine lv_goto (tgt := 360) C.1 C.2.1 dL_cloth_471 (by decide) ?_
                                    exact ih360 M16 (jj + 1) (cn4 + 1) (upd D4 (25 * a5 + 5 * kk + jj) b9) (upd (upd U4 kk ((U4 kk) + b9)) jj (((upd U4 kk ((U4 kk) + b9)) jj) - b9)) (hQ17) (by omega) (by omega) (hN5) (fun t ht => by rw [upd_n (by omega)]; exact hD4 t ht) (by omega) H locs hH hS ls (lv_sub hl [3, 4, 5, 6, 7, 8, 9, 1, 10, 0] rfl)
                                refine lv_aload C.1 C.2.1 dL_cloth_366 (lv_at hl 0 rfl) ?_
                                refine lv_iload C.1 C.2.1 dL_cloth_368 (lv_at hl 8 rfl) ?_
                                refine qald (E := kk) (v := (U4 kk)) C hE hH hQ4 rfl (by omega) (rfl) dL_cloth_370 ?_
                                refine lv_if_ge (tgt := 413) C.1 C.2.1 dL_cloth_371 (by decide) (fun c371 => ?_) (fun c371 => ?_)
                                · refine lv_iconst (v := 0) C.1 C.2.1 dL_cloth_413 rfl ?_
                                  exact J414z (fun z => Int32.not_lt.mpr c371 z.1) ls (hl)
                                · refine lv_aload C.1 C.2.1 dL_cloth_374 (lv_at hl 0 rfl) ?_
                                  refine lv_iload C.1 C.2.1 dL_cloth_376 (lv_at hl 9 rfl) ?_
                                  refine qald (E := jj) (v := (U4 jj)) C hE hH hQ4 rfl (by omega) (rfl) dL_cloth_378 ?_
                                  refine lv_if_le (tgt := 413) C.1 C.2.1 dL_cloth_379 (by decide) (fun c379 => ?_) (fun c379 => ?_)
                                  · refine lv_iconst (v := 0) C.1 C.2.1 dL_cloth_413 rfl ?_
                                    exact J414z (fun z => n_nle c379 z.2) ls (hl)
                                  · refine lv_aload C.1 C.2.1 dL_cloth_382 (lv_at hl 0 rfl) ?_
                                    refine lv_iload C.1 C.2.1 dL_cloth_384 (lv_at hl 9 rfl) ?_
                                    refine qald (E := jj) (v := (U4 jj)) C hE hH hQ4 rfl (by omega) (rfl) dL_cloth_386 ?_
                                    refine lv_aload C.1 C.2.1 dL_cloth_387 (lv_at hl 0 rfl) ?_
                                    refine lv_iload C.1 C.2.1 dL_cloth_389 (lv_at hl 8 rfl) ?_
                                    refine qald (E := kk) (v := (U4 kk)) C hE hH hQ4 rfl (by omega) (rfl) dL_cloth_391 ?_
                                    refine lv_iadd C.1 C.2.1 dL_cloth_392 ?_
                                    refine lv_if_le (tgt := 405) C.1 C.2.1 dL_cloth_393 (by decide) (fun c393 => ?_) (fun c393 => ?_)
                                    · refine lv_aload C.1 C.2.1 dL_cloth_405 (lv_at hl 0 rfl) ?_
                                      refine lv_iload C.1 C.2.1 dL_cloth_407 (lv_at hl 9 rfl) ?_
                                      refine qald (E := jj) (v := (U4 jj)) C hE hH hQ4 rfl (by omega) (rfl) dL_cloth_409 ?_
                                      refine lv_goto (tgt := 414) C.1 C.2.1 dL_cloth_410 (by decide) ?_
                                      exact J414p (U4 jj) (mbo_2 (hN4.1 kk (by omega)) (hN4.1 jj (by omega)) (Int32.not_le.mp c371) (Int32.not_le.mp c379) c393) (Int32.not_le.mp c371) (Int32.not_le.mp c379) ls (hl)
                                    · refine lv_aload C.1 C.2.1 dL_cloth_396 (lv_at hl 0 rfl) ?_
                                      refine lv_iload C.1 C.2.1 dL_cloth_398 (lv_at hl 8 rfl) ?_
                                      refine qald (E := kk) (v := (U4 kk)) C hE hH hQ4 rfl (by omega) (rfl) dL_cloth_400 ?_
                                      refine lv_ineg C.1 C.2.1 dL_cloth_401 ?_
                                      refine lv_goto (tgt := 414) C.1 C.2.1 dL_cloth_402 (by decide) ?_
                                      exact J414p (-(U4 kk)) (mbo_1 (hN4.1 kk (by omega)) (hN4.1 jj (by omega)) (Int32.not_le.mp c371) (Int32.not_le.mp c379) c393) (Int32.not_le.mp c371) (Int32.not_le.mp c379) ls (hl)
                          exact loop360 (6) M9 0 cnt D3 U3 (hQ3) (by omega) (by omega) (hN3) (hD3) (by omega) _ _ hH hS _ (lv_sub hl [1, 2, 3, 4, 5, 6, 7, 8, 9, 0] rfl)
                    exact loop351 (6) M9 0 0 D U (hQ2) (by omega) (by omega) (hN0) (hD0) (by omega) _ _ hH hS _ (lv_sub hl [1, 2, 3, 4, 5, 6, 7, 8, 0] rfl)
                  · have n328 : ¬ 25 ≤ i2 := fun z => c328 ((nI_leI (a := 25) (b := i2) (by omega) (by omega)).mpr z)
                    refine lv_aload_n C.1 C.2.1 dL_cloth_331 rfl (lv_at hl 5 rfl) ?_
                    refine lv_bipush (v := 25) C.1 C.2.1 dL_cloth_332 rfl ?_
                    refine lv_iload C.1 C.2.1 dL_cloth_334 (lv_at hl 1 rfl) ?_
                    refine lv_imul C.1 C.2.1 dL_cloth_336 ?_
                    rw [show ((25 : Int32) * (nI a5)) = nI (25 * a5) from nI_M 25 a5]
                    refine lv_iload C.1 C.2.1 dL_cloth_337 (lv_at hl 8 rfl) ?_
                    refine lv_iadd C.1 C.2.1 dL_cloth_339 ?_
                    rw [show ((nI (25 * a5)) + (nI i2) : Int32) = nI (25 * a5 + i2) from nI_add (25 * a5) i2]
                    refine lv_iconst (v := 0) C.1 C.2.1 dL_cloth_340 rfl ?_
                    refine lastq (K := 8) (N := 50) (E := 25 * a5 + i2) (h := D) C hE hH hS hQ (by decide) rfl rfl rfl (by omega) dL_cloth_341 (fun M18 H locs hQ19 hH hS => ?_)
                    rw [ua_ua] at hQ19
                    refine lv_iinc (v := nI (i2 + 1)) (lv' := [(8, .int (nI (i2 + 1))), (7, .ref q3), (5, .int (nI a5)), (0, .ref x), (1, .int 1), (2, .int y), (3, .ref (la 8)), (4, .ref (la 9)), (6, .int 0)]) C.1 C.2.1 dL_cloth_342 hl (k := 8) rfl (nI_1 i2) (by decide) rfl (fun ls hl => ?_)
                    refine lv_goto (tgt := 324) C.1 C.2.1 dL_cloth_345 (by decide) ?_
                    exact ih324 M18 (i2 + 1) (upd D (25 * a5 + i2) 0) (hQ19) (by omega) (by omega) (fun t => by
          by_cases e9 : t = 25 * a5 + i2
          · rw [e9, upd_s, if_pos (by omega)]
          · rw [upd_n e9, hD t]
            by_cases q9 : 25 * a5 ≤ t ∧ t < 25 * a5 + i2
            · rw [if_pos q9, if_pos (by omega)]
            · rw [if_neg q9, if_neg (by omega)]) H locs hH hS ls (lv_sub hl [1, 2, 3, 4, 5, 6, 7, 8, 0] rfl)
              exact loop324 (26) M9 0 (lf 8) (hQ1) (by omega) (by omega) (fun t => by rw [if_neg (by omega)]) _ _ hH hS _ (lv_sub hl [1, 2, 3, 4, 5, 6, 7, 8, 0] rfl)
            · have n299 : ¬ 5 ≤ i := fun z => c299 ((nI_leI (a := 5) (b := i) (by omega) (by omega)).mpr z)
              refine lv_aload C.1 C.2.1 dL_cloth_302 (lv_at hl 0 rfl) ?_
              refine lv_iload C.1 C.2.1 dL_cloth_304 (lv_at hl 8 rfl) ?_
              refine lv_aload_n C.1 C.2.1 dL_cloth_306 rfl (lv_at hl 5 rfl) ?_
              refine lv_iload C.1 C.2.1 dL_cloth_307 (lv_at hl 1 rfl) ?_
              refine lv_iload C.1 C.2.1 dL_cloth_309 (lv_at hl 8 rfl) ?_
              refine rd_go1 (runS C hE hH hS (c_position hQ.1.1 ((by omega)) ((by omega))) mv_L_position wm_694 hl.1 dL_cloth_311 rfl rfl ⟨rfl, rfl⟩ ⟨Nat.le_of_ble_eq_true rfl, Nat.le_of_ble_eq_true rfl⟩ (Nat.le_of_ble_eq_true rfl) ⟨Nat.le_of_ble_eq_true rfl, Nat.le_of_ble_eq_true rfl⟩) ?_
              refine qast (E := i) C hE hH hS hQ rfl (by omega) dL_cloth_314 (fun M20 H locs hQ21 hH hS => ?_)
              refine lv_iinc (v := nI (i + 1)) (lv' := [(8, .int (nI (i + 1))), (7, .ref q3), (5, .int (nI a5)), (0, .ref x), (1, .int 1), (2, .int y), (3, .ref (la 8)), (4, .ref (la 9)), (6, .int 0)]) C.1 C.2.1 dL_cloth_315 hl (k := 8) rfl (nI_1 i) (by decide) rfl (fun ls hl => ?_)
              refine lv_goto (tgt := 296) C.1 C.2.1 dL_cloth_318 (by decide) ?_
              exact ih296 M20 (i + 1) (upd U i (zps (lf 8) a5 i 25)) (hQ21) (by omega) (by omega) (fun t ht => by
          by_cases e9 : t = i
          · rw [e9, upd_s]
          · rw [upd_n e9]; exact hU t (by omega)) H locs hH hS ls (lv_sub hl [1, 2, 3, 4, 5, 6, 7, 8, 0] rfl)
        exact loop296 (6) (mu M q3 (eI g 5 (fun _ => 0))) 0 (fun _ => 0) (hQ0) (by omega) (by omega) (fun t ht => absurd ht (Nat.not_lt_zero t)) _ _ hH hS _ (lv_sub hl [1, 3, 4, 5, 6, 7, 8, 2, 0] rfl)
    · exact absurd c21 (by decide)
  refine lv_iload_n C.1 C.2.1 dL_cloth_0 rfl (lv_at hl 2 rfl) ?_
  refine lv_bipush (v := 40) C.1 C.2.1 dL_cloth_1 rfl ?_
  refine some_go (N := 40) (runS C hE hH hS (c_some (n := 40) (N := 40) rfl (by omega) (by omega) y) mv_L_some wm_121 hl.1 dL_cloth_3 rfl rfl ⟨rfl, rfl⟩ ⟨Nat.le_of_ble_eq_true rfl, Nat.le_of_ble_eq_true rfl⟩ (Nat.le_of_ble_eq_true rfl) ⟨Nat.le_of_ble_eq_true rfl, Nat.le_of_ble_eq_true rfl⟩) rfl (by omega) (by omega) (fun k3 hk3 => ?_)
  refine lv_if_ne (tgt := 13) C.1 C.2.1 dL_cloth_6 (by decide) (fun c6 => ?_) (fun c6 => ?_)
  · have n6 : ¬ k3 = 0 := fun z => c6 (congrArg nI z)
    refine lv_iload_n C.1 C.2.1 dL_cloth_13 rfl (lv_at hl 2 rfl) ?_
    refine lv_iconst (v := 2) C.1 C.2.1 dL_cloth_14 rfl ?_
    refine some_go (N := 2) (runS C hE hH hS (c_some (n := 2) (N := 2) rfl (by omega) (by omega) y) mv_L_some wm_121 hl.1 dL_cloth_15 rfl rfl ⟨rfl, rfl⟩ ⟨Nat.le_of_ble_eq_true rfl, Nat.le_of_ble_eq_true rfl⟩ (Nat.le_of_ble_eq_true rfl) ⟨Nat.le_of_ble_eq_true rfl, Nat.le_of_ble_eq_true rfl⟩) rfl (by omega) (by omega) (fun k15 hk15 => ?_)
    exact J18 k15 (by omega) ls (hl)
  · have n6 : k3 = 0 := nI_inj (by omega) (by omega) c6
    refine lv_iconst (v := 3) C.1 C.2.1 dL_cloth_9 rfl ?_
    refine lv_goto (tgt := 18) C.1 C.2.1 dL_cloth_10 (by decide) ?_
    exact J18 3 (by omega) ls (hl)
