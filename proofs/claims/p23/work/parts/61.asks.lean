/-! THE LAW: ASKS -/
theorem zcol_at {lf ar : Nat → Nat → Int32} {i k : Nat} (h : LRo lf ar i) (h13 : ¬ ar 13 i = 0) (hk : k < 2) : zcol ar i (nI k) = lf 6 (3 * i + k) := by
  obtain ⟨-, q1, q2, -⟩ := h.2 h13
  rcases (show k = 0 ∨ k = 1 by omega) with rfl | rfl
  · exact q1.symm
  · exact q2.symm
theorem ap_at {g : gG} {M : Mp} {x : Nat} {tg : Nat → Nat} {A : Nat → Nat → Nat} {pr br : Nat → Bool} {np : Nat → Nat} {hh : Nat → Nat → Nat} {ne nb no : Nat} {sc : Nat → Int32} {ar lf : Nat → Nat → Int32} {a b : Nat} (hI : RI g M x tg A pr br np hh ne nb no sc ar) (rE : ∀ i, i < ne → LRe lf ar i) (ha : a < ne) (hb : b < ne) : zd (ar 1 (2 * a)) (ar 1 (2 * a + 1)) (ar 1 (2 * b)) (ar 1 (2 * b + 1)) = zap (lf 1 (3 * b)) (lf 1 (3 * a)) + zap (lf 1 (3 * b + 1)) (lf 1 (3 * a + 1)) := by
  obtain ⟨-, -, hE, -⟩ := hI
  obtain ⟨-, a1, a2, -⟩ := hE.2.2 a ha
  obtain ⟨-, b1, b2, -⟩ := hE.2.2 b hb
  obtain ⟨p1, p2, -⟩ := rE a ha
  obtain ⟨q1, q2, -⟩ := rE b hb
  rw [p1, p2, q1, q2, zap_eq (rng_le b1 (by decide) (by decide)) (rng_le a1 (by decide) (by decide)), zap_eq (rng_le b2 (by decide) (by decide)) (rng_le a2 (by decide) (by decide))]
  rfl
set_option maxHeartbeats 4000000 in
set_option maxRecDepth 100000 in
theorem a_asks {l : Launch} {g : gG} {M : Mp} {la : Nat → Nat} {x n : Nat}  (hlx : l.stackTraces = false) (hLS : WS g M x la n) (y : Int32) : Met l yL_asks (WY yL_asks cL_asks 20 (some .boolean)) { frames := 10, cells := 330, slots := 12650, locals := 172 } (Wc g M [.ref x, .int y, .ref (la 0), .ref (la 1), .ref (la 3), .ref (la 4), .ref (la 5), .ref (la 6), .ref (la 7), .ref (la 8)]) (wrQ (S := Unit) g (fun u_ => (some (.int 1))) (fun u_ M_ => M_ = M)) 330 12650 (gA g) := by
  refine ofM (by decide +kernel) (Nat.le_of_ble_eq_true rfl) (fun p e s m args below meth c ls C hr hlocks hin hE hH hl ea => ?_)
  have hl : lv_has ls 20 [(0, .ref x), (1, .int y), (2, .ref (la 0)), (3, .ref (la 1)), (4, .ref (la 3)), (5, .ref (la 4)), (6, .ref (la 5)), (7, .ref (la 6)), (8, .ref (la 7)), (9, .ref (la 8))] := hl
  have hS : va_S (gA g) s.heap s.heap [] := va_S.rf
  obtain ⟨tg, A, pr, br, np, hh, ne, nb, no, sc, ar, lf, hI, hL, hT, hR, hN⟩ := id hLS
  have hX := LX_rf hL
  obtain ⟨⟨hs0, hs5, hs9⟩, iX, iE, iB, iO, iW, iBl, iC⟩ := id hI
  obtain ⟨⟨hc0, hc1, hc2⟩, ⟨sne, snb, sno⟩, rE, ⟨rW, rY⟩, rB, rO, rM, rD, rZ⟩ := id hR
  refine lv_iconst (v := 2) C.1 C.2.1 dL_asks_0 rfl ?_
  refine lv_iload_n C.1 C.2.1 dL_asks_1 rfl (lv_at hl 1 rfl) ?_
  refine lv_iconst (v := 2) C.1 C.2.1 dL_asks_2 rfl ?_
  refine some_go (N := 2) (runS C hE hH hS (c_some (n := 2) (N := 2) rfl (by omega) (by omega) y) mv_L_some wm_121 hl.1 dL_asks_3 rfl rfl ⟨rfl, rfl⟩ ⟨Nat.le_of_ble_eq_true rfl, Nat.le_of_ble_eq_true rfl⟩ (Nat.le_of_ble_eq_true rfl) ⟨Nat.le_of_ble_eq_true rfl, Nat.le_of_ble_eq_true rfl⟩) rfl (by omega) (by omega) (fun k3 hk3 => ?_)
  refine lv_iadd C.1 C.2.1 dL_asks_6 ?_
  rw [show ((2 : Int32) + (nI k3)) = nI (2 + k3) from nI_add 2 k3]
  refine lv_istore (lv' := [(10, .int (nI (2 + k3))), (0, .ref x), (1, .int y), (2, .ref (la 0)), (3, .ref (la 1)), (4, .ref (la 3)), (5, .ref (la 4)), (6, .ref (la 5)), (7, .ref (la 6)), (8, .ref (la 7)), (9, .ref (la 8))]) C.1 C.2.1 dL_asks_7 hl (by decide) rfl (fun ls hl => ?_)
  refine lv_iconst (v := 0) C.1 C.2.1 dL_asks_9 rfl ?_
  refine lv_istore (lv' := [(11, .int 0), (10, .int (nI (2 + k3))), (0, .ref x), (1, .int y), (2, .ref (la 0)), (3, .ref (la 1)), (4, .ref (la 3)), (5, .ref (la 4)), (6, .ref (la 5)), (7, .ref (la 6)), (8, .ref (la 7)), (9, .ref (la 8))]) C.1 C.2.1 dL_asks_10 hl (by decide) rfl (fun ls hl => ?_)
  have loop12 : ∀ (fu : Nat) (i : Nat), (i ≤ no + 1) → (no + 1 < i + fu) →  ∀ (H : Heap) (locs : List Loc), Hw g M H → va_S (gA g) s.heap H locs → ∀ (ls : Array Slot), lv_has ls 20 [(10, .int (nI (2 + k3))), (0, .ref x), (1, .int y), (2, .ref (la 0)), (3, .ref (la 1)), (4, .ref (la 3)), (5, .ref (la 4)), (6, .ref (la 5)), (7, .ref (la 6)), (8, .ref (la 7)), (9, .ref (la 8)), (11, .int (nI i))] → W p l e { frames := 10, cells := 330, slots := 12650, locals := 172 } s m args below meth c H locs (12 * i) (460 * i) (MQ below (wrQ (S := Unit) g (fun u_ => (some (.int 1))) (fun u_ M_ => M_ = M)) args s 330 12650 (gA g)) (F0 m 12 ls []) := by
    intro fu
    induction fu with
    | zero => intro i hi hfu; exact absurd hfu (by omega)
    | succ fu ih12 =>
      intro i hi hfu H locs hH hS ls hl
      refine lv_iload C.1 C.2.1 dL_asks_12 (lv_at hl 11 rfl) ?_
      refine lv_aload_n C.1 C.2.1 dL_asks_14 rfl (lv_at hl 3 rfl) ?_
      refine lv_iconst (v := 2) C.1 C.2.1 dL_asks_15 rfl ?_
      refine lald (K := 0) (N := 3) (E := 2) (f := (lf 0)) (v := (nI no)) C hE hH hX (by decide) rfl rfl rfl (by omega) (hc2) dL_asks_16 ?_
      refine lv_icmp_gt (tgt := 145) C.1 C.2.1 dL_asks_17 (by decide) (fun c17 => ?_) (fun c17 => ?_)
      · have n17 : no < i := (nI_ltI (a := no) (b := i) (by omega) (by omega)).mp c17
        refine lv_iconst (v := 0) C.1 C.2.1 dL_asks_145 rfl ?_
        refine lv_istore (lv' := [(11, .int 0), (10, .int (nI (2 + k3))), (0, .ref x), (1, .int y), (2, .ref (la 0)), (3, .ref (la 1)), (4, .ref (la 3)), (5, .ref (la 4)), (6, .ref (la 5)), (7, .ref (la 6)), (8, .ref (la 7)), (9, .ref (la 8))]) C.1 C.2.1 dL_asks_146 hl (by decide) rfl (fun ls hl => ?_)
        have loop148 : ∀ (fu : Nat) (j : Nat), (j ≤ nb + 1) → (nb + 1 < j + fu) →  ∀ (H : Heap) (locs : List Loc), Hw g M H → va_S (gA g) s.heap H locs → ∀ (ls : Array Slot), lv_has ls 20 [(10, .int (nI (2 + k3))), (0, .ref x), (1, .int y), (2, .ref (la 0)), (3, .ref (la 1)), (4, .ref (la 3)), (5, .ref (la 4)), (6, .ref (la 5)), (7, .ref (la 6)), (8, .ref (la 7)), (9, .ref (la 8)), (11, .int (nI j))] → W p l e { frames := 10, cells := 330, slots := 12650, locals := 172 } s m args below meth c H locs (12 * i + 6 * j) (460 * i + 230 * j) (MQ below (wrQ (S := Unit) g (fun u_ => (some (.int 1))) (fun u_ M_ => M_ = M)) args s 330 12650 (gA g)) (F0 m 148 ls []) := by
          intro fu
          induction fu with
          | zero => intro j hj hfu2; exact absurd hfu2 (by omega)
          | succ fu ih148 =>
            intro j hj hfu2 H locs hH hS ls hl
            refine lv_iload C.1 C.2.1 dL_asks_148 (lv_at hl 11 rfl) ?_
            refine lv_aload_n C.1 C.2.1 dL_asks_150 rfl (lv_at hl 3 rfl) ?_
            refine lv_iconst (v := 1) C.1 C.2.1 dL_asks_151 rfl ?_
            refine lald (K := 0) (N := 3) (E := 1) (f := (lf 0)) (v := (nI nb)) C hE hH hX (by decide) rfl rfl rfl (by omega) (hc1) dL_asks_152 ?_
            refine lv_icmp_gt (tgt := 196) C.1 C.2.1 dL_asks_153 (by decide) (fun c153 => ?_) (fun c153 => ?_)
            · have n153 : nb < j := (nI_ltI (a := nb) (b := j) (by omega) (by omega)).mp c153
              refine lv_iload_n C.1 C.2.1 dL_asks_196 rfl (lv_at hl 2 rfl) ?_
              refine lv_iconst (v := 5) C.1 C.2.1 dL_asks_197 rfl ?_
              refine lv_ishr C.1 C.2.1 dL_asks_198 ?_
              refine lv_iconst (v := 4) C.1 C.2.1 dL_asks_199 rfl ?_
              refine some_go (N := 4) (runS C hE hH hS (c_some (n := 4) (N := 4) rfl (by omega) (by omega) (y >>> (5 &&& 31))) mv_L_some wm_121 hl.1 dL_asks_200 rfl rfl ⟨rfl, rfl⟩ ⟨Nat.le_of_ble_eq_true rfl, Nat.le_of_ble_eq_true rfl⟩ (Nat.le_of_ble_eq_true rfl) ⟨(by show _ + 0 ≤ 330; omega), (by show _ + 0 ≤ 12650; omega)⟩) rfl (by omega) (by omega) (fun k200 hk200 => ?_)
              refine lv_istore (lv' := [(11, .int (nI k200)), (10, .int (nI (2 + k3))), (0, .ref x), (1, .int y), (2, .ref (la 0)), (3, .ref (la 1)), (4, .ref (la 3)), (5, .ref (la 4)), (6, .ref (la 5)), (7, .ref (la 6)), (8, .ref (la 7)), (9, .ref (la 8))]) C.1 C.2.1 dL_asks_203 hl (by decide) rfl (fun ls hl => ?_)
              refine lv_iload_n C.1 C.2.1 dL_asks_205 rfl (lv_at hl 3 rfl) ?_
              refine lv_bipush (v := 7) C.1 C.2.1 dL_asks_206 rfl ?_
              refine lv_ishr C.1 C.2.1 dL_asks_208 ?_
              refine lv_iconst (v := 4) C.1 C.2.1 dL_asks_209 rfl ?_
              refine some_go (N := 4) (runS C hE hH hS (c_some (n := 4) (N := 4) rfl (by omega) (by omega) (y >>> (7 &&& 31))) mv_L_some wm_121 hl.1 dL_asks_210 rfl rfl ⟨rfl, rfl⟩ ⟨Nat.le_of_ble_eq_true rfl, Nat.le_of_ble_eq_true rfl⟩ (Nat.le_of_ble_eq_true rfl) ⟨(by show _ + 0 ≤ 330; omega), (by show _ + 0 ≤ 12650; omega)⟩) rfl (by omega) (by omega) (fun k210 hk210 => ?_)
              refine lv_istore (lv' := [(12, .int (nI k210)), (11, .int (nI k200)), (10, .int (nI (2 + k3))), (0, .ref x), (1, .int y), (2, .ref (la 0)), (3, .ref (la 1)), (4, .ref (la 3)), (5, .ref (la 4)), (6, .ref (la 5)), (7, .ref (la 6)), (8, .ref (la 7)), (9, .ref (la 8))]) C.1 C.2.1 dL_asks_213 hl (by decide) rfl (fun ls hl => ?_)
              refine lv_iload_n C.1 C.2.1 dL_asks_215 rfl (lv_at hl 4 rfl) ?_
              refine lv_iconst (v := 4) C.1 C.2.1 dL_asks_216 rfl ?_
              refine lv_ishr C.1 C.2.1 dL_asks_217 ?_
              refine lv_aload_n C.1 C.2.1 dL_asks_218 rfl (lv_at hl 5 rfl) ?_
              refine lv_iconst (v := 0) C.1 C.2.1 dL_asks_219 rfl ?_
              refine lald (K := 0) (N := 3) (E := 0) (f := (lf 0)) (v := (nI ne)) C hE hH hX (by decide) rfl rfl rfl (by omega) (hc0) dL_asks_220 ?_
              refine lv_iconst (v := 1) C.1 C.2.1 dL_asks_221 rfl ?_
              refine lv_iadd C.1 C.2.1 dL_asks_222 ?_
              rw [show ((nI ne) + 1 : Int32) = nI (ne + 1) from nI_add ne 1]
              refine some_go (N := ne + 1) (runS C hE hH hS (c_some (n := nI (ne + 1)) (N := ne + 1) rfl (by omega) (by omega) (y >>> (4 &&& 31))) mv_L_some wm_121 hl.1 dL_asks_223 rfl rfl ⟨rfl, rfl⟩ ⟨Nat.le_of_ble_eq_true rfl, Nat.le_of_ble_eq_true rfl⟩ (Nat.le_of_ble_eq_true rfl) ⟨(by show _ + 0 ≤ 330; omega), (by show _ + 0 ≤ 12650; omega)⟩) rfl (by omega) (by omega) (fun k223 hk223 => ?_)
              refine lv_istore (lv' := [(13, .int (nI k223)), (12, .int (nI k210)), (11, .int (nI k200)), (10, .int (nI (2 + k3))), (0, .ref x), (1, .int y), (2, .ref (la 0)), (3, .ref (la 1)), (4, .ref (la 3)), (5, .ref (la 4)), (6, .ref (la 5)), (7, .ref (la 6)), (8, .ref (la 7)), (9, .ref (la 8))]) C.1 C.2.1 dL_asks_226 hl (by decide) rfl (fun ls hl => ?_)
              refine lv_iload_n C.1 C.2.1 dL_asks_228 rfl (lv_at hl 5 rfl) ?_
              refine lv_bipush (v := 6) C.1 C.2.1 dL_asks_229 rfl ?_
              refine lv_ishr C.1 C.2.1 dL_asks_231 ?_
              refine lv_aload_n C.1 C.2.1 dL_asks_232 rfl (lv_at hl 6 rfl) ?_
              refine lv_iconst (v := 0) C.1 C.2.1 dL_asks_233 rfl ?_
              refine lald (K := 0) (N := 3) (E := 0) (f := (lf 0)) (v := (nI ne)) C hE hH hX (by decide) rfl rfl rfl (by omega) (hc0) dL_asks_234 ?_
              refine lv_iconst (v := 1) C.1 C.2.1 dL_asks_235 rfl ?_
              refine lv_iadd C.1 C.2.1 dL_asks_236 ?_
              rw [show ((nI ne) + 1 : Int32) = nI (ne + 1) from nI_add ne 1]
              refine some_go (N := ne + 1) (runS C hE hH hS (c_some (n := nI (ne + 1)) (N := ne + 1) rfl (by omega) (by omega) (y >>> (6 &&& 31))) mv_L_some wm_121 hl.1 dL_asks_237 rfl rfl ⟨rfl, rfl⟩ ⟨Nat.le_of_ble_eq_true rfl, Nat.le_of_ble_eq_true rfl⟩ (Nat.le_of_ble_eq_true rfl) ⟨(by show _ + 0 ≤ 330; omega), (by show _ + 0 ≤ 12650; omega)⟩) rfl (by omega) (by omega) (fun k237 hk237 => ?_)
              refine lv_istore (lv' := [(14, .int (nI k237)), (13, .int (nI k223)), (12, .int (nI k210)), (11, .int (nI k200)), (10, .int (nI (2 + k3))), (0, .ref x), (1, .int y), (2, .ref (la 0)), (3, .ref (la 1)), (4, .ref (la 3)), (5, .ref (la 4)), (6, .ref (la 5)), (7, .ref (la 6)), (8, .ref (la 7)), (9, .ref (la 8))]) C.1 C.2.1 dL_asks_240 hl (by decide) rfl (fun ls hl => ?_)
              have J263 : ∀ (v15 : Int32) (hare : v15 = 1 ∧ (k223 < ne ∧ k237 < ne) ∨ v15 = 0 ∧ ¬ (k223 < ne ∧ k237 < ne)) (ls : Array Slot), lv_has ls 20 [(14, .int (nI k237)), (13, .int (nI k223)), (12, .int (nI k210)), (11, .int (nI k200)), (10, .int (nI (2 + k3))), (0, .ref x), (1, .int y), (2, .ref (la 0)), (3, .ref (la 1)), (4, .ref (la 3)), (5, .ref (la 4)), (6, .ref (la 5)), (7, .ref (la 6)), (8, .ref (la 7)), (9, .ref (la 8))] → W p l e { frames := 10, cells := 330, slots := 12650, locals := 172 } s m args below meth c H locs (12 * i + 6 * j) (460 * i + 230 * j) (MQ below (wrQ (S := Unit) g (fun u_ => (some (.int 1))) (fun u_ M_ => M_ = M)) args s 330 12650 (gA g)) (F0 m 263 ls [.int v15]) := by
                intro v15 hare ls hl
                refine lv_istore (lv' := [(15, .int v15), (14, .int (nI k237)), (13, .int (nI k223)), (12, .int (nI k210)), (11, .int (nI k200)), (10, .int (nI (2 + k3))), (0, .ref x), (1, .int y), (2, .ref (la 0)), (3, .ref (la 1)), (4, .ref (la 3)), (5, .ref (la 4)), (6, .ref (la 5)), (7, .ref (la 6)), (8, .ref (la 7)), (9, .ref (la 8))]) C.1 C.2.1 dL_asks_263 hl (by decide) rfl (fun ls hl => ?_)
                refine lv_iload_n C.1 C.2.1 dL_asks_265 rfl (lv_at hl 7 rfl) ?_
                refine lv_bipush (v := 8) C.1 C.2.1 dL_asks_266 rfl ?_
                refine lv_ishr C.1 C.2.1 dL_asks_268 ?_
                refine lv_iconst (v := 2) C.1 C.2.1 dL_asks_269 rfl ?_
                refine some_go (N := 2) (runS C hE hH hS (c_some (n := 2) (N := 2) rfl (by omega) (by omega) (y >>> (8 &&& 31))) mv_L_some wm_121 hl.1 dL_asks_270 rfl rfl ⟨rfl, rfl⟩ ⟨Nat.le_of_ble_eq_true rfl, Nat.le_of_ble_eq_true rfl⟩ (Nat.le_of_ble_eq_true rfl) ⟨(by show _ + 0 ≤ 330; omega), (by show _ + 0 ≤ 12650; omega)⟩) rfl (by omega) (by omega) (fun k270 hk270 => ?_)
                refine lv_istore (lv' := [(16, .int (nI k270)), (15, .int v15), (14, .int (nI k237)), (13, .int (nI k223)), (12, .int (nI k210)), (11, .int (nI k200)), (10, .int (nI (2 + k3))), (0, .ref x), (1, .int y), (2, .ref (la 0)), (3, .ref (la 1)), (4, .ref (la 3)), (5, .ref (la 4)), (6, .ref (la 5)), (7, .ref (la 6)), (8, .ref (la 7)), (9, .ref (la 8))]) C.1 C.2.1 dL_asks_273 hl (by decide) rfl (fun ls hl => ?_)
                refine lv_iload_n C.1 C.2.1 dL_asks_275 rfl (lv_at hl 8 rfl) ?_
                refine lv_iconst (v := 3) C.1 C.2.1 dL_asks_276 rfl ?_
                refine lv_ishr C.1 C.2.1 dL_asks_277 ?_
                refine lv_bipush (v := 6) C.1 C.2.1 dL_asks_278 rfl ?_
                refine some_go (N := 6) (runS C hE hH hS (c_some (n := 6) (N := 6) rfl (by omega) (by omega) (y >>> (3 &&& 31))) mv_L_some wm_121 hl.1 dL_asks_280 rfl rfl ⟨rfl, rfl⟩ ⟨Nat.le_of_ble_eq_true rfl, Nat.le_of_ble_eq_true rfl⟩ (Nat.le_of_ble_eq_true rfl) ⟨(by show _ + 0 ≤ 330; omega), (by show _ + 0 ≤ 12650; omega)⟩) rfl (by omega) (by omega) (fun k280 hk280 => ?_)
                refine lv_istore (lv' := [(17, .int (nI k280)), (16, .int (nI k270)), (15, .int v15), (14, .int (nI k237)), (13, .int (nI k223)), (12, .int (nI k210)), (11, .int (nI k200)), (10, .int (nI (2 + k3))), (0, .ref x), (1, .int y), (2, .ref (la 0)), (3, .ref (la 1)), (4, .ref (la 3)), (5, .ref (la 4)), (6, .ref (la 5)), (7, .ref (la 6)), (8, .ref (la 7)), (9, .ref (la 8))]) C.1 C.2.1 dL_asks_283 hl (by decide) rfl (fun ls hl => ?_)
                refine lv_iload_n C.1 C.2.1 dL_asks_285 rfl (lv_at hl 9 rfl) ?_
                refine lv_bipush (v := 9) C.1 C.2.1 dL_asks_286 rfl ?_
                refine lv_ishr C.1 C.2.1 dL_asks_288 ?_
                refine lv_bipush (v := 6) C.1 C.2.1 dL_asks_289 rfl ?_
                refine some_go (N := 6) (runS C hE hH hS (c_some (n := 6) (N := 6) rfl (by omega) (by omega) (y >>> (9 &&& 31))) mv_L_some wm_121 hl.1 dL_asks_291 rfl rfl ⟨rfl, rfl⟩ ⟨Nat.le_of_ble_eq_true rfl, Nat.le_of_ble_eq_true rfl⟩ (Nat.le_of_ble_eq_true rfl) ⟨(by show _ + 0 ≤ 330; omega), (by show _ + 0 ≤ 12650; omega)⟩) rfl (by omega) (by omega) (fun k291 hk291 => ?_)
                refine lv_istore (lv' := [(18, .int (nI k291)), (17, .int (nI k280)), (16, .int (nI k270)), (15, .int v15), (14, .int (nI k237)), (13, .int (nI k223)), (12, .int (nI k210)), (11, .int (nI k200)), (10, .int (nI (2 + k3))), (0, .ref x), (1, .int y), (2, .ref (la 0)), (3, .ref (la 1)), (4, .ref (la 3)), (5, .ref (la 4)), (6, .ref (la 5)), (7, .ref (la 6)), (8, .ref (la 7)), (9, .ref (la 8))]) C.1 C.2.1 dL_asks_294 hl (by decide) rfl (fun ls hl => ?_)
                have J313 : ∀ (v19 : Int32) (his : v19 = 1 ∧ (k280 < 5 ∧ k291 < 5) ∨ v19 = 0 ∧ ¬ (k280 < 5 ∧ k291 < 5)) (ls : Array Slot), lv_has ls 20 [(18, .int (nI k291)), (17, .int (nI k280)), (16, .int (nI k270)), (15, .int v15), (14, .int (nI k237)), (13, .int (nI k223)), (12, .int (nI k210)), (11, .int (nI k200)), (10, .int (nI (2 + k3))), (0, .ref x), (1, .int y), (2, .ref (la 0)), (3, .ref (la 1)), (4, .ref (la 3)), (5, .ref (la 4)), (6, .ref (la 5)), (7, .ref (la 6)), (8, .ref (la 7)), (9, .ref (la 8))] → W p l e { frames := 10, cells := 330, slots := 12650, locals := 172 } s m args below meth c H locs (12 * i + 6 * j) (460 * i + 230 * j) (MQ below (wrQ (S := Unit) g (fun u_ => (some (.int 1))) (fun u_ M_ => M_ = M)) args s 330 12650 (gA g)) (F0 m 313 ls [.int v19]) := by
                  intro v19 his ls hl
                  refine lv_istore (lv' := [(19, .int v19), (18, .int (nI k291)), (17, .int (nI k280)), (16, .int (nI k270)), (15, .int v15), (14, .int (nI k237)), (13, .int (nI k223)), (12, .int (nI k210)), (11, .int (nI k200)), (10, .int (nI (2 + k3))), (0, .ref x), (1, .int y), (2, .ref (la 0)), (3, .ref (la 1)), (4, .ref (la 3)), (5, .ref (la 4)), (6, .ref (la 5)), (7, .ref (la 6)), (8, .ref (la 7)), (9, .ref (la 8))]) C.1 C.2.1 dL_asks_313 hl (by decide) rfl (fun ls hl => ?_)
                  have J359 : ∀ (H : Heap) (locs : List Loc) (hH : Hw g M H) (hS : va_S (gA g) s.heap H locs) (ls : Array Slot), lv_has ls 20 [(19, .int v19), (18, .int (nI k291)), (17, .int (nI k280)), (16, .int (nI k270)), (15, .int v15), (14, .int (nI k237)), (13, .int (nI k223)), (12, .int (nI k210)), (11, .int (nI k200)), (10, .int (nI (2 + k3))), (0, .ref x), (1, .int y), (2, .ref (la 0)), (3, .ref (la 1)), (4, .ref (la 3)), (5, .ref (la 4)), (6, .ref (la 5)), (7, .ref (la 6)), (8, .ref (la 7)), (9, .ref (la 8))] → W p l e { frames := 10, cells := 330, slots := 12650, locals := 172 } s m args below meth c H locs (12 * i + 6 * j + 6) (460 * i + 230 * j + 230) (MQ below (wrQ (S := Unit) g (fun u_ => (some (.int 1))) (fun u_ M_ => M_ = M)) args s 330 12650 (gA g)) (F0 m 359 ls []) := by
                    intro   H locs hH hS ls hl
                    have J401 : ∀ (H : Heap) (locs : List Loc) (hH : Hw g M H) (hS : va_S (gA g) s.heap H locs) (ls : Array Slot), lv_has ls 20 [(19, .int v19), (18, .int (nI k291)), (17, .int (nI k280)), (16, .int (nI k270)), (15, .int v15), (14, .int (nI k237)), (13, .int (nI k223)), (12, .int (nI k210)), (11, .int (nI k200)), (10, .int (nI (2 + k3))), (0, .ref x), (1, .int y), (2, .ref (la 0)), (3, .ref (la 1)), (4, .ref (la 3)), (5, .ref (la 4)), (6, .ref (la 5)), (7, .ref (la 6)), (8, .ref (la 7)), (9, .ref (la 8))] → W p l e { frames := 10, cells := 330, slots := 12650, locals := 172 } s m args below meth c H locs (12 * i + 6 * j + 6 + 6) (460 * i + 230 * j + 230 + 230) (MQ below (wrQ (S := Unit) g (fun u_ => (some (.int 1))) (fun u_ M_ => M_ = M)) args s 330 12650 (gA g)) (F0 m 401 ls []) := by
                      intro   H locs hH hS ls hl
                      have J441 : ∀ (H : Heap) (locs : List Loc) (hH : Hw g M H) (hS : va_S (gA g) s.heap H locs) (ls : Array Slot), lv_has ls 20 [(19, .int v19), (18, .int (nI k291)), (17, .int (nI k280)), (16, .int (nI k270)), (15, .int v15), (14, .int (nI k237)), (13, .int (nI k223)), (12, .int (nI k210)), (11, .int (nI k200)), (10, .int (nI (2 + k3))), (0, .ref x), (1, .int y), (2, .ref (la 0)), (3, .ref (la 1)), (4, .ref (la 3)), (5, .ref (la 4)), (6, .ref (la 5)), (7, .ref (la 6)), (8, .ref (la 7)), (9, .ref (la 8))] → W p l e { frames := 10, cells := 330, slots := 12650, locals := 172 } s m args below meth c H locs (12 * i + 6 * j + 6 + 6 + 6) (460 * i + 230 * j + 230 + 230 + 230) (MQ below (wrQ (S := Unit) g (fun u_ => (some (.int 1))) (fun u_ M_ => M_ = M)) args s 330 12650 (gA g)) (F0 m 441 ls []) := by
                        intro   H locs hH hS ls hl
                        have J474 : ∀ (H : Heap) (locs : List Loc) (hH : Hw g M H) (hS : va_S (gA g) s.heap H locs) (ls : Array Slot), lv_has ls 20 [(19, .int v19), (18, .int (nI k291)), (17, .int (nI k280)), (16, .int (nI k270)), (15, .int v15), (14, .int (nI k237)), (13, .int (nI k223)), (12, .int (nI k210)), (11, .int (nI k200)), (10, .int (nI (2 + k3))), (0, .ref x), (1, .int y), (2, .ref (la 0)), (3, .ref (la 1)), (4, .ref (la 3)), (5, .ref (la 4)), (6, .ref (la 5)), (7, .ref (la 6)), (8, .ref (la 7)), (9, .ref (la 8))] → W p l e { frames := 10, cells := 330, slots := 12650, locals := 172 } s m args below meth c H locs (12 * i + 6 * j + 6 + 6 + 6 + 6) (460 * i + 230 * j + 230 + 230 + 230 + 230) (MQ below (wrQ (S := Unit) g (fun u_ => (some (.int 1))) (fun u_ M_ => M_ = M)) args s 330 12650 (gA g)) (F0 m 474 ls []) := by
                          intro   H locs hH hS ls hl
                          refine lv_aload_n C.1 C.2.1 dL_asks_474 rfl (lv_at hl 10 rfl) ?_
                          refine lv_iconst (v := 1) C.1 C.2.1 dL_asks_475 rfl ?_
                          refine lv_iconst (v := -1) C.1 C.2.1 dL_asks_476 rfl ?_
                          refine wr_go1 (runT C hE hH hS (l_strength hlx hI (-1)) mv_L_one wm_508 hl.1 dL_asks_477 rfl rfl ⟨rfl, rfl⟩ ⟨Nat.le_of_ble_eq_true rfl, Nat.le_of_ble_eq_true rfl⟩ (Nat.le_of_ble_eq_true rfl) ⟨(by show _ + 6 ≤ 330; omega), (by show _ + 230 ≤ 12650; omega)⟩) hS (fun u1 M2 H locs hM2 hH hS => ?_)
                          obtain ⟨hu, hM⟩ := lqA_f hM2 (inx_m (by decide))
                          rw [hu]
                          rw [hM] at hH
                          refine lv_bipush (v := -101) C.1 C.2.1 dL_asks_480 rfl ?_
                          refine lv_icmp_ne (tgt := 489) C.1 C.2.1 dL_asks_482 (by decide) (fun c482 => ?_) (fun c482 => ?_)
                          · exact absurd c482 (by decide)
                          · refine lv_iconst (v := 1) C.1 C.2.1 dL_asks_485 rfl ?_
                            refine lv_goto (tgt := 490) C.1 C.2.1 dL_asks_486 (by decide) ?_
                            exact wr_zret () C hr hlocks (rfl) hH hS rfl (rfl) (by omega) (by omega) dL_asks_490
                        by_cases hp5 : k280 < 5
                        · refine lv_aload_n C.1 C.2.1 dL_asks_441 rfl (lv_at hl 10 rfl) ?_
                          refine lv_iconst (v := 1) C.1 C.2.1 dL_asks_442 rfl ?_
                          refine lv_iload C.1 C.2.1 dL_asks_443 (lv_at hl 2 rfl) ?_
                          refine lv_iconst (v := 0) C.1 C.2.1 dL_asks_445 rfl ?_
                          refine lv_iload C.1 C.2.1 dL_asks_446 (lv_at hl 3 rfl) ?_
                          refine wr_go1 (runT C hE hH hS (l_position hlx hI (nI k280) 0 (nI k270)) mv_L_debt wm_700 hl.1 dL_asks_448 rfl rfl ⟨rfl, rfl⟩ ⟨Nat.le_of_ble_eq_true rfl, Nat.le_of_ble_eq_true rfl⟩ (Nat.le_of_ble_eq_true rfl) ⟨(by show _ + 6 ≤ 330; omega), (by show _ + 230 ≤ 12650; omega)⟩) hS (fun u3 M4 H locs hM4 hH hS => ?_)
                          rw [nI_clamp (show k270 < 2 ^ 31 by omega), nI_clamp (show k280 < 2 ^ 31 by omega)] at hM4
                          obtain ⟨hu, hM⟩ := lqA_t hM4 ⟨(inx_n (a := k280) (n := 5) (by omega) (by omega)).mpr hp5, (inx_n (a := k270) (n := 3) (by omega) (by omega)).mpr (by omega)⟩
                          have hu : u3 = zps (lf 8) k270 k280 25 := hu.trans ((zps_zU rD (by omega) hp5).symm)
                          rw [hu]
                          rw [hM] at hH
                          refine lv_iload C.1 C.2.1 dL_asks_451 (lv_at hl 2 rfl) ?_
                          refine lv_iconst (v := 5) C.1 C.2.1 dL_asks_453 rfl ?_
                          refine lv_icmp_ge (tgt := 469) C.1 C.2.1 dL_asks_454 (by decide) (fun c454 => ?_) (fun c454 => ?_)
                          · exact absurd ((nI_leI (a := 5) (b := k280) (by omega) (by omega)).mp c454) (by omega)
                          · have n454 : ¬ 5 ≤ k280 := fun z => c454 ((nI_leI (a := 5) (b := k280) (by omega) (by omega)).mpr z)
                            refine lv_aload C.1 C.2.1 dL_asks_457 (lv_at hl 19 rfl) ?_
                            refine lv_iload C.1 C.2.1 dL_asks_459 (lv_at hl 3 rfl) ?_
                            refine lv_iload C.1 C.2.1 dL_asks_461 (lv_at hl 2 rfl) ?_
                            refine rd_go1 (runS C hE hH hS (c_position hX.1 ((by omega)) (hp5)) mv_L_position wm_694 hl.1 dL_asks_463 rfl rfl ⟨rfl, rfl⟩ ⟨Nat.le_of_ble_eq_true rfl, Nat.le_of_ble_eq_true rfl⟩ (Nat.le_of_ble_eq_true rfl) ⟨(by show _ + 0 ≤ 330; omega), (by show _ + 0 ≤ 12650; omega)⟩) ?_
                            refine lv_goto (tgt := 471) C.1 C.2.1 dL_asks_466 (by decide) ?_
                            refine lv_icmp_ne (tgt := 489) C.1 C.2.1 dL_asks_471 (by decide) (fun c471 => ?_) (fun c471 => ?_)
                            · exact absurd rfl c471
                            · exact J474  _ _ hH hS ls (hl)
                        · refine lv_aload_n C.1 C.2.1 dL_asks_441 rfl (lv_at hl 10 rfl) ?_
                          refine lv_iconst (v := 1) C.1 C.2.1 dL_asks_442 rfl ?_
                          refine lv_iload C.1 C.2.1 dL_asks_443 (lv_at hl 2 rfl) ?_
                          refine lv_iconst (v := 0) C.1 C.2.1 dL_asks_445 rfl ?_
                          refine lv_iload C.1 C.2.1 dL_asks_446 (lv_at hl 3 rfl) ?_
                          refine wr_go1 (runT C hE hH hS (l_position hlx hI (nI k280) 0 (nI k270)) mv_L_debt wm_700 hl.1 dL_asks_448 rfl rfl ⟨rfl, rfl⟩ ⟨Nat.le_of_ble_eq_true rfl, Nat.le_of_ble_eq_true rfl⟩ (Nat.le_of_ble_eq_true rfl) ⟨(by show _ + 6 ≤ 330; omega), (by show _ + 230 ≤ 12650; omega)⟩) hS (fun u5 M6 H locs hM6 hH hS => ?_)
                          obtain ⟨hu, hM⟩ := lqA_f hM6 (fun z => hp5 ((inx_n (a := k280) (n := 5) (by omega) (by omega)).mp z.1))
                          rw [hu]
                          rw [hM] at hH
                          refine lv_iload C.1 C.2.1 dL_asks_451 (lv_at hl 2 rfl) ?_
                          refine lv_iconst (v := 5) C.1 C.2.1 dL_asks_453 rfl ?_
                          refine lv_icmp_ge (tgt := 469) C.1 C.2.1 dL_asks_454 (by decide) (fun c454 => ?_) (fun c454 => ?_)
                          · have n454 : 5 ≤ k280 := (nI_leI (a := 5) (b := k280) (by omega) (by omega)).mp c454
                            refine lv_ldc (v := -1000000) C.1 C.2.1 C.2.2.2.1 (C.2.2.2.2 _ wm_712) dL_asks_469 ?_
                            refine lv_icmp_ne (tgt := 489) C.1 C.2.1 dL_asks_471 (by decide) (fun c471 => ?_) (fun c471 => ?_)
                            · exact absurd c471 (by decide)
                            · exact J474  _ _ hH hS ls (hl)
                          · exact absurd ((nI_leI (a := 5) (b := k280) (by omega) (by omega)).mpr (by omega)) c454
                      rcases his with ⟨rfl, his⟩ | ⟨rfl, his⟩
                      · refine lv_aload_n C.1 C.2.1 dL_asks_401 rfl (lv_at hl 10 rfl) ?_
                        refine lv_iconst (v := 0) C.1 C.2.1 dL_asks_402 rfl ?_
                        refine lv_iload C.1 C.2.1 dL_asks_403 (lv_at hl 2 rfl) ?_
                        refine lv_iload C.1 C.2.1 dL_asks_405 (lv_at hl 1 rfl) ?_
                        refine lv_iload C.1 C.2.1 dL_asks_407 (lv_at hl 3 rfl) ?_
                        refine wr_go1 (runT C hE hH hS (l_owes hlx hI (nI k280) (nI k291) (nI k270)) mv_L_debt wm_700 hl.1 dL_asks_409 rfl rfl ⟨rfl, rfl⟩ ⟨Nat.le_of_ble_eq_true rfl, Nat.le_of_ble_eq_true rfl⟩ (Nat.le_of_ble_eq_true rfl) ⟨(by show _ + 6 ≤ 330; omega), (by show _ + 230 ≤ 12650; omega)⟩) hS (fun u7 M8 H locs hM8 hH hS => ?_)
                        rw [nI_clamp (show k270 < 2 ^ 31 by omega), nI_clamp (show k280 < 2 ^ 31 by omega), nI_clamp (show k291 < 2 ^ 31 by omega)] at hM8
                        obtain ⟨hu, hM⟩ := lqA_t hM8 ⟨⟨(inx_n (a := k280) (n := 5) (by omega) (by omega)).mpr his.1, (inx_n (a := k291) (n := 5) (by omega) (by omega)).mpr his.2⟩, (inx_n (a := k270) (n := 3) (by omega) (by omega)).mpr (by omega)⟩
                        have hu : u7 = (lf 8) (25 * k270 + 5 * k280 + k291) := hu.trans ((rD _ (by omega)).symm)
                        rw [hu]
                        rw [hM] at hH
                        refine lv_iload C.1 C.2.1 dL_asks_412 (lv_at hl 0 rfl) ?_
                        refine lv_if_eq (tgt := 436) C.1 C.2.1 dL_asks_414 (by decide) (fun c414 => ?_) (fun c414 => ?_)
                        · exact absurd c414 (by decide)
                        · refine lv_aload C.1 C.2.1 dL_asks_417 (lv_at hl 19 rfl) ?_
                          refine lv_bipush (v := 25) C.1 C.2.1 dL_asks_419 rfl ?_
                          refine lv_iload C.1 C.2.1 dL_asks_421 (lv_at hl 3 rfl) ?_
                          refine lv_imul C.1 C.2.1 dL_asks_423 ?_
                          rw [show ((25 : Int32) * (nI k270)) = nI (25 * k270) from nI_M 25 k270]
                          refine lv_iconst (v := 5) C.1 C.2.1 dL_asks_424 rfl ?_
                          refine lv_iload C.1 C.2.1 dL_asks_425 (lv_at hl 2 rfl) ?_
                          refine lv_imul C.1 C.2.1 dL_asks_427 ?_
                          rw [show ((5 : Int32) * (nI k280)) = nI (5 * k280) from nI_M 5 k280]
                          refine lv_iadd C.1 C.2.1 dL_asks_428 ?_
                          rw [show ((nI (25 * k270)) + (nI (5 * k280)) : Int32) = nI (25 * k270 + 5 * k280) from nI_add (25 * k270) (5 * k280)]
                          refine lv_iload C.1 C.2.1 dL_asks_429 (lv_at hl 1 rfl) ?_
                          refine lv_iadd C.1 C.2.1 dL_asks_431 ?_
                          rw [show ((nI (25 * k270 + 5 * k280)) + (nI k291) : Int32) = nI (25 * k270 + 5 * k280 + k291) from nI_add (25 * k270 + 5 * k280) k291]
                          refine lald (K := 8) (N := 50) (E := 25 * k270 + 5 * k280 + k291) (f := (lf 8)) (v := ((lf 8) (25 * k270 + 5 * k280 + k291))) C hE hH hX (by decide) rfl rfl rfl (by omega) (rfl) dL_asks_432 ?_
                          refine lv_goto (tgt := 438) C.1 C.2.1 dL_asks_433 (by decide) ?_
                          refine lv_icmp_ne (tgt := 489) C.1 C.2.1 dL_asks_438 (by decide) (fun c438 => ?_) (fun c438 => ?_)
                          · exact absurd rfl c438
                          · have J474 : ∀ (H : Heap) (locs : List Loc) (hH : Hw g M H) (hS : va_S (gA g) s.heap H locs) (ls : Array Slot), lv_has ls 20 [(19, .int 1), (18, .int (nI k291)), (17, .int (nI k280)), (16, .int (nI k270)), (15, .int v15), (14, .int (nI k237)), (13, .int (nI k223)), (12, .int (nI k210)), (11, .int (nI k200)), (10, .int (nI (2 + k3))), (0, .ref x), (1, .int y), (2, .ref (la 0)), (3, .ref (la 1)), (4, .ref (la 3)), (5, .ref (la 4)), (6, .ref (la 5)), (7, .ref (la 6)), (8, .ref (la 7)), (9, .ref (la 8))] → W p l e { frames := 10, cells := 330, slots := 12650, locals := 172 } s m args below meth c H locs (12 * i + 6 * j + 6 + 6 + 6 + 6) (460 * i + 230 * j + 230 + 230 + 230 + 230) (MQ below (wrQ (S := Unit) g (fun u_ => (some (.int 1))) (fun u_ M_ => M_ = M)) args s 330 12650 (gA g)) (F0 m 474 ls []) := by
                              intro   H locs hH hS ls hl
                              refine lv_aload_n C.1 C.2.1 dL_asks_474 rfl (lv_at hl 10 rfl) ?_
                              refine lv_iconst (v := 1) C.1 C.2.1 dL_asks_475 rfl ?_
                              refine lv_iconst (v := -1) C.1 C.2.1 dL_asks_476 rfl ?_
                              refine wr_go1 (runT C hE hH hS (l_strength hlx hI (-1)) mv_L_one wm_508 hl.1 dL_asks_477 rfl rfl ⟨rfl, rfl⟩ ⟨Nat.le_of_ble_eq_true rfl, Nat.le_of_ble_eq_true rfl⟩ (Nat.le_of_ble_eq_true rfl) ⟨(by show _ + 6 ≤ 330; omega), (by show _ + 230 ≤ 12650; omega)⟩) hS (fun u9 M10 H locs hM10 hH hS => ?_)
                              obtain ⟨hu, hM⟩ := lqA_f hM10 (inx_m (by decide))
                              rw [hu]
                              rw [hM] at hH
                              refine lv_bipush (v := -101) C.1 C.2.1 dL_asks_480 rfl ?_
                              refine lv_icmp_ne (tgt := 489) C.1 C.2.1 dL_asks_482 (by decide) (fun c482 => ?_) (fun c482 => ?_)
                              · exact absurd c482 (by decide)
                              · refine lv_iconst (v := 1) C.1 C.2.1 dL_asks_485 rfl ?_
                                refine lv_goto (tgt := 490) C.1 C.2.1 dL_asks_486 (by decide) ?_
                                exact wr_zret () C hr hlocks (rfl) hH hS rfl (rfl) (by omega) (by omega) dL_asks_490
                            exact J441  _ _ hH hS ls (lv_sub hl [0, 1, 2, 3, 4, 5, 6, 7, 8, 9, 10, 11, 12, 13, 14, 15, 16, 17, 18, 19] rfl)
                      · refine lv_aload_n C.1 C.2.1 dL_asks_401 rfl (lv_at hl 10 rfl) ?_
                        refine lv_iconst (v := 0) C.1 C.2.1 dL_asks_402 rfl ?_
                        refine lv_iload C.1 C.2.1 dL_asks_403 (lv_at hl 2 rfl) ?_
                        refine lv_iload C.1 C.2.1 dL_asks_405 (lv_at hl 1 rfl) ?_
                        refine lv_iload C.1 C.2.1 dL_asks_407 (lv_at hl 3 rfl) ?_
                        refine wr_go1 (runT C hE hH hS (l_owes hlx hI (nI k280) (nI k291) (nI k270)) mv_L_debt wm_700 hl.1 dL_asks_409 rfl rfl ⟨rfl, rfl⟩ ⟨Nat.le_of_ble_eq_true rfl, Nat.le_of_ble_eq_true rfl⟩ (Nat.le_of_ble_eq_true rfl) ⟨(by show _ + 6 ≤ 330; omega), (by show _ + 230 ≤ 12650; omega)⟩) hS (fun u11 M12 H locs hM12 hH hS => ?_)
                        obtain ⟨hu, hM⟩ := lqA_f hM12 (fun z => his ⟨(inx_n (a := k280) (n := 5) (by omega) (by omega)).mp z.1.1, (inx_n (a := k291) (n := 5) (by omega) (by omega)).mp z.1.2⟩)
                        rw [hu]
                        rw [hM] at hH
                        refine lv_iload C.1 C.2.1 dL_asks_412 (lv_at hl 0 rfl) ?_
                        refine lv_if_eq (tgt := 436) C.1 C.2.1 dL_asks_414 (by decide) (fun c414 => ?_) (fun c414 => ?_)
                        · refine lv_ldc (v := -1000000) C.1 C.2.1 C.2.2.2.1 (C.2.2.2.2 _ wm_712) dL_asks_436 ?_
                          refine lv_icmp_ne (tgt := 489) C.1 C.2.1 dL_asks_438 (by decide) (fun c438 => ?_) (fun c438 => ?_)
                          · exact absurd c438 (by decide)
                          · have J474 : ∀ (H : Heap) (locs : List Loc) (hH : Hw g M H) (hS : va_S (gA g) s.heap H locs) (ls : Array Slot), lv_has ls 20 [(19, .int 0), (18, .int (nI k291)), (17, .int (nI k280)), (16, .int (nI k270)), (15, .int v15), (14, .int (nI k237)), (13, .int (nI k223)), (12, .int (nI k210)), (11, .int (nI k200)), (10, .int (nI (2 + k3))), (0, .ref x), (1, .int y), (2, .ref (la 0)), (3, .ref (la 1)), (4, .ref (la 3)), (5, .ref (la 4)), (6, .ref (la 5)), (7, .ref (la 6)), (8, .ref (la 7)), (9, .ref (la 8))] → W p l e { frames := 10, cells := 330, slots := 12650, locals := 172 } s m args below meth c H locs (12 * i + 6 * j + 6 + 6 + 6 + 6) (460 * i + 230 * j + 230 + 230 + 230 + 230) (MQ below (wrQ (S := Unit) g (fun u_ => (some (.int 1))) (fun u_ M_ => M_ = M)) args s 330 12650 (gA g)) (F0 m 474 ls []) := by
                              intro   H locs hH hS ls hl
                              refine lv_aload_n C.1 C.2.1 dL_asks_474 rfl (lv_at hl 10 rfl) ?_
                              refine lv_iconst (v := 1) C.1 C.2.1 dL_asks_475 rfl ?_
                              refine lv_iconst (v := -1) C.1 C.2.1 dL_asks_476 rfl ?_
                              refine wr_go1 (runT C hE hH hS (l_strength hlx hI (-1)) mv_L_one wm_508 hl.1 dL_asks_477 rfl rfl ⟨rfl, rfl⟩ ⟨Nat.le_of_ble_eq_true rfl, Nat.le_of_ble_eq_true rfl⟩ (Nat.le_of_ble_eq_true rfl) ⟨(by show _ + 6 ≤ 330; omega), (by show _ + 230 ≤ 12650; omega)⟩) hS (fun u13 M14 H locs hM14 hH hS => ?_)
                              obtain ⟨hu, hM⟩ := lqA_f hM14 (inx_m (by decide))
                              rw [hu]
                              rw [hM] at hH
                              refine lv_bipush (v := -101) C.1 C.2.1 dL_asks_480 rfl ?_
                              refine lv_icmp_ne (tgt := 489) C.1 C.2.1 dL_asks_482 (by decide) (fun c482 => ?_) (fun c482 => ?_)
                              · exact absurd c482 (by decide)
                              · refine lv_iconst (v := 1) C.1 C.2.1 dL_asks_485 rfl ?_
                                refine lv_goto (tgt := 490) C.1 C.2.1 dL_asks_486 (by decide) ?_
                                exact wr_zret () C hr hlocks (rfl) hH hS rfl (rfl) (by omega) (by omega) dL_asks_490
                            exact J441  _ _ hH hS ls (lv_sub hl [0, 1, 2, 3, 4, 5, 6, 7, 8, 9, 10, 11, 12, 13, 14, 15, 16, 17, 18, 19] rfl)
                        · exact absurd c414 (by decide)
                    rcases hare with ⟨rfl, hare⟩ | ⟨rfl, hare⟩
                    · refine lv_aload_n C.1 C.2.1 dL_asks_359 rfl (lv_at hl 10 rfl) ?_
                      refine lv_iconst (v := 5) C.1 C.2.1 dL_asks_360 rfl ?_
                      refine lv_iload C.1 C.2.1 dL_asks_361 (lv_at hl 6 rfl) ?_
                      refine lv_iload C.1 C.2.1 dL_asks_363 (lv_at hl 5 rfl) ?_
                      refine wr_go1 (runT C hE hH hS (l_apart hlx hI (nI k223) (nI k237)) mv_L_two wm_313 hl.1 dL_asks_365 rfl rfl ⟨rfl, rfl⟩ ⟨Nat.le_of_ble_eq_true rfl, Nat.le_of_ble_eq_true rfl⟩ (Nat.le_of_ble_eq_true rfl) ⟨(by show _ + 6 ≤ 330; omega), (by show _ + 230 ≤ 12650; omega)⟩) hS (fun u15 M16 H locs hM16 hH hS => ?_)
                      rw [nI_clamp (show k223 < 2 ^ 31 by omega), nI_clamp (show k237 < 2 ^ 31 by omega)] at hM16
                      obtain ⟨hu, hM⟩ := lqA_t hM16 ⟨(inx_n (a := k223) (n := ne) (by omega) (by omega)).mpr hare.1, (inx_n (a := k237) (n := ne) (by omega) (by omega)).mpr hare.2⟩
                      have hu : u15 = zap ((lf 1) (3 * k237)) (lf 1 (3 * k223)) + zap ((lf 1) (3 * k237 + 1)) (lf 1 (3 * k223 + 1)) := hu.trans (ap_at hI rE hare.1 hare.2)
                      rw [hu]
                      rw [hM] at hH
                      refine lv_iload C.1 C.2.1 dL_asks_368 (lv_at hl 4 rfl) ?_
                      refine lv_if_eq (tgt := 396) C.1 C.2.1 dL_asks_370 (by decide) (fun c370 => ?_) (fun c370 => ?_)
                      · exact absurd c370 (by decide)
                      · refine lv_aload_n C.1 C.2.1 dL_asks_373 rfl (lv_at hl 13 rfl) ?_
                        refine lv_iload C.1 C.2.1 dL_asks_374 (lv_at hl 6 rfl) ?_
                        refine lv_aload_n C.1 C.2.1 dL_asks_376 rfl (lv_at hl 13 rfl) ?_
                        refine lv_iconst (v := 3) C.1 C.2.1 dL_asks_377 rfl ?_
                        refine lv_iload C.1 C.2.1 dL_asks_378 (lv_at hl 5 rfl) ?_
                        refine lv_imul C.1 C.2.1 dL_asks_380 ?_
                        rw [show ((3 : Int32) * (nI k237)) = nI (3 * k237) from nI_M 3 k237]
                        refine lald (K := 1) (N := 12) (E := 3 * k237) (f := (lf 1)) (v := ((lf 1) (3 * k237))) C hE hH hX (by decide) rfl rfl rfl (by omega) (rfl) dL_asks_381 ?_
                        refine lv_aload_n C.1 C.2.1 dL_asks_382 rfl (lv_at hl 13 rfl) ?_
                        refine lv_iconst (v := 3) C.1 C.2.1 dL_asks_383 rfl ?_
                        refine lv_iload C.1 C.2.1 dL_asks_384 (lv_at hl 5 rfl) ?_
                        refine lv_imul C.1 C.2.1 dL_asks_386 ?_
                        rw [show ((3 : Int32) * (nI k237)) = nI (3 * k237) from nI_M 3 k237]
                        refine lv_iconst (v := 1) C.1 C.2.1 dL_asks_387 rfl ?_
                        refine lv_iadd C.1 C.2.1 dL_asks_388 ?_
                        rw [show ((nI (3 * k237)) + 1 : Int32) = nI (3 * k237 + 1) from nI_add (3 * k237) 1]
                        refine lald (K := 1) (N := 12) (E := 3 * k237 + 1) (f := (lf 1)) (v := ((lf 1) (3 * k237 + 1))) C hE hH hX (by decide) rfl rfl rfl (by omega) (rfl) dL_asks_389 ?_
                        refine rd_go1 (runS C hE hH hS (c_off hX.1 ((by omega)) ((lf 1) (3 * k237)) ((lf 1) (3 * k237 + 1))) mv_L_off wm_596 hl.1 dL_asks_390 rfl rfl ⟨rfl, rfl⟩ ⟨Nat.le_of_ble_eq_true rfl, Nat.le_of_ble_eq_true rfl⟩ (Nat.le_of_ble_eq_true rfl) ⟨(by show _ + 0 ≤ 330; omega), (by show _ + 0 ≤ 12650; omega)⟩) ?_
                        refine lv_goto (tgt := 398) C.1 C.2.1 dL_asks_393 (by decide) ?_
                        refine lv_icmp_ne (tgt := 489) C.1 C.2.1 dL_asks_398 (by decide) (fun c398 => ?_) (fun c398 => ?_)
                        · exact absurd rfl c398
                        · have J441 : ∀ (H : Heap) (locs : List Loc) (hH : Hw g M H) (hS : va_S (gA g) s.heap H locs) (ls : Array Slot), lv_has ls 20 [(19, .int v19), (18, .int (nI k291)), (17, .int (nI k280)), (16, .int (nI k270)), (15, .int 1), (14, .int (nI k237)), (13, .int (nI k223)), (12, .int (nI k210)), (11, .int (nI k200)), (10, .int (nI (2 + k3))), (0, .ref x), (1, .int y), (2, .ref (la 0)), (3, .ref (la 1)), (4, .ref (la 3)), (5, .ref (la 4)), (6, .ref (la 5)), (7, .ref (la 6)), (8, .ref (la 7)), (9, .ref (la 8))] → W p l e { frames := 10, cells := 330, slots := 12650, locals := 172 } s m args below meth c H locs (12 * i + 6 * j + 6 + 6 + 6) (460 * i + 230 * j + 230 + 230 + 230) (MQ below (wrQ (S := Unit) g (fun u_ => (some (.int 1))) (fun u_ M_ => M_ = M)) args s 330 12650 (gA g)) (F0 m 441 ls []) := by
                            intro   H locs hH hS ls hl
                            have J474 : ∀ (H : Heap) (locs : List Loc) (hH : Hw g M H) (hS : va_S (gA g) s.heap H locs) (ls : Array Slot), lv_has ls 20 [(19, .int v19), (18, .int (nI k291)), (17, .int (nI k280)), (16, .int (nI k270)), (15, .int 1), (14, .int (nI k237)), (13, .int (nI k223)), (12, .int (nI k210)), (11, .int (nI k200)), (10, .int (nI (2 + k3))), (0, .ref x), (1, .int y), (2, .ref (la 0)), (3, .ref (la 1)), (4, .ref (la 3)), (5, .ref (la 4)), (6, .ref (la 5)), (7, .ref (la 6)), (8, .ref (la 7)), (9, .ref (la 8))] → W p l e { frames := 10, cells := 330, slots := 12650, locals := 172 } s m args below meth c H locs (12 * i + 6 * j + 6 + 6 + 6 + 6) (460 * i + 230 * j + 230 + 230 + 230 + 230) (MQ below (wrQ (S := Unit) g (fun u_ => (some (.int 1))) (fun u_ M_ => M_ = M)) args s 330 12650 (gA g)) (F0 m 474 ls []) := by
                              intro   H locs hH hS ls hl
                              refine lv_aload_n C.1 C.2.1 dL_asks_474 rfl (lv_at hl 10 rfl) ?_
                              refine lv_iconst (v := 1) C.1 C.2.1 dL_asks_475 rfl ?_
                              refine lv_iconst (v := -1) C.1 C.2.1 dL_asks_476 rfl ?_
                              refine wr_go1 (runT C hE hH hS (l_strength hlx hI (-1)) mv_L_one wm_508 hl.1 dL_asks_477 rfl rfl ⟨rfl, rfl⟩ ⟨Nat.le_of_ble_eq_true rfl, Nat.le_of_ble_eq_true rfl⟩ (Nat.le_of_ble_eq_true rfl) ⟨(by show _ + 6 ≤ 330; omega), (by show _ + 230 ≤ 12650; omega)⟩) hS (fun u17 M18 H locs hM18 hH hS => ?_)
                              obtain ⟨hu, hM⟩ := lqA_f hM18 (inx_m (by decide))
                              rw [hu]
                              rw [hM] at hH
                              refine lv_bipush (v := -101) C.1 C.2.1 dL_asks_480 rfl ?_
                              refine lv_icmp_ne (tgt := 489) C.1 C.2.1 dL_asks_482 (by decide) (fun c482 => ?_) (fun c482 => ?_)
                              · exact absurd c482 (by decide)
                              · refine lv_iconst (v := 1) C.1 C.2.1 dL_asks_485 rfl ?_
                                refine lv_goto (tgt := 490) C.1 C.2.1 dL_asks_486 (by decide) ?_
                                exact wr_zret () C hr hlocks (rfl) hH hS rfl (rfl) (by omega) (by omega) dL_asks_490
                            by_cases hp5 : k280 < 5
                            · refine lv_aload_n C.1 C.2.1 dL_asks_441 rfl (lv_at hl 10 rfl) ?_
                              refine lv_iconst (v := 1) C.1 C.2.1 dL_asks_442 rfl ?_
                              refine lv_iload C.1 C.2.1 dL_asks_443 (lv_at hl 2 rfl) ?_
                              refine lv_iconst (v := 0) C.1 C.2.1 dL_asks_445 rfl ?_
                              refine lv_iload C.1 C.2.1 dL_asks_446 (lv_at hl 3 rfl) ?_
                              refine wr_go1 (runT C hE hH hS (l_position hlx hI (nI k280) 0 (nI k270)) mv_L_debt wm_700 hl.1 dL_asks_448 rfl rfl ⟨rfl, rfl⟩ ⟨Nat.le_of_ble_eq_true rfl, Nat.le_of_ble_eq_true rfl⟩ (Nat.le_of_ble_eq_true rfl) ⟨(by show _ + 6 ≤ 330; omega), (by show _ + 230 ≤ 12650; omega)⟩) hS (fun u19 M20 H locs hM20 hH hS => ?_)
                              rw [nI_clamp (show k270 < 2 ^ 31 by omega), nI_clamp (show k280 < 2 ^ 31 by omega)] at hM20
                              obtain ⟨hu, hM⟩ := lqA_t hM20 ⟨(inx_n (a := k280) (n := 5) (by omega) (by omega)).mpr hp5, (inx_n (a := k270) (n := 3) (by omega) (by omega)).mpr (by omega)⟩
                              have hu : u19 = zps (lf 8) k270 k280 25 := hu.trans ((zps_zU rD (by omega) hp5).symm)
                              rw [hu]
                              rw [hM] at hH
                              refine lv_iload C.1 C.2.1 dL_asks_451 (lv_at hl 2 rfl) ?_
                              refine lv_iconst (v := 5) C.1 C.2.1 dL_asks_453 rfl ?_
                              refine lv_icmp_ge (tgt := 469) C.1 C.2.1 dL_asks_454 (by decide) (fun c454 => ?_) (fun c454 => ?_)
                              · exact absurd ((nI_leI (a := 5) (b := k280) (by omega) (by omega)).mp c454) (by omega)
                              · have n454 : ¬ 5 ≤ k280 := fun z => c454 ((nI_leI (a := 5) (b := k280) (by omega) (by omega)).mpr z)
                                refine lv_aload C.1 C.2.1 dL_asks_457 (lv_at hl 19 rfl) ?_
                                refine lv_iload C.1 C.2.1 dL_asks_459 (lv_at hl 3 rfl) ?_
                                refine lv_iload C.1 C.2.1 dL_asks_461 (lv_at hl 2 rfl) ?_
                                refine rd_go1 (runS C hE hH hS (c_position hX.1 ((by omega)) (hp5)) mv_L_position wm_694 hl.1 dL_asks_463 rfl rfl ⟨rfl, rfl⟩ ⟨Nat.le_of_ble_eq_true rfl, Nat.le_of_ble_eq_true rfl⟩ (Nat.le_of_ble_eq_true rfl) ⟨(by show _ + 0 ≤ 330; omega), (by show _ + 0 ≤ 12650; omega)⟩) ?_
                                refine lv_goto (tgt := 471) C.1 C.2.1 dL_asks_466 (by decide) ?_
                                refine lv_icmp_ne (tgt := 489) C.1 C.2.1 dL_asks_471 (by decide) (fun c471 => ?_) (fun c471 => ?_)
                                · exact absurd rfl c471
                                · exact J474  _ _ hH hS ls (hl)
                            · refine lv_aload_n C.1 C.2.1 dL_asks_441 rfl (lv_at hl 10 rfl) ?_
                              refine lv_iconst (v := 1) C.1 C.2.1 dL_asks_442 rfl ?_
                              refine lv_iload C.1 C.2.1 dL_asks_443 (lv_at hl 2 rfl) ?_
                              refine lv_iconst (v := 0) C.1 C.2.1 dL_asks_445 rfl ?_
                              refine lv_iload C.1 C.2.1 dL_asks_446 (lv_at hl 3 rfl) ?_
                              refine wr_go1 (runT C hE hH hS (l_position hlx hI (nI k280) 0 (nI k270)) mv_L_debt wm_700 hl.1 dL_asks_448 rfl rfl ⟨rfl, rfl⟩ ⟨Nat.le_of_ble_eq_true rfl, Nat.le_of_ble_eq_true rfl⟩ (Nat.le_of_ble_eq_true rfl) ⟨(by show _ + 6 ≤ 330; omega), (by show _ + 230 ≤ 12650; omega)⟩) hS (fun u21 M22 H locs hM22 hH hS => ?_)
                              obtain ⟨hu, hM⟩ := lqA_f hM22 (fun z => hp5 ((inx_n (a := k280) (n := 5) (by omega) (by omega)).mp z.1))
                              rw [hu]
                              rw [hM] at hH
                              refine lv_iload C.1 C.2.1 dL_asks_451 (lv_at hl 2 rfl) ?_
                              refine lv_iconst (v := 5) C.1 C.2.1 dL_asks_453 rfl ?_
                              refine lv_icmp_ge (tgt := 469) C.1 C.2.1 dL_asks_454 (by decide) (fun c454 => ?_) (fun c454 => ?_)
                              · have n454 : 5 ≤ k280 := (nI_leI (a := 5) (b := k280) (by omega) (by omega)).mp c454
                                refine lv_ldc (v := -1000000) C.1 C.2.1 C.2.2.2.1 (C.2.2.2.2 _ wm_712) dL_asks_469 ?_
                                refine lv_icmp_ne (tgt := 489) C.1 C.2.1 dL_asks_471 (by decide) (fun c471 => ?_) (fun c471 => ?_)
                                · exact absurd c471 (by decide)
                                · exact J474  _ _ hH hS ls (hl)
                              · exact absurd ((nI_leI (a := 5) (b := k280) (by omega) (by omega)).mpr (by omega)) c454
                          exact J401  _ _ hH hS ls (lv_sub hl [0, 1, 2, 3, 4, 5, 6, 7, 8, 9, 10, 11, 12, 13, 14, 15, 16, 17, 18, 19] rfl)
                    · refine lv_aload_n C.1 C.2.1 dL_asks_359 rfl (lv_at hl 10 rfl) ?_
                      refine lv_iconst (v := 5) C.1 C.2.1 dL_asks_360 rfl ?_
                      refine lv_iload C.1 C.2.1 dL_asks_361 (lv_at hl 6 rfl) ?_
                      refine lv_iload C.1 C.2.1 dL_asks_363 (lv_at hl 5 rfl) ?_
                      refine wr_go1 (runT C hE hH hS (l_apart hlx hI (nI k223) (nI k237)) mv_L_two wm_313 hl.1 dL_asks_365 rfl rfl ⟨rfl, rfl⟩ ⟨Nat.le_of_ble_eq_true rfl, Nat.le_of_ble_eq_true rfl⟩ (Nat.le_of_ble_eq_true rfl) ⟨(by show _ + 6 ≤ 330; omega), (by show _ + 230 ≤ 12650; omega)⟩) hS (fun u23 M24 H locs hM24 hH hS => ?_)
                      obtain ⟨hu, hM⟩ := lqA_f hM24 (fun z => hare ⟨(inx_n (a := k223) (n := ne) (by omega) (by omega)).mp z.1, (inx_n (a := k237) (n := ne) (by omega) (by omega)).mp z.2⟩)
                      rw [hu]
                      rw [hM] at hH
                      refine lv_iload C.1 C.2.1 dL_asks_368 (lv_at hl 4 rfl) ?_
                      refine lv_if_eq (tgt := 396) C.1 C.2.1 dL_asks_370 (by decide) (fun c370 => ?_) (fun c370 => ?_)
                      · refine lv_bipush (v := -101) C.1 C.2.1 dL_asks_396 rfl ?_
                        refine lv_icmp_ne (tgt := 489) C.1 C.2.1 dL_asks_398 (by decide) (fun c398 => ?_) (fun c398 => ?_)
                        · exact absurd c398 (by decide)
                        · have J441 : ∀ (H : Heap) (locs : List Loc) (hH : Hw g M H) (hS : va_S (gA g) s.heap H locs) (ls : Array Slot), lv_has ls 20 [(19, .int v19), (18, .int (nI k291)), (17, .int (nI k280)), (16, .int (nI k270)), (15, .int 0), (14, .int (nI k237)), (13, .int (nI k223)), (12, .int (nI k210)), (11, .int (nI k200)), (10, .int (nI (2 + k3))), (0, .ref x), (1, .int y), (2, .ref (la 0)), (3, .ref (la 1)), (4, .ref (la 3)), (5, .ref (la 4)), (6, .ref (la 5)), (7, .ref (la 6)), (8, .ref (la 7)), (9, .ref (la 8))] → W p l e { frames := 10, cells := 330, slots := 12650, locals := 172 } s m args below meth c H locs (12 * i + 6 * j + 6 + 6 + 6) (460 * i + 230 * j + 230 + 230 + 230) (MQ below (wrQ (S := Unit) g (fun u_ => (some (.int 1))) (fun u_ M_ => M_ = M)) args s 330 12650 (gA g)) (F0 m 441 ls []) := by
                            intro   H locs hH hS ls hl
                            have J474 : ∀ (H : Heap) (locs : List Loc) (hH : Hw g M H) (hS : va_S (gA g) s.heap H locs) (ls : Array Slot), lv_has ls 20 [(19, .int v19), (18, .int (nI k291)), (17, .int (nI k280)), (16, .int (nI k270)), (15, .int 0), (14, .int (nI k237)), (13, .int (nI k223)), (12, .int (nI k210)), (11, .int (nI k200)), (10, .int (nI (2 + k3))), (0, .ref x), (1, .int y), (2, .ref (la 0)), (3, .ref (la 1)), (4, .ref (la 3)), (5, .ref (la 4)), (6, .ref (la 5)), (7, .ref (la 6)), (8, .ref (la 7)), (9, .ref (la 8))] → W p l e { frames := 10, cells := 330, slots := 12650, locals := 172 } s m args below meth c H locs (12 * i + 6 * j + 6 + 6 + 6 + 6) (460 * i + 230 * j + 230 + 230 + 230 + 230) (MQ below (wrQ (S := Unit) g (fun u_ => (some (.int 1))) (fun u_ M_ => M_ = M)) args s 330 12650 (gA g)) (F0 m 474 ls []) := by
                              intro   H locs hH hS ls hl
                              refine lv_aload_n C.1 C.2.1 dL_asks_474 rfl (lv_at hl 10 rfl) ?_
                              refine lv_iconst (v := 1) C.1 C.2.1 dL_asks_475 rfl ?_
                              refine lv_iconst (v := -1) C.1 C.2.1 dL_asks_476 rfl ?_
                              refine wr_go1 (runT C hE hH hS (l_strength hlx hI (-1)) mv_L_one wm_508 hl.1 dL_asks_477 rfl rfl ⟨rfl, rfl⟩ ⟨Nat.le_of_ble_eq_true rfl, Nat.le_of_ble_eq_true rfl⟩ (Nat.le_of_ble_eq_true rfl) ⟨(by show _ + 6 ≤ 330; omega), (by show _ + 230 ≤ 12650; omega)⟩) hS (fun u25 M26 H locs hM26 hH hS => ?_)
                              obtain ⟨hu, hM⟩ := lqA_f hM26 (inx_m (by decide))
                              rw [hu]
                              rw [hM] at hH
                              refine lv_bipush (v := -101) C.1 C.2.1 dL_asks_480 rfl ?_
                              refine lv_icmp_ne (tgt := 489) C.1 C.2.1 dL_asks_482 (by decide) (fun c482 => ?_) (fun c482 => ?_)
                              · exact absurd c482 (by decide)
                              · refine lv_iconst (v := 1) C.1 C.2.1 dL_asks_485 rfl ?_
                                refine lv_goto (tgt := 490) C.1 C.2.1 dL_asks_486 (by decide) ?_
                                exact wr_zret () C hr hlocks (rfl) hH hS rfl (rfl) (by omega) (by omega) dL_asks_490
                            by_cases hp5 : k280 < 5
                            · refine lv_aload_n C.1 C.2.1 dL_asks_441 rfl (lv_at hl 10 rfl) ?_
                              refine lv_iconst (v := 1) C.1 C.2.1 dL_asks_442 rfl ?_
                              refine lv_iload C.1 C.2.1 dL_asks_443 (lv_at hl 2 rfl) ?_
                              refine lv_iconst (v := 0) C.1 C.2.1 dL_asks_445 rfl ?_
                              refine lv_iload C.1 C.2.1 dL_asks_446 (lv_at hl 3 rfl) ?_
                              refine wr_go1 (runT C hE hH hS (l_position hlx hI (nI k280) 0 (nI k270)) mv_L_debt wm_700 hl.1 dL_asks_448 rfl rfl ⟨rfl, rfl⟩ ⟨Nat.le_of_ble_eq_true rfl, Nat.le_of_ble_eq_true rfl⟩ (Nat.le_of_ble_eq_true rfl) ⟨(by show _ + 6 ≤ 330; omega), (by show _ + 230 ≤ 12650; omega)⟩) hS (fun u27 M28 H locs hM28 hH hS => ?_)
                              rw [nI_clamp (show k270 < 2 ^ 31 by omega), nI_clamp (show k280 < 2 ^ 31 by omega)] at hM28
                              obtain ⟨hu, hM⟩ := lqA_t hM28 ⟨(inx_n (a := k280) (n := 5) (by omega) (by omega)).mpr hp5, (inx_n (a := k270) (n := 3) (by omega) (by omega)).mpr (by omega)⟩
                              have hu : u27 = zps (lf 8) k270 k280 25 := hu.trans ((zps_zU rD (by omega) hp5).symm)
                              rw [hu]
                              rw [hM] at hH
                              refine lv_iload C.1 C.2.1 dL_asks_451 (lv_at hl 2 rfl) ?_
                              refine lv_iconst (v := 5) C.1 C.2.1 dL_asks_453 rfl ?_
                              refine lv_icmp_ge (tgt := 469) C.1 C.2.1 dL_asks_454 (by decide) (fun c454 => ?_) (fun c454 => ?_)
                              · exact absurd ((nI_leI (a := 5) (b := k280) (by omega) (by omega)).mp c454) (by omega)
                              · have n454 : ¬ 5 ≤ k280 := fun z => c454 ((nI_leI (a := 5) (b := k280) (by omega) (by omega)).mpr z)
                                refine lv_aload C.1 C.2.1 dL_asks_457 (lv_at hl 19 rfl) ?_
                                refine lv_iload C.1 C.2.1 dL_asks_459 (lv_at hl 3 rfl) ?_
                                refine lv_iload C.1 C.2.1 dL_asks_461 (lv_at hl 2 rfl) ?_
                                refine rd_go1 (runS C hE hH hS (c_position hX.1 ((by omega)) (hp5)) mv_L_position wm_694 hl.1 dL_asks_463 rfl rfl ⟨rfl, rfl⟩ ⟨Nat.le_of_ble_eq_true rfl, Nat.le_of_ble_eq_true rfl⟩ (Nat.le_of_ble_eq_true rfl) ⟨(by show _ + 0 ≤ 330; omega), (by show _ + 0 ≤ 12650; omega)⟩) ?_
                                refine lv_goto (tgt := 471) C.1 C.2.1 dL_asks_466 (by decide) ?_
                                refine lv_icmp_ne (tgt := 489) C.1 C.2.1 dL_asks_471 (by decide) (fun c471 => ?_) (fun c471 => ?_)
                                · exact absurd rfl c471
                                · exact J474  _ _ hH hS ls (hl)
                            · refine lv_aload_n C.1 C.2.1 dL_asks_441 rfl (lv_at hl 10 rfl) ?_
                              refine lv_iconst (v := 1) C.1 C.2.1 dL_asks_442 rfl ?_
                              refine lv_iload C.1 C.2.1 dL_asks_443 (lv_at hl 2 rfl) ?_
                              refine lv_iconst (v := 0) C.1 C.2.1 dL_asks_445 rfl ?_
                              refine lv_iload C.1 C.2.1 dL_asks_446 (lv_at hl 3 rfl) ?_
                              refine wr_go1 (runT C hE hH hS (l_position hlx hI (nI k280) 0 (nI k270)) mv_L_debt wm_700 hl.1 dL_asks_448 rfl rfl ⟨rfl, rfl⟩ ⟨Nat.le_of_ble_eq_true rfl, Nat.le_of_ble_eq_true rfl⟩ (Nat.le_of_ble_eq_true rfl) ⟨(by show _ + 6 ≤ 330; omega), (by show _ + 230 ≤ 12650; omega)⟩) hS (fun u29 M30 H locs hM30 hH hS => ?_)
                              obtain ⟨hu, hM⟩ := lqA_f hM30 (fun z => hp5 ((inx_n (a := k280) (n := 5) (by omega) (by omega)).mp z.1))
                              rw [hu]
                              rw [hM] at hH
                              refine lv_iload C.1 C.2.1 dL_asks_451 (lv_at hl 2 rfl) ?_
                              refine lv_iconst (v := 5) C.1 C.2.1 dL_asks_453 rfl ?_
                              refine lv_icmp_ge (tgt := 469) C.1 C.2.1 dL_asks_454 (by decide) (fun c454 => ?_) (fun c454 => ?_)
                              · have n454 : 5 ≤ k280 := (nI_leI (a := 5) (b := k280) (by omega) (by omega)).mp c454
                                refine lv_ldc (v := -1000000) C.1 C.2.1 C.2.2.2.1 (C.2.2.2.2 _ wm_712) dL_asks_469 ?_
                                refine lv_icmp_ne (tgt := 489) C.1 C.2.1 dL_asks_471 (by decide) (fun c471 => ?_) (fun c471 => ?_)
                                · exact absurd c471 (by decide)
                                · exact J474  _ _ hH hS ls (hl)
                              · exact absurd ((nI_leI (a := 5) (b := k280) (by omega) (by omega)).mpr (by omega)) c454
                          exact J401  _ _ hH hS ls (lv_sub hl [0, 1, 2, 3, 4, 5, 6, 7, 8, 9, 10, 11, 12, 13, 14, 15, 16, 17, 18, 19] rfl)
                      · exact absurd c370 (by decide)
                  rcases (show ¬ k200 < 3 ∨ k200 < 3 ∧ ¬ k210 < 3 ∨ k200 < 3 ∧ k210 < 3 by omega) with hc3 | hc3 | hc3
                  · refine lv_aload_n C.1 C.2.1 dL_asks_315 rfl (lv_at hl 10 rfl) ?_
                    refine lv_iconst (v := 4) C.1 C.2.1 dL_asks_316 rfl ?_
                    refine lv_iload C.1 C.2.1 dL_asks_317 (lv_at hl 8 rfl) ?_
                    refine lv_iload C.1 C.2.1 dL_asks_319 (lv_at hl 7 rfl) ?_
                    refine wr_go1 (runT C hE hH hS (l_blamed hlx hI (nI k200) (nI k210)) mv_L_two wm_313 hl.1 dL_asks_321 rfl rfl ⟨rfl, rfl⟩ ⟨Nat.le_of_ble_eq_true rfl, Nat.le_of_ble_eq_true rfl⟩ (Nat.le_of_ble_eq_true rfl) ⟨(by show _ + 6 ≤ 330; omega), (by show _ + 230 ≤ 12650; omega)⟩) hS (fun u31 M32 H locs hM32 hH hS => ?_)
                    obtain ⟨hu, hM⟩ := lqB_f hM32 (fun z => hc3 ((inx_n (a := k200) (n := 3) (by omega) (by omega)).mp z))
                    rw [hu]
                    rw [hM] at hH
                    refine lv_iload C.1 C.2.1 dL_asks_324 (lv_at hl 8 rfl) ?_
                    refine lv_iconst (v := 2) C.1 C.2.1 dL_asks_326 rfl ?_
                    refine lv_icmp_le (tgt := 335) C.1 C.2.1 dL_asks_327 (by decide) (fun c327 => ?_) (fun c327 => ?_)
                    · exact absurd ((nI_leI (a := k200) (b := 2) (by omega) (by omega)).mp c327) (by omega)
                    · have n327 : ¬ k200 ≤ 2 := fun z => c327 ((nI_leI (a := k200) (b := 2) (by omega) (by omega)).mpr z)
                      refine lv_bipush (v := -101) C.1 C.2.1 dL_asks_330 rfl ?_
                      refine lv_goto (tgt := 356) C.1 C.2.1 dL_asks_332 (by decide) ?_
                      refine lv_icmp_ne (tgt := 489) C.1 C.2.1 dL_asks_356 (by decide) (fun c356 => ?_) (fun c356 => ?_)
                      · exact absurd c356 (by decide)
                      · have J401 : ∀ (H : Heap) (locs : List Loc) (hH : Hw g M H) (hS : va_S (gA g) s.heap H locs) (ls : Array Slot), lv_has ls 20 [(19, .int v19), (18, .int (nI k291)), (17, .int (nI k280)), (16, .int (nI k270)), (15, .int v15), (14, .int (nI k237)), (13, .int (nI k223)), (12, .int (nI k210)), (11, .int (nI k200)), (10, .int (nI (2 + k3))), (0, .ref x), (1, .int y), (2, .ref (la 0)), (3, .ref (la 1)), (4, .ref (la 3)), (5, .ref (la 4)), (6, .ref (la 5)), (7, .ref (la 6)), (8, .ref (la 7)), (9, .ref (la 8))] → W p l e { frames := 10, cells := 330, slots := 12650, locals := 172 } s m args below meth c H locs (12 * i + 6 * j + 6 + 6) (460 * i + 230 * j + 230 + 230) (MQ below (wrQ (S := Unit) g (fun u_ => (some (.int 1))) (fun u_ M_ => M_ = M)) args s 330 12650 (gA g)) (F0 m 401 ls []) := by
                          intro   H locs hH hS ls hl
                          have J441 : ∀ (H : Heap) (locs : List Loc) (hH : Hw g M H) (hS : va_S (gA g) s.heap H locs) (ls : Array Slot), lv_has ls 20 [(19, .int v19), (18, .int (nI k291)), (17, .int (nI k280)), (16, .int (nI k270)), (15, .int v15), (14, .int (nI k237)), (13, .int (nI k223)), (12, .int (nI k210)), (11, .int (nI k200)), (10, .int (nI (2 + k3))), (0, .ref x), (1, .int y), (2, .ref (la 0)), (3, .ref (la 1)), (4, .ref (la 3)), (5, .ref (la 4)), (6, .ref (la 5)), (7, .ref (la 6)), (8, .ref (la 7)), (9, .ref (la 8))] → W p l e { frames := 10, cells := 330, slots := 12650, locals := 172 } s m args below meth c H locs (12 * i + 6 * j + 6 + 6 + 6) (460 * i + 230 * j + 230 + 230 + 230) (MQ below (wrQ (S := Unit) g (fun u_ => (some (.int 1))) (fun u_ M_ => M_ = M)) args s 330 12650 (gA g)) (F0 m 441 ls []) := by
                            intro   H locs hH hS ls hl
                            have J474 : ∀ (H : Heap) (locs : List Loc) (hH : Hw g M H) (hS : va_S (gA g) s.heap H locs) (ls : Array Slot), lv_has ls 20 [(19, .int v19), (18, .int (nI k291)), (17, .int (nI k280)), (16, .int (nI k270)), (15, .int v15), (14, .int (nI k237)), (13, .int (nI k223)), (12, .int (nI k210)), (11, .int (nI k200)), (10, .int (nI (2 + k3))), (0, .ref x), (1, .int y), (2, .ref (la 0)), (3, .ref (la 1)), (4, .ref (la 3)), (5, .ref (la 4)), (6, .ref (la 5)), (7, .ref (la 6)), (8, .ref (la 7)), (9, .ref (la 8))] → W p l e { frames := 10, cells := 330, slots := 12650, locals := 172 } s m args below meth c H locs (12 * i + 6 * j + 6 + 6 + 6 + 6) (460 * i + 230 * j + 230 + 230 + 230 + 230) (MQ below (wrQ (S := Unit) g (fun u_ => (some (.int 1))) (fun u_ M_ => M_ = M)) args s 330 12650 (gA g)) (F0 m 474 ls []) := by
                              intro   H locs hH hS ls hl
                              refine lv_aload_n C.1 C.2.1 dL_asks_474 rfl (lv_at hl 10 rfl) ?_
                              refine lv_iconst (v := 1) C.1 C.2.1 dL_asks_475 rfl ?_
                              refine lv_iconst (v := -1) C.1 C.2.1 dL_asks_476 rfl ?_
                              refine wr_go1 (runT C hE hH hS (l_strength hlx hI (-1)) mv_L_one wm_508 hl.1 dL_asks_477 rfl rfl ⟨rfl, rfl⟩ ⟨Nat.le_of_ble_eq_true rfl, Nat.le_of_ble_eq_true rfl⟩ (Nat.le_of_ble_eq_true rfl) ⟨(by show _ + 6 ≤ 330; omega), (by show _ + 230 ≤ 12650; omega)⟩) hS (fun u33 M34 H locs hM34 hH hS => ?_)
                              obtain ⟨hu, hM⟩ := lqA_f hM34 (inx_m (by decide))
                              rw [hu]
                              rw [hM] at hH
                              refine lv_bipush (v := -101) C.1 C.2.1 dL_asks_480 rfl ?_
                              refine lv_icmp_ne (tgt := 489) C.1 C.2.1 dL_asks_482 (by decide) (fun c482 => ?_) (fun c482 => ?_)
                              · exact absurd c482 (by decide)
                              · refine lv_iconst (v := 1) C.1 C.2.1 dL_asks_485 rfl ?_
                                refine lv_goto (tgt := 490) C.1 C.2.1 dL_asks_486 (by decide) ?_
                                exact wr_zret () C hr hlocks (rfl) hH hS rfl (rfl) (by omega) (by omega) dL_asks_490
                            by_cases hp5 : k280 < 5
                            · refine lv_aload_n C.1 C.2.1 dL_asks_441 rfl (lv_at hl 10 rfl) ?_
                              refine lv_iconst (v := 1) C.1 C.2.1 dL_asks_442 rfl ?_
                              refine lv_iload C.1 C.2.1 dL_asks_443 (lv_at hl 2 rfl) ?_
                              refine lv_iconst (v := 0) C.1 C.2.1 dL_asks_445 rfl ?_
                              refine lv_iload C.1 C.2.1 dL_asks_446 (lv_at hl 3 rfl) ?_
                              refine wr_go1 (runT C hE hH hS (l_position hlx hI (nI k280) 0 (nI k270)) mv_L_debt wm_700 hl.1 dL_asks_448 rfl rfl ⟨rfl, rfl⟩ ⟨Nat.le_of_ble_eq_true rfl, Nat.le_of_ble_eq_true rfl⟩ (Nat.le_of_ble_eq_true rfl) ⟨(by show _ + 6 ≤ 330; omega), (by show _ + 230 ≤ 12650; omega)⟩) hS (fun u35 M36 H locs hM36 hH hS => ?_)
                              rw [nI_clamp (show k270 < 2 ^ 31 by omega), nI_clamp (show k280 < 2 ^ 31 by omega)] at hM36
                              obtain ⟨hu, hM⟩ := lqA_t hM36 ⟨(inx_n (a := k280) (n := 5) (by omega) (by omega)).mpr hp5, (inx_n (a := k270) (n := 3) (by omega) (by omega)).mpr (by omega)⟩
                              have hu : u35 = zps (lf 8) k270 k280 25 := hu.trans ((zps_zU rD (by omega) hp5).symm)
                              rw [hu]
                              rw [hM] at hH
                              refine lv_iload C.1 C.2.1 dL_asks_451 (lv_at hl 2 rfl) ?_
                              refine lv_iconst (v := 5) C.1 C.2.1 dL_asks_453 rfl ?_
                              refine lv_icmp_ge (tgt := 469) C.1 C.2.1 dL_asks_454 (by decide) (fun c454 => ?_) (fun c454 => ?_)
                              · exact absurd ((nI_leI (a := 5) (b := k280) (by omega) (by omega)).mp c454) (by omega)
                              · have n454 : ¬ 5 ≤ k280 := fun z => c454 ((nI_leI (a := 5) (b := k280) (by omega) (by omega)).mpr z)
                                refine lv_aload C.1 C.2.1 dL_asks_457 (lv_at hl 19 rfl) ?_
                                refine lv_iload C.1 C.2.1 dL_asks_459 (lv_at hl 3 rfl) ?_
                                refine lv_iload C.1 C.2.1 dL_asks_461 (lv_at hl 2 rfl) ?_
                                refine rd_go1 (runS C hE hH hS (c_position hX.1 ((by omega)) (hp5)) mv_L_position wm_694 hl.1 dL_asks_463 rfl rfl ⟨rfl, rfl⟩ ⟨Nat.le_of_ble_eq_true rfl, Nat.le_of_ble_eq_true rfl⟩ (Nat.le_of_ble_eq_true rfl) ⟨(by show _ + 0 ≤ 330; omega), (by show _ + 0 ≤ 12650; omega)⟩) ?_
                                refine lv_goto (tgt := 471) C.1 C.2.1 dL_asks_466 (by decide) ?_
                                refine lv_icmp_ne (tgt := 489) C.1 C.2.1 dL_asks_471 (by decide) (fun c471 => ?_) (fun c471 => ?_)
                                · exact absurd rfl c471
                                · exact J474  _ _ hH hS ls (hl)
                            · refine lv_aload_n C.1 C.2.1 dL_asks_441 rfl (lv_at hl 10 rfl) ?_
                              refine lv_iconst (v := 1) C.1 C.2.1 dL_asks_442 rfl ?_
                              refine lv_iload C.1 C.2.1 dL_asks_443 (lv_at hl 2 rfl) ?_
                              refine lv_iconst (v := 0) C.1 C.2.1 dL_asks_445 rfl ?_
                              refine lv_iload C.1 C.2.1 dL_asks_446 (lv_at hl 3 rfl) ?_
                              refine wr_go1 (runT C hE hH hS (l_position hlx hI (nI k280) 0 (nI k270)) mv_L_debt wm_700 hl.1 dL_asks_448 rfl rfl ⟨rfl, rfl⟩ ⟨Nat.le_of_ble_eq_true rfl, Nat.le_of_ble_eq_true rfl⟩ (Nat.le_of_ble_eq_true rfl) ⟨(by show _ + 6 ≤ 330; omega), (by show _ + 230 ≤ 12650; omega)⟩) hS (fun u37 M38 H locs hM38 hH hS => ?_)
                              obtain ⟨hu, hM⟩ := lqA_f hM38 (fun z => hp5 ((inx_n (a := k280) (n := 5) (by omega) (by omega)).mp z.1))
                              rw [hu]
                              rw [hM] at hH
                              refine lv_iload C.1 C.2.1 dL_asks_451 (lv_at hl 2 rfl) ?_
                              refine lv_iconst (v := 5) C.1 C.2.1 dL_asks_453 rfl ?_
                              refine lv_icmp_ge (tgt := 469) C.1 C.2.1 dL_asks_454 (by decide) (fun c454 => ?_) (fun c454 => ?_)
                              · have n454 : 5 ≤ k280 := (nI_leI (a := 5) (b := k280) (by omega) (by omega)).mp c454
                                refine lv_ldc (v := -1000000) C.1 C.2.1 C.2.2.2.1 (C.2.2.2.2 _ wm_712) dL_asks_469 ?_
                                refine lv_icmp_ne (tgt := 489) C.1 C.2.1 dL_asks_471 (by decide) (fun c471 => ?_) (fun c471 => ?_)
                                · exact absurd c471 (by decide)
                                · exact J474  _ _ hH hS ls (hl)
                              · exact absurd ((nI_leI (a := 5) (b := k280) (by omega) (by omega)).mpr (by omega)) c454
                          rcases his with ⟨rfl, his⟩ | ⟨rfl, his⟩
                          · refine lv_aload_n C.1 C.2.1 dL_asks_401 rfl (lv_at hl 10 rfl) ?_
                            refine lv_iconst (v := 0) C.1 C.2.1 dL_asks_402 rfl ?_
                            refine lv_iload C.1 C.2.1 dL_asks_403 (lv_at hl 2 rfl) ?_
                            refine lv_iload C.1 C.2.1 dL_asks_405 (lv_at hl 1 rfl) ?_
                            refine lv_iload C.1 C.2.1 dL_asks_407 (lv_at hl 3 rfl) ?_
                            refine wr_go1 (runT C hE hH hS (l_owes hlx hI (nI k280) (nI k291) (nI k270)) mv_L_debt wm_700 hl.1 dL_asks_409 rfl rfl ⟨rfl, rfl⟩ ⟨Nat.le_of_ble_eq_true rfl, Nat.le_of_ble_eq_true rfl⟩ (Nat.le_of_ble_eq_true rfl) ⟨(by show _ + 6 ≤ 330; omega), (by show _ + 230 ≤ 12650; omega)⟩) hS (fun u39 M40 H locs hM40 hH hS => ?_)
                            rw [nI_clamp (show k270 < 2 ^ 31 by omega), nI_clamp (show k280 < 2 ^ 31 by omega), nI_clamp (show k291 < 2 ^ 31 by omega)] at hM40
                            obtain ⟨hu, hM⟩ := lqA_t hM40 ⟨⟨(inx_n (a := k280) (n := 5) (by omega) (by omega)).mpr his.1, (inx_n (a := k291) (n := 5) (by omega) (by omega)).mpr his.2⟩, (inx_n (a := k270) (n := 3) (by omega) (by omega)).mpr (by omega)⟩
                            have hu : u39 = (lf 8) (25 * k270 + 5 * k280 + k291) := hu.trans ((rD _ (by omega)).symm)
                            rw [hu]
                            rw [hM] at hH
                            refine lv_iload C.1 C.2.1 dL_asks_412 (lv_at hl 0 rfl) ?_
                            refine lv_if_eq (tgt := 436) C.1 C.2.1 dL_asks_414 (by decide) (fun c414 => ?_) (fun c414 => ?_)
                            · exact absurd c414 (by decide)
                            · refine lv_aload C.1 C.2.1 dL_asks_417 (lv_at hl 19 rfl) ?_
                              refine lv_bipush (v := 25) C.1 C.2.1 dL_asks_419 rfl ?_
                              refine lv_iload C.1 C.2.1 dL_asks_421 (lv_at hl 3 rfl) ?_
                              refine lv_imul C.1 C.2.1 dL_asks_423 ?_
                              rw [show ((25 : Int32) * (nI k270)) = nI (25 * k270) from nI_M 25 k270]
                              refine lv_iconst (v := 5) C.1 C.2.1 dL_asks_424 rfl ?_
                              refine lv_iload C.1 C.2.1 dL_asks_425 (lv_at hl 2 rfl) ?_
                              refine lv_imul C.1 C.2.1 dL_asks_427 ?_
                              rw [show ((5 : Int32) * (nI k280)) = nI (5 * k280) from nI_M 5 k280]
                              refine lv_iadd C.1 C.2.1 dL_asks_428 ?_
                              rw [show ((nI (25 * k270)) + (nI (5 * k280)) : Int32) = nI (25 * k270 + 5 * k280) from nI_add (25 * k270) (5 * k280)]
                              refine lv_iload C.1 C.2.1 dL_asks_429 (lv_at hl 1 rfl) ?_
                              refine lv_iadd C.1 C.2.1 dL_asks_431 ?_
                              rw [show ((nI (25 * k270 + 5 * k280)) + (nI k291) : Int32) = nI (25 * k270 + 5 * k280 + k291) from nI_add (25 * k270 + 5 * k280) k291]
                              refine lald (K := 8) (N := 50) (E := 25 * k270 + 5 * k280 + k291) (f := (lf 8)) (v := ((lf 8) (25 * k270 + 5 * k280 + k291))) C hE hH hX (by decide) rfl rfl rfl (by omega) (rfl) dL_asks_432 ?_
                              refine lv_goto (tgt := 438) C.1 C.2.1 dL_asks_433 (by decide) ?_
                              refine lv_icmp_ne (tgt := 489) C.1 C.2.1 dL_asks_438 (by decide) (fun c438 => ?_) (fun c438 => ?_)
                              · exact absurd rfl c438
                              · have J474 : ∀ (H : Heap) (locs : List Loc) (hH : Hw g M H) (hS : va_S (gA g) s.heap H locs) (ls : Array Slot), lv_has ls 20 [(19, .int 1), (18, .int (nI k291)), (17, .int (nI k280)), (16, .int (nI k270)), (15, .int v15), (14, .int (nI k237)), (13, .int (nI k223)), (12, .int (nI k210)), (11, .int (nI k200)), (10, .int (nI (2 + k3))), (0, .ref x), (1, .int y), (2, .ref (la 0)), (3, .ref (la 1)), (4, .ref (la 3)), (5, .ref (la 4)), (6, .ref (la 5)), (7, .ref (la 6)), (8, .ref (la 7)), (9, .ref (la 8))] → W p l e { frames := 10, cells := 330, slots := 12650, locals := 172 } s m args below meth c H locs (12 * i + 6 * j + 6 + 6 + 6 + 6) (460 * i + 230 * j + 230 + 230 + 230 + 230) (MQ below (wrQ (S := Unit) g (fun u_ => (some (.int 1))) (fun u_ M_ => M_ = M)) args s 330 12650 (gA g)) (F0 m 474 ls []) := by
                                  intro   H locs hH hS ls hl
                                  refine lv_aload_n C.1 C.2.1 dL_asks_474 rfl (lv_at hl 10 rfl) ?_
                                  refine lv_iconst (v := 1) C.1 C.2.1 dL_asks_475 rfl ?_
                                  refine lv_iconst (v := -1) C.1 C.2.1 dL_asks_476 rfl ?_
                                  refine wr_go1 (runT C hE hH hS (l_strength hlx hI (-1)) mv_L_one wm_508 hl.1 dL_asks_477 rfl rfl ⟨rfl, rfl⟩ ⟨Nat.le_of_ble_eq_true rfl, Nat.le_of_ble_eq_true rfl⟩ (Nat.le_of_ble_eq_true rfl) ⟨(by show _ + 6 ≤ 330; omega), (by show _ + 230 ≤ 12650; omega)⟩) hS (fun u41 M42 H locs hM42 hH hS => ?_)
                                  obtain ⟨hu, hM⟩ := lqA_f hM42 (inx_m (by decide))
                                  rw [hu]
                                  rw [hM] at hH
                                  refine lv_bipush (v := -101) C.1 C.2.1 dL_asks_480 rfl ?_
                                  refine lv_icmp_ne (tgt := 489) C.1 C.2.1 dL_asks_482 (by decide) (fun c482 => ?_) (fun c482 => ?_)
                                  · exact absurd c482 (by decide)
                                  · refine lv_iconst (v := 1) C.1 C.2.1 dL_asks_485 rfl ?_
                                    refine lv_goto (tgt := 490) C.1 C.2.1 dL_asks_486 (by decide) ?_
                                    exact wr_zret () C hr hlocks (rfl) hH hS rfl (rfl) (by omega) (by omega) dL_asks_490
                                exact J441  _ _ hH hS ls (lv_sub hl [0, 1, 2, 3, 4, 5, 6, 7, 8, 9, 10, 11, 12, 13, 14, 15, 16, 17, 18, 19] rfl)
                          · refine lv_aload_n C.1 C.2.1 dL_asks_401 rfl (lv_at hl 10 rfl) ?_
                            refine lv_iconst (v := 0) C.1 C.2.1 dL_asks_402 rfl ?_
                            refine lv_iload C.1 C.2.1 dL_asks_403 (lv_at hl 2 rfl) ?_
                            refine lv_iload C.1 C.2.1 dL_asks_405 (lv_at hl 1 rfl) ?_
                            refine lv_iload C.1 C.2.1 dL_asks_407 (lv_at hl 3 rfl) ?_
                            refine wr_go1 (runT C hE hH hS (l_owes hlx hI (nI k280) (nI k291) (nI k270)) mv_L_debt wm_700 hl.1 dL_asks_409 rfl rfl ⟨rfl, rfl⟩ ⟨Nat.le_of_ble_eq_true rfl, Nat.le_of_ble_eq_true rfl⟩ (Nat.le_of_ble_eq_true rfl) ⟨(by show _ + 6 ≤ 330; omega), (by show _ + 230 ≤ 12650; omega)⟩) hS (fun u43 M44 H locs hM44 hH hS => ?_)
                            obtain ⟨hu, hM⟩ := lqA_f hM44 (fun z => his ⟨(inx_n (a := k280) (n := 5) (by omega) (by omega)).mp z.1.1, (inx_n (a := k291) (n := 5) (by omega) (by omega)).mp z.1.2⟩)
                            rw [hu]
                            rw [hM] at hH
                            refine lv_iload C.1 C.2.1 dL_asks_412 (lv_at hl 0 rfl) ?_
                            refine lv_if_eq (tgt := 436) C.1 C.2.1 dL_asks_414 (by decide) (fun c414 => ?_) (fun c414 => ?_)
                            · refine lv_ldc (v := -1000000) C.1 C.2.1 C.2.2.2.1 (C.2.2.2.2 _ wm_712) dL_asks_436 ?_
                              refine lv_icmp_ne (tgt := 489) C.1 C.2.1 dL_asks_438 (by decide) (fun c438 => ?_) (fun c438 => ?_)
                              · exact absurd c438 (by decide)
                              · have J474 : ∀ (H : Heap) (locs : List Loc) (hH : Hw g M H) (hS : va_S (gA g) s.heap H locs) (ls : Array Slot), lv_has ls 20 [(19, .int 0), (18, .int (nI k291)), (17, .int (nI k280)), (16, .int (nI k270)), (15, .int v15), (14, .int (nI k237)), (13, .int (nI k223)), (12, .int (nI k210)), (11, .int (nI k200)), (10, .int (nI (2 + k3))), (0, .ref x), (1, .int y), (2, .ref (la 0)), (3, .ref (la 1)), (4, .ref (la 3)), (5, .ref (la 4)), (6, .ref (la 5)), (7, .ref (la 6)), (8, .ref (la 7)), (9, .ref (la 8))] → W p l e { frames := 10, cells := 330, slots := 12650, locals := 172 } s m args below meth c H locs (12 * i + 6 * j + 6 + 6 + 6 + 6) (460 * i + 230 * j + 230 + 230 + 230 + 230) (MQ below (wrQ (S := Unit) g (fun u_ => (some (.int 1))) (fun u_ M_ => M_ = M)) args s 330 12650 (gA g)) (F0 m 474 ls []) := by
                                  intro   H locs hH hS ls hl
                                  refine lv_aload_n C.1 C.2.1 dL_asks_474 rfl (lv_at hl 10 rfl) ?_
                                  refine lv_iconst (v := 1) C.1 C.2.1 dL_asks_475 rfl ?_
                                  refine lv_iconst (v := -1) C.1 C.2.1 dL_asks_476 rfl ?_
                                  refine wr_go1 (runT C hE hH hS (l_strength hlx hI (-1)) mv_L_one wm_508 hl.1 dL_asks_477 rfl rfl ⟨rfl, rfl⟩ ⟨Nat.le_of_ble_eq_true rfl, Nat.le_of_ble_eq_true rfl⟩ (Nat.le_of_ble_eq_true rfl) ⟨(by show _ + 6 ≤ 330; omega), (by show _ + 230 ≤ 12650; omega)⟩) hS (fun u45 M46 H locs hM46 hH hS => ?_)
                                  obtain ⟨hu, hM⟩ := lqA_f hM46 (inx_m (by decide))
                                  rw [hu]
                                  rw [hM] at hH
                                  refine lv_bipush (v := -101) C.1 C.2.1 dL_asks_480 rfl ?_
                                  refine lv_icmp_ne (tgt := 489) C.1 C.2.1 dL_asks_482 (by decide) (fun c482 => ?_) (fun c482 => ?_)
                                  · exact absurd c482 (by decide)
                                  · refine lv_iconst (v := 1) C.1 C.2.1 dL_asks_485 rfl ?_
                                    refine lv_goto (tgt := 490) C.1 C.2.1 dL_asks_486 (by decide) ?_
                                    exact wr_zret () C hr hlocks (rfl) hH hS rfl (rfl) (by omega) (by omega) dL_asks_490
                                exact J441  _ _ hH hS ls (lv_sub hl [0, 1, 2, 3, 4, 5, 6, 7, 8, 9, 10, 11, 12, 13, 14, 15, 16, 17, 18, 19] rfl)
                            · exact absurd c414 (by decide)
                        exact J359  _ _ hH hS ls (hl)
                  · refine lv_aload_n C.1 C.2.1 dL_asks_315 rfl (lv_at hl 10 rfl) ?_
                    refine lv_iconst (v := 4) C.1 C.2.1 dL_asks_316 rfl ?_
                    refine lv_iload C.1 C.2.1 dL_asks_317 (lv_at hl 8 rfl) ?_
                    refine lv_iload C.1 C.2.1 dL_asks_319 (lv_at hl 7 rfl) ?_
                    refine wr_go1 (runT C hE hH hS (l_blamed hlx hI (nI k200) (nI k210)) mv_L_two wm_313 hl.1 dL_asks_321 rfl rfl ⟨rfl, rfl⟩ ⟨Nat.le_of_ble_eq_true rfl, Nat.le_of_ble_eq_true rfl⟩ (Nat.le_of_ble_eq_true rfl) ⟨(by show _ + 6 ≤ 330; omega), (by show _ + 230 ≤ 12650; omega)⟩) hS (fun u47 M48 H locs hM48 hH hS => ?_)
                    obtain ⟨hu, hM⟩ := lqB_g hM48 ((inx_n (a := k200) (n := 3) (by omega) (by omega)).mpr hc3.1) (fun z => by have z1 := (inr_n (a := k210) (n := 2) (by omega) (by omega)).mp z; omega)
                    rw [hu]
                    rw [hM] at hH
                    refine lv_iload C.1 C.2.1 dL_asks_324 (lv_at hl 8 rfl) ?_
                    refine lv_iconst (v := 2) C.1 C.2.1 dL_asks_326 rfl ?_
                    refine lv_icmp_le (tgt := 335) C.1 C.2.1 dL_asks_327 (by decide) (fun c327 => ?_) (fun c327 => ?_)
                    · have n327 : k200 ≤ 2 := (nI_leI (a := k200) (b := 2) (by omega) (by omega)).mp c327
                      refine lv_iload C.1 C.2.1 dL_asks_335 (lv_at hl 7 rfl) ?_
                      refine lv_iconst (v := 2) C.1 C.2.1 dL_asks_337 rfl ?_
                      refine lv_icmp_le (tgt := 346) C.1 C.2.1 dL_asks_338 (by decide) (fun c338 => ?_) (fun c338 => ?_)
                      · exact absurd ((nI_leI (a := k210) (b := 2) (by omega) (by omega)).mp c338) (by omega)
                      · have n338 : ¬ k210 ≤ 2 := fun z => c338 ((nI_leI (a := k210) (b := 2) (by omega) (by omega)).mpr z)
                        refine lv_bipush (v := -102) C.1 C.2.1 dL_asks_341 rfl ?_
                        refine lv_goto (tgt := 356) C.1 C.2.1 dL_asks_343 (by decide) ?_
                        refine lv_icmp_ne (tgt := 489) C.1 C.2.1 dL_asks_356 (by decide) (fun c356 => ?_) (fun c356 => ?_)
                        · exact absurd c356 (by decide)
                        · have J401 : ∀ (H : Heap) (locs : List Loc) (hH : Hw g M H) (hS : va_S (gA g) s.heap H locs) (ls : Array Slot), lv_has ls 20 [(19, .int v19), (18, .int (nI k291)), (17, .int (nI k280)), (16, .int (nI k270)), (15, .int v15), (14, .int (nI k237)), (13, .int (nI k223)), (12, .int (nI k210)), (11, .int (nI k200)), (10, .int (nI (2 + k3))), (0, .ref x), (1, .int y), (2, .ref (la 0)), (3, .ref (la 1)), (4, .ref (la 3)), (5, .ref (la 4)), (6, .ref (la 5)), (7, .ref (la 6)), (8, .ref (la 7)), (9, .ref (la 8))] → W p l e { frames := 10, cells := 330, slots := 12650, locals := 172 } s m args below meth c H locs (12 * i + 6 * j + 6 + 6) (460 * i + 230 * j + 230 + 230) (MQ below (wrQ (S := Unit) g (fun u_ => (some (.int 1))) (fun u_ M_ => M_ = M)) args s 330 12650 (gA g)) (F0 m 401 ls []) := by
                            intro   H locs hH hS ls hl
                            have J441 : ∀ (H : Heap) (locs : List Loc) (hH : Hw g M H) (hS : va_S (gA g) s.heap H locs) (ls : Array Slot), lv_has ls 20 [(19, .int v19), (18, .int (nI k291)), (17, .int (nI k280)), (16, .int (nI k270)), (15, .int v15), (14, .int (nI k237)), (13, .int (nI k223)), (12, .int (nI k210)), (11, .int (nI k200)), (10, .int (nI (2 + k3))), (0, .ref x), (1, .int y), (2, .ref (la 0)), (3, .ref (la 1)), (4, .ref (la 3)), (5, .ref (la 4)), (6, .ref (la 5)), (7, .ref (la 6)), (8, .ref (la 7)), (9, .ref (la 8))] → W p l e { frames := 10, cells := 330, slots := 12650, locals := 172 } s m args below meth c H locs (12 * i + 6 * j + 6 + 6 + 6) (460 * i + 230 * j + 230 + 230 + 230) (MQ below (wrQ (S := Unit) g (fun u_ => (some (.int 1))) (fun u_ M_ => M_ = M)) args s 330 12650 (gA g)) (F0 m 441 ls []) := by
                              intro   H locs hH hS ls hl
                              have J474 : ∀ (H : Heap) (locs : List Loc) (hH : Hw g M H) (hS : va_S (gA g) s.heap H locs) (ls : Array Slot), lv_has ls 20 [(19, .int v19), (18, .int (nI k291)), (17, .int (nI k280)), (16, .int (nI k270)), (15, .int v15), (14, .int (nI k237)), (13, .int (nI k223)), (12, .int (nI k210)), (11, .int (nI k200)), (10, .int (nI (2 + k3))), (0, .ref x), (1, .int y), (2, .ref (la 0)), (3, .ref (la 1)), (4, .ref (la 3)), (5, .ref (la 4)), (6, .ref (la 5)), (7, .ref (la 6)), (8, .ref (la 7)), (9, .ref (la 8))] → W p l e { frames := 10, cells := 330, slots := 12650, locals := 172 } s m args below meth c H locs (12 * i + 6 * j + 6 + 6 + 6 + 6) (460 * i + 230 * j + 230 + 230 + 230 + 230) (MQ below (wrQ (S := Unit) g (fun u_ => (some (.int 1))) (fun u_ M_ => M_ = M)) args s 330 12650 (gA g)) (F0 m 474 ls []) := by
                                intro   H locs hH hS ls hl
                                refine lv_aload_n C.1 C.2.1 dL_asks_474 rfl (lv_at hl 10 rfl) ?_
                                refine lv_iconst (v := 1) C.1 C.2.1 dL_asks_475 rfl ?_
                                refine lv_iconst (v := -1) C.1 C.2.1 dL_asks_476 rfl ?_
                                refine wr_go1 (runT C hE hH hS (l_strength hlx hI (-1)) mv_L_one wm_508 hl.1 dL_asks_477 rfl rfl ⟨rfl, rfl⟩ ⟨Nat.le_of_ble_eq_true rfl, Nat.le_of_ble_eq_true rfl⟩ (Nat.le_of_ble_eq_true rfl) ⟨(by show _ + 6 ≤ 330; omega), (by show _ + 230 ≤ 12650; omega)⟩) hS (fun u49 M50 H locs hM50 hH hS => ?_)
                                obtain ⟨hu, hM⟩ := lqA_f hM50 (inx_m (by decide))
                                rw [hu]
                                rw [hM] at hH
                                refine lv_bipush (v := -101) C.1 C.2.1 dL_asks_480 rfl ?_
                                refine lv_icmp_ne (tgt := 489) C.1 C.2.1 dL_asks_482 (by decide) (fun c482 => ?_) (fun c482 => ?_)
                                · exact absurd c482 (by decide)
                                · refine lv_iconst (v := 1) C.1 C.2.1 dL_asks_485 rfl ?_
                                  refine lv_goto (tgt := 490) C.1 C.2.1 dL_asks_486 (by decide) ?_
                                  exact wr_zret () C hr hlocks (rfl) hH hS rfl (rfl) (by omega) (by omega) dL_asks_490
                              by_cases hp5 : k280 < 5
                              · refine lv_aload_n C.1 C.2.1 dL_asks_441 rfl (lv_at hl 10 rfl) ?_
                                refine lv_iconst (v := 1) C.1 C.2.1 dL_asks_442 rfl ?_
                                refine lv_iload C.1 C.2.1 dL_asks_443 (lv_at hl 2 rfl) ?_
                                refine lv_iconst (v := 0) C.1 C.2.1 dL_asks_445 rfl ?_
                                refine lv_iload C.1 C.2.1 dL_asks_446 (lv_at hl 3 rfl) ?_
                                refine wr_go1 (runT C hE hH hS (l_position hlx hI (nI k280) 0 (nI k270)) mv_L_debt wm_700 hl.1 dL_asks_448 rfl rfl ⟨rfl, rfl⟩ ⟨Nat.le_of_ble_eq_true rfl, Nat.le_of_ble_eq_true rfl⟩ (Nat.le_of_ble_eq_true rfl) ⟨(by show _ + 6 ≤ 330; omega), (by show _ + 230 ≤ 12650; omega)⟩) hS (fun u51 M52 H locs hM52 hH hS => ?_)
                                rw [nI_clamp (show k270 < 2 ^ 31 by omega), nI_clamp (show k280 < 2 ^ 31 by omega)] at hM52
                                obtain ⟨hu, hM⟩ := lqA_t hM52 ⟨(inx_n (a := k280) (n := 5) (by omega) (by omega)).mpr hp5, (inx_n (a := k270) (n := 3) (by omega) (by omega)).mpr (by omega)⟩
                                have hu : u51 = zps (lf 8) k270 k280 25 := hu.trans ((zps_zU rD (by omega) hp5).symm)
                                rw [hu]
                                rw [hM] at hH
                                refine lv_iload C.1 C.2.1 dL_asks_451 (lv_at hl 2 rfl) ?_
                                refine lv_iconst (v := 5) C.1 C.2.1 dL_asks_453 rfl ?_
                                refine lv_icmp_ge (tgt := 469) C.1 C.2.1 dL_asks_454 (by decide) (fun c454 => ?_) (fun c454 => ?_)
                                · exact absurd ((nI_leI (a := 5) (b := k280) (by omega) (by omega)).mp c454) (by omega)
                                · have n454 : ¬ 5 ≤ k280 := fun z => c454 ((nI_leI (a := 5) (b := k280) (by omega) (by omega)).mpr z)
                                  refine lv_aload C.1 C.2.1 dL_asks_457 (lv_at hl 19 rfl) ?_
                                  refine lv_iload C.1 C.2.1 dL_asks_459 (lv_at hl 3 rfl) ?_
                                  refine lv_iload C.1 C.2.1 dL_asks_461 (lv_at hl 2 rfl) ?_
                                  refine rd_go1 (runS C hE hH hS (c_position hX.1 ((by omega)) (hp5)) mv_L_position wm_694 hl.1 dL_asks_463 rfl rfl ⟨rfl, rfl⟩ ⟨Nat.le_of_ble_eq_true rfl, Nat.le_of_ble_eq_true rfl⟩ (Nat.le_of_ble_eq_true rfl) ⟨(by show _ + 0 ≤ 330; omega), (by show _ + 0 ≤ 12650; omega)⟩) ?_
                                  refine lv_goto (tgt := 471) C.1 C.2.1 dL_asks_466 (by decide) ?_
                                  refine lv_icmp_ne (tgt := 489) C.1 C.2.1 dL_asks_471 (by decide) (fun c471 => ?_) (fun c471 => ?_)
                                  · exact absurd rfl c471
                                  · exact J474  _ _ hH hS ls (hl)
                              · refine lv_aload_n C.1 C.2.1 dL_asks_441 rfl (lv_at hl 10 rfl) ?_
                                refine lv_iconst (v := 1) C.1 C.2.1 dL_asks_442 rfl ?_
                                refine lv_iload C.1 C.2.1 dL_asks_443 (lv_at hl 2 rfl) ?_
                                refine lv_iconst (v := 0) C.1 C.2.1 dL_asks_445 rfl ?_
                                refine lv_iload C.1 C.2.1 dL_asks_446 (lv_at hl 3 rfl) ?_
                                refine wr_go1 (runT C hE hH hS (l_position hlx hI (nI k280) 0 (nI k270)) mv_L_debt wm_700 hl.1 dL_asks_448 rfl rfl ⟨rfl, rfl⟩ ⟨Nat.le_of_ble_eq_true rfl, Nat.le_of_ble_eq_true rfl⟩ (Nat.le_of_ble_eq_true rfl) ⟨(by show _ + 6 ≤ 330; omega), (by show _ + 230 ≤ 12650; omega)⟩) hS (fun u53 M54 H locs hM54 hH hS => ?_)
                                obtain ⟨hu, hM⟩ := lqA_f hM54 (fun z => hp5 ((inx_n (a := k280) (n := 5) (by omega) (by omega)).mp z.1))
                                rw [hu]
                                rw [hM] at hH
                                refine lv_iload C.1 C.2.1 dL_asks_451 (lv_at hl 2 rfl) ?_
                                refine lv_iconst (v := 5) C.1 C.2.1 dL_asks_453 rfl ?_
                                refine lv_icmp_ge (tgt := 469) C.1 C.2.1 dL_asks_454 (by decide) (fun c454 => ?_) (fun c454 => ?_)
                                · have n454 : 5 ≤ k280 := (nI_leI (a := 5) (b := k280) (by omega) (by omega)).mp c454
                                  refine lv_ldc (v := -1000000) C.1 C.2.1 C.2.2.2.1 (C.2.2.2.2 _ wm_712) dL_asks_469 ?_
                                  refine lv_icmp_ne (tgt := 489) C.1 C.2.1 dL_asks_471 (by decide) (fun c471 => ?_) (fun c471 => ?_)
                                  · exact absurd c471 (by decide)
                                  · exact J474  _ _ hH hS ls (hl)
                                · exact absurd ((nI_leI (a := 5) (b := k280) (by omega) (by omega)).mpr (by omega)) c454
                            rcases his with ⟨rfl, his⟩ | ⟨rfl, his⟩
                            · refine lv_aload_n C.1 C.2.1 dL_asks_401 rfl (lv_at hl 10 rfl) ?_
                              refine lv_iconst (v := 0) C.1 C.2.1 dL_asks_402 rfl ?_
                              refine lv_iload C.1 C.2.1 dL_asks_403 (lv_at hl 2 rfl) ?_
                              refine lv_iload C.1 C.2.1 dL_asks_405 (lv_at hl 1 rfl) ?_
                              refine lv_iload C.1 C.2.1 dL_asks_407 (lv_at hl 3 rfl) ?_
                              refine wr_go1 (runT C hE hH hS (l_owes hlx hI (nI k280) (nI k291) (nI k270)) mv_L_debt wm_700 hl.1 dL_asks_409 rfl rfl ⟨rfl, rfl⟩ ⟨Nat.le_of_ble_eq_true rfl, Nat.le_of_ble_eq_true rfl⟩ (Nat.le_of_ble_eq_true rfl) ⟨(by show _ + 6 ≤ 330; omega), (by show _ + 230 ≤ 12650; omega)⟩) hS (fun u55 M56 H locs hM56 hH hS => ?_)
                              rw [nI_clamp (show k270 < 2 ^ 31 by omega), nI_clamp (show k280 < 2 ^ 31 by omega), nI_clamp (show k291 < 2 ^ 31 by omega)] at hM56
                              obtain ⟨hu, hM⟩ := lqA_t hM56 ⟨⟨(inx_n (a := k280) (n := 5) (by omega) (by omega)).mpr his.1, (inx_n (a := k291) (n := 5) (by omega) (by omega)).mpr his.2⟩, (inx_n (a := k270) (n := 3) (by omega) (by omega)).mpr (by omega)⟩
                              have hu : u55 = (lf 8) (25 * k270 + 5 * k280 + k291) := hu.trans ((rD _ (by omega)).symm)
                              rw [hu]
                              rw [hM] at hH
                              refine lv_iload C.1 C.2.1 dL_asks_412 (lv_at hl 0 rfl) ?_
                              refine lv_if_eq (tgt := 436) C.1 C.2.1 dL_asks_414 (by decide) (fun c414 => ?_) (fun c414 => ?_)
                              · exact absurd c414 (by decide)
                              · refine lv_aload C.1 C.2.1 dL_asks_417 (lv_at hl 19 rfl) ?_
                                refine lv_bipush (v := 25) C.1 C.2.1 dL_asks_419 rfl ?_
                                refine lv_iload C.1 C.2.1 dL_asks_421 (lv_at hl 3 rfl) ?_
                                refine lv_imul C.1 C.2.1 dL_asks_423 ?_
                                rw [show ((25 : Int32) * (nI k270)) = nI (25 * k270) from nI_M 25 k270]
                                refine lv_iconst (v := 5) C.1 C.2.1 dL_asks_424 rfl ?_
                                refine lv_iload C.1 C.2.1 dL_asks_425 (lv_at hl 2 rfl) ?_
                                refine lv_imul C.1 C.2.1 dL_asks_427 ?_
                                rw [show ((5 : Int32) * (nI k280)) = nI (5 * k280) from nI_M 5 k280]
                                refine lv_iadd C.1 C.2.1 dL_asks_428 ?_
                                rw [show ((nI (25 * k270)) + (nI (5 * k280)) : Int32) = nI (25 * k270 + 5 * k280) from nI_add (25 * k270) (5 * k280)]
                                refine lv_iload C.1 C.2.1 dL_asks_429 (lv_at hl 1 rfl) ?_
                                refine lv_iadd C.1 C.2.1 dL_asks_431 ?_
                                rw [show ((nI (25 * k270 + 5 * k280)) + (nI k291) : Int32) = nI (25 * k270 + 5 * k280 + k291) from nI_add (25 * k270 + 5 * k280) k291]
                                refine lald (K := 8) (N := 50) (E := 25 * k270 + 5 * k280 + k291) (f := (lf 8)) (v := ((lf 8) (25 * k270 + 5 * k280 + k291))) C hE hH hX (by decide) rfl rfl rfl (by omega) (rfl) dL_asks_432 ?_
                                refine lv_goto (tgt := 438) C.1 C.2.1 dL_asks_433 (by decide) ?_
                                refine lv_icmp_ne (tgt := 489) C.1 C.2.1 dL_asks_438 (by decide) (fun c438 => ?_) (fun c438 => ?_)
                                · exact absurd rfl c438
                                · have J474 : ∀ (H : Heap) (locs : List Loc) (hH : Hw g M H) (hS : va_S (gA g) s.heap H locs) (ls : Array Slot), lv_has ls 20 [(19, .int 1), (18, .int (nI k291)), (17, .int (nI k280)), (16, .int (nI k270)), (15, .int v15), (14, .int (nI k237)), (13, .int (nI k223)), (12, .int (nI k210)), (11, .int (nI k200)), (10, .int (nI (2 + k3))), (0, .ref x), (1, .int y), (2, .ref (la 0)), (3, .ref (la 1)), (4, .ref (la 3)), (5, .ref (la 4)), (6, .ref (la 5)), (7, .ref (la 6)), (8, .ref (la 7)), (9, .ref (la 8))] → W p l e { frames := 10, cells := 330, slots := 12650, locals := 172 } s m args below meth c H locs (12 * i + 6 * j + 6 + 6 + 6 + 6) (460 * i + 230 * j + 230 + 230 + 230 + 230) (MQ below (wrQ (S := Unit) g (fun u_ => (some (.int 1))) (fun u_ M_ => M_ = M)) args s 330 12650 (gA g)) (F0 m 474 ls []) := by
                                    intro   H locs hH hS ls hl
                                    refine lv_aload_n C.1 C.2.1 dL_asks_474 rfl (lv_at hl 10 rfl) ?_
                                    refine lv_iconst (v := 1) C.1 C.2.1 dL_asks_475 rfl ?_
                                    refine lv_iconst (v := -1) C.1 C.2.1 dL_asks_476 rfl ?_
                                    refine wr_go1 (runT C hE hH hS (l_strength hlx hI (-1)) mv_L_one wm_508 hl.1 dL_asks_477 rfl rfl ⟨rfl, rfl⟩ ⟨Nat.le_of_ble_eq_true rfl, Nat.le_of_ble_eq_true rfl⟩ (Nat.le_of_ble_eq_true rfl) ⟨(by show _ + 6 ≤ 330; omega), (by show _ + 230 ≤ 12650; omega)⟩) hS (fun u57 M58 H locs hM58 hH hS => ?_)
                                    obtain ⟨hu, hM⟩ := lqA_f hM58 (inx_m (by decide))
                                    rw [hu]
                                    rw [hM] at hH
                                    refine lv_bipush (v := -101) C.1 C.2.1 dL_asks_480 rfl ?_
                                    refine lv_icmp_ne (tgt := 489) C.1 C.2.1 dL_asks_482 (by decide) (fun c482 => ?_) (fun c482 => ?_)
                                    · exact absurd c482 (by decide)
                                    · refine lv_iconst (v := 1) C.1 C.2.1 dL_asks_485 rfl ?_
                                      refine lv_goto (tgt := 490) C.1 C.2.1 dL_asks_486 (by decide) ?_
                                      exact wr_zret () C hr hlocks (rfl) hH hS rfl (rfl) (by omega) (by omega) dL_asks_490
                                  exact J441  _ _ hH hS ls (lv_sub hl [0, 1, 2, 3, 4, 5, 6, 7, 8, 9, 10, 11, 12, 13, 14, 15, 16, 17, 18, 19] rfl)
                            · refine lv_aload_n C.1 C.2.1 dL_asks_401 rfl (lv_at hl 10 rfl) ?_
                              refine lv_iconst (v := 0) C.1 C.2.1 dL_asks_402 rfl ?_
                              refine lv_iload C.1 C.2.1 dL_asks_403 (lv_at hl 2 rfl) ?_
                              refine lv_iload C.1 C.2.1 dL_asks_405 (lv_at hl 1 rfl) ?_
                              refine lv_iload C.1 C.2.1 dL_asks_407 (lv_at hl 3 rfl) ?_
                              refine wr_go1 (runT C hE hH hS (l_owes hlx hI (nI k280) (nI k291) (nI k270)) mv_L_debt wm_700 hl.1 dL_asks_409 rfl rfl ⟨rfl, rfl⟩ ⟨Nat.le_of_ble_eq_true rfl, Nat.le_of_ble_eq_true rfl⟩ (Nat.le_of_ble_eq_true rfl) ⟨(by show _ + 6 ≤ 330; omega), (by show _ + 230 ≤ 12650; omega)⟩) hS (fun u59 M60 H locs hM60 hH hS => ?_)
                              obtain ⟨hu, hM⟩ := lqA_f hM60 (fun z => his ⟨(inx_n (a := k280) (n := 5) (by omega) (by omega)).mp z.1.1, (inx_n (a := k291) (n := 5) (by omega) (by omega)).mp z.1.2⟩)
                              rw [hu]
                              rw [hM] at hH
                              refine lv_iload C.1 C.2.1 dL_asks_412 (lv_at hl 0 rfl) ?_
                              refine lv_if_eq (tgt := 436) C.1 C.2.1 dL_asks_414 (by decide) (fun c414 => ?_) (fun c414 => ?_)
                              · refine lv_ldc (v := -1000000) C.1 C.2.1 C.2.2.2.1 (C.2.2.2.2 _ wm_712) dL_asks_436 ?_
                                refine lv_icmp_ne (tgt := 489) C.1 C.2.1 dL_asks_438 (by decide) (fun c438 => ?_) (fun c438 => ?_)
                                · exact absurd c438 (by decide)
                                · have J474 : ∀ (H : Heap) (locs : List Loc) (hH : Hw g M H) (hS : va_S (gA g) s.heap H locs) (ls : Array Slot), lv_has ls 20 [(19, .int 0), (18, .int (nI k291)), (17, .int (nI k280)), (16, .int (nI k270)), (15, .int v15), (14, .int (nI k237)), (13, .int (nI k223)), (12, .int (nI k210)), (11, .int (nI k200)), (10, .int (nI (2 + k3))), (0, .ref x), (1, .int y), (2, .ref (la 0)), (3, .ref (la 1)), (4, .ref (la 3)), (5, .ref (la 4)), (6, .ref (la 5)), (7, .ref (la 6)), (8, .ref (la 7)), (9, .ref (la 8))] → W p l e { frames := 10, cells := 330, slots := 12650, locals := 172 } s m args below meth c H locs (12 * i + 6 * j + 6 + 6 + 6 + 6) (460 * i + 230 * j + 230 + 230 + 230 + 230) (MQ below (wrQ (S := Unit) g (fun u_ => (some (.int 1))) (fun u_ M_ => M_ = M)) args s 330 12650 (gA g)) (F0 m 474 ls []) := by
                                    intro   H locs hH hS ls hl
                                    refine lv_aload_n C.1 C.2.1 dL_asks_474 rfl (lv_at hl 10 rfl) ?_
                                    refine lv_iconst (v := 1) C.1 C.2.1 dL_asks_475 rfl ?_
                                    refine lv_iconst (v := -1) C.1 C.2.1 dL_asks_476 rfl ?_
                                    refine wr_go1 (runT C hE hH hS (l_strength hlx hI (-1)) mv_L_one wm_508 hl.1 dL_asks_477 rfl rfl ⟨rfl, rfl⟩ ⟨Nat.le_of_ble_eq_true rfl, Nat.le_of_ble_eq_true rfl⟩ (Nat.le_of_ble_eq_true rfl) ⟨(by show _ + 6 ≤ 330; omega), (by show _ + 230 ≤ 12650; omega)⟩) hS (fun u61 M62 H locs hM62 hH hS => ?_)
                                    obtain ⟨hu, hM⟩ := lqA_f hM62 (inx_m (by decide))
                                    rw [hu]
                                    rw [hM] at hH
                                    refine lv_bipush (v := -101) C.1 C.2.1 dL_asks_480 rfl ?_
                                    refine lv_icmp_ne (tgt := 489) C.1 C.2.1 dL_asks_482 (by decide) (fun c482 => ?_) (fun c482 => ?_)
                                    · exact absurd c482 (by decide)
                                    · refine lv_iconst (v := 1) C.1 C.2.1 dL_asks_485 rfl ?_
                                      refine lv_goto (tgt := 490) C.1 C.2.1 dL_asks_486 (by decide) ?_
                                      exact wr_zret () C hr hlocks (rfl) hH hS rfl (rfl) (by omega) (by omega) dL_asks_490
                                  exact J441  _ _ hH hS ls (lv_sub hl [0, 1, 2, 3, 4, 5, 6, 7, 8, 9, 10, 11, 12, 13, 14, 15, 16, 17, 18, 19] rfl)
                              · exact absurd c414 (by decide)
                          exact J359  _ _ hH hS ls (hl)
                    · exact absurd ((nI_leI (a := k200) (b := 2) (by omega) (by omega)).mpr (by omega)) c327
                  · refine lv_aload_n C.1 C.2.1 dL_asks_315 rfl (lv_at hl 10 rfl) ?_
                    refine lv_iconst (v := 4) C.1 C.2.1 dL_asks_316 rfl ?_
                    refine lv_iload C.1 C.2.1 dL_asks_317 (lv_at hl 8 rfl) ?_
                    refine lv_iload C.1 C.2.1 dL_asks_319 (lv_at hl 7 rfl) ?_
                    refine wr_go1 (runT C hE hH hS (l_blamed hlx hI (nI k200) (nI k210)) mv_L_two wm_313 hl.1 dL_asks_321 rfl rfl ⟨rfl, rfl⟩ ⟨Nat.le_of_ble_eq_true rfl, Nat.le_of_ble_eq_true rfl⟩ (Nat.le_of_ble_eq_true rfl) ⟨(by show _ + 6 ≤ 330; omega), (by show _ + 230 ≤ 12650; omega)⟩) hS (fun u63 M64 H locs hM64 hH hS => ?_)
                    rw [nI_clamp (show k200 < 2 ^ 31 by omega), nI_clamp (show k210 < 2 ^ 31 by omega)] at hM64
                    obtain ⟨hu, hM⟩ := lqB_t hM64 ((inx_n (a := k200) (n := 3) (by omega) (by omega)).mpr hc3.1) ((inr_n (a := k210) (n := 2) (by omega) (by omega)).mpr (by omega))
                    have hu : u63 = (lf 7) (3 * k200 + k210) := hu.trans ((rM _ (by omega)).symm)
                    rw [hu]
                    rw [hM] at hH
                    refine lv_iload C.1 C.2.1 dL_asks_324 (lv_at hl 8 rfl) ?_
                    refine lv_iconst (v := 2) C.1 C.2.1 dL_asks_326 rfl ?_
                    refine lv_icmp_le (tgt := 335) C.1 C.2.1 dL_asks_327 (by decide) (fun c327 => ?_) (fun c327 => ?_)
                    · have n327 : k200 ≤ 2 := (nI_leI (a := k200) (b := 2) (by omega) (by omega)).mp c327
                      refine lv_iload C.1 C.2.1 dL_asks_335 (lv_at hl 7 rfl) ?_
                      refine lv_iconst (v := 2) C.1 C.2.1 dL_asks_337 rfl ?_
                      refine lv_icmp_le (tgt := 346) C.1 C.2.1 dL_asks_338 (by decide) (fun c338 => ?_) (fun c338 => ?_)
                      · have n338 : k210 ≤ 2 := (nI_leI (a := k210) (b := 2) (by omega) (by omega)).mp c338
                        refine lv_aload C.1 C.2.1 dL_asks_346 (lv_at hl 18 rfl) ?_
                        refine lv_iconst (v := 3) C.1 C.2.1 dL_asks_348 rfl ?_
                        refine lv_iload C.1 C.2.1 dL_asks_349 (lv_at hl 8 rfl) ?_
                        refine lv_imul C.1 C.2.1 dL_asks_351 ?_
                        rw [show ((3 : Int32) * (nI k200)) = nI (3 * k200) from nI_M 3 k200]
                        refine lv_iload C.1 C.2.1 dL_asks_352 (lv_at hl 7 rfl) ?_
                        refine lv_iadd C.1 C.2.1 dL_asks_354 ?_
                        rw [show ((nI (3 * k200)) + (nI k210) : Int32) = nI (3 * k200 + k210) from nI_add (3 * k200) k210]
                        refine lald (K := 7) (N := 9) (E := 3 * k200 + k210) (f := (lf 7)) (v := ((lf 7) (3 * k200 + k210))) C hE hH hX (by decide) rfl rfl rfl (by omega) (rfl) dL_asks_355 ?_
                        refine lv_icmp_ne (tgt := 489) C.1 C.2.1 dL_asks_356 (by decide) (fun c356 => ?_) (fun c356 => ?_)
                        · exact absurd rfl c356
                        · have J401 : ∀ (H : Heap) (locs : List Loc) (hH : Hw g M H) (hS : va_S (gA g) s.heap H locs) (ls : Array Slot), lv_has ls 20 [(19, .int v19), (18, .int (nI k291)), (17, .int (nI k280)), (16, .int (nI k270)), (15, .int v15), (14, .int (nI k237)), (13, .int (nI k223)), (12, .int (nI k210)), (11, .int (nI k200)), (10, .int (nI (2 + k3))), (0, .ref x), (1, .int y), (2, .ref (la 0)), (3, .ref (la 1)), (4, .ref (la 3)), (5, .ref (la 4)), (6, .ref (la 5)), (7, .ref (la 6)), (8, .ref (la 7)), (9, .ref (la 8))] → W p l e { frames := 10, cells := 330, slots := 12650, locals := 172 } s m args below meth c H locs (12 * i + 6 * j + 6 + 6) (460 * i + 230 * j + 230 + 230) (MQ below (wrQ (S := Unit) g (fun u_ => (some (.int 1))) (fun u_ M_ => M_ = M)) args s 330 12650 (gA g)) (F0 m 401 ls []) := by
                            intro   H locs hH hS ls hl
                            have J441 : ∀ (H : Heap) (locs : List Loc) (hH : Hw g M H) (hS : va_S (gA g) s.heap H locs) (ls : Array Slot), lv_has ls 20 [(19, .int v19), (18, .int (nI k291)), (17, .int (nI k280)), (16, .int (nI k270)), (15, .int v15), (14, .int (nI k237)), (13, .int (nI k223)), (12, .int (nI k210)), (11, .int (nI k200)), (10, .int (nI (2 + k3))), (0, .ref x), (1, .int y), (2, .ref (la 0)), (3, .ref (la 1)), (4, .ref (la 3)), (5, .ref (la 4)), (6, .ref (la 5)), (7, .ref (la 6)), (8, .ref (la 7)), (9, .ref (la 8))] → W p l e { frames := 10, cells := 330, slots := 12650, locals := 172 } s m args below meth c H locs (12 * i + 6 * j + 6 + 6 + 6) (460 * i + 230 * j + 230 + 230 + 230) (MQ below (wrQ (S := Unit) g (fun u_ => (some (.int 1))) (fun u_ M_ => M_ = M)) args s 330 12650 (gA g)) (F0 m 441 ls []) := by
                              intro   H locs hH hS ls hl
                              have J474 : ∀ (H : Heap) (locs : List Loc) (hH : Hw g M H) (hS : va_S (gA g) s.heap H locs) (ls : Array Slot), lv_has ls 20 [(19, .int v19), (18, .int (nI k291)), (17, .int (nI k280)), (16, .int (nI k270)), (15, .int v15), (14, .int (nI k237)), (13, .int (nI k223)), (12, .int (nI k210)), (11, .int (nI k200)), (10, .int (nI (2 + k3))), (0, .ref x), (1, .int y), (2, .ref (la 0)), (3, .ref (la 1)), (4, .ref (la 3)), (5, .ref (la 4)), (6, .ref (la 5)), (7, .ref (la 6)), (8, .ref (la 7)), (9, .ref (la 8))] → W p l e { frames := 10, cells := 330, slots := 12650, locals := 172 } s m args below meth c H locs (12 * i + 6 * j + 6 + 6 + 6 + 6) (460 * i + 230 * j + 230 + 230 + 230 + 230) (MQ below (wrQ (S := Unit) g (fun u_ => (some (.int 1))) (fun u_ M_ => M_ = M)) args s 330 12650 (gA g)) (F0 m 474 ls []) := by
                                intro   H locs hH hS ls hl
                                refine lv_aload_n C.1 C.2.1 dL_asks_474 rfl (lv_at hl 10 rfl) ?_
                                refine lv_iconst (v := 1) C.1 C.2.1 dL_asks_475 rfl ?_
                                refine lv_iconst (v := -1) C.1 C.2.1 dL_asks_476 rfl ?_
                                refine wr_go1 (runT C hE hH hS (l_strength hlx hI (-1)) mv_L_one wm_508 hl.1 dL_asks_477 rfl rfl ⟨rfl, rfl⟩ ⟨Nat.le_of_ble_eq_true rfl, Nat.le_of_ble_eq_true rfl⟩ (Nat.le_of_ble_eq_true rfl) ⟨(by show _ + 6 ≤ 330; omega), (by show _ + 230 ≤ 12650; omega)⟩) hS (fun u65 M66 H locs hM66 hH hS => ?_)
                                obtain ⟨hu, hM⟩ := lqA_f hM66 (inx_m (by decide))
                                rw [hu]
                                rw [hM] at hH
                                refine lv_bipush (v := -101) C.1 C.2.1 dL_asks_480 rfl ?_
                                refine lv_icmp_ne (tgt := 489) C.1 C.2.1 dL_asks_482 (by decide) (fun c482 => ?_) (fun c482 => ?_)
                                · exact absurd c482 (by decide)
                                · refine lv_iconst (v := 1) C.1 C.2.1 dL_asks_485 rfl ?_
                                  refine lv_goto (tgt := 490) C.1 C.2.1 dL_asks_486 (by decide) ?_
                                  exact wr_zret () C hr hlocks (rfl) hH hS rfl (rfl) (by omega) (by omega) dL_asks_490
                              by_cases hp5 : k280 < 5
                              · refine lv_aload_n C.1 C.2.1 dL_asks_441 rfl (lv_at hl 10 rfl) ?_
                                refine lv_iconst (v := 1) C.1 C.2.1 dL_asks_442 rfl ?_
                                refine lv_iload C.1 C.2.1 dL_asks_443 (lv_at hl 2 rfl) ?_
                                refine lv_iconst (v := 0) C.1 C.2.1 dL_asks_445 rfl ?_
                                refine lv_iload C.1 C.2.1 dL_asks_446 (lv_at hl 3 rfl) ?_
                                refine wr_go1 (runT C hE hH hS (l_position hlx hI (nI k280) 0 (nI k270)) mv_L_debt wm_700 hl.1 dL_asks_448 rfl rfl ⟨rfl, rfl⟩ ⟨Nat.le_of_ble_eq_true rfl, Nat.le_of_ble_eq_true rfl⟩ (Nat.le_of_ble_eq_true rfl) ⟨(by show _ + 6 ≤ 330; omega), (by show _ + 230 ≤ 12650; omega)⟩) hS (fun u67 M68 H locs hM68 hH hS => ?_)
                                rw [nI_clamp (show k270 < 2 ^ 31 by omega), nI_clamp (show k280 < 2 ^ 31 by omega)] at hM68
                                obtain ⟨hu, hM⟩ := lqA_t hM68 ⟨(inx_n (a := k280) (n := 5) (by omega) (by omega)).mpr hp5, (inx_n (a := k270) (n := 3) (by omega) (by omega)).mpr (by omega)⟩
                                have hu : u67 = zps (lf 8) k270 k280 25 := hu.trans ((zps_zU rD (by omega) hp5).symm)
                                rw [hu]
                                rw [hM] at hH
                                refine lv_iload C.1 C.2.1 dL_asks_451 (lv_at hl 2 rfl) ?_
                                refine lv_iconst (v := 5) C.1 C.2.1 dL_asks_453 rfl ?_
                                refine lv_icmp_ge (tgt := 469) C.1 C.2.1 dL_asks_454 (by decide) (fun c454 => ?_) (fun c454 => ?_)
                                · exact absurd ((nI_leI (a := 5) (b := k280) (by omega) (by omega)).mp c454) (by omega)
                                · have n454 : ¬ 5 ≤ k280 := fun z => c454 ((nI_leI (a := 5) (b := k280) (by omega) (by omega)).mpr z)
                                  refine lv_aload C.1 C.2.1 dL_asks_457 (lv_at hl 19 rfl) ?_
                                  refine lv_iload C.1 C.2.1 dL_asks_459 (lv_at hl 3 rfl) ?_
                                  refine lv_iload C.1 C.2.1 dL_asks_461 (lv_at hl 2 rfl) ?_
                                  refine rd_go1 (runS C hE hH hS (c_position hX.1 ((by omega)) (hp5)) mv_L_position wm_694 hl.1 dL_asks_463 rfl rfl ⟨rfl, rfl⟩ ⟨Nat.le_of_ble_eq_true rfl, Nat.le_of_ble_eq_true rfl⟩ (Nat.le_of_ble_eq_true rfl) ⟨(by show _ + 0 ≤ 330; omega), (by show _ + 0 ≤ 12650; omega)⟩) ?_
                                  refine lv_goto (tgt := 471) C.1 C.2.1 dL_asks_466 (by decide) ?_
                                  refine lv_icmp_ne (tgt := 489) C.1 C.2.1 dL_asks_471 (by decide) (fun c471 => ?_) (fun c471 => ?_)
                                  · exact absurd rfl c471
                                  · exact J474  _ _ hH hS ls (hl)
                              · refine lv_aload_n C.1 C.2.1 dL_asks_441 rfl (lv_at hl 10 rfl) ?_
                                refine lv_iconst (v := 1) C.1 C.2.1 dL_asks_442 rfl ?_
                                refine lv_iload C.1 C.2.1 dL_asks_443 (lv_at hl 2 rfl) ?_
                                refine lv_iconst (v := 0) C.1 C.2.1 dL_asks_445 rfl ?_
                                refine lv_iload C.1 C.2.1 dL_asks_446 (lv_at hl 3 rfl) ?_
                                refine wr_go1 (runT C hE hH hS (l_position hlx hI (nI k280) 0 (nI k270)) mv_L_debt wm_700 hl.1 dL_asks_448 rfl rfl ⟨rfl, rfl⟩ ⟨Nat.le_of_ble_eq_true rfl, Nat.le_of_ble_eq_true rfl⟩ (Nat.le_of_ble_eq_true rfl) ⟨(by show _ + 6 ≤ 330; omega), (by show _ + 230 ≤ 12650; omega)⟩) hS (fun u69 M70 H locs hM70 hH hS => ?_)
                                obtain ⟨hu, hM⟩ := lqA_f hM70 (fun z => hp5 ((inx_n (a := k280) (n := 5) (by omega) (by omega)).mp z.1))
                                rw [hu]
                                rw [hM] at hH
                                refine lv_iload C.1 C.2.1 dL_asks_451 (lv_at hl 2 rfl) ?_
                                refine lv_iconst (v := 5) C.1 C.2.1 dL_asks_453 rfl ?_
                                refine lv_icmp_ge (tgt := 469) C.1 C.2.1 dL_asks_454 (by decide) (fun c454 => ?_) (fun c454 => ?_)
                                · have n454 : 5 ≤ k280 := (nI_leI (a := 5) (b := k280) (by omega) (by omega)).mp c454
                                  refine lv_ldc (v := -1000000) C.1 C.2.1 C.2.2.2.1 (C.2.2.2.2 _ wm_712) dL_asks_469 ?_
                                  refine lv_icmp_ne (tgt := 489) C.1 C.2.1 dL_asks_471 (by decide) (fun c471 => ?_) (fun c471 => ?_)
                                  · exact absurd c471 (by decide)
                                  · exact J474  _ _ hH hS ls (hl)
                                · exact absurd ((nI_leI (a := 5) (b := k280) (by omega) (by omega)).mpr (by omega)) c454
                            rcases his with ⟨rfl, his⟩ | ⟨rfl, his⟩
                            · refine lv_aload_n C.1 C.2.1 dL_asks_401 rfl (lv_at hl 10 rfl) ?_
                              refine lv_iconst (v := 0) C.1 C.2.1 dL_asks_402 rfl ?_
                              refine lv_iload C.1 C.2.1 dL_asks_403 (lv_at hl 2 rfl) ?_
                              refine lv_iload C.1 C.2.1 dL_asks_405 (lv_at hl 1 rfl) ?_
                              refine lv_iload C.1 C.2.1 dL_asks_407 (lv_at hl 3 rfl) ?_
                              refine wr_go1 (runT C hE hH hS (l_owes hlx hI (nI k280) (nI k291) (nI k270)) mv_L_debt wm_700 hl.1 dL_asks_409 rfl rfl ⟨rfl, rfl⟩ ⟨Nat.le_of_ble_eq_true rfl, Nat.le_of_ble_eq_true rfl⟩ (Nat.le_of_ble_eq_true rfl) ⟨(by show _ + 6 ≤ 330; omega), (by show _ + 230 ≤ 12650; omega)⟩) hS (fun u71 M72 H locs hM72 hH hS => ?_)
                              rw [nI_clamp (show k270 < 2 ^ 31 by omega), nI_clamp (show k280 < 2 ^ 31 by omega), nI_clamp (show k291 < 2 ^ 31 by omega)] at hM72
                              obtain ⟨hu, hM⟩ := lqA_t hM72 ⟨⟨(inx_n (a := k280) (n := 5) (by omega) (by omega)).mpr his.1, (inx_n (a := k291) (n := 5) (by omega) (by omega)).mpr his.2⟩, (inx_n (a := k270) (n := 3) (by omega) (by omega)).mpr (by omega)⟩
                              have hu : u71 = (lf 8) (25 * k270 + 5 * k280 + k291) := hu.trans ((rD _ (by omega)).symm)
                              rw [hu]
                              rw [hM] at hH
                              refine lv_iload C.1 C.2.1 dL_asks_412 (lv_at hl 0 rfl) ?_
                              refine lv_if_eq (tgt := 436) C.1 C.2.1 dL_asks_414 (by decide) (fun c414 => ?_) (fun c414 => ?_)
                              · exact absurd c414 (by decide)
                              · refine lv_aload C.1 C.2.1 dL_asks_417 (lv_at hl 19 rfl) ?_
                                refine lv_bipush (v := 25) C.1 C.2.1 dL_asks_419 rfl ?_
                                refine lv_iload C.1 C.2.1 dL_asks_421 (lv_at hl 3 rfl) ?_
                                refine lv_imul C.1 C.2.1 dL_asks_423 ?_
                                rw [show ((25 : Int32) * (nI k270)) = nI (25 * k270) from nI_M 25 k270]
                                refine lv_iconst (v := 5) C.1 C.2.1 dL_asks_424 rfl ?_
                                refine lv_iload C.1 C.2.1 dL_asks_425 (lv_at hl 2 rfl) ?_
                                refine lv_imul C.1 C.2.1 dL_asks_427 ?_
                                rw [show ((5 : Int32) * (nI k280)) = nI (5 * k280) from nI_M 5 k280]
                                refine lv_iadd C.1 C.2.1 dL_asks_428 ?_
                                rw [show ((nI (25 * k270)) + (nI (5 * k280)) : Int32) = nI (25 * k270 + 5 * k280) from nI_add (25 * k270) (5 * k280)]
                                refine lv_iload C.1 C.2.1 dL_asks_429 (lv_at hl 1 rfl) ?_
                                refine lv_iadd C.1 C.2.1 dL_asks_431 ?_
                                rw [show ((nI (25 * k270 + 5 * k280)) + (nI k291) : Int32) = nI (25 * k270 + 5 * k280 + k291) from nI_add (25 * k270 + 5 * k280) k291]
                                refine lald (K := 8) (N := 50) (E := 25 * k270 + 5 * k280 + k291) (f := (lf 8)) (v := ((lf 8) (25 * k270 + 5 * k280 + k291))) C hE hH hX (by decide) rfl rfl rfl (by omega) (rfl) dL_asks_432 ?_
                                refine lv_goto (tgt := 438) C.1 C.2.1 dL_asks_433 (by decide) ?_
                                refine lv_icmp_ne (tgt := 489) C.1 C.2.1 dL_asks_438 (by decide) (fun c438 => ?_) (fun c438 => ?_)
                                · exact absurd rfl c438
                                · have J474 : ∀ (H : Heap) (locs : List Loc) (hH : Hw g M H) (hS : va_S (gA g) s.heap H locs) (ls : Array Slot), lv_has ls 20 [(19, .int 1), (18, .int (nI k291)), (17, .int (nI k280)), (16, .int (nI k270)), (15, .int v15), (14, .int (nI k237)), (13, .int (nI k223)), (12, .int (nI k210)), (11, .int (nI k200)), (10, .int (nI (2 + k3))), (0, .ref x), (1, .int y), (2, .ref (la 0)), (3, .ref (la 1)), (4, .ref (la 3)), (5, .ref (la 4)), (6, .ref (la 5)), (7, .ref (la 6)), (8, .ref (la 7)), (9, .ref (la 8))] → W p l e { frames := 10, cells := 330, slots := 12650, locals := 172 } s m args below meth c H locs (12 * i + 6 * j + 6 + 6 + 6 + 6) (460 * i + 230 * j + 230 + 230 + 230 + 230) (MQ below (wrQ (S := Unit) g (fun u_ => (some (.int 1))) (fun u_ M_ => M_ = M)) args s 330 12650 (gA g)) (F0 m 474 ls []) := by
                                    intro   H locs hH hS ls hl
                                    refine lv_aload_n C.1 C.2.1 dL_asks_474 rfl (lv_at hl 10 rfl) ?_
                                    refine lv_iconst (v := 1) C.1 C.2.1 dL_asks_475 rfl ?_
                                    refine lv_iconst (v := -1) C.1 C.2.1 dL_asks_476 rfl ?_
                                    refine wr_go1 (runT C hE hH hS (l_strength hlx hI (-1)) mv_L_one wm_508 hl.1 dL_asks_477 rfl rfl ⟨rfl, rfl⟩ ⟨Nat.le_of_ble_eq_true rfl, Nat.le_of_ble_eq_true rfl⟩ (Nat.le_of_ble_eq_true rfl) ⟨(by show _ + 6 ≤ 330; omega), (by show _ + 230 ≤ 12650; omega)⟩) hS (fun u73 M74 H locs hM74 hH hS => ?_)
                                    obtain ⟨hu, hM⟩ := lqA_f hM74 (inx_m (by decide))
                                    rw [hu]
                                    rw [hM] at hH
                                    refine lv_bipush (v := -101) C.1 C.2.1 dL_asks_480 rfl ?_
                                    refine lv_icmp_ne (tgt := 489) C.1 C.2.1 dL_asks_482 (by decide) (fun c482 => ?_) (fun c482 => ?_)
                                    · exact absurd c482 (by decide)
                                    · refine lv_iconst (v := 1) C.1 C.2.1 dL_asks_485 rfl ?_
                                      refine lv_goto (tgt := 490) C.1 C.2.1 dL_asks_486 (by decide) ?_
                                      exact wr_zret () C hr hlocks (rfl) hH hS rfl (rfl) (by omega) (by omega) dL_asks_490
                                  exact J441  _ _ hH hS ls (lv_sub hl [0, 1, 2, 3, 4, 5, 6, 7, 8, 9, 10, 11, 12, 13, 14, 15, 16, 17, 18, 19] rfl)
                            · refine lv_aload_n C.1 C.2.1 dL_asks_401 rfl (lv_at hl 10 rfl) ?_
                              refine lv_iconst (v := 0) C.1 C.2.1 dL_asks_402 rfl ?_
                              refine lv_iload C.1 C.2.1 dL_asks_403 (lv_at hl 2 rfl) ?_
                              refine lv_iload C.1 C.2.1 dL_asks_405 (lv_at hl 1 rfl) ?_
                              refine lv_iload C.1 C.2.1 dL_asks_407 (lv_at hl 3 rfl) ?_
                              refine wr_go1 (runT C hE hH hS (l_owes hlx hI (nI k280) (nI k291) (nI k270)) mv_L_debt wm_700 hl.1 dL_asks_409 rfl rfl ⟨rfl, rfl⟩ ⟨Nat.le_of_ble_eq_true rfl, Nat.le_of_ble_eq_true rfl⟩ (Nat.le_of_ble_eq_true rfl) ⟨(by show _ + 6 ≤ 330; omega), (by show _ + 230 ≤ 12650; omega)⟩) hS (fun u75 M76 H locs hM76 hH hS => ?_)
                              obtain ⟨hu, hM⟩ := lqA_f hM76 (fun z => his ⟨(inx_n (a := k280) (n := 5) (by omega) (by omega)).mp z.1.1, (inx_n (a := k291) (n := 5) (by omega) (by omega)).mp z.1.2⟩)
                              rw [hu]
                              rw [hM] at hH
                              refine lv_iload C.1 C.2.1 dL_asks_412 (lv_at hl 0 rfl) ?_
                              refine lv_if_eq (tgt := 436) C.1 C.2.1 dL_asks_414 (by decide) (fun c414 => ?_) (fun c414 => ?_)
                              · refine lv_ldc (v := -1000000) C.1 C.2.1 C.2.2.2.1 (C.2.2.2.2 _ wm_712) dL_asks_436 ?_
                                refine lv_icmp_ne (tgt := 489) C.1 C.2.1 dL_asks_438 (by decide) (fun c438 => ?_) (fun c438 => ?_)
                                · exact absurd c438 (by decide)
                                · have J474 : ∀ (H : Heap) (locs : List Loc) (hH : Hw g M H) (hS : va_S (gA g) s.heap H locs) (ls : Array Slot), lv_has ls 20 [(19, .int 0), (18, .int (nI k291)), (17, .int (nI k280)), (16, .int (nI k270)), (15, .int v15), (14, .int (nI k237)), (13, .int (nI k223)), (12, .int (nI k210)), (11, .int (nI k200)), (10, .int (nI (2 + k3))), (0, .ref x), (1, .int y), (2, .ref (la 0)), (3, .ref (la 1)), (4, .ref (la 3)), (5, .ref (la 4)), (6, .ref (la 5)), (7, .ref (la 6)), (8, .ref (la 7)), (9, .ref (la 8))] → W p l e { frames := 10, cells := 330, slots := 12650, locals := 172 } s m args below meth c H locs (12 * i + 6 * j + 6 + 6 + 6 + 6) (460 * i + 230 * j + 230 + 230 + 230 + 230) (MQ below (wrQ (S := Unit) g (fun u_ => (some (.int 1))) (fun u_ M_ => M_ = M)) args s 330 12650 (gA g)) (F0 m 474 ls []) := by
                                    intro   H locs hH hS ls hl
                                    refine lv_aload_n C.1 C.2.1 dL_asks_474 rfl (lv_at hl 10 rfl) ?_
                                    refine lv_iconst (v := 1) C.1 C.2.1 dL_asks_475 rfl ?_
                                    refine lv_iconst (v := -1) C.1 C.2.1 dL_asks_476 rfl ?_
                                    refine wr_go1 (runT C hE hH hS (l_strength hlx hI (-1)) mv_L_one wm_508 hl.1 dL_asks_477 rfl rfl ⟨rfl, rfl⟩ ⟨Nat.le_of_ble_eq_true rfl, Nat.le_of_ble_eq_true rfl⟩ (Nat.le_of_ble_eq_true rfl) ⟨(by show _ + 6 ≤ 330; omega), (by show _ + 230 ≤ 12650; omega)⟩) hS (fun u77 M78 H locs hM78 hH hS => ?_)
                                    obtain ⟨hu, hM⟩ := lqA_f hM78 (inx_m (by decide))
                                    rw [hu]
                                    rw [hM] at hH
                                    refine lv_bipush (v := -101) C.1 C.2.1 dL_asks_480 rfl ?_
                                    refine lv_icmp_ne (tgt := 489) C.1 C.2.1 dL_asks_482 (by decide) (fun c482 => ?_) (fun c482 => ?_)
                                    · exact absurd c482 (by decide)
                                    · refine lv_iconst (v := 1) C.1 C.2.1 dL_asks_485 rfl ?_
                                      refine lv_goto (tgt := 490) C.1 C.2.1 dL_asks_486 (by decide) ?_
                                      exact wr_zret () C hr hlocks (rfl) hH hS rfl (rfl) (by omega) (by omega) dL_asks_490
                                  exact J441  _ _ hH hS ls (lv_sub hl [0, 1, 2, 3, 4, 5, 6, 7, 8, 9, 10, 11, 12, 13, 14, 15, 16, 17, 18, 19] rfl)
                              · exact absurd c414 (by decide)
                          exact J359  _ _ hH hS ls (hl)
                      · exact absurd ((nI_leI (a := k210) (b := 2) (by omega) (by omega)).mpr (by omega)) c338
                    · exact absurd ((nI_leI (a := k200) (b := 2) (by omega) (by omega)).mpr (by omega)) c327
                refine lv_iload C.1 C.2.1 dL_asks_296 (lv_at hl 1 rfl) ?_
                refine lv_iconst (v := 5) C.1 C.2.1 dL_asks_298 rfl ?_
                refine lv_icmp_ge (tgt := 312) C.1 C.2.1 dL_asks_299 (by decide) (fun c299 => ?_) (fun c299 => ?_)
                · have n299 : 5 ≤ k280 := (nI_leI (a := 5) (b := k280) (by omega) (by omega)).mp c299
                  refine lv_iconst (v := 0) C.1 C.2.1 dL_asks_312 rfl ?_
                  exact J313 0 (Or.inr ⟨rfl, by omega⟩) ls (hl)
                · have n299 : ¬ 5 ≤ k280 := fun z => c299 ((nI_leI (a := 5) (b := k280) (by omega) (by omega)).mpr z)
                  refine lv_iload C.1 C.2.1 dL_asks_302 (lv_at hl 0 rfl) ?_
                  refine lv_iconst (v := 5) C.1 C.2.1 dL_asks_304 rfl ?_
                  refine lv_icmp_ge (tgt := 312) C.1 C.2.1 dL_asks_305 (by decide) (fun c305 => ?_) (fun c305 => ?_)
                  · have n305 : 5 ≤ k291 := (nI_leI (a := 5) (b := k291) (by omega) (by omega)).mp c305
                    refine lv_iconst (v := 0) C.1 C.2.1 dL_asks_312 rfl ?_
                    exact J313 0 (Or.inr ⟨rfl, by omega⟩) ls (hl)
                  · have n305 : ¬ 5 ≤ k291 := fun z => c305 ((nI_leI (a := 5) (b := k291) (by omega) (by omega)).mpr z)
                    refine lv_iconst (v := 1) C.1 C.2.1 dL_asks_308 rfl ?_
                    refine lv_goto (tgt := 313) C.1 C.2.1 dL_asks_309 (by decide) ?_
                    exact J313 1 (Or.inl ⟨rfl, by omega⟩) ls (hl)
              refine lv_iload C.1 C.2.1 dL_asks_242 (lv_at hl 1 rfl) ?_
              refine lv_aload_n C.1 C.2.1 dL_asks_244 rfl (lv_at hl 7 rfl) ?_
              refine lv_iconst (v := 0) C.1 C.2.1 dL_asks_245 rfl ?_
              refine lald (K := 0) (N := 3) (E := 0) (f := (lf 0)) (v := (nI ne)) C hE hH hX (by decide) rfl rfl rfl (by omega) (hc0) dL_asks_246 ?_
              refine lv_icmp_ge (tgt := 262) C.1 C.2.1 dL_asks_247 (by decide) (fun c247 => ?_) (fun c247 => ?_)
              · have n247 : ne ≤ k223 := (nI_leI (a := ne) (b := k223) (by omega) (by omega)).mp c247
                refine lv_iconst (v := 0) C.1 C.2.1 dL_asks_262 rfl ?_
                exact J263 0 (Or.inr ⟨rfl, by omega⟩) ls (hl)
              · have n247 : ¬ ne ≤ k223 := fun z => c247 ((nI_leI (a := ne) (b := k223) (by omega) (by omega)).mpr z)
                refine lv_iload C.1 C.2.1 dL_asks_250 (lv_at hl 0 rfl) ?_
                refine lv_aload_n C.1 C.2.1 dL_asks_252 rfl (lv_at hl 7 rfl) ?_
                refine lv_iconst (v := 0) C.1 C.2.1 dL_asks_253 rfl ?_
                refine lald (K := 0) (N := 3) (E := 0) (f := (lf 0)) (v := (nI ne)) C hE hH hX (by decide) rfl rfl rfl (by omega) (hc0) dL_asks_254 ?_
                refine lv_icmp_ge (tgt := 262) C.1 C.2.1 dL_asks_255 (by decide) (fun c255 => ?_) (fun c255 => ?_)
                · have n255 : ne ≤ k237 := (nI_leI (a := ne) (b := k237) (by omega) (by omega)).mp c255
                  refine lv_iconst (v := 0) C.1 C.2.1 dL_asks_262 rfl ?_
                  exact J263 0 (Or.inr ⟨rfl, by omega⟩) ls (hl)
                · have n255 : ¬ ne ≤ k237 := fun z => c255 ((nI_leI (a := ne) (b := k237) (by omega) (by omega)).mpr z)
                  refine lv_iconst (v := 1) C.1 C.2.1 dL_asks_258 rfl ?_
                  refine lv_goto (tgt := 263) C.1 C.2.1 dL_asks_259 (by decide) ?_
                  exact J263 1 (Or.inl ⟨rfl, by omega⟩) ls (hl)
            · have n153 : ¬ nb < j := fun z => c153 ((nI_ltI (a := nb) (b := j) (by omega) (by omega)).mpr z)
              by_cases hjb : j < nb
              · refine lv_aload_n C.1 C.2.1 dL_asks_156 rfl (lv_at hl 1 rfl) ?_
                refine lv_iconst (v := 1) C.1 C.2.1 dL_asks_157 rfl ?_
                refine lv_iload C.1 C.2.1 dL_asks_158 (lv_at hl 11 rfl) ?_
                refine wr_go1 (runT C hE hH hS (l_strength hlx hI (nI j)) mv_L_one wm_508 hl.1 dL_asks_160 rfl rfl ⟨rfl, rfl⟩ ⟨Nat.le_of_ble_eq_true rfl, Nat.le_of_ble_eq_true rfl⟩ (Nat.le_of_ble_eq_true rfl) ⟨(by show _ + 6 ≤ 330; omega), (by show _ + 230 ≤ 12650; omega)⟩) hS (fun u79 M80 H locs hM80 hH hS => ?_)
                rw [nI_clamp (show j < 2 ^ 31 by omega)] at hM80
                obtain ⟨hu, hM⟩ := lqA_t hM80 ((inx_n (a := j) (n := nb) (by omega) (by omega)).mpr hjb)
                have hu : u79 = (lf 3) (3 * j + 2) := hu.trans ((rB j hjb).2.2.symm)
                rw [hu]
                rw [hM] at hH
                refine lv_iload C.1 C.2.1 dL_asks_163 (lv_at hl 11 rfl) ?_
                refine lv_aload_n C.1 C.2.1 dL_asks_165 rfl (lv_at hl 3 rfl) ?_
                refine lv_iconst (v := 1) C.1 C.2.1 dL_asks_166 rfl ?_
                refine lald (K := 0) (N := 3) (E := 1) (f := (lf 0)) (v := (nI nb)) C hE hH hX (by decide) rfl rfl rfl (by omega) (hc1) dL_asks_167 ?_
                refine lv_icmp_ge (tgt := 183) C.1 C.2.1 dL_asks_168 (by decide) (fun c168 => ?_) (fun c168 => ?_)
                · exact absurd ((nI_leI (a := nb) (b := j) (by omega) (by omega)).mp c168) (by omega)
                · have n168 : ¬ nb ≤ j := fun z => c168 ((nI_leI (a := nb) (b := j) (by omega) (by omega)).mpr z)
                  refine lv_aload C.1 C.2.1 dL_asks_171 (lv_at hl 5 rfl) ?_
                  refine lv_iconst (v := 3) C.1 C.2.1 dL_asks_173 rfl ?_
                  refine lv_iload C.1 C.2.1 dL_asks_174 (lv_at hl 11 rfl) ?_
                  refine lv_imul C.1 C.2.1 dL_asks_176 ?_
                  rw [show ((3 : Int32) * (nI j)) = nI (3 * j) from nI_M 3 j]
                  refine lv_iconst (v := 2) C.1 C.2.1 dL_asks_177 rfl ?_
                  refine lv_iadd C.1 C.2.1 dL_asks_178 ?_
                  rw [show ((nI (3 * j)) + 2 : Int32) = nI (3 * j + 2) from nI_add (3 * j) 2]
                  refine lald (K := 3) (N := 15) (E := 3 * j + 2) (f := (lf 3)) (v := ((lf 3) (3 * j + 2))) C hE hH hX (by decide) rfl rfl rfl (by omega) (rfl) dL_asks_179 ?_
                  refine lv_goto (tgt := 185) C.1 C.2.1 dL_asks_180 (by decide) ?_
                  refine lv_icmp_eq (tgt := 190) C.1 C.2.1 dL_asks_185 (by decide) (fun c185 => ?_) (fun c185 => ?_)
                  · refine lv_iinc (v := nI (j + 1)) (lv' := [(11, .int (nI (j + 1))), (10, .int (nI (2 + k3))), (0, .ref x), (1, .int y), (2, .ref (la 0)), (3, .ref (la 1)), (4, .ref (la 3)), (5, .ref (la 4)), (6, .ref (la 5)), (7, .ref (la 6)), (8, .ref (la 7)), (9, .ref (la 8))]) C.1 C.2.1 dL_asks_190 hl (k := 11) rfl (nI_1 j) (by decide) rfl (fun ls hl => ?_)
                    refine lv_goto (tgt := 148) C.1 C.2.1 dL_asks_193 (by decide) ?_
                    refine W.widen (k := 12 * i + 6 * (j + 1)) (n := 460 * i + 230 * (j + 1)) (by omega) (by omega) ?_
                    exact ih148 (j + 1) (by omega) (by omega) H locs hH hS ls (lv_sub hl [1, 2, 3, 4, 5, 6, 7, 8, 9, 10, 11, 0] rfl)
                  · exact absurd rfl c185
              · refine lv_aload_n C.1 C.2.1 dL_asks_156 rfl (lv_at hl 1 rfl) ?_
                refine lv_iconst (v := 1) C.1 C.2.1 dL_asks_157 rfl ?_
                refine lv_iload C.1 C.2.1 dL_asks_158 (lv_at hl 11 rfl) ?_
                refine wr_go1 (runT C hE hH hS (l_strength hlx hI (nI j)) mv_L_one wm_508 hl.1 dL_asks_160 rfl rfl ⟨rfl, rfl⟩ ⟨Nat.le_of_ble_eq_true rfl, Nat.le_of_ble_eq_true rfl⟩ (Nat.le_of_ble_eq_true rfl) ⟨(by show _ + 6 ≤ 330; omega), (by show _ + 230 ≤ 12650; omega)⟩) hS (fun u81 M82 H locs hM82 hH hS => ?_)
                obtain ⟨hu, hM⟩ := lqA_f hM82 (fun z => hjb ((inx_n (a := j) (n := nb) (by omega) (by omega)).mp z))
                rw [hu]
                rw [hM] at hH
                refine lv_iload C.1 C.2.1 dL_asks_163 (lv_at hl 11 rfl) ?_
                refine lv_aload_n C.1 C.2.1 dL_asks_165 rfl (lv_at hl 3 rfl) ?_
                refine lv_iconst (v := 1) C.1 C.2.1 dL_asks_166 rfl ?_
                refine lald (K := 0) (N := 3) (E := 1) (f := (lf 0)) (v := (nI nb)) C hE hH hX (by decide) rfl rfl rfl (by omega) (hc1) dL_asks_167 ?_
                refine lv_icmp_ge (tgt := 183) C.1 C.2.1 dL_asks_168 (by decide) (fun c168 => ?_) (fun c168 => ?_)
                · have n168 : nb ≤ j := (nI_leI (a := nb) (b := j) (by omega) (by omega)).mp c168
                  refine lv_bipush (v := -101) C.1 C.2.1 dL_asks_183 rfl ?_
                  refine lv_icmp_eq (tgt := 190) C.1 C.2.1 dL_asks_185 (by decide) (fun c185 => ?_) (fun c185 => ?_)
                  · refine lv_iinc (v := nI (j + 1)) (lv' := [(11, .int (nI (j + 1))), (10, .int (nI (2 + k3))), (0, .ref x), (1, .int y), (2, .ref (la 0)), (3, .ref (la 1)), (4, .ref (la 3)), (5, .ref (la 4)), (6, .ref (la 5)), (7, .ref (la 6)), (8, .ref (la 7)), (9, .ref (la 8))]) C.1 C.2.1 dL_asks_190 hl (k := 11) rfl (nI_1 j) (by decide) rfl (fun ls hl => ?_)
                    refine lv_goto (tgt := 148) C.1 C.2.1 dL_asks_193 (by decide) ?_
                    refine W.widen (k := 12 * i + 6 * (j + 1)) (n := 460 * i + 230 * (j + 1)) (by omega) (by omega) ?_
                    exact ih148 (j + 1) (by omega) (by omega) H locs hH hS ls (lv_sub hl [1, 2, 3, 4, 5, 6, 7, 8, 9, 10, 11, 0] rfl)
                  · exact absurd c185 (by decide)
                · exact absurd ((nI_leI (a := nb) (b := j) (by omega) (by omega)).mpr (by omega)) c168
        refine W.widen (k := 12 * i + 6 * 0) (n := 460 * i + 230 * 0) (by omega) (by omega) ?_
        exact loop148 (nb + 2) 0 (by omega) (by omega) _ _ hH hS _ (lv_sub hl [1, 2, 3, 4, 5, 6, 7, 8, 9, 10, 11, 0] rfl)
      · have n17 : ¬ no < i := fun z => c17 ((nI_ltI (a := no) (b := i) (by omega) (by omega)).mpr z)
        refine lv_iload C.1 C.2.1 dL_asks_20 (lv_at hl 11 rfl) ?_
        refine lv_bipush (v := 10) C.1 C.2.1 dL_asks_22 rfl ?_
        refine lv_icmp_ge (tgt := 32) C.1 C.2.1 dL_asks_24 (by decide) (fun c24 => ?_) (fun c24 => ?_)
        · have n24 : 10 ≤ i := (nI_leI (a := 10) (b := i) (by omega) (by omega)).mp c24
          refine lv_aload C.1 C.2.1 dL_asks_32 (lv_at hl 7 rfl) ?_
          refine lv_astore (lv' := [(12, .ref (la 5)), (10, .int (nI (2 + k3))), (0, .ref x), (1, .int y), (2, .ref (la 0)), (3, .ref (la 1)), (4, .ref (la 3)), (5, .ref (la 4)), (6, .ref (la 5)), (7, .ref (la 6)), (8, .ref (la 7)), (9, .ref (la 8)), (11, .int (nI i))]) C.1 C.2.1 dL_asks_34 hl (by decide) rfl (fun ls hl => ?_)
          refine lv_iload C.1 C.2.1 dL_asks_36 (lv_at hl 12 rfl) ?_
          refine lv_aload_n C.1 C.2.1 dL_asks_38 rfl (lv_at hl 4 rfl) ?_
          refine lv_iconst (v := 2) C.1 C.2.1 dL_asks_39 rfl ?_
          refine lald (K := 0) (N := 3) (E := 2) (f := (lf 0)) (v := (nI no)) C hE hH hX (by decide) rfl rfl rfl (by omega) (hc2) dL_asks_40 ?_
          refine lv_icmp_ge (tgt := 59) C.1 C.2.1 dL_asks_41 (by decide) (fun c41 => ?_) (fun c41 => ?_)
          · have n41 : no ≤ i := (nI_leI (a := no) (b := i) (by omega) (by omega)).mp c41
            refine lv_bipush (v := -101) C.1 C.2.1 dL_asks_59 rfl ?_
            refine lv_istore (lv' := [(13, .int (-101)), (12, .ref (la 5)), (10, .int (nI (2 + k3))), (0, .ref x), (1, .int y), (2, .ref (la 0)), (3, .ref (la 1)), (4, .ref (la 3)), (5, .ref (la 4)), (6, .ref (la 5)), (7, .ref (la 6)), (8, .ref (la 7)), (9, .ref (la 8)), (11, .int (nI i))]) C.1 C.2.1 dL_asks_61 hl (by decide) rfl (fun ls hl => ?_)
            refine lv_iload_n C.1 C.2.1 dL_asks_63 rfl (lv_at hl 4 rfl) ?_
            refine lv_iconst (v := 3) C.1 C.2.1 dL_asks_64 rfl ?_
            refine lv_ishr C.1 C.2.1 dL_asks_65 ?_
            refine lv_iconst (v := 3) C.1 C.2.1 dL_asks_66 rfl ?_
            refine some_go (N := 3) (runS C hE hH hS (c_some (n := 3) (N := 3) rfl (by omega) (by omega) (y >>> (3 &&& 31))) mv_L_some wm_121 hl.1 dL_asks_67 rfl rfl ⟨rfl, rfl⟩ ⟨Nat.le_of_ble_eq_true rfl, Nat.le_of_ble_eq_true rfl⟩ (Nat.le_of_ble_eq_true rfl) ⟨(by show _ + 0 ≤ 330; omega), (by show _ + 0 ≤ 12650; omega)⟩) rfl (by omega) (by omega) (fun k67 hk67 => ?_)
            refine lv_istore (lv' := [(14, .int (nI k67)), (13, .int (-101)), (12, .ref (la 5)), (10, .int (nI (2 + k3))), (0, .ref x), (1, .int y), (2, .ref (la 0)), (3, .ref (la 1)), (4, .ref (la 3)), (5, .ref (la 4)), (6, .ref (la 5)), (7, .ref (la 6)), (8, .ref (la 7)), (9, .ref (la 8)), (11, .int (nI i))]) C.1 C.2.1 dL_asks_70 hl (by decide) rfl (fun ls hl => ?_)
            refine lv_iload C.1 C.2.1 dL_asks_72 (lv_at hl 1 rfl) ?_
            refine lv_if_lt (tgt := 83) C.1 C.2.1 dL_asks_74 (by decide) (fun c74 => ?_) (fun c74 => ?_)
            · refine lv_bipush (v := -101) C.1 C.2.1 dL_asks_83 rfl ?_
              refine lv_goto (tgt := 108) C.1 C.2.1 dL_asks_85 (by decide) ?_
              refine lv_istore (lv' := [(15, .int (-101)), (14, .int (nI k67)), (13, .int (-101)), (12, .ref (la 5)), (10, .int (nI (2 + k3))), (0, .ref x), (1, .int y), (2, .ref (la 0)), (3, .ref (la 1)), (4, .ref (la 3)), (5, .ref (la 4)), (6, .ref (la 5)), (7, .ref (la 6)), (8, .ref (la 7)), (9, .ref (la 8)), (11, .int (nI i))]) C.1 C.2.1 dL_asks_108 hl (by decide) rfl (fun ls hl => ?_)
              refine lv_aload_n C.1 C.2.1 dL_asks_110 rfl (lv_at hl 5 rfl) ?_
              refine lv_iconst (v := 2) C.1 C.2.1 dL_asks_111 rfl ?_
              refine lv_iload C.1 C.2.1 dL_asks_112 (lv_at hl 15 rfl) ?_
              refine wr_go1 (runT C hE hH hS (l_stateOf hlx hI (nI i)) mv_L_one wm_508 hl.1 dL_asks_114 rfl rfl ⟨rfl, rfl⟩ ⟨Nat.le_of_ble_eq_true rfl, Nat.le_of_ble_eq_true rfl⟩ (Nat.le_of_ble_eq_true rfl) ⟨(by show _ + 6 ≤ 330; omega), (by show _ + 230 ≤ 12650; omega)⟩) hS (fun u83 M84 H locs hM84 hH hS => ?_)
              obtain ⟨hu, hM⟩ := lqA_f hM84 (fun z => by have z1 := (inx_n (a := i) (n := no) (by omega) (by omega)).mp z; omega)
              rw [hu]
              rw [hM] at hH
              refine lv_iload C.1 C.2.1 dL_asks_117 (lv_at hl 2 rfl) ?_
              refine lv_icmp_ne (tgt := 137) C.1 C.2.1 dL_asks_119 (by decide) (fun c119 => ?_) (fun c119 => ?_)
              · exact absurd c119 (by decide)
              · rcases (show k3 = 0 ∨ k3 = 1 by omega) with rfl | rfl
                · refine lv_aload_n C.1 C.2.1 dL_asks_122 rfl (lv_at hl 5 rfl) ?_
                  refine lv_iload C.1 C.2.1 dL_asks_123 (lv_at hl 4 rfl) ?_
                  refine lv_iload C.1 C.2.1 dL_asks_125 (lv_at hl 15 rfl) ?_
                  refine lv_iload C.1 C.2.1 dL_asks_127 (lv_at hl 1 rfl) ?_
                  refine wr_go1 (runT C hE hH hS (l_colour hlx hI (nI i) (nI k67)) mv_L_pieces wm_605 hl.1 dL_asks_129 rfl rfl ⟨rfl, rfl⟩ ⟨Nat.le_of_ble_eq_true rfl, Nat.le_of_ble_eq_true rfl⟩ (Nat.le_of_ble_eq_true rfl) ⟨(by show _ + 6 ≤ 330; omega), (by show _ + 230 ≤ 12650; omega)⟩) hS (fun u85 M86 H locs hM86 hH hS => ?_)
                  obtain ⟨hu, hM⟩ := lqB_f hM86 (fun z => by have z1 := (inx_n (a := i) (n := no) (by omega) (by omega)).mp z.1; omega)
                  rw [hu]
                  rw [hM] at hH
                  refine lv_iload C.1 C.2.1 dL_asks_132 (lv_at hl 0 rfl) ?_
                  refine lv_icmp_eq (tgt := 139) C.1 C.2.1 dL_asks_134 (by decide) (fun c134 => ?_) (fun c134 => ?_)
                  · refine lv_iinc (v := nI (i + 1)) (lv' := [(11, .int (nI (i + 1))), (15, .int (-101)), (14, .int (nI k67)), (13, .int (-101)), (12, .ref (la 5)), (10, .int 2), (0, .ref x), (1, .int y), (2, .ref (la 0)), (3, .ref (la 1)), (4, .ref (la 3)), (5, .ref (la 4)), (6, .ref (la 5)), (7, .ref (la 6)), (8, .ref (la 7)), (9, .ref (la 8))]) C.1 C.2.1 dL_asks_139 hl (k := 15) rfl (nI_1 i) (by decide) rfl (fun ls hl => ?_)
                    refine lv_goto (tgt := 12) C.1 C.2.1 dL_asks_142 (by decide) ?_
                    refine W.widen (k := 12 * (i + 1)) (n := 460 * (i + 1)) (by omega) (by omega) ?_
                    exact ih12 (i + 1) (by omega) (by omega) H locs hH hS ls (lv_sub hl [5, 6, 7, 8, 9, 10, 11, 12, 13, 14, 15, 0] rfl)
                  · exact absurd c134 (by decide)
                · refine lv_aload_n C.1 C.2.1 dL_asks_122 rfl (lv_at hl 5 rfl) ?_
                  refine lv_iload C.1 C.2.1 dL_asks_123 (lv_at hl 4 rfl) ?_
                  refine lv_iload C.1 C.2.1 dL_asks_125 (lv_at hl 15 rfl) ?_
                  refine lv_iload C.1 C.2.1 dL_asks_127 (lv_at hl 1 rfl) ?_
                  refine wr_go1 (runT C hE hH hS (l_colourByBath hlx hI (nI i) (nI k67)) mv_L_pieces wm_605 hl.1 dL_asks_129 rfl rfl ⟨rfl, rfl⟩ ⟨Nat.le_of_ble_eq_true rfl, Nat.le_of_ble_eq_true rfl⟩ (Nat.le_of_ble_eq_true rfl) ⟨(by show _ + 6 ≤ 330; omega), (by show _ + 230 ≤ 12650; omega)⟩) hS (fun u87 M88 H locs hM88 hH hS => ?_)
                  obtain ⟨hu, hM⟩ := lqB_f hM88 (fun z => by have z1 := (inx_n (a := i) (n := no) (by omega) (by omega)).mp z.1; omega)
                  rw [hu]
                  rw [hM] at hH
                  refine lv_iload C.1 C.2.1 dL_asks_132 (lv_at hl 0 rfl) ?_
                  refine lv_icmp_eq (tgt := 139) C.1 C.2.1 dL_asks_134 (by decide) (fun c134 => ?_) (fun c134 => ?_)
                  · refine lv_iinc (v := nI (i + 1)) (lv' := [(11, .int (nI (i + 1))), (15, .int (-101)), (14, .int (nI k67)), (13, .int (-101)), (12, .ref (la 5)), (10, .int 3), (0, .ref x), (1, .int y), (2, .ref (la 0)), (3, .ref (la 1)), (4, .ref (la 3)), (5, .ref (la 4)), (6, .ref (la 5)), (7, .ref (la 6)), (8, .ref (la 7)), (9, .ref (la 8))]) C.1 C.2.1 dL_asks_139 hl (k := 15) rfl (nI_1 i) (by decide) rfl (fun ls hl => ?_)
                    refine lv_goto (tgt := 12) C.1 C.2.1 dL_asks_142 (by decide) ?_
                    refine W.widen (k := 12 * (i + 1)) (n := 460 * (i + 1)) (by omega) (by omega) ?_
                    exact ih12 (i + 1) (by omega) (by omega) H locs hH hS ls (lv_sub hl [5, 6, 7, 8, 9, 10, 11, 12, 13, 14, 15, 0] rfl)
                  · exact absurd c134 (by decide)
            · exact absurd c74 (by decide)
          · have n41 : ¬ no ≤ i := fun z => c41 ((nI_leI (a := no) (b := i) (by omega) (by omega)).mpr z)
            have hi9 : i < no := by omega
            obtain ⟨⟨-, -, -, o3⟩, o4⟩ := rO i hi9
            obtain ⟨-, -, -, -, -, -, -, h13c, -⟩ := iO.2.2.2 i hi9
            obtain ⟨t13, ht13, h13⟩ : ∃ t, t ≤ 2 ∧ ar 13 i = nI t := by
              rcases h13c with q | q | q
              · exact ⟨0, by omega, q⟩
              · exact ⟨1, by omega, q⟩
              · exact ⟨2, by omega, q⟩
            have q3 : lf 5 (5 * (i % 10) + 3) = nI t13 := (lo_5 (j := 3) (by omega) (by omega)).trans (o3.trans h13)
            refine lv_aload C.1 C.2.1 dL_asks_44 (lv_at hl 0 rfl) ?_
            refine lv_iconst (v := 5) C.1 C.2.1 dL_asks_46 rfl ?_
            refine lv_iload C.1 C.2.1 dL_asks_47 (lv_at hl 12 rfl) ?_
            refine lv_bipush (v := 10) C.1 C.2.1 dL_asks_49 rfl ?_
            refine lv_irem C.1 C.2.1 dL_asks_51 (by decide) ?_
            rw [show ((nI i) - (nI i) / 10 * 10 : Int32) = nI (i % 10) from nI_R (a := i) (b := 10) (by omega) (by omega) (by omega)]
            refine lv_imul C.1 C.2.1 dL_asks_52 ?_
            rw [show ((5 : Int32) * (nI (i % 10))) = nI (5 * (i % 10)) from nI_M 5 (i % 10)]
            refine lv_iconst (v := 3) C.1 C.2.1 dL_asks_53 rfl ?_
            refine lv_iadd C.1 C.2.1 dL_asks_54 ?_
            rw [show ((nI (5 * (i % 10))) + 3 : Int32) = nI (5 * (i % 10) + 3) from nI_add (5 * (i % 10)) 3]
            refine lald (K := 5) (N := 50) (E := 5 * (i % 10) + 3) (f := (lf 5)) (v := (nI t13)) C hE hH hX (by decide) rfl rfl rfl (by omega) (q3) dL_asks_55 ?_
            refine lv_goto (tgt := 61) C.1 C.2.1 dL_asks_56 (by decide) ?_
            refine lv_istore (lv' := [(13, .int (nI t13)), (12, .ref (la 5)), (10, .int (nI (2 + k3))), (0, .ref x), (1, .int y), (2, .ref (la 0)), (3, .ref (la 1)), (4, .ref (la 3)), (5, .ref (la 4)), (6, .ref (la 5)), (7, .ref (la 6)), (8, .ref (la 7)), (9, .ref (la 8)), (11, .int (nI i))]) C.1 C.2.1 dL_asks_61 hl (by decide) rfl (fun ls hl => ?_)
            refine lv_iload_n C.1 C.2.1 dL_asks_63 rfl (lv_at hl 4 rfl) ?_
            refine lv_iconst (v := 3) C.1 C.2.1 dL_asks_64 rfl ?_
            refine lv_ishr C.1 C.2.1 dL_asks_65 ?_
            refine lv_iconst (v := 3) C.1 C.2.1 dL_asks_66 rfl ?_
            refine some_go (N := 3) (runS C hE hH hS (c_some (n := 3) (N := 3) rfl (by omega) (by omega) (y >>> (3 &&& 31))) mv_L_some wm_121 hl.1 dL_asks_67 rfl rfl ⟨rfl, rfl⟩ ⟨Nat.le_of_ble_eq_true rfl, Nat.le_of_ble_eq_true rfl⟩ (Nat.le_of_ble_eq_true rfl) ⟨(by show _ + 0 ≤ 330; omega), (by show _ + 0 ≤ 12650; omega)⟩) rfl (by omega) (by omega) (fun k67 hk67 => ?_)
            refine lv_istore (lv' := [(14, .int (nI k67)), (13, .int (nI t13)), (12, .ref (la 5)), (10, .int (nI (2 + k3))), (0, .ref x), (1, .int y), (2, .ref (la 0)), (3, .ref (la 1)), (4, .ref (la 3)), (5, .ref (la 4)), (6, .ref (la 5)), (7, .ref (la 6)), (8, .ref (la 7)), (9, .ref (la 8)), (11, .int (nI i))]) C.1 C.2.1 dL_asks_70 hl (by decide) rfl (fun ls hl => ?_)
            refine lv_iload C.1 C.2.1 dL_asks_72 (lv_at hl 1 rfl) ?_
            refine lv_if_lt (tgt := 83) C.1 C.2.1 dL_asks_74 (by decide) (fun c74 => ?_) (fun c74 => ?_)
            · exact absurd (n_ge (by omega) (by decide)) (n_nlt c74)
            · refine lv_iload C.1 C.2.1 dL_asks_77 (lv_at hl 0 rfl) ?_
              refine lv_iconst (v := 1) C.1 C.2.1 dL_asks_79 rfl ?_
              refine lv_icmp_le (tgt := 88) C.1 C.2.1 dL_asks_80 (by decide) (fun c80 => ?_) (fun c80 => ?_)
              · have n80 : k67 ≤ 1 := (nI_leI (a := k67) (b := 1) (by omega) (by omega)).mp c80
                refine lv_iload C.1 C.2.1 dL_asks_88 (lv_at hl 1 rfl) ?_
                refine lv_if_ne (tgt := 98) C.1 C.2.1 dL_asks_90 (by decide) (fun c90 => ?_) (fun c90 => ?_)
                · have n90 : ¬ t13 = 0 := fun z => c90 (congrArg nI z)
                  refine lv_aload C.1 C.2.1 dL_asks_98 (lv_at hl 11 rfl) ?_
                  refine lv_iconst (v := 3) C.1 C.2.1 dL_asks_100 rfl ?_
                  refine lv_iload C.1 C.2.1 dL_asks_101 (lv_at hl 14 rfl) ?_
                  refine lv_imul C.1 C.2.1 dL_asks_103 ?_
                  rw [show ((3 : Int32) * (nI i)) = nI (3 * i) from nI_M 3 i]
                  refine lv_iload C.1 C.2.1 dL_asks_104 (lv_at hl 0 rfl) ?_
                  refine lv_iadd C.1 C.2.1 dL_asks_106 ?_
                  rw [show ((nI (3 * i)) + (nI k67) : Int32) = nI (3 * i + k67) from nI_add (3 * i) k67]
                  refine lald (K := 6) (N := 60) (E := 3 * i + k67) (f := (lf 6)) (v := ((lf 6) (3 * i + k67))) C hE hH hX (by decide) rfl rfl rfl (by omega) (rfl) dL_asks_107 ?_
                  refine lv_istore (lv' := [(15, .int ((lf 6) (3 * i + k67))), (14, .int (nI k67)), (13, .int (nI t13)), (12, .ref (la 5)), (10, .int (nI (2 + k3))), (0, .ref x), (1, .int y), (2, .ref (la 0)), (3, .ref (la 1)), (4, .ref (la 3)), (5, .ref (la 4)), (6, .ref (la 5)), (7, .ref (la 6)), (8, .ref (la 7)), (9, .ref (la 8)), (11, .int (nI i))]) C.1 C.2.1 dL_asks_108 hl (by decide) rfl (fun ls hl => ?_)
                  refine lv_aload_n C.1 C.2.1 dL_asks_110 rfl (lv_at hl 5 rfl) ?_
                  refine lv_iconst (v := 2) C.1 C.2.1 dL_asks_111 rfl ?_
                  refine lv_iload C.1 C.2.1 dL_asks_112 (lv_at hl 15 rfl) ?_
                  refine wr_go1 (runT C hE hH hS (l_stateOf hlx hI (nI i)) mv_L_one wm_508 hl.1 dL_asks_114 rfl rfl ⟨rfl, rfl⟩ ⟨Nat.le_of_ble_eq_true rfl, Nat.le_of_ble_eq_true rfl⟩ (Nat.le_of_ble_eq_true rfl) ⟨(by show _ + 6 ≤ 330; omega), (by show _ + 230 ≤ 12650; omega)⟩) hS (fun u89 M90 H locs hM90 hH hS => ?_)
                  rw [nI_clamp (show i < 2 ^ 31 by omega)] at hM90
                  obtain ⟨hu, hM⟩ := lqA_t hM90 ((inx_n (a := i) (n := no) (by omega) (by omega)).mpr hi9)
                  have hu : u89 = nI t13 := hu.trans (h13)
                  rw [hu]
                  rw [hM] at hH
                  refine lv_iload C.1 C.2.1 dL_asks_117 (lv_at hl 2 rfl) ?_
                  refine lv_icmp_ne (tgt := 137) C.1 C.2.1 dL_asks_119 (by decide) (fun c119 => ?_) (fun c119 => ?_)
                  · exact absurd rfl c119
                  · rcases (show k3 = 0 ∨ k3 = 1 by omega) with rfl | rfl
                    · refine lv_aload_n C.1 C.2.1 dL_asks_122 rfl (lv_at hl 5 rfl) ?_
                      refine lv_iload C.1 C.2.1 dL_asks_123 (lv_at hl 4 rfl) ?_
                      refine lv_iload C.1 C.2.1 dL_asks_125 (lv_at hl 15 rfl) ?_
                      refine lv_iload C.1 C.2.1 dL_asks_127 (lv_at hl 1 rfl) ?_
                      refine wr_go1 (runT C hE hH hS (l_colour hlx hI (nI i) (nI k67)) mv_L_pieces wm_605 hl.1 dL_asks_129 rfl rfl ⟨rfl, rfl⟩ ⟨Nat.le_of_ble_eq_true rfl, Nat.le_of_ble_eq_true rfl⟩ (Nat.le_of_ble_eq_true rfl) ⟨(by show _ + 6 ≤ 330; omega), (by show _ + 230 ≤ 12650; omega)⟩) hS (fun u91 M92 H locs hM92 hH hS => ?_)
                      rw [nI_clamp (show i < 2 ^ 31 by omega)] at hM92
                      obtain ⟨hu, hM⟩ := lqB_t hM92 ⟨(inx_n (a := i) (n := no) (by omega) (by omega)).mpr hi9, (inx_n (a := k67) (n := 2) (by omega) (by omega)).mpr (by omega)⟩ (fun z => n90 (nI_inj (a := t13) (b := 0) (by omega) (by omega) (h13.symm.trans z)))
                      have hu : u91 = (lf 6) (3 * i + k67) := hu.trans (zcol_at (rO i hi9) (fun z => n90 (nI_inj (a := t13) (b := 0) (by omega) (by omega) (h13.symm.trans z))) (by omega))
                      rw [hu]
                      rw [hM] at hH
                      refine lv_iload C.1 C.2.1 dL_asks_132 (lv_at hl 0 rfl) ?_
                      refine lv_icmp_eq (tgt := 139) C.1 C.2.1 dL_asks_134 (by decide) (fun c134 => ?_) (fun c134 => ?_)
                      · refine lv_iinc (v := nI (i + 1)) (lv' := [(11, .int (nI (i + 1))), (15, .int ((lf 6) (3 * i + k67))), (14, .int (nI k67)), (13, .int (nI t13)), (12, .ref (la 5)), (10, .int 2), (0, .ref x), (1, .int y), (2, .ref (la 0)), (3, .ref (la 1)), (4, .ref (la 3)), (5, .ref (la 4)), (6, .ref (la 5)), (7, .ref (la 6)), (8, .ref (la 7)), (9, .ref (la 8))]) C.1 C.2.1 dL_asks_139 hl (k := 15) rfl (nI_1 i) (by decide) rfl (fun ls hl => ?_)
                        refine lv_goto (tgt := 12) C.1 C.2.1 dL_asks_142 (by decide) ?_
                        refine W.widen (k := 12 * (i + 1)) (n := 460 * (i + 1)) (by omega) (by omega) ?_
                        exact ih12 (i + 1) (by omega) (by omega) H locs hH hS ls (lv_sub hl [5, 6, 7, 8, 9, 10, 11, 12, 13, 14, 15, 0] rfl)
                      · exact absurd rfl c134
                    · refine lv_aload_n C.1 C.2.1 dL_asks_122 rfl (lv_at hl 5 rfl) ?_
                      refine lv_iload C.1 C.2.1 dL_asks_123 (lv_at hl 4 rfl) ?_
                      refine lv_iload C.1 C.2.1 dL_asks_125 (lv_at hl 15 rfl) ?_
                      refine lv_iload C.1 C.2.1 dL_asks_127 (lv_at hl 1 rfl) ?_
                      refine wr_go1 (runT C hE hH hS (l_colourByBath hlx hI (nI i) (nI k67)) mv_L_pieces wm_605 hl.1 dL_asks_129 rfl rfl ⟨rfl, rfl⟩ ⟨Nat.le_of_ble_eq_true rfl, Nat.le_of_ble_eq_true rfl⟩ (Nat.le_of_ble_eq_true rfl) ⟨(by show _ + 6 ≤ 330; omega), (by show _ + 230 ≤ 12650; omega)⟩) hS (fun u93 M94 H locs hM94 hH hS => ?_)
                      rw [nI_clamp (show i < 2 ^ 31 by omega)] at hM94
                      obtain ⟨hu, hM⟩ := lqB_t hM94 ⟨(inx_n (a := i) (n := no) (by omega) (by omega)).mpr hi9, (inx_n (a := k67) (n := 2) (by omega) (by omega)).mpr (by omega)⟩ (fun z => n90 (nI_inj (a := t13) (b := 0) (by omega) (by omega) (h13.symm.trans z)))
                      have hu : u93 = (lf 6) (3 * i + k67) := hu.trans (zcol_at (rO i hi9) (fun z => n90 (nI_inj (a := t13) (b := 0) (by omega) (by omega) (h13.symm.trans z))) (by omega))
                      rw [hu]
                      rw [hM] at hH
                      refine lv_iload C.1 C.2.1 dL_asks_132 (lv_at hl 0 rfl) ?_
                      refine lv_icmp_eq (tgt := 139) C.1 C.2.1 dL_asks_134 (by decide) (fun c134 => ?_) (fun c134 => ?_)
                      · refine lv_iinc (v := nI (i + 1)) (lv' := [(11, .int (nI (i + 1))), (15, .int ((lf 6) (3 * i + k67))), (14, .int (nI k67)), (13, .int (nI t13)), (12, .ref (la 5)), (10, .int 3), (0, .ref x), (1, .int y), (2, .ref (la 0)), (3, .ref (la 1)), (4, .ref (la 3)), (5, .ref (la 4)), (6, .ref (la 5)), (7, .ref (la 6)), (8, .ref (la 7)), (9, .ref (la 8))]) C.1 C.2.1 dL_asks_139 hl (k := 15) rfl (nI_1 i) (by decide) rfl (fun ls hl => ?_)
                        refine lv_goto (tgt := 12) C.1 C.2.1 dL_asks_142 (by decide) ?_
                        refine W.widen (k := 12 * (i + 1)) (n := 460 * (i + 1)) (by omega) (by omega) ?_
                        exact ih12 (i + 1) (by omega) (by omega) H locs hH hS ls (lv_sub hl [5, 6, 7, 8, 9, 10, 11, 12, 13, 14, 15, 0] rfl)
                      · exact absurd rfl c134
                · have n90 : t13 = 0 := nI_inj (by omega) (by omega) c90
                  refine lv_bipush (v := -102) C.1 C.2.1 dL_asks_93 rfl ?_
                  refine lv_goto (tgt := 108) C.1 C.2.1 dL_asks_95 (by decide) ?_
                  refine lv_istore (lv' := [(15, .int (-102)), (14, .int (nI k67)), (13, .int (nI t13)), (12, .ref (la 5)), (10, .int (nI (2 + k3))), (0, .ref x), (1, .int y), (2, .ref (la 0)), (3, .ref (la 1)), (4, .ref (la 3)), (5, .ref (la 4)), (6, .ref (la 5)), (7, .ref (la 6)), (8, .ref (la 7)), (9, .ref (la 8)), (11, .int (nI i))]) C.1 C.2.1 dL_asks_108 hl (by decide) rfl (fun ls hl => ?_)
                  refine lv_aload_n C.1 C.2.1 dL_asks_110 rfl (lv_at hl 5 rfl) ?_
                  refine lv_iconst (v := 2) C.1 C.2.1 dL_asks_111 rfl ?_
                  refine lv_iload C.1 C.2.1 dL_asks_112 (lv_at hl 15 rfl) ?_
                  refine wr_go1 (runT C hE hH hS (l_stateOf hlx hI (nI i)) mv_L_one wm_508 hl.1 dL_asks_114 rfl rfl ⟨rfl, rfl⟩ ⟨Nat.le_of_ble_eq_true rfl, Nat.le_of_ble_eq_true rfl⟩ (Nat.le_of_ble_eq_true rfl) ⟨(by show _ + 6 ≤ 330; omega), (by show _ + 230 ≤ 12650; omega)⟩) hS (fun u95 M96 H locs hM96 hH hS => ?_)
                  rw [nI_clamp (show i < 2 ^ 31 by omega)] at hM96
                  obtain ⟨hu, hM⟩ := lqA_t hM96 ((inx_n (a := i) (n := no) (by omega) (by omega)).mpr hi9)
                  have hu : u95 = nI t13 := hu.trans (h13)
                  rw [hu]
                  rw [hM] at hH
                  refine lv_iload C.1 C.2.1 dL_asks_117 (lv_at hl 2 rfl) ?_
                  refine lv_icmp_ne (tgt := 137) C.1 C.2.1 dL_asks_119 (by decide) (fun c119 => ?_) (fun c119 => ?_)
                  · exact absurd rfl c119
                  · rcases (show k3 = 0 ∨ k3 = 1 by omega) with rfl | rfl
                    · refine lv_aload_n C.1 C.2.1 dL_asks_122 rfl (lv_at hl 5 rfl) ?_
                      refine lv_iload C.1 C.2.1 dL_asks_123 (lv_at hl 4 rfl) ?_
                      refine lv_iload C.1 C.2.1 dL_asks_125 (lv_at hl 15 rfl) ?_
                      refine lv_iload C.1 C.2.1 dL_asks_127 (lv_at hl 1 rfl) ?_
                      refine wr_go1 (runT C hE hH hS (l_colour hlx hI (nI i) (nI k67)) mv_L_pieces wm_605 hl.1 dL_asks_129 rfl rfl ⟨rfl, rfl⟩ ⟨Nat.le_of_ble_eq_true rfl, Nat.le_of_ble_eq_true rfl⟩ (Nat.le_of_ble_eq_true rfl) ⟨(by show _ + 6 ≤ 330; omega), (by show _ + 230 ≤ 12650; omega)⟩) hS (fun u97 M98 H locs hM98 hH hS => ?_)
                      rw [nI_clamp (show i < 2 ^ 31 by omega)] at hM98
                      obtain ⟨hu, hM⟩ := lqB_g hM98 ⟨(inx_n (a := i) (n := no) (by omega) (by omega)).mpr hi9, (inx_n (a := k67) (n := 2) (by omega) (by omega)).mpr (by omega)⟩ (fun z => z (h13.trans (congrArg nI n90)))
                      rw [hu]
                      rw [hM] at hH
                      refine lv_iload C.1 C.2.1 dL_asks_132 (lv_at hl 0 rfl) ?_
                      refine lv_icmp_eq (tgt := 139) C.1 C.2.1 dL_asks_134 (by decide) (fun c134 => ?_) (fun c134 => ?_)
                      · refine lv_iinc (v := nI (i + 1)) (lv' := [(11, .int (nI (i + 1))), (15, .int (-102)), (14, .int (nI k67)), (13, .int (nI t13)), (12, .ref (la 5)), (10, .int 2), (0, .ref x), (1, .int y), (2, .ref (la 0)), (3, .ref (la 1)), (4, .ref (la 3)), (5, .ref (la 4)), (6, .ref (la 5)), (7, .ref (la 6)), (8, .ref (la 7)), (9, .ref (la 8))]) C.1 C.2.1 dL_asks_139 hl (k := 15) rfl (nI_1 i) (by decide) rfl (fun ls hl => ?_)
                        refine lv_goto (tgt := 12) C.1 C.2.1 dL_asks_142 (by decide) ?_
                        refine W.widen (k := 12 * (i + 1)) (n := 460 * (i + 1)) (by omega) (by omega) ?_
                        exact ih12 (i + 1) (by omega) (by omega) H locs hH hS ls (lv_sub hl [5, 6, 7, 8, 9, 10, 11, 12, 13, 14, 15, 0] rfl)
                      · exact absurd c134 (by decide)
                    · refine lv_aload_n C.1 C.2.1 dL_asks_122 rfl (lv_at hl 5 rfl) ?_
                      refine lv_iload C.1 C.2.1 dL_asks_123 (lv_at hl 4 rfl) ?_
                      refine lv_iload C.1 C.2.1 dL_asks_125 (lv_at hl 15 rfl) ?_
                      refine lv_iload C.1 C.2.1 dL_asks_127 (lv_at hl 1 rfl) ?_
                      refine wr_go1 (runT C hE hH hS (l_colourByBath hlx hI (nI i) (nI k67)) mv_L_pieces wm_605 hl.1 dL_asks_129 rfl rfl ⟨rfl, rfl⟩ ⟨Nat.le_of_ble_eq_true rfl, Nat.le_of_ble_eq_true rfl⟩ (Nat.le_of_ble_eq_true rfl) ⟨(by show _ + 6 ≤ 330; omega), (by show _ + 230 ≤ 12650; omega)⟩) hS (fun u99 M100 H locs hM100 hH hS => ?_)
                      rw [nI_clamp (show i < 2 ^ 31 by omega)] at hM100
                      obtain ⟨hu, hM⟩ := lqB_g hM100 ⟨(inx_n (a := i) (n := no) (by omega) (by omega)).mpr hi9, (inx_n (a := k67) (n := 2) (by omega) (by omega)).mpr (by omega)⟩ (fun z => z (h13.trans (congrArg nI n90)))
                      rw [hu]
                      rw [hM] at hH
                      refine lv_iload C.1 C.2.1 dL_asks_132 (lv_at hl 0 rfl) ?_
                      refine lv_icmp_eq (tgt := 139) C.1 C.2.1 dL_asks_134 (by decide) (fun c134 => ?_) (fun c134 => ?_)
                      · refine lv_iinc (v := nI (i + 1)) (lv' := [(11, .int (nI (i + 1))), (15, .int (-102)), (14, .int (nI k67)), (13, .int (nI t13)), (12, .ref (la 5)), (10, .int 3), (0, .ref x), (1, .int y), (2, .ref (la 0)), (3, .ref (la 1)), (4, .ref (la 3)), (5, .ref (la 4)), (6, .ref (la 5)), (7, .ref (la 6)), (8, .ref (la 7)), (9, .ref (la 8))]) C.1 C.2.1 dL_asks_139 hl (k := 15) rfl (nI_1 i) (by decide) rfl (fun ls hl => ?_)
                        refine lv_goto (tgt := 12) C.1 C.2.1 dL_asks_142 (by decide) ?_
                        refine W.widen (k := 12 * (i + 1)) (n := 460 * (i + 1)) (by omega) (by omega) ?_
                        exact ih12 (i + 1) (by omega) (by omega) H locs hH hS ls (lv_sub hl [5, 6, 7, 8, 9, 10, 11, 12, 13, 14, 15, 0] rfl)
                      · exact absurd c134 (by decide)
              · have n80 : ¬ k67 ≤ 1 := fun z => c80 ((nI_leI (a := k67) (b := 1) (by omega) (by omega)).mpr z)
                refine lv_bipush (v := -101) C.1 C.2.1 dL_asks_83 rfl ?_
                refine lv_goto (tgt := 108) C.1 C.2.1 dL_asks_85 (by decide) ?_
                refine lv_istore (lv' := [(15, .int (-101)), (14, .int (nI k67)), (13, .int (nI t13)), (12, .ref (la 5)), (10, .int (nI (2 + k3))), (0, .ref x), (1, .int y), (2, .ref (la 0)), (3, .ref (la 1)), (4, .ref (la 3)), (5, .ref (la 4)), (6, .ref (la 5)), (7, .ref (la 6)), (8, .ref (la 7)), (9, .ref (la 8)), (11, .int (nI i))]) C.1 C.2.1 dL_asks_108 hl (by decide) rfl (fun ls hl => ?_)
                refine lv_aload_n C.1 C.2.1 dL_asks_110 rfl (lv_at hl 5 rfl) ?_
                refine lv_iconst (v := 2) C.1 C.2.1 dL_asks_111 rfl ?_
                refine lv_iload C.1 C.2.1 dL_asks_112 (lv_at hl 15 rfl) ?_
                refine wr_go1 (runT C hE hH hS (l_stateOf hlx hI (nI i)) mv_L_one wm_508 hl.1 dL_asks_114 rfl rfl ⟨rfl, rfl⟩ ⟨Nat.le_of_ble_eq_true rfl, Nat.le_of_ble_eq_true rfl⟩ (Nat.le_of_ble_eq_true rfl) ⟨(by show _ + 6 ≤ 330; omega), (by show _ + 230 ≤ 12650; omega)⟩) hS (fun u101 M102 H locs hM102 hH hS => ?_)
                rw [nI_clamp (show i < 2 ^ 31 by omega)] at hM102
                obtain ⟨hu, hM⟩ := lqA_t hM102 ((inx_n (a := i) (n := no) (by omega) (by omega)).mpr hi9)
                have hu : u101 = nI t13 := hu.trans (h13)
                rw [hu]
                rw [hM] at hH
                refine lv_iload C.1 C.2.1 dL_asks_117 (lv_at hl 2 rfl) ?_
                refine lv_icmp_ne (tgt := 137) C.1 C.2.1 dL_asks_119 (by decide) (fun c119 => ?_) (fun c119 => ?_)
                · exact absurd rfl c119
                · rcases (show k3 = 0 ∨ k3 = 1 by omega) with rfl | rfl
                  · refine lv_aload_n C.1 C.2.1 dL_asks_122 rfl (lv_at hl 5 rfl) ?_
                    refine lv_iload C.1 C.2.1 dL_asks_123 (lv_at hl 4 rfl) ?_
                    refine lv_iload C.1 C.2.1 dL_asks_125 (lv_at hl 15 rfl) ?_
                    refine lv_iload C.1 C.2.1 dL_asks_127 (lv_at hl 1 rfl) ?_
                    refine wr_go1 (runT C hE hH hS (l_colour hlx hI (nI i) (nI k67)) mv_L_pieces wm_605 hl.1 dL_asks_129 rfl rfl ⟨rfl, rfl⟩ ⟨Nat.le_of_ble_eq_true rfl, Nat.le_of_ble_eq_true rfl⟩ (Nat.le_of_ble_eq_true rfl) ⟨(by show _ + 6 ≤ 330; omega), (by show _ + 230 ≤ 12650; omega)⟩) hS (fun u103 M104 H locs hM104 hH hS => ?_)
                    obtain ⟨hu, hM⟩ := lqB_f hM104 (fun z => by have z1 := (inx_n (a := k67) (n := 2) (by omega) (by omega)).mp z.2; omega)
                    rw [hu]
                    rw [hM] at hH
                    refine lv_iload C.1 C.2.1 dL_asks_132 (lv_at hl 0 rfl) ?_
                    refine lv_icmp_eq (tgt := 139) C.1 C.2.1 dL_asks_134 (by decide) (fun c134 => ?_) (fun c134 => ?_)
                    · refine lv_iinc (v := nI (i + 1)) (lv' := [(11, .int (nI (i + 1))), (15, .int (-101)), (14, .int (nI k67)), (13, .int (nI t13)), (12, .ref (la 5)), (10, .int 2), (0, .ref x), (1, .int y), (2, .ref (la 0)), (3, .ref (la 1)), (4, .ref (la 3)), (5, .ref (la 4)), (6, .ref (la 5)), (7, .ref (la 6)), (8, .ref (la 7)), (9, .ref (la 8))]) C.1 C.2.1 dL_asks_139 hl (k := 15) rfl (nI_1 i) (by decide) rfl (fun ls hl => ?_)
                      refine lv_goto (tgt := 12) C.1 C.2.1 dL_asks_142 (by decide) ?_
                      refine W.widen (k := 12 * (i + 1)) (n := 460 * (i + 1)) (by omega) (by omega) ?_
                      exact ih12 (i + 1) (by omega) (by omega) H locs hH hS ls (lv_sub hl [5, 6, 7, 8, 9, 10, 11, 12, 13, 14, 15, 0] rfl)
                    · exact absurd c134 (by decide)
                  · refine lv_aload_n C.1 C.2.1 dL_asks_122 rfl (lv_at hl 5 rfl) ?_
                    refine lv_iload C.1 C.2.1 dL_asks_123 (lv_at hl 4 rfl) ?_
                    refine lv_iload C.1 C.2.1 dL_asks_125 (lv_at hl 15 rfl) ?_
                    refine lv_iload C.1 C.2.1 dL_asks_127 (lv_at hl 1 rfl) ?_
                    refine wr_go1 (runT C hE hH hS (l_colourByBath hlx hI (nI i) (nI k67)) mv_L_pieces wm_605 hl.1 dL_asks_129 rfl rfl ⟨rfl, rfl⟩ ⟨Nat.le_of_ble_eq_true rfl, Nat.le_of_ble_eq_true rfl⟩ (Nat.le_of_ble_eq_true rfl) ⟨(by show _ + 6 ≤ 330; omega), (by show _ + 230 ≤ 12650; omega)⟩) hS (fun u105 M106 H locs hM106 hH hS => ?_)
                    obtain ⟨hu, hM⟩ := lqB_f hM106 (fun z => by have z1 := (inx_n (a := k67) (n := 2) (by omega) (by omega)).mp z.2; omega)
                    rw [hu]
                    rw [hM] at hH
                    refine lv_iload C.1 C.2.1 dL_asks_132 (lv_at hl 0 rfl) ?_
                    refine lv_icmp_eq (tgt := 139) C.1 C.2.1 dL_asks_134 (by decide) (fun c134 => ?_) (fun c134 => ?_)
                    · refine lv_iinc (v := nI (i + 1)) (lv' := [(11, .int (nI (i + 1))), (15, .int (-101)), (14, .int (nI k67)), (13, .int (nI t13)), (12, .ref (la 5)), (10, .int 3), (0, .ref x), (1, .int y), (2, .ref (la 0)), (3, .ref (la 1)), (4, .ref (la 3)), (5, .ref (la 4)), (6, .ref (la 5)), (7, .ref (la 6)), (8, .ref (la 7)), (9, .ref (la 8))]) C.1 C.2.1 dL_asks_139 hl (k := 15) rfl (nI_1 i) (by decide) rfl (fun ls hl => ?_)
                      refine lv_goto (tgt := 12) C.1 C.2.1 dL_asks_142 (by decide) ?_
                      refine W.widen (k := 12 * (i + 1)) (n := 460 * (i + 1)) (by omega) (by omega) ?_
                      exact ih12 (i + 1) (by omega) (by omega) H locs hH hS ls (lv_sub hl [5, 6, 7, 8, 9, 10, 11, 12, 13, 14, 15, 0] rfl)
                    · exact absurd c134 (by decide)
        · have n24 : ¬ 10 ≤ i := fun z => c24 ((nI_leI (a := 10) (b := i) (by omega) (by omega)).mpr z)
          refine lv_aload C.1 C.2.1 dL_asks_27 (lv_at hl 6 rfl) ?_
          refine lv_goto (tgt := 34) C.1 C.2.1 dL_asks_29 (by decide) ?_
          refine lv_astore (lv' := [(12, .ref (la 4)), (10, .int (nI (2 + k3))), (0, .ref x), (1, .int y), (2, .ref (la 0)), (3, .ref (la 1)), (4, .ref (la 3)), (5, .ref (la 4)), (6, .ref (la 5)), (7, .ref (la 6)), (8, .ref (la 7)), (9, .ref (la 8)), (11, .int (nI i))]) C.1 C.2.1 dL_asks_34 hl (by decide) rfl (fun ls hl => ?_)
          refine lv_iload C.1 C.2.1 dL_asks_36 (lv_at hl 12 rfl) ?_
          refine lv_aload_n C.1 C.2.1 dL_asks_38 rfl (lv_at hl 4 rfl) ?_
          refine lv_iconst (v := 2) C.1 C.2.1 dL_asks_39 rfl ?_
          refine lald (K := 0) (N := 3) (E := 2) (f := (lf 0)) (v := (nI no)) C hE hH hX (by decide) rfl rfl rfl (by omega) (hc2) dL_asks_40 ?_
          refine lv_icmp_ge (tgt := 59) C.1 C.2.1 dL_asks_41 (by decide) (fun c41 => ?_) (fun c41 => ?_)
          · have n41 : no ≤ i := (nI_leI (a := no) (b := i) (by omega) (by omega)).mp c41
            refine lv_bipush (v := -101) C.1 C.2.1 dL_asks_59 rfl ?_
            refine lv_istore (lv' := [(13, .int (-101)), (12, .ref (la 4)), (10, .int (nI (2 + k3))), (0, .ref x), (1, .int y), (2, .ref (la 0)), (3, .ref (la 1)), (4, .ref (la 3)), (5, .ref (la 4)), (6, .ref (la 5)), (7, .ref (la 6)), (8, .ref (la 7)), (9, .ref (la 8)), (11, .int (nI i))]) C.1 C.2.1 dL_asks_61 hl (by decide) rfl (fun ls hl => ?_)
            refine lv_iload_n C.1 C.2.1 dL_asks_63 rfl (lv_at hl 4 rfl) ?_
            refine lv_iconst (v := 3) C.1 C.2.1 dL_asks_64 rfl ?_
            refine lv_ishr C.1 C.2.1 dL_asks_65 ?_
            refine lv_iconst (v := 3) C.1 C.2.1 dL_asks_66 rfl ?_
            refine some_go (N := 3) (runS C hE hH hS (c_some (n := 3) (N := 3) rfl (by omega) (by omega) (y >>> (3 &&& 31))) mv_L_some wm_121 hl.1 dL_asks_67 rfl rfl ⟨rfl, rfl⟩ ⟨Nat.le_of_ble_eq_true rfl, Nat.le_of_ble_eq_true rfl⟩ (Nat.le_of_ble_eq_true rfl) ⟨(by show _ + 0 ≤ 330; omega), (by show _ + 0 ≤ 12650; omega)⟩) rfl (by omega) (by omega) (fun k67 hk67 => ?_)
            refine lv_istore (lv' := [(14, .int (nI k67)), (13, .int (-101)), (12, .ref (la 4)), (10, .int (nI (2 + k3))), (0, .ref x), (1, .int y), (2, .ref (la 0)), (3, .ref (la 1)), (4, .ref (la 3)), (5, .ref (la 4)), (6, .ref (la 5)), (7, .ref (la 6)), (8, .ref (la 7)), (9, .ref (la 8)), (11, .int (nI i))]) C.1 C.2.1 dL_asks_70 hl (by decide) rfl (fun ls hl => ?_)
            refine lv_iload C.1 C.2.1 dL_asks_72 (lv_at hl 1 rfl) ?_
            refine lv_if_lt (tgt := 83) C.1 C.2.1 dL_asks_74 (by decide) (fun c74 => ?_) (fun c74 => ?_)
            · refine lv_bipush (v := -101) C.1 C.2.1 dL_asks_83 rfl ?_
              refine lv_goto (tgt := 108) C.1 C.2.1 dL_asks_85 (by decide) ?_
              refine lv_istore (lv' := [(15, .int (-101)), (14, .int (nI k67)), (13, .int (-101)), (12, .ref (la 4)), (10, .int (nI (2 + k3))), (0, .ref x), (1, .int y), (2, .ref (la 0)), (3, .ref (la 1)), (4, .ref (la 3)), (5, .ref (la 4)), (6, .ref (la 5)), (7, .ref (la 6)), (8, .ref (la 7)), (9, .ref (la 8)), (11, .int (nI i))]) C.1 C.2.1 dL_asks_108 hl (by decide) rfl (fun ls hl => ?_)
              refine lv_aload_n C.1 C.2.1 dL_asks_110 rfl (lv_at hl 5 rfl) ?_
              refine lv_iconst (v := 2) C.1 C.2.1 dL_asks_111 rfl ?_
              refine lv_iload C.1 C.2.1 dL_asks_112 (lv_at hl 15 rfl) ?_
              refine wr_go1 (runT C hE hH hS (l_stateOf hlx hI (nI i)) mv_L_one wm_508 hl.1 dL_asks_114 rfl rfl ⟨rfl, rfl⟩ ⟨Nat.le_of_ble_eq_true rfl, Nat.le_of_ble_eq_true rfl⟩ (Nat.le_of_ble_eq_true rfl) ⟨(by show _ + 6 ≤ 330; omega), (by show _ + 230 ≤ 12650; omega)⟩) hS (fun u107 M108 H locs hM108 hH hS => ?_)
              obtain ⟨hu, hM⟩ := lqA_f hM108 (fun z => by have z1 := (inx_n (a := i) (n := no) (by omega) (by omega)).mp z; omega)
              rw [hu]
              rw [hM] at hH
              refine lv_iload C.1 C.2.1 dL_asks_117 (lv_at hl 2 rfl) ?_
              refine lv_icmp_ne (tgt := 137) C.1 C.2.1 dL_asks_119 (by decide) (fun c119 => ?_) (fun c119 => ?_)
              · exact absurd c119 (by decide)
              · rcases (show k3 = 0 ∨ k3 = 1 by omega) with rfl | rfl
                · refine lv_aload_n C.1 C.2.1 dL_asks_122 rfl (lv_at hl 5 rfl) ?_
                  refine lv_iload C.1 C.2.1 dL_asks_123 (lv_at hl 4 rfl) ?_
                  refine lv_iload C.1 C.2.1 dL_asks_125 (lv_at hl 15 rfl) ?_
                  refine lv_iload C.1 C.2.1 dL_asks_127 (lv_at hl 1 rfl) ?_
                  refine wr_go1 (runT C hE hH hS (l_colour hlx hI (nI i) (nI k67)) mv_L_pieces wm_605 hl.1 dL_asks_129 rfl rfl ⟨rfl, rfl⟩ ⟨Nat.le_of_ble_eq_true rfl, Nat.le_of_ble_eq_true rfl⟩ (Nat.le_of_ble_eq_true rfl) ⟨(by show _ + 6 ≤ 330; omega), (by show _ + 230 ≤ 12650; omega)⟩) hS (fun u109 M110 H locs hM110 hH hS => ?_)
                  obtain ⟨hu, hM⟩ := lqB_f hM110 (fun z => by have z1 := (inx_n (a := i) (n := no) (by omega) (by omega)).mp z.1; omega)
                  rw [hu]
                  rw [hM] at hH
                  refine lv_iload C.1 C.2.1 dL_asks_132 (lv_at hl 0 rfl) ?_
                  refine lv_icmp_eq (tgt := 139) C.1 C.2.1 dL_asks_134 (by decide) (fun c134 => ?_) (fun c134 => ?_)
                  · refine lv_iinc (v := nI (i + 1)) (lv' := [(11, .int (nI (i + 1))), (15, .int (-101)), (14, .int (nI k67)), (13, .int (-101)), (12, .ref (la 4)), (10, .int 2), (0, .ref x), (1, .int y), (2, .ref (la 0)), (3, .ref (la 1)), (4, .ref (la 3)), (5, .ref (la 4)), (6, .ref (la 5)), (7, .ref (la 6)), (8, .ref (la 7)), (9, .ref (la 8))]) C.1 C.2.1 dL_asks_139 hl (k := 15) rfl (nI_1 i) (by decide) rfl (fun ls hl => ?_)
                    refine lv_goto (tgt := 12) C.1 C.2.1 dL_asks_142 (by decide) ?_
                    refine W.widen (k := 12 * (i + 1)) (n := 460 * (i + 1)) (by omega) (by omega) ?_
                    exact ih12 (i + 1) (by omega) (by omega) H locs hH hS ls (lv_sub hl [5, 6, 7, 8, 9, 10, 11, 12, 13, 14, 15, 0] rfl)
                  · exact absurd c134 (by decide)
                · refine lv_aload_n C.1 C.2.1 dL_asks_122 rfl (lv_at hl 5 rfl) ?_
                  refine lv_iload C.1 C.2.1 dL_asks_123 (lv_at hl 4 rfl) ?_
                  refine lv_iload C.1 C.2.1 dL_asks_125 (lv_at hl 15 rfl) ?_
                  refine lv_iload C.1 C.2.1 dL_asks_127 (lv_at hl 1 rfl) ?_
                  refine wr_go1 (runT C hE hH hS (l_colourByBath hlx hI (nI i) (nI k67)) mv_L_pieces wm_605 hl.1 dL_asks_129 rfl rfl ⟨rfl, rfl⟩ ⟨Nat.le_of_ble_eq_true rfl, Nat.le_of_ble_eq_true rfl⟩ (Nat.le_of_ble_eq_true rfl) ⟨(by show _ + 6 ≤ 330; omega), (by show _ + 230 ≤ 12650; omega)⟩) hS (fun u111 M112 H locs hM112 hH hS => ?_)
                  obtain ⟨hu, hM⟩ := lqB_f hM112 (fun z => by have z1 := (inx_n (a := i) (n := no) (by omega) (by omega)).mp z.1; omega)
                  rw [hu]
                  rw [hM] at hH
                  refine lv_iload C.1 C.2.1 dL_asks_132 (lv_at hl 0 rfl) ?_
                  refine lv_icmp_eq (tgt := 139) C.1 C.2.1 dL_asks_134 (by decide) (fun c134 => ?_) (fun c134 => ?_)
                  · refine lv_iinc (v := nI (i + 1)) (lv' := [(11, .int (nI (i + 1))), (15, .int (-101)), (14, .int (nI k67)), (13, .int (-101)), (12, .ref (la 4)), (10, .int 3), (0, .ref x), (1, .int y), (2, .ref (la 0)), (3, .ref (la 1)), (4, .ref (la 3)), (5, .ref (la 4)), (6, .ref (la 5)), (7, .ref (la 6)), (8, .ref (la 7)), (9, .ref (la 8))]) C.1 C.2.1 dL_asks_139 hl (k := 15) rfl (nI_1 i) (by decide) rfl (fun ls hl => ?_)
                    refine lv_goto (tgt := 12) C.1 C.2.1 dL_asks_142 (by decide) ?_
                    refine W.widen (k := 12 * (i + 1)) (n := 460 * (i + 1)) (by omega) (by omega) ?_
                    exact ih12 (i + 1) (by omega) (by omega) H locs hH hS ls (lv_sub hl [5, 6, 7, 8, 9, 10, 11, 12, 13, 14, 15, 0] rfl)
                  · exact absurd c134 (by decide)
            · exact absurd c74 (by decide)
          · have n41 : ¬ no ≤ i := fun z => c41 ((nI_leI (a := no) (b := i) (by omega) (by omega)).mpr z)
            have hi9 : i < no := by omega
            obtain ⟨⟨-, -, -, o3⟩, o4⟩ := rO i hi9
            obtain ⟨-, -, -, -, -, -, -, h13c, -⟩ := iO.2.2.2 i hi9
            obtain ⟨t13, ht13, h13⟩ : ∃ t, t ≤ 2 ∧ ar 13 i = nI t := by
              rcases h13c with q | q | q
              · exact ⟨0, by omega, q⟩
              · exact ⟨1, by omega, q⟩
              · exact ⟨2, by omega, q⟩
            have q3 : lf 4 (5 * (i % 10) + 3) = nI t13 := (lo_4 (j := 3) (by omega)).trans (o3.trans h13)
            refine lv_aload C.1 C.2.1 dL_asks_44 (lv_at hl 0 rfl) ?_
            refine lv_iconst (v := 5) C.1 C.2.1 dL_asks_46 rfl ?_
            refine lv_iload C.1 C.2.1 dL_asks_47 (lv_at hl 12 rfl) ?_
            refine lv_bipush (v := 10) C.1 C.2.1 dL_asks_49 rfl ?_
            refine lv_irem C.1 C.2.1 dL_asks_51 (by decide) ?_
            rw [show ((nI i) - (nI i) / 10 * 10 : Int32) = nI (i % 10) from nI_R (a := i) (b := 10) (by omega) (by omega) (by omega)]
            refine lv_imul C.1 C.2.1 dL_asks_52 ?_
            rw [show ((5 : Int32) * (nI (i % 10))) = nI (5 * (i % 10)) from nI_M 5 (i % 10)]
            refine lv_iconst (v := 3) C.1 C.2.1 dL_asks_53 rfl ?_
            refine lv_iadd C.1 C.2.1 dL_asks_54 ?_
            rw [show ((nI (5 * (i % 10))) + 3 : Int32) = nI (5 * (i % 10) + 3) from nI_add (5 * (i % 10)) 3]
            refine lald (K := 4) (N := 50) (E := 5 * (i % 10) + 3) (f := (lf 4)) (v := (nI t13)) C hE hH hX (by decide) rfl rfl rfl (by omega) (q3) dL_asks_55 ?_
            refine lv_goto (tgt := 61) C.1 C.2.1 dL_asks_56 (by decide) ?_
            refine lv_istore (lv' := [(13, .int (nI t13)), (12, .ref (la 4)), (10, .int (nI (2 + k3))), (0, .ref x), (1, .int y), (2, .ref (la 0)), (3, .ref (la 1)), (4, .ref (la 3)), (5, .ref (la 4)), (6, .ref (la 5)), (7, .ref (la 6)), (8, .ref (la 7)), (9, .ref (la 8)), (11, .int (nI i))]) C.1 C.2.1 dL_asks_61 hl (by decide) rfl (fun ls hl => ?_)
            refine lv_iload_n C.1 C.2.1 dL_asks_63 rfl (lv_at hl 4 rfl) ?_
            refine lv_iconst (v := 3) C.1 C.2.1 dL_asks_64 rfl ?_
            refine lv_ishr C.1 C.2.1 dL_asks_65 ?_
            refine lv_iconst (v := 3) C.1 C.2.1 dL_asks_66 rfl ?_
            refine some_go (N := 3) (runS C hE hH hS (c_some (n := 3) (N := 3) rfl (by omega) (by omega) (y >>> (3 &&& 31))) mv_L_some wm_121 hl.1 dL_asks_67 rfl rfl ⟨rfl, rfl⟩ ⟨Nat.le_of_ble_eq_true rfl, Nat.le_of_ble_eq_true rfl⟩ (Nat.le_of_ble_eq_true rfl) ⟨(by show _ + 0 ≤ 330; omega), (by show _ + 0 ≤ 12650; omega)⟩) rfl (by omega) (by omega) (fun k67 hk67 => ?_)
            refine lv_istore (lv' := [(14, .int (nI k67)), (13, .int (nI t13)), (12, .ref (la 4)), (10, .int (nI (2 + k3))), (0, .ref x), (1, .int y), (2, .ref (la 0)), (3, .ref (la 1)), (4, .ref (la 3)), (5, .ref (la 4)), (6, .ref (la 5)), (7, .ref (la 6)), (8, .ref (la 7)), (9, .ref (la 8)), (11, .int (nI i))]) C.1 C.2.1 dL_asks_70 hl (by decide) rfl (fun ls hl => ?_)
            refine lv_iload C.1 C.2.1 dL_asks_72 (lv_at hl 1 rfl) ?_
            refine lv_if_lt (tgt := 83) C.1 C.2.1 dL_asks_74 (by decide) (fun c74 => ?_) (fun c74 => ?_)
            · exact absurd (n_ge (by omega) (by decide)) (n_nlt c74)
            · refine lv_iload C.1 C.2.1 dL_asks_77 (lv_at hl 0 rfl) ?_
              refine lv_iconst (v := 1) C.1 C.2.1 dL_asks_79 rfl ?_
              refine lv_icmp_le (tgt := 88) C.1 C.2.1 dL_asks_80 (by decide) (fun c80 => ?_) (fun c80 => ?_)
              · have n80 : k67 ≤ 1 := (nI_leI (a := k67) (b := 1) (by omega) (by omega)).mp c80
                refine lv_iload C.1 C.2.1 dL_asks_88 (lv_at hl 1 rfl) ?_
                refine lv_if_ne (tgt := 98) C.1 C.2.1 dL_asks_90 (by decide) (fun c90 => ?_) (fun c90 => ?_)
                · have n90 : ¬ t13 = 0 := fun z => c90 (congrArg nI z)
                  refine lv_aload C.1 C.2.1 dL_asks_98 (lv_at hl 11 rfl) ?_
                  refine lv_iconst (v := 3) C.1 C.2.1 dL_asks_100 rfl ?_
                  refine lv_iload C.1 C.2.1 dL_asks_101 (lv_at hl 14 rfl) ?_
                  refine lv_imul C.1 C.2.1 dL_asks_103 ?_
                  rw [show ((3 : Int32) * (nI i)) = nI (3 * i) from nI_M 3 i]
                  refine lv_iload C.1 C.2.1 dL_asks_104 (lv_at hl 0 rfl) ?_
                  refine lv_iadd C.1 C.2.1 dL_asks_106 ?_
                  rw [show ((nI (3 * i)) + (nI k67) : Int32) = nI (3 * i + k67) from nI_add (3 * i) k67]
                  refine lald (K := 6) (N := 60) (E := 3 * i + k67) (f := (lf 6)) (v := ((lf 6) (3 * i + k67))) C hE hH hX (by decide) rfl rfl rfl (by omega) (rfl) dL_asks_107 ?_
                  refine lv_istore (lv' := [(15, .int ((lf 6) (3 * i + k67))), (14, .int (nI k67)), (13, .int (nI t13)), (12, .ref (la 4)), (10, .int (nI (2 + k3))), (0, .ref x), (1, .int y), (2, .ref (la 0)), (3, .ref (la 1)), (4, .ref (la 3)), (5, .ref (la 4)), (6, .ref (la 5)), (7, .ref (la 6)), (8, .ref (la 7)), (9, .ref (la 8)), (11, .int (nI i))]) C.1 C.2.1 dL_asks_108 hl (by decide) rfl (fun ls hl => ?_)
                  refine lv_aload_n C.1 C.2.1 dL_asks_110 rfl (lv_at hl 5 rfl) ?_
                  refine lv_iconst (v := 2) C.1 C.2.1 dL_asks_111 rfl ?_
                  refine lv_iload C.1 C.2.1 dL_asks_112 (lv_at hl 15 rfl) ?_
                  refine wr_go1 (runT C hE hH hS (l_stateOf hlx hI (nI i)) mv_L_one wm_508 hl.1 dL_asks_114 rfl rfl ⟨rfl, rfl⟩ ⟨Nat.le_of_ble_eq_true rfl, Nat.le_of_ble_eq_true rfl⟩ (Nat.le_of_ble_eq_true rfl) ⟨(by show _ + 6 ≤ 330; omega), (by show _ + 230 ≤ 12650; omega)⟩) hS (fun u113 M114 H locs hM114 hH hS => ?_)
                  rw [nI_clamp (show i < 2 ^ 31 by omega)] at hM114
                  obtain ⟨hu, hM⟩ := lqA_t hM114 ((inx_n (a := i) (n := no) (by omega) (by omega)).mpr hi9)
                  have hu : u113 = nI t13 := hu.trans (h13)
                  rw [hu]
                  rw [hM] at hH
                  refine lv_iload C.1 C.2.1 dL_asks_117 (lv_at hl 2 rfl) ?_
                  refine lv_icmp_ne (tgt := 137) C.1 C.2.1 dL_asks_119 (by decide) (fun c119 => ?_) (fun c119 => ?_)
                  · exact absurd rfl c119
                  · rcases (show k3 = 0 ∨ k3 = 1 by omega) with rfl | rfl
                    · refine lv_aload_n C.1 C.2.1 dL_asks_122 rfl (lv_at hl 5 rfl) ?_
                      refine lv_iload C.1 C.2.1 dL_asks_123 (lv_at hl 4 rfl) ?_
                      refine lv_iload C.1 C.2.1 dL_asks_125 (lv_at hl 15 rfl) ?_
                      refine lv_iload C.1 C.2.1 dL_asks_127 (lv_at hl 1 rfl) ?_
                      refine wr_go1 (runT C hE hH hS (l_colour hlx hI (nI i) (nI k67)) mv_L_pieces wm_605 hl.1 dL_asks_129 rfl rfl ⟨rfl, rfl⟩ ⟨Nat.le_of_ble_eq_true rfl, Nat.le_of_ble_eq_true rfl⟩ (Nat.le_of_ble_eq_true rfl) ⟨(by show _ + 6 ≤ 330; omega), (by show _ + 230 ≤ 12650; omega)⟩) hS (fun u115 M116 H locs hM116 hH hS => ?_)
                      rw [nI_clamp (show i < 2 ^ 31 by omega)] at hM116
                      obtain ⟨hu, hM⟩ := lqB_t hM116 ⟨(inx_n (a := i) (n := no) (by omega) (by omega)).mpr hi9, (inx_n (a := k67) (n := 2) (by omega) (by omega)).mpr (by omega)⟩ (fun z => n90 (nI_inj (a := t13) (b := 0) (by omega) (by omega) (h13.symm.trans z)))
                      have hu : u115 = (lf 6) (3 * i + k67) := hu.trans (zcol_at (rO i hi9) (fun z => n90 (nI_inj (a := t13) (b := 0) (by omega) (by omega) (h13.symm.trans z))) (by omega))
                      rw [hu]
                      rw [hM] at hH
                      refine lv_iload C.1 C.2.1 dL_asks_132 (lv_at hl 0 rfl) ?_
                      refine lv_icmp_eq (tgt := 139) C.1 C.2.1 dL_asks_134 (by decide) (fun c134 => ?_) (fun c134 => ?_)
                      · refine lv_iinc (v := nI (i + 1)) (lv' := [(11, .int (nI (i + 1))), (15, .int ((lf 6) (3 * i + k67))), (14, .int (nI k67)), (13, .int (nI t13)), (12, .ref (la 4)), (10, .int 2), (0, .ref x), (1, .int y), (2, .ref (la 0)), (3, .ref (la 1)), (4, .ref (la 3)), (5, .ref (la 4)), (6, .ref (la 5)), (7, .ref (la 6)), (8, .ref (la 7)), (9, .ref (la 8))]) C.1 C.2.1 dL_asks_139 hl (k := 15) rfl (nI_1 i) (by decide) rfl (fun ls hl => ?_)
                        refine lv_goto (tgt := 12) C.1 C.2.1 dL_asks_142 (by decide) ?_
                        refine W.widen (k := 12 * (i + 1)) (n := 460 * (i + 1)) (by omega) (by omega) ?_
                        exact ih12 (i + 1) (by omega) (by omega) H locs hH hS ls (lv_sub hl [5, 6, 7, 8, 9, 10, 11, 12, 13, 14, 15, 0] rfl)
                      · exact absurd rfl c134
                    · refine lv_aload_n C.1 C.2.1 dL_asks_122 rfl (lv_at hl 5 rfl) ?_
                      refine lv_iload C.1 C.2.1 dL_asks_123 (lv_at hl 4 rfl) ?_
                      refine lv_iload C.1 C.2.1 dL_asks_125 (lv_at hl 15 rfl) ?_
                      refine lv_iload C.1 C.2.1 dL_asks_127 (lv_at hl 1 rfl) ?_
                      refine wr_go1 (runT C hE hH hS (l_colourByBath hlx hI (nI i) (nI k67)) mv_L_pieces wm_605 hl.1 dL_asks_129 rfl rfl ⟨rfl, rfl⟩ ⟨Nat.le_of_ble_eq_true rfl, Nat.le_of_ble_eq_true rfl⟩ (Nat.le_of_ble_eq_true rfl) ⟨(by show _ + 6 ≤ 330; omega), (by show _ + 230 ≤ 12650; omega)⟩) hS (fun u117 M118 H locs hM118 hH hS => ?_)
                      rw [nI_clamp (show i < 2 ^ 31 by omega)] at hM118
                      obtain ⟨hu, hM⟩ := lqB_t hM118 ⟨(inx_n (a := i) (n := no) (by omega) (by omega)).mpr hi9, (inx_n (a := k67) (n := 2) (by omega) (by omega)).mpr (by omega)⟩ (fun z => n90 (nI_inj (a := t13) (b := 0) (by omega) (by omega) (h13.symm.trans z)))
                      have hu : u117 = (lf 6) (3 * i + k67) := hu.trans (zcol_at (rO i hi9) (fun z => n90 (nI_inj (a := t13) (b := 0) (by omega) (by omega) (h13.symm.trans z))) (by omega))
                      rw [hu]
                      rw [hM] at hH
                      refine lv_iload C.1 C.2.1 dL_asks_132 (lv_at hl 0 rfl) ?_
                      refine lv_icmp_eq (tgt := 139) C.1 C.2.1 dL_asks_134 (by decide) (fun c134 => ?_) (fun c134 => ?_)
                      · refine lv_iinc (v := nI (i + 1)) (lv' := [(11, .int (nI (i + 1))), (15, .int ((lf 6) (3 * i + k67))), (14, .int (nI k67)), (13, .int (nI t13)), (12, .ref (la 4)), (10, .int 3), (0, .ref x), (1, .int y), (2, .ref (la 0)), (3, .ref (la 1)), (4, .ref (la 3)), (5, .ref (la 4)), (6, .ref (la 5)), (7, .ref (la 6)), (8, .ref (la 7)), (9, .ref (la 8))]) C.1 C.2.1 dL_asks_139 hl (k := 15) rfl (nI_1 i) (by decide) rfl (fun ls hl => ?_)
                        refine lv_goto (tgt := 12) C.1 C.2.1 dL_asks_142 (by decide) ?_
                        refine W.widen (k := 12 * (i + 1)) (n := 460 * (i + 1)) (by omega) (by omega) ?_
                        exact ih12 (i + 1) (by omega) (by omega) H locs hH hS ls (lv_sub hl [5, 6, 7, 8, 9, 10, 11, 12, 13, 14, 15, 0] rfl)
                      · exact absurd rfl c134
                · have n90 : t13 = 0 := nI_inj (by omega) (by omega) c90
                  refine lv_bipush (v := -102) C.1 C.2.1 dL_asks_93 rfl ?_
                  refine lv_goto (tgt := 108) C.1 C.2.1 dL_asks_95 (by decide) ?_
                  refine lv_istore (lv' := [(15, .int (-102)), (14, .int (nI k67)), (13, .int (nI t13)), (12, .ref (la 4)), (10, .int (nI (2 + k3))), (0, .ref x), (1, .int y), (2, .ref (la 0)), (3, .ref (la 1)), (4, .ref (la 3)), (5, .ref (la 4)), (6, .ref (la 5)), (7, .ref (la 6)), (8, .ref (la 7)), (9, .ref (la 8)), (11, .int (nI i))]) C.1 C.2.1 dL_asks_108 hl (by decide) rfl (fun ls hl => ?_)
                  refine lv_aload_n C.1 C.2.1 dL_asks_110 rfl (lv_at hl 5 rfl) ?_
                  refine lv_iconst (v := 2) C.1 C.2.1 dL_asks_111 rfl ?_
                  refine lv_iload C.1 C.2.1 dL_asks_112 (lv_at hl 15 rfl) ?_
                  refine wr_go1 (runT C hE hH hS (l_stateOf hlx hI (nI i)) mv_L_one wm_508 hl.1 dL_asks_114 rfl rfl ⟨rfl, rfl⟩ ⟨Nat.le_of_ble_eq_true rfl, Nat.le_of_ble_eq_true rfl⟩ (Nat.le_of_ble_eq_true rfl) ⟨(by show _ + 6 ≤ 330; omega), (by show _ + 230 ≤ 12650; omega)⟩) hS (fun u119 M120 H locs hM120 hH hS => ?_)
                  rw [nI_clamp (show i < 2 ^ 31 by omega)] at hM120
                  obtain ⟨hu, hM⟩ := lqA_t hM120 ((inx_n (a := i) (n := no) (by omega) (by omega)).mpr hi9)
                  have hu : u119 = nI t13 := hu.trans (h13)
                  rw [hu]
                  rw [hM] at hH
                  refine lv_iload C.1 C.2.1 dL_asks_117 (lv_at hl 2 rfl) ?_
                  refine lv_icmp_ne (tgt := 137) C.1 C.2.1 dL_asks_119 (by decide) (fun c119 => ?_) (fun c119 => ?_)
                  · exact absurd rfl c119
                  · rcases (show k3 = 0 ∨ k3 = 1 by omega) with rfl | rfl
                    · refine lv_aload_n C.1 C.2.1 dL_asks_122 rfl (lv_at hl 5 rfl) ?_
                      refine lv_iload C.1 C.2.1 dL_asks_123 (lv_at hl 4 rfl) ?_
                      refine lv_iload C.1 C.2.1 dL_asks_125 (lv_at hl 15 rfl) ?_
                      refine lv_iload C.1 C.2.1 dL_asks_127 (lv_at hl 1 rfl) ?_
                      refine wr_go1 (runT C hE hH hS (l_colour hlx hI (nI i) (nI k67)) mv_L_pieces wm_605 hl.1 dL_asks_129 rfl rfl ⟨rfl, rfl⟩ ⟨Nat.le_of_ble_eq_true rfl, Nat.le_of_ble_eq_true rfl⟩ (Nat.le_of_ble_eq_true rfl) ⟨(by show _ + 6 ≤ 330; omega), (by show _ + 230 ≤ 12650; omega)⟩) hS (fun u121 M122 H locs hM122 hH hS => ?_)
                      rw [nI_clamp (show i < 2 ^ 31 by omega)] at hM122
                      obtain ⟨hu, hM⟩ := lqB_g hM122 ⟨(inx_n (a := i) (n := no) (by omega) (by omega)).mpr hi9, (inx_n (a := k67) (n := 2) (by omega) (by omega)).mpr (by omega)⟩ (fun z => z (h13.trans (congrArg nI n90)))
                      rw [hu]
                      rw [hM] at hH
                      refine lv_iload C.1 C.2.1 dL_asks_132 (lv_at hl 0 rfl) ?_
                      refine lv_icmp_eq (tgt := 139) C.1 C.2.1 dL_asks_134 (by decide) (fun c134 => ?_) (fun c134 => ?_)
                      · refine lv_iinc (v := nI (i + 1)) (lv' := [(11, .int (nI (i + 1))), (15, .int (-102)), (14, .int (nI k67)), (13, .int (nI t13)), (12, .ref (la 4)), (10, .int 2), (0, .ref x), (1, .int y), (2, .ref (la 0)), (3, .ref (la 1)), (4, .ref (la 3)), (5, .ref (la 4)), (6, .ref (la 5)), (7, .ref (la 6)), (8, .ref (la 7)), (9, .ref (la 8))]) C.1 C.2.1 dL_asks_139 hl (k := 15) rfl (nI_1 i) (by decide) rfl (fun ls hl => ?_)
                        refine lv_goto (tgt := 12) C.1 C.2.1 dL_asks_142 (by decide) ?_
                        refine W.widen (k := 12 * (i + 1)) (n := 460 * (i + 1)) (by omega) (by omega) ?_
                        exact ih12 (i + 1) (by omega) (by omega) H locs hH hS ls (lv_sub hl [5, 6, 7, 8, 9, 10, 11, 12, 13, 14, 15, 0] rfl)
                      · exact absurd c134 (by decide)
                    · refine lv_aload_n C.1 C.2.1 dL_asks_122 rfl (lv_at hl 5 rfl) ?_
                      refine lv_iload C.1 C.2.1 dL_asks_123 (lv_at hl 4 rfl) ?_
                      refine lv_iload C.1 C.2.1 dL_asks_125 (lv_at hl 15 rfl) ?_
                      refine lv_iload C.1 C.2.1 dL_asks_127 (lv_at hl 1 rfl) ?_
                      refine wr_go1 (runT C hE hH hS (l_colourByBath hlx hI (nI i) (nI k67)) mv_L_pieces wm_605 hl.1 dL_asks_129 rfl rfl ⟨rfl, rfl⟩ ⟨Nat.le_of_ble_eq_true rfl, Nat.le_of_ble_eq_true rfl⟩ (Nat.le_of_ble_eq_true rfl) ⟨(by show _ + 6 ≤ 330; omega), (by show _ + 230 ≤ 12650; omega)⟩) hS (fun u123 M124 H locs hM124 hH hS => ?_)
                      rw [nI_clamp (show i < 2 ^ 31 by omega)] at hM124
                      obtain ⟨hu, hM⟩ := lqB_g hM124 ⟨(inx_n (a := i) (n := no) (by omega) (by omega)).mpr hi9, (inx_n (a := k67) (n := 2) (by omega) (by omega)).mpr (by omega)⟩ (fun z => z (h13.trans (congrArg nI n90)))
                      rw [hu]
                      rw [hM] at hH
                      refine lv_iload C.1 C.2.1 dL_asks_132 (lv_at hl 0 rfl) ?_
                      refine lv_icmp_eq (tgt := 139) C.1 C.2.1 dL_asks_134 (by decide) (fun c134 => ?_) (fun c134 => ?_)
                      · refine lv_iinc (v := nI (i + 1)) (lv' := [(11, .int (nI (i + 1))), (15, .int (-102)), (14, .int (nI k67)), (13, .int (nI t13)), (12, .ref (la 4)), (10, .int 3), (0, .ref x), (1, .int y), (2, .ref (la 0)), (3, .ref (la 1)), (4, .ref (la 3)), (5, .ref (la 4)), (6, .ref (la 5)), (7, .ref (la 6)), (8, .ref (la 7)), (9, .ref (la 8))]) C.1 C.2.1 dL_asks_139 hl (k := 15) rfl (nI_1 i) (by decide) rfl (fun ls hl => ?_)
                        refine lv_goto (tgt := 12) C.1 C.2.1 dL_asks_142 (by decide) ?_
                        refine W.widen (k := 12 * (i + 1)) (n := 460 * (i + 1)) (by omega) (by omega) ?_
                        exact ih12 (i + 1) (by omega) (by omega) H locs hH hS ls (lv_sub hl [5, 6, 7, 8, 9, 10, 11, 12, 13, 14, 15, 0] rfl)
                      · exact absurd c134 (by decide)
              · have n80 : ¬ k67 ≤ 1 := fun z => c80 ((nI_leI (a := k67) (b := 1) (by omega) (by omega)).mpr z)
                refine lv_bipush (v := -101) C.1 C.2.1 dL_asks_83 rfl ?_
                refine lv_goto (tgt := 108) C.1 C.2.1 dL_asks_85 (by decide) ?_
                refine lv_istore (lv' := [(15, .int (-101)), (14, .int (nI k67)), (13, .int (nI t13)), (12, .ref (la 4)), (10, .int (nI (2 + k3))), (0, .ref x), (1, .int y), (2, .ref (la 0)), (3, .ref (la 1)), (4, .ref (la 3)), (5, .ref (la 4)), (6, .ref (la 5)), (7, .ref (la 6)), (8, .ref (la 7)), (9, .ref (la 8)), (11, .int (nI i))]) C.1 C.2.1 dL_asks_108 hl (by decide) rfl (fun ls hl => ?_)
                refine lv_aload_n C.1 C.2.1 dL_asks_110 rfl (lv_at hl 5 rfl) ?_
                refine lv_iconst (v := 2) C.1 C.2.1 dL_asks_111 rfl ?_
                refine lv_iload C.1 C.2.1 dL_asks_112 (lv_at hl 15 rfl) ?_
                refine wr_go1 (runT C hE hH hS (l_stateOf hlx hI (nI i)) mv_L_one wm_508 hl.1 dL_asks_114 rfl rfl ⟨rfl, rfl⟩ ⟨Nat.le_of_ble_eq_true rfl, Nat.le_of_ble_eq_true rfl⟩ (Nat.le_of_ble_eq_true rfl) ⟨(by show _ + 6 ≤ 330; omega), (by show _ + 230 ≤ 12650; omega)⟩) hS (fun u125 M126 H locs hM126 hH hS => ?_)
                rw [nI_clamp (show i < 2 ^ 31 by omega)] at hM126
                obtain ⟨hu, hM⟩ := lqA_t hM126 ((inx_n (a := i) (n := no) (by omega) (by omega)).mpr hi9)
                have hu : u125 = nI t13 := hu.trans (h13)
                rw [hu]
                rw [hM] at hH
                refine lv_iload C.1 C.2.1 dL_asks_117 (lv_at hl 2 rfl) ?_
                refine lv_icmp_ne (tgt := 137) C.1 C.2.1 dL_asks_119 (by decide) (fun c119 => ?_) (fun c119 => ?_)
                · exact absurd rfl c119
                · rcases (show k3 = 0 ∨ k3 = 1 by omega) with rfl | rfl
                  · refine lv_aload_n C.1 C.2.1 dL_asks_122 rfl (lv_at hl 5 rfl) ?_
                    refine lv_iload C.1 C.2.1 dL_asks_123 (lv_at hl 4 rfl) ?_
                    refine lv_iload C.1 C.2.1 dL_asks_125 (lv_at hl 15 rfl) ?_
                    refine lv_iload C.1 C.2.1 dL_asks_127 (lv_at hl 1 rfl) ?_
                    refine wr_go1 (runT C hE hH hS (l_colour hlx hI (nI i) (nI k67)) mv_L_pieces wm_605 hl.1 dL_asks_129 rfl rfl ⟨rfl, rfl⟩ ⟨Nat.le_of_ble_eq_true rfl, Nat.le_of_ble_eq_true rfl⟩ (Nat.le_of_ble_eq_true rfl) ⟨(by show _ + 6 ≤ 330; omega), (by show _ + 230 ≤ 12650; omega)⟩) hS (fun u127 M128 H locs hM128 hH hS => ?_)
                    obtain ⟨hu, hM⟩ := lqB_f hM128 (fun z => by have z1 := (inx_n (a := k67) (n := 2) (by omega) (by omega)).mp z.2; omega)
                    rw [hu]
                    rw [hM] at hH
                    refine lv_iload C.1 C.2.1 dL_asks_132 (lv_at hl 0 rfl) ?_
                    refine lv_icmp_eq (tgt := 139) C.1 C.2.1 dL_asks_134 (by decide) (fun c134 => ?_) (fun c134 => ?_)
                    · refine lv_iinc (v := nI (i + 1)) (lv' := [(11, .int (nI (i + 1))), (15, .int (-101)), (14, .int (nI k67)), (13, .int (nI t13)), (12, .ref (la 4)), (10, .int 2), (0, .ref x), (1, .int y), (2, .ref (la 0)), (3, .ref (la 1)), (4, .ref (la 3)), (5, .ref (la 4)), (6, .ref (la 5)), (7, .ref (la 6)), (8, .ref (la 7)), (9, .ref (la 8))]) C.1 C.2.1 dL_asks_139 hl (k := 15) rfl (nI_1 i) (by decide) rfl (fun ls hl => ?_)
                      refine lv_goto (tgt := 12) C.1 C.2.1 dL_asks_142 (by decide) ?_
                      refine W.widen (k := 12 * (i + 1)) (n := 460 * (i + 1)) (by omega) (by omega) ?_
                      exact ih12 (i + 1) (by omega) (by omega) H locs hH hS ls (lv_sub hl [5, 6, 7, 8, 9, 10, 11, 12, 13, 14, 15, 0] rfl)
                    · exact absurd c134 (by decide)
                  · refine lv_aload_n C.1 C.2.1 dL_asks_122 rfl (lv_at hl 5 rfl) ?_
                    refine lv_iload C.1 C.2.1 dL_asks_123 (lv_at hl 4 rfl) ?_
                    refine lv_iload C.1 C.2.1 dL_asks_125 (lv_at hl 15 rfl) ?_
                    refine lv_iload C.1 C.2.1 dL_asks_127 (lv_at hl 1 rfl) ?_
                    refine wr_go1 (runT C hE hH hS (l_colourByBath hlx hI (nI i) (nI k67)) mv_L_pieces wm_605 hl.1 dL_asks_129 rfl rfl ⟨rfl, rfl⟩ ⟨Nat.le_of_ble_eq_true rfl, Nat.le_of_ble_eq_true rfl⟩ (Nat.le_of_ble_eq_true rfl) ⟨(by show _ + 6 ≤ 330; omega), (by show _ + 230 ≤ 12650; omega)⟩) hS (fun u129 M130 H locs hM130 hH hS => ?_)
                    obtain ⟨hu, hM⟩ := lqB_f hM130 (fun z => by have z1 := (inx_n (a := k67) (n := 2) (by omega) (by omega)).mp z.2; omega)
                    rw [hu]
                    rw [hM] at hH
                    refine lv_iload C.1 C.2.1 dL_asks_132 (lv_at hl 0 rfl) ?_
                    refine lv_icmp_eq (tgt := 139) C.1 C.2.1 dL_asks_134 (by decide) (fun c134 => ?_) (fun c134 => ?_)
                    · refine lv_iinc (v := nI (i + 1)) (lv' := [(11, .int (nI (i + 1))), (15, .int (-101)), (14, .int (nI k67)), (13, .int (nI t13)), (12, .ref (la 4)), (10, .int 3), (0, .ref x), (1, .int y), (2, .ref (la 0)), (3, .ref (la 1)), (4, .ref (la 3)), (5, .ref (la 4)), (6, .ref (la 5)), (7, .ref (la 6)), (8, .ref (la 7)), (9, .ref (la 8))]) C.1 C.2.1 dL_asks_139 hl (k := 15) rfl (nI_1 i) (by decide) rfl (fun ls hl => ?_)
                      refine lv_goto (tgt := 12) C.1 C.2.1 dL_asks_142 (by decide) ?_
                      refine W.widen (k := 12 * (i + 1)) (n := 460 * (i + 1)) (by omega) (by omega) ?_
                      exact ih12 (i + 1) (by omega) (by omega) H locs hH hS ls (lv_sub hl [5, 6, 7, 8, 9, 10, 11, 12, 13, 14, 15, 0] rfl)
                    · exact absurd c134 (by decide)
  refine W.widen (k := 12 * 0) (n := 460 * 0) (by omega) (by omega) ?_
  exact loop12 (no + 2) 0 (by omega) (by omega) _ _ hH hS _ (lv_sub hl [1, 2, 3, 4, 5, 6, 7, 8, 9, 10, 11, 0] rfl)
