/-! CLOTH: balances and settling -/
def zbal (D : Nat → Nat → Int32) (j : Nat) : Nat → Int32
  | 0 => 0
  | i + 1 => zbal D j i + (D i j - D j i)
def zlow (U : Nat → Int32) (sg : Int32) : Nat → Nat → Int32
  | 0, _ => -1
  | r + 1, i => if U i * sg ≤ 0 then zlow U sg r (i + 1) else nI i
theorem zlow_j (U : Nat → Int32) (sg : Int32) : ∀ (r i : Nat), zlow U sg r i = -1 ∨ ∃ j, i ≤ j ∧ j < i + r ∧ zlow U sg r i = nI j ∧ ¬ U j * sg ≤ 0
  | 0, _ => Or.inl rfl
  | r + 1, i => by
    unfold zlow
    by_cases h : U i * sg ≤ 0
    · rw [if_pos h]
      exact (zlow_j U sg r (i + 1)).imp id (fun ⟨j, a, b, c⟩ => ⟨j, by omega, by omega, c⟩)
    · rw [if_neg h]
      exact Or.inr ⟨i, Nat.le_refl i, by omega, rfl, h⟩
def zam (x y : Int32) : Int32 := if y < -x then y else -x
theorem five_lt {i : Nat} (hi : i ≤ 5) (h : ¬ (5 : Int32) ≤ nI i) : i < 5 := by
  rcases Nat.lt_or_ge i 5 with q | q
  · exact q
  · exact absurd (by rw [show i = 5 by omega]; decide) h
theorem five_eq {i : Nat} (hi : i ≤ 5) (h : (5 : Int32) ≤ nI i) : i = 5 := by
  rcases Nat.lt_or_ge i 5 with q | q
  · exact absurd h (nI_ge (b := 5) q (by decide))
  · omega
set_option maxHeartbeats 4000000 in
set_option maxRecDepth 100000 in
theorem c_balanceOf {l : Launch} {g : gG} {M : Mp} {a d u : Nat} {sh : Int32} {orow : Nat → Option Nat} {dr : Nat → Nat} {D : Nat → Nat → Int32} {j : Nat} (h0 : M a = some (eO 2 [.int sh, .ref d, .ref u])) (h1 : M d = some (eQ g 4 5 orow)) (hrow : ∀ i, i < 5 → orow i = some (dr i)) (hD : ∀ i, i < 5 → M (dr i) = some (eI g 5 (D i))) (hj : j < 5) : Met l yX1_balanceOf (WY yX1_balanceOf cX1_balanceOf 4 (some .int)) { frames := 0, cells := 0, slots := 0, locals := 0 } (Wc g M [.ref a, .int (nI j)]) (rdQ (some (.int (zbal D j 5)))) 0 0 fr0 := by
  refine ofM (by decide +kernel) (Nat.le_of_ble_eq_true rfl) (fun p e s m args below meth c ls C hr hlocks hin hE hH hl ea => ?_)
  have hl : lv_has ls 4 [(0, .ref a), (1, .int (nI j))] := hl
  have hS : va_S (gA g) s.heap s.heap [] := va_S.rf
  refine lv_iconst (v := 0) C.1 C.2.1 dX1_balanceOf_0 rfl ?_
  refine lv_istore_n (lv' := [(2, .int 0), (0, .ref a), (1, .int (nI j))]) C.1 C.2.1 dX1_balanceOf_1 rfl hl (by decide) rfl (fun ls hl => ?_)
  refine lv_iconst (v := 0) C.1 C.2.1 dX1_balanceOf_2 rfl ?_
  refine lv_istore_n (lv' := [(3, .int 0), (2, .int 0), (0, .ref a), (1, .int (nI j))]) C.1 C.2.1 dX1_balanceOf_3 rfl hl (by decide) rfl (fun ls hl => ?_)
  have loop4 : ∀ (fu : Nat) (i : Nat) (b2 : Int32), (i ≤ 5) → (5 < i + fu) → (b2 = zbal D j i) →  ∀ (ls : Array Slot), lv_has ls 4 [(0, .ref a), (1, .int (nI j)), (2, .int b2), (3, .int (nI i))] → W p l e { frames := 0, cells := 0, slots := 0, locals := 0 } s m args below meth c s.heap [] 0 0 (MQ below (rdQ (some (.int (zbal D j 5)))) args s 0 0 fr0) (F0 m 4 ls []) := by
    intro fu
    induction fu with
    | zero => intro i b2 hi hfu hb; exact absurd hfu (by omega)
    | succ fu ih =>
      intro i b2 hi hfu hb ls hl
      refine lv_iload_n C.1 C.2.1 dX1_balanceOf_4 rfl (lv_at hl 3 rfl) ?_
      refine lv_iconst (v := 5) C.1 C.2.1 dX1_balanceOf_5 rfl ?_
      refine lv_icmp_ge (tgt := 35) C.1 C.2.1 dX1_balanceOf_6 (by decide) (fun c6 => ?_) (fun c6 => ?_)
      · refine lv_iload_n C.1 C.2.1 dX1_balanceOf_35 rfl (lv_at hl 2 rfl) ?_
        exact rd_iret C hr hlocks (by rw [hb, five_eq hi c6]) dX1_balanceOf_36
      · have hi5 : i < 5 := five_lt hi c6
        refine lv_iload_n C.1 C.2.1 dX1_balanceOf_9 rfl (lv_at hl 2 rfl) ?_
        refine lv_aload_n C.1 C.2.1 dX1_balanceOf_10 rfl (lv_at hl 0 rfl) ?_
        refine mget C hE hH fl_81 h0 rfl dX1_balanceOf_11 ?_
        refine lv_iload_n C.1 C.2.1 dX1_balanceOf_14 rfl (lv_at hl 3 rfl) ?_
        refine maldq (k := 4) (y := (dr i)) C hE hH h1 rfl rfl (vp_in_nI hi5 (by decide)) (by rw [nI_clamp (by omega)]; exact hrow i hi5) dX1_balanceOf_15 ?_
        refine lv_iload_n C.1 C.2.1 dX1_balanceOf_16 rfl (lv_at hl 1 rfl) ?_
        refine mald C hE hH (hD i hi5) (vp_in_nI hj (by decide)) dX1_balanceOf_17 ?_
        rw [nI_clamp (show j < 2 ^ 31 by omega)]
        refine lv_aload_n C.1 C.2.1 dX1_balanceOf_18 rfl (lv_at hl 0 rfl) ?_
        refine mget C hE hH fl_81 h0 rfl dX1_balanceOf_19 ?_
        refine lv_iload_n C.1 C.2.1 dX1_balanceOf_22 rfl (lv_at hl 1 rfl) ?_
        refine maldq (k := 4) (y := (dr j)) C hE hH h1 rfl rfl (vp_in_nI hj (by decide)) (by rw [nI_clamp (by omega)]; exact hrow j hj) dX1_balanceOf_23 ?_
        refine lv_iload_n C.1 C.2.1 dX1_balanceOf_24 rfl (lv_at hl 3 rfl) ?_
        refine mald C hE hH (hD j hj) (vp_in_nI hi5 (by decide)) dX1_balanceOf_25 ?_
        rw [nI_clamp (show i < 2 ^ 31 by omega)]
        refine lv_isub C.1 C.2.1 dX1_balanceOf_26 ?_
        refine lv_iadd C.1 C.2.1 dX1_balanceOf_27 ?_
        refine lv_istore_n (lv' := [(2, .int (b2 + ((D i j) - (D j i)))), (0, .ref a), (1, .int (nI j)), (3, .int (nI i))]) C.1 C.2.1 dX1_balanceOf_28 rfl hl (by decide) rfl (fun ls hl => ?_)
        refine lv_iinc (v := nI (i + 1)) (lv' := [(3, .int (nI (i + 1))), (2, .int (b2 + ((D i j) - (D j i)))), (0, .ref a), (1, .int (nI j))]) C.1 C.2.1 dX1_balanceOf_29 hl (k := 3) rfl (nI_1 i) (by decide) rfl (fun ls hl => ?_)
        refine lv_goto (tgt := 4) C.1 C.2.1 dX1_balanceOf_32 (by decide) ?_
        exact ih (i + 1) (b2 + ((D i j) - (D j i))) (by omega) (by omega) (by rw [zbal, ← hb]) ls (lv_sub hl [2, 3, 1, 0] rfl)
  exact loop4 (6) 0 0 (by omega) (by omega) (rfl) _ (lv_sub hl [2, 3, 1, 0] rfl)
set_option maxHeartbeats 4000000 in
set_option maxRecDepth 100000 in
theorem c_lowest {l : Launch} {g : gG} {M : Mp} {a d u : Nat} {sh : Int32} {U : Nat → Int32} (h0 : M a = some (eO 2 [.int sh, .ref d, .ref u])) (h1 : M u = some (eI g 5 U)) (sg : Int32) : Met l yX1_lowest (WY yX1_lowest cX1_lowest 3 (some .int)) { frames := 0, cells := 0, slots := 0, locals := 0 } (Wc g M [.ref a, .int sg]) (rdQ (some (.int (zlow U sg 5 0)))) 0 0 fr0 := by
  refine ofM (by decide +kernel) (Nat.le_of_ble_eq_true rfl) (fun p e s m args below meth c ls C hr hlocks hin hE hH hl ea => ?_)
  have hl : lv_has ls 3 [(0, .ref a), (1, .int sg)] := hl
  have hS : va_S (gA g) s.heap s.heap [] := va_S.rf
  refine lv_iconst (v := 0) C.1 C.2.1 dX1_lowest_0 rfl ?_
  refine lv_istore_n (lv' := [(2, .int 0), (0, .ref a), (1, .int sg)]) C.1 C.2.1 dX1_lowest_1 rfl hl (by decide) rfl (fun ls hl => ?_)
  have loop2 : ∀ (fu : Nat) (i r : Nat), (i ≤ 5) → (i + r = 5) → (5 < i + fu) → (zlow U sg 5 0 = zlow U sg r i) →  ∀ (ls : Array Slot), lv_has ls 3 [(0, .ref a), (1, .int sg), (2, .int (nI i))] → W p l e { frames := 0, cells := 0, slots := 0, locals := 0 } s m args below meth c s.heap [] 0 0 (MQ below (rdQ (some (.int (zlow U sg 5 0)))) args s 0 0 fr0) (F0 m 2 ls []) := by
    intro fu
    induction fu with
    | zero => intro i r hi hir hfu hz; exact absurd hfu (by omega)
    | succ fu ih =>
      intro i r hi hir hfu hz ls hl
      refine lv_iload_n C.1 C.2.1 dX1_lowest_2 rfl (lv_at hl 2 rfl) ?_
      refine lv_iconst (v := 5) C.1 C.2.1 dX1_lowest_3 rfl ?_
      refine lv_icmp_ge (tgt := 26) C.1 C.2.1 dX1_lowest_4 (by decide) (fun c4 => ?_) (fun c4 => ?_)
      · refine lv_iconst (v := -1) C.1 C.2.1 dX1_lowest_26 rfl ?_
        exact rd_iret C hr hlocks (by rw [hz, show r = 0 by have := five_eq hi c4; omega]; rfl) dX1_lowest_27
      · have hi5 : i < 5 := five_lt hi c4
        obtain ⟨r9, rfl⟩ : ∃ z, r = z + 1 := ⟨r - 1, by omega⟩
        refine lv_aload_n C.1 C.2.1 dX1_lowest_7 rfl (lv_at hl 0 rfl) ?_
        refine mget C hE hH fl_83 h0 rfl dX1_lowest_8 ?_
        refine lv_iload_n C.1 C.2.1 dX1_lowest_11 rfl (lv_at hl 2 rfl) ?_
        refine mald C hE hH h1 (vp_in_nI hi5 (by decide)) dX1_lowest_12 ?_
        rw [nI_clamp (show i < 2 ^ 31 by omega)]
        refine lv_iload_n C.1 C.2.1 dX1_lowest_13 rfl (lv_at hl 1 rfl) ?_
        refine lv_imul C.1 C.2.1 dX1_lowest_14 ?_
        refine lv_if_le (tgt := 20) C.1 C.2.1 dX1_lowest_15 (by decide) (fun c15 => ?_) (fun c15 => ?_)
        · refine lv_iinc (v := nI (i + 1)) (lv' := [(2, .int (nI (i + 1))), (0, .ref a), (1, .int sg)]) C.1 C.2.1 dX1_lowest_20 hl (k := 2) rfl (nI_1 i) (by decide) rfl (fun ls hl => ?_)
          refine lv_goto (tgt := 2) C.1 C.2.1 dX1_lowest_23 (by decide) ?_
          exact ih (i + 1) r9 (by omega) (by omega) (by omega) (by rw [hz, zlow, if_pos c15]) ls (lv_sub hl [1, 2, 0] rfl)
        · refine lv_iload_n C.1 C.2.1 dX1_lowest_18 rfl (lv_at hl 2 rfl) ?_
          exact rd_iret C hr hlocks (by rw [hz, zlow, if_neg c15]) dX1_lowest_19
  exact loop2 (6) 0 5 (by omega) (by omega) (by omega) (rfl) _ (lv_sub hl [1, 2, 0] rfl)
def zfound (U : Nat → Int32) : Bool := decide (¬ zlow U (-1) 5 0 = -1 ∧ ¬ zlow U 1 5 0 = -1)
/-- what one step of settling does -/
def zstepD (U : Nat → Int32) (D : Nat → Nat → Int32) (j k : Nat) : Nat → Nat → Int32 := fun i => if i = j then upd (D j) k (zam (U j) (U k)) else D i
def zstepU (U : Nat → Int32) (j k : Nat) : Nat → Int32 := upd (upd U j (U j + zam (U j) (U k))) k (upd U j (U j + zam (U j) (U k)) k - zam (U j) (U k))
theorem zlow_5 {U : Nat → Int32} {sg : Int32} (h : ¬ zlow U sg 5 0 = -1) : ∃ j, j < 5 ∧ zlow U sg 5 0 = nI j ∧ ¬ U j * sg ≤ 0 := by
  rcases zlow_j U sg 5 0 with q | ⟨j, -, a, b, c⟩
  · exact absurd q h
  · exact ⟨j, by omega, b, c⟩
theorem nI_nm1 {j : Nat} (h : j < 5) : ¬ nI j = -1 := by
  rcases (show j = 0 ∨ j = 1 ∨ j = 2 ∨ j = 3 ∨ j = 4 by omega) with rfl | rfl | rfl | rfl | rfl <;> decide
set_option maxHeartbeats 4000000 in
set_option maxRecDepth 100000 in
theorem c_settleLowest {l : Launch} {g : gG} {M : Mp} {a d u : Nat} {sh : Int32} {orow : Nat → Option Nat} {dr : Nat → Nat} {D : Nat → Nat → Int32} {U : Nat → Int32} (h0 : M a = some (eO 2 [.int sh, .ref d, .ref u])) (h1 : M d = some (eQ g 4 5 orow)) (h2 : M u = some (eI g 5 U)) (hrow : ∀ i, i < 5 → orow i = some (dr i)) (hD : ∀ i, i < 5 → M (dr i) = some (eI g 5 (D i))) (hun : ∀ i, i < 5 → dr i ≠ u) : Met l yX1_settleLowest (WY yX1_settleLowest cX1_settleLowest 4 (some .boolean)) { frames := 1, cells := 0, slots := 0, locals := 22 } (Wc g M [.ref a]) (wrQ (S := Unit) g (fun u_ => (some (.int (bI (zfound U))))) (fun u_ M_ => (zfound U = false ∧ M_ = M) ∨ (zfound U = true ∧ ∃ j k, j < 5 ∧ k < 5 ∧ zlow U (-1) 5 0 = nI j ∧ zlow U 1 5 0 = nI k ∧ ¬ U j * -1 ≤ 0 ∧ ¬ U k * 1 ≤ 0 ∧ M_ = mu (mu M (dr j) (eI g 5 (upd (D j) k (zam (U j) (U k))))) u (eI g 5 (zstepU U j k))))) 0 0 (gA g) := by
  refine ofM (by decide +kernel) (Nat.le_of_ble_eq_true rfl) (fun p e s m args below meth c ls C hr hlocks hin hE hH hl ea => ?_)
  have hl : lv_has ls 4 [(0, .ref a)] := hl
  have hS : va_S (gA g) s.heap s.heap [] := va_S.rf
  refine lv_aload_n C.1 C.2.1 dX1_settleLowest_0 rfl (lv_at hl 0 rfl) ?_
  refine lv_iconst (v := -1) C.1 C.2.1 dX1_settleLowest_1 rfl ?_
  refine rd_go1 (runV C hE hH hS (c_lowest h0 h2 (-1)) mv_X1_lowest wm_546 h0 rfl rfl hl.1 dX1_settleLowest_2 rfl rfl ⟨rfl, rfl⟩ ⟨Nat.le_of_ble_eq_true rfl, Nat.le_of_ble_eq_true rfl⟩ (Nat.le_of_ble_eq_true rfl) ⟨Nat.le_of_ble_eq_true rfl, Nat.le_of_ble_eq_true rfl⟩) ?_
  refine lv_topi (fun x1 ex1 => ?_)
  refine lv_istore_n (lv' := [(1, .int x1), (0, .ref a)]) C.1 C.2.1 dX1_settleLowest_5 rfl hl (by decide) rfl (fun ls hl => ?_)
  refine lv_aload_n C.1 C.2.1 dX1_settleLowest_6 rfl (lv_at hl 1 rfl) ?_
  refine lv_iconst (v := 1) C.1 C.2.1 dX1_settleLowest_7 rfl ?_
  refine rd_go1 (runV C hE hH hS (c_lowest h0 h2 1) mv_X1_lowest wm_546 h0 rfl rfl hl.1 dX1_settleLowest_8 rfl rfl ⟨rfl, rfl⟩ ⟨Nat.le_of_ble_eq_true rfl, Nat.le_of_ble_eq_true rfl⟩ (Nat.le_of_ble_eq_true rfl) ⟨Nat.le_of_ble_eq_true rfl, Nat.le_of_ble_eq_true rfl⟩) ?_
  refine lv_topi (fun x2 ex2 => ?_)
  refine lv_istore_n (lv' := [(2, .int x2), (1, .int x1), (0, .ref a)]) C.1 C.2.1 dX1_settleLowest_11 rfl hl (by decide) rfl (fun ls hl => ?_)
  refine lv_iload_n C.1 C.2.1 dX1_settleLowest_12 rfl (lv_at hl 1 rfl) ?_
  refine lv_iconst (v := -1) C.1 C.2.1 dX1_settleLowest_13 rfl ?_
  refine lv_icmp_eq (tgt := 22) C.1 C.2.1 dX1_settleLowest_14 (by decide) (fun c14 => ?_) (fun c14 => ?_)
  · refine lv_iconst (v := 0) C.1 C.2.1 dX1_settleLowest_22 rfl ?_
    exact wr_zret () C hr hlocks (rfl) hH hS (congrArg (fun z => some (Value.int z)) (by rw [show zfound U = false from decide_eq_false (fun z => z.1 (by rw [← ex1]; exact c14))]; rfl)) (Or.inl ⟨by unfold zfound; exact decide_eq_false (fun z => z.1 (by rw [← ex1]; exact c14)), rfl⟩) (by decide) (by decide) dX1_settleLowest_23
  · refine lv_iload_n C.1 C.2.1 dX1_settleLowest_17 rfl (lv_at hl 0 rfl) ?_
    refine lv_iconst (v := -1) C.1 C.2.1 dX1_settleLowest_18 rfl ?_
    refine lv_icmp_ne (tgt := 24) C.1 C.2.1 dX1_settleLowest_19 (by decide) (fun c19 => ?_) (fun c19 => ?_)
    · obtain ⟨j, hj, ej, nj⟩ := zlow_5 (U := U) (sg := -1) (by rw [← ex1]; exact c14)
      obtain ⟨k, hk, ek, nk⟩ := zlow_5 (U := U) (sg := 1) (by rw [← ex2]; exact c19)
      obtain rfl : x1 = nI j := ex1.trans ej
      obtain rfl : x2 = nI k := ex2.trans ek
      refine lv_aload_n C.1 C.2.1 dX1_settleLowest_24 rfl (lv_at hl 2 rfl) ?_
      refine mget C hE hH fl_83 h0 rfl dX1_settleLowest_25 ?_
      refine lv_iload_n C.1 C.2.1 dX1_settleLowest_28 rfl (lv_at hl 1 rfl) ?_
      refine mald C hE hH h2 (vp_in_nI hj (by decide)) dX1_settleLowest_29 ?_
      rw [nI_clamp (show j < 2 ^ 31 by omega)]
      refine lv_ineg C.1 C.2.1 dX1_settleLowest_30 ?_
      refine lv_aload_n C.1 C.2.1 dX1_settleLowest_31 rfl (lv_at hl 2 rfl) ?_
      refine mget C hE hH fl_83 h0 rfl dX1_settleLowest_32 ?_
      refine lv_iload_n C.1 C.2.1 dX1_settleLowest_35 rfl (lv_at hl 0 rfl) ?_
      refine mald C hE hH h2 (vp_in_nI hk (by decide)) dX1_settleLowest_36 ?_
      rw [nI_clamp (show k < 2 ^ 31 by omega)]
      refine va_mmin C.1 C.2.1 (C.2.2.1.trans hl.1.symm) C.2.2.2.1 (C.2.2.2.2 _ wm_550) (C.2.2.2.2 _ wm_306) (C.2.2.2.2 _ wm_25) (C.2.2.2.2 _ wm_307) (Nat.le_of_ble_eq_true rfl) (Nat.le_of_ble_eq_true rfl) (by decide) (by decide) dX1_settleLowest_37 ?_
      refine lv_topi (fun x3 ex3 => ?_)
      refine lv_istore_n (lv' := [(3, .int x3), (2, .int (nI k)), (1, .int (nI j)), (0, .ref a)]) C.1 C.2.1 dX1_settleLowest_40 rfl hl (by decide) rfl (fun ls hl => ?_)
      obtain rfl : x3 = zam (U j) (U k) := ex3
      refine lv_aload_n C.1 C.2.1 dX1_settleLowest_41 rfl (lv_at hl 3 rfl) ?_
      refine mget C hE hH fl_81 h0 rfl dX1_settleLowest_42 ?_
      refine lv_iload_n C.1 C.2.1 dX1_settleLowest_45 rfl (lv_at hl 2 rfl) ?_
      refine maldq (k := 4) (y := (dr j)) C hE hH h1 rfl rfl (vp_in_nI hj (by decide)) (by rw [nI_clamp (by omega)]; exact hrow j hj) dX1_settleLowest_46 ?_
      refine lv_iload_n C.1 C.2.1 dX1_settleLowest_47 rfl (lv_at hl 1 rfl) ?_
      refine lv_iload_n C.1 C.2.1 dX1_settleLowest_48 rfl (lv_at hl 0 rfl) ?_
      refine mast C hE hH hS (hD j hj) (vp_in_nI hk (by decide)) dX1_settleLowest_49 (fun H locs hH hS => ?_)
      rw [nI_clamp (show k < 2 ^ 31 by omega)] at hH
      obtain ⟨M4, hM4⟩ : ∃ z, z = mu M (dr j) (eI g 5 (upd (D j) k (zam (U j) (U k)))) := ⟨_, rfl⟩
      have hH : Hw g M4 H := by rw [hM4]; exact hH
      have f5 : M4 (dr j) = some (eI g 5 (upd (D j) k (zam (U j) (U k)))) := by rw [hM4]; exact mu_s
      have f6 : M4 a = some (eO 2 [.int sh, .ref d, .ref u]) := by rw [hM4]; exact (mu_n (m_ne h0 (hD j hj) (by first | (intro z; cases z; done) | exact ne_IQ | exact ne_IQ.symm | exact ne_LI | exact ne_LI.symm | (intro z; cases z; omega) | (intro z; cases z; contradiction) | exact (fun z => by cases z)))).trans h0
      have f7 : M4 d = some (eQ g 4 5 orow) := by rw [hM4]; exact (mu_n (m_ne h1 (hD j hj) (by first | (intro z; cases z; done) | exact ne_IQ | exact ne_IQ.symm | exact ne_LI | exact ne_LI.symm | (intro z; cases z; omega) | (intro z; cases z; contradiction) | exact (fun z => by cases z)))).trans h1
      have f8 : M4 u = some (eI g 5 U) := by rw [hM4]; exact (mu_n (hun j hj).symm).trans h2
      refine lv_aload_n C.1 C.2.1 dX1_settleLowest_50 rfl (lv_at hl 3 rfl) ?_
      refine mget C hE hH fl_83 f6 rfl dX1_settleLowest_51 ?_
      refine lv_iload_n C.1 C.2.1 dX1_settleLowest_54 rfl (lv_at hl 2 rfl) ?_
      refine lv_dup2_11 C.1 C.2.1 dX1_settleLowest_55 rfl rfl ?_
      refine mald C hE hH f8 (vp_in_nI hj (by decide)) dX1_settleLowest_56 ?_
      rw [nI_clamp (show j < 2 ^ 31 by omega)]
      refine lv_iload_n C.1 C.2.1 dX1_settleLowest_57 rfl (lv_at hl 0 rfl) ?_
      refine lv_iadd C.1 C.2.1 dX1_settleLowest_58 ?_
      refine mast C hE hH hS f8 (vp_in_nI hj (by decide)) dX1_settleLowest_59 (fun H locs hH hS => ?_)
      rw [nI_clamp (show j < 2 ^ 31 by omega)] at hH
      obtain ⟨M9, hM9⟩ : ∃ z, z = mu M4 u (eI g 5 (upd U j ((U j) + (zam (U j) (U k))))) := ⟨_, rfl⟩
      have hH : Hw g M9 H := by rw [hM9]; exact hH
      have f10 : M9 u = some (eI g 5 (upd U j ((U j) + (zam (U j) (U k))))) := by rw [hM9]; exact mu_s
      have f11 : M9 a = some (eO 2 [.int sh, .ref d, .ref u]) := by rw [hM9]; exact (mu_n (m_ne f6 f8 (by first | (intro z; cases z; done) | exact ne_IQ | exact ne_IQ.symm | exact ne_LI | exact ne_LI.symm | (intro z; cases z; omega) | (intro z; cases z; contradiction) | exact (fun z => by cases z)))).trans f6
      have f12 : M9 d = some (eQ g 4 5 orow) := by rw [hM9]; exact (mu_n (m_ne f7 f8 (by first | (intro z; cases z; done) | exact ne_IQ | exact ne_IQ.symm | exact ne_LI | exact ne_LI.symm | (intro z; cases z; omega) | (intro z; cases z; contradiction) | exact (fun z => by cases z)))).trans f7
      have f13 : M9 (dr j) = some (eI g 5 (upd (D j) k (zam (U j) (U k)))) := by rw [hM9]; exact (mu_n (hun j hj)).trans f5
      refine lv_aload_n C.1 C.2.1 dX1_settleLowest_60 rfl (lv_at hl 3 rfl) ?_
      refine mget C hE hH fl_83 f11 rfl dX1_settleLowest_61 ?_
      refine lv_iload_n C.1 C.2.1 dX1_settleLowest_64 rfl (lv_at hl 1 rfl) ?_
      refine lv_dup2_11 C.1 C.2.1 dX1_settleLowest_65 rfl rfl ?_
      refine mald C hE hH f10 (vp_in_nI hk (by decide)) dX1_settleLowest_66 ?_
      rw [nI_clamp (show k < 2 ^ 31 by omega)]
      refine lv_iload_n C.1 C.2.1 dX1_settleLowest_67 rfl (lv_at hl 0 rfl) ?_
      refine lv_isub C.1 C.2.1 dX1_settleLowest_68 ?_
      refine mast C hE hH hS f10 (vp_in_nI hk (by decide)) dX1_settleLowest_69 (fun H locs hH hS => ?_)
      rw [nI_clamp (show k < 2 ^ 31 by omega)] at hH
      obtain ⟨M14, hM14⟩ : ∃ z, z = mu M9 u (eI g 5 (upd (upd U j ((U j) + (zam (U j) (U k)))) k (((upd U j ((U j) + (zam (U j) (U k)))) k) - (zam (U j) (U k))))) := ⟨_, rfl⟩
      have hH : Hw g M14 H := by rw [hM14]; exact hH
      have f15 : M14 u = some (eI g 5 (upd (upd U j ((U j) + (zam (U j) (U k)))) k (((upd U j ((U j) + (zam (U j) (U k)))) k) - (zam (U j) (U k))))) := by rw [hM14]; exact mu_s
      have f16 : M14 a = some (eO 2 [.int sh, .ref d, .ref u]) := by rw [hM14]; exact (mu_n (m_ne f11 f10 (by first | (intro z; cases z; done) | exact ne_IQ | exact ne_IQ.symm | exact ne_LI | exact ne_LI.symm | (intro z; cases z; omega) | (intro z; cases z; contradiction) | exact (fun z => by cases z)))).trans f11
      have f17 : M14 d = some (eQ g 4 5 orow) := by rw [hM14]; exact (mu_n (m_ne f12 f10 (by first | (intro z; cases z; done) | exact ne_IQ | exact ne_IQ.symm | exact ne_LI | exact ne_LI.symm | (intro z; cases z; omega) | (intro z; cases z; contradiction) | exact (fun z => by cases z)))).trans f12
      have f18 : M14 (dr j) = some (eI g 5 (upd (D j) k (zam (U j) (U k)))) := by rw [hM14]; exact (mu_n (hun j hj)).trans f13
      refine lv_iconst (v := 1) C.1 C.2.1 dX1_settleLowest_70 rfl ?_
      exact wr_zret () C hr hlocks (rfl) hH hS (congrArg (fun z => some (Value.int z)) (by rw [show zfound U = true from decide_eq_true ⟨by rw [ej]; exact fun z => absurd z (nI_nm1 hj), by rw [ek]; exact fun z => absurd z (nI_nm1 hk)⟩]; rfl)) (Or.inr ⟨by unfold zfound; exact decide_eq_true ⟨by rw [ej]; exact fun z => absurd z (nI_nm1 hj), by rw [ek]; exact fun z => absurd z (nI_nm1 hk)⟩, j, k, hj, hk, ej, ek, nj, nk, by rw [hM14, hM9, hM4, mu_mu]; rfl⟩) (by decide) (by decide) dX1_settleLowest_71
    · refine lv_iconst (v := 0) C.1 C.2.1 dX1_settleLowest_22 rfl ?_
      exact wr_zret () C hr hlocks (rfl) hH hS (congrArg (fun z => some (Value.int z)) (by rw [show zfound U = false from decide_eq_false (fun z => z.2 (by rw [← ex2]; exact c19))]; rfl)) (Or.inl ⟨by unfold zfound; exact decide_eq_false (fun z => z.2 (by rw [← ex2]; exact c19)), rfl⟩) (by decide) (by decide) dX1_settleLowest_23
theorem mu_id {M : Mp} {a : Nat} {e : va_E} (h : M a = some e) : mu M a e = M := funext fun b => by
  unfold mu; by_cases q : b = a
  · rw [if_pos q, q, h]
  · rw [if_neg q]
theorem n_lt {i n : Nat} (hi : i ≤ n) (hn : n < 2 ^ 31) (h : ¬ nI n ≤ nI i) : i < n := by
  rcases Nat.lt_or_ge i n with q | q
  · exact q
  · exact absurd (nI_le q (by omega)) h
theorem n_eq {i n : Nat} (hi : i ≤ n) (hn : n < 2 ^ 31) (h : nI n ≤ nI i) : i = n := by
  rcases Nat.lt_or_ge i n with q | q
  · exact absurd h (nI_ge q hn)
  · omega
set_option maxHeartbeats 4000000 in
set_option maxRecDepth 100000 in
theorem c_fill {l : Launch} {g : gG} {M : Mp} {q nn : Nat} {f : Nat → Int32} {v : Int32} (h0 : M q = some (eI g nn f)) (hn : nn < 2 ^ 31) : Met l yJ7_fill_53178 (WY yJ7_fill_53178 cJ7_fill_53178 4 none) { frames := 0, cells := 0, slots := 0, locals := 0 } (Wc g M [.ref q, .int v]) (wrQ (S := Nat → Int32) g (fun u_ => none) (fun u_ M_ => M_ = mu M q (eI g nn u_) ∧ ∀ k, k < nn → u_ k = v)) 0 0 (gA g) := by
  refine ofM (by decide +kernel) (Nat.le_of_ble_eq_true rfl) (fun p e s m args below meth c ls C hr hlocks hin hE hH hl ea => ?_)
  have hl : lv_has ls 4 [(0, .ref q), (1, .int v)] := hl
  have hS : va_S (gA g) s.heap s.heap [] := va_S.rf
  refine lv_iconst (v := 0) C.1 C.2.1 dJ7_fill_53178_0 rfl ?_
  refine lv_istore_n (lv' := [(2, .int 0), (0, .ref q), (1, .int v)]) C.1 C.2.1 dJ7_fill_53178_1 rfl hl (by decide) rfl (fun ls hl => ?_)
  refine lv_aload_n C.1 C.2.1 dJ7_fill_53178_2 rfl (lv_at hl 1 rfl) ?_
  refine malen (k := 0) (v := nI nn) C hE hH h0 rfl rfl dJ7_fill_53178_3 ?_
  refine lv_istore_n (lv' := [(3, .int (nI nn)), (2, .int 0), (0, .ref q), (1, .int v)]) C.1 C.2.1 dJ7_fill_53178_4 rfl hl (by decide) rfl (fun ls hl => ?_)
  have loop5 : ∀ (fu : Nat) (M9 : Mp) (i : Nat) (f9 : Nat → Int32), (i ≤ nn) → (nn < i + fu) → (M9 = mu M q (eI g nn f9)) → (∀ k, k < i → f9 k = v) →  ∀ (H : Heap) (locs : List Loc), Hw g M9 H → va_S (gA g) s.heap H locs → ∀ (ls : Array Slot), lv_has ls 4 [(0, .ref q), (1, .int v), (2, .int (nI i)), (3, .int (nI nn))] → W p l e { frames := 0, cells := 0, slots := 0, locals := 0 } s m args below meth c H locs 0 0 (MQ below (wrQ (S := Nat → Int32) g (fun u_ => none) (fun u_ M_ => M_ = mu M q (eI g nn u_) ∧ ∀ k, k < nn → u_ k = v)) args s 0 0 (gA g)) (F0 m 5 ls []) := by
    intro fu
    induction fu with
    | zero => intro M9 i f9 hi hfu hM9 hf9; exact absurd hfu (by omega)
    | succ fu ih =>
      intro M9 i f9 hi hfu hM9 hf9 H locs hH hS ls hl
      have hq9 : M9 q = some (eI g nn f9) := by rw [hM9]; exact mu_s
      refine lv_iload_n C.1 C.2.1 dJ7_fill_53178_5 rfl (lv_at hl 2 rfl) ?_
      refine lv_iload_n C.1 C.2.1 dJ7_fill_53178_6 rfl (lv_at hl 3 rfl) ?_
      refine lv_icmp_ge (tgt := 20) C.1 C.2.1 dJ7_fill_53178_7 (by decide) (fun c7 => ?_) (fun c7 => ?_)
      · exact wr_vret f9 C hr hlocks hH hS rfl (⟨hM9, fun k hk => hf9 k (by rw [n_eq hi hn c7]; exact hk)⟩) (by decide) (by decide) dJ7_fill_53178_20
      · have hi5 : i < nn := n_lt hi hn c7
        refine lv_aload_n C.1 C.2.1 dJ7_fill_53178_10 rfl (lv_at hl 0 rfl) ?_
        refine lv_iload_n C.1 C.2.1 dJ7_fill_53178_11 rfl (lv_at hl 2 rfl) ?_
        refine lv_iload_n C.1 C.2.1 dJ7_fill_53178_12 rfl (lv_at hl 1 rfl) ?_
        refine mast C hE hH hS hq9 (vp_in_nI hi5 hn) dJ7_fill_53178_13 (fun H locs hH hS => ?_)
        rw [nI_clamp (show i < 2 ^ 31 by omega)] at hH
        obtain ⟨M1, hM1⟩ : ∃ z, z = mu M9 q (eI g nn (upd f9 i v)) := ⟨_, rfl⟩
        have hH : Hw g M1 H := by rw [hM1]; exact hH
        have f2 : M1 q = some (eI g nn (upd f9 i v)) := by rw [hM1]; exact mu_s
        refine lv_iinc (v := nI (i + 1)) (lv' := [(2, .int (nI (i + 1))), (0, .ref q), (1, .int v), (3, .int (nI nn))]) C.1 C.2.1 dJ7_fill_53178_14 hl (k := 2) rfl (nI_1 i) (by decide) rfl (fun ls hl => ?_)
        refine lv_goto (tgt := 5) C.1 C.2.1 dJ7_fill_53178_17 (by decide) ?_
        exact ih M1 (i + 1) (upd f9 i v) (by omega) (by omega) (by rw [hM1, hM9, mu_mu]) (fun k hk => by unfold upd; by_cases z : k = i <;> simp only [z, if_pos, if_neg, not_false_eq_true]; exact hf9 k (by omega)) H locs hH hS ls (lv_sub hl [1, 2, 0, 3] rfl)
  exact loop5 (nn + 1) M 0 f (Nat.zero_le _) (by omega) ((mu_id h0).symm) (fun k hk => absurd hk (Nat.not_lt_zero k)) _ _ hH hS _ (lv_sub hl [2, 3, 1, 0] rfl)
def zrun : Nat → (Nat → Nat → Int32) → (Nat → Int32) → Nat × (Nat → Nat → Int32) × (Nat → Int32)
  | 0, D, U => (0, D, U)
  | r + 1, D, U => if zfound U = true then ((zrun r (zstepD U D (zlow U (-1) 5 0).toNatClampNeg (zlow U 1 5 0).toNatClampNeg) (zstepU U (zlow U (-1) 5 0).toNatClampNeg (zlow U 1 5 0).toNatClampNeg)).1 + 1, (zrun r (zstepD U D (zlow U (-1) 5 0).toNatClampNeg (zlow U 1 5 0).toNatClampNeg) (zstepU U (zlow U (-1) 5 0).toNatClampNeg (zlow U 1 5 0).toNatClampNeg)).2) else (0, D, U)
set_option maxHeartbeats 4000000 in
set_option maxRecDepth 100000 in
theorem c_settle {l : Launch} {g : gG} {M : Mp} {a d u : Nat} {sh : Int32} {orow : Nat → Option Nat} {dr : Nat → Nat} {D : Nat → Nat → Int32} {U : Nat → Int32} (h0 : M a = some (eO 2 [.int sh, .ref d, .ref u])) (h1 : M d = some (eQ g 4 5 orow)) (h2 : M u = some (eI g 5 U)) (hrow : ∀ i, i < 5 → orow i = some (dr i)) (hD : ∀ i, i < 5 → M (dr i) = some (eI g 5 (D i))) (hun : ∀ i, i < 5 → dr i ≠ u) (hinj : ∀ i j, i < 5 → j < 5 → dr i = dr j → i = j) : Met l yX1_settle (WY yX1_settle cX1_settle 2 (some .int)) { frames := 2, cells := 0, slots := 0, locals := 45 } (Wc g M [.ref a]) (wrQ (S := Nat) g (fun u_ => (some (.int (nI u_)))) (fun u_ M_ => ∃ D1 U1, (∀ j k, j < 5 → k < 5 → D1 j k = 0) ∧ (∀ j, j < 5 → U1 j = zbal D j 5) ∧ u_ = (zrun 5 D1 U1).1 ∧ M_ u = some (eI g 5 (zrun 5 D1 U1).2.2) ∧ (∀ i, i < 5 → M_ (dr i) = some (eI g 5 ((zrun 5 D1 U1).2.1 i))) ∧ ∀ b, b ≠ u → (∀ j, j < 5 → b ≠ dr j) → M_ b = M b)) 0 0 (gA g) := by
  refine ofM (by decide +kernel) (Nat.le_of_ble_eq_true rfl) (fun p e s m args below meth c ls C hr hlocks hin hE hH hl ea => ?_)
  have hl : lv_has ls 2 [(0, .ref a)] := hl
  have hS : va_S (gA g) s.heap s.heap [] := va_S.rf
  have hau : a ≠ u := m_ne h0 h2 (by intro z; cases z)
  have had : ∀ j, j < 5 → a ≠ dr j := fun j hj => m_ne h0 (hD j hj) (by intro z; cases z)
  have hdu : d ≠ u := m_ne h1 h2 ne_IQ.symm
  have hdd : ∀ j, j < 5 → d ≠ dr j := fun j hj => m_ne h1 (hD j hj) ne_IQ.symm
  refine lv_iconst (v := 0) C.1 C.2.1 dX1_settle_0 rfl ?_
  refine lv_istore_n (lv' := [(1, .int 0), (0, .ref a)]) C.1 C.2.1 dX1_settle_1 rfl hl (by decide) rfl (fun ls hl => ?_)
  have loop2 : ∀ (fu : Nat) (M9 : Mp) (i : Nat) (U9 : Nat → Int32), (i ≤ 5) → (5 < i + fu) → (M9 a = some (eO 2 [.int sh, .ref d, .ref u])) → (M9 d = some (eQ g 4 5 orow)) → (M9 u = some (eI g 5 U9)) → (∀ i, i < 5 → M9 (dr i) = some (eI g 5 (D i))) → (∀ b, b ≠ u → (∀ j, j < 5 → b ≠ dr j) → M9 b = M b) → (∀ j, j < i → U9 j = zbal D j 5) →  ∀ (H : Heap) (locs : List Loc), Hw g M9 H → va_S (gA g) s.heap H locs → ∀ (ls : Array Slot), lv_has ls 2 [(0, .ref a), (1, .int (nI i))] → W p l e { frames := 2, cells := 0, slots := 0, locals := 45 } s m args below meth c H locs 0 0 (MQ below (wrQ (S := Nat) g (fun u_ => (some (.int (nI u_)))) (fun u_ M_ => ∃ D1 U1, (∀ j k, j < 5 → k < 5 → D1 j k = 0) ∧ (∀ j, j < 5 → U1 j = zbal D j 5) ∧ u_ = (zrun 5 D1 U1).1 ∧ M_ u = some (eI g 5 (zrun 5 D1 U1).2.2) ∧ (∀ i, i < 5 → M_ (dr i) = some (eI g 5 ((zrun 5 D1 U1).2.1 i))) ∧ ∀ b, b ≠ u → (∀ j, j < 5 → b ≠ dr j) → M_ b = M b)) args s 0 0 (gA g)) (F0 m 2 ls []) := by
    intro fu
    induction fu with
    | zero => intro M9 i U9 hi hfu ha9 hd9 hu9 hD9 hfr hU9; exact absurd hfu (by omega)
    | succ fu ih =>
      intro M9 i U9 hi hfu ha9 hd9 hu9 hD9 hfr hU9 H locs hH hS ls hl
      refine lv_iload_n C.1 C.2.1 dX1_settle_2 rfl (lv_at hl 1 rfl) ?_
      refine lv_iconst (v := 5) C.1 C.2.1 dX1_settle_3 rfl ?_
      refine lv_icmp_ge (tgt := 24) C.1 C.2.1 dX1_settle_4 (by decide) (fun c4 => ?_) (fun c4 => ?_)
      · obtain rfl : i = 5 := five_eq hi c4
        refine lv_iconst (v := 0) C.1 C.2.1 dX1_settle_24 rfl ?_
        refine lv_istore_n (lv' := [(1, .int 0), (0, .ref a)]) C.1 C.2.1 dX1_settle_25 rfl hl (by decide) rfl (fun ls hl => ?_)
        have loop26 : ∀ (fu : Nat) (M9 : Mp) (i : Nat) (D9 : Nat → Nat → Int32), (i ≤ 5) → (5 < i + fu) → (M9 a = some (eO 2 [.int sh, .ref d, .ref u])) → (M9 d = some (eQ g 4 5 orow)) → (M9 u = some (eI g 5 U9)) → (∀ i, i < 5 → M9 (dr i) = some (eI g 5 (D9 i))) → (∀ b, b ≠ u → (∀ j, j < 5 → b ≠ dr j) → M9 b = M b) → (∀ j k, j < i → k < 5 → D9 j k = 0) →  ∀ (H : Heap) (locs : List Loc), Hw g M9 H → va_S (gA g) s.heap H locs → ∀ (ls : Array Slot), lv_has ls 2 [(0, .ref a), (1, .int (nI i))] → W p l e { frames := 2, cells := 0, slots := 0, locals := 45 } s m args below meth c H locs 0 0 (MQ below (wrQ (S := Nat) g (fun u_ => (some (.int (nI u_)))) (fun u_ M_ => ∃ D1 U1, (∀ j k, j < 5 → k < 5 → D1 j k = 0) ∧ (∀ j, j < 5 → U1 j = zbal D j 5) ∧ u_ = (zrun 5 D1 U1).1 ∧ M_ u = some (eI g 5 (zrun 5 D1 U1).2.2) ∧ (∀ i, i < 5 → M_ (dr i) = some (eI g 5 ((zrun 5 D1 U1).2.1 i))) ∧ ∀ b, b ≠ u → (∀ j, j < 5 → b ≠ dr j) → M_ b = M b)) args s 0 0 (gA g)) (F0 m 26 ls []) := by
          intro fu
          induction fu with
          | zero => intro M9 i D9 hi hfu ha9 hd9 hu9 hD9 hfr hz9; exact absurd hfu (by omega)
          | succ fu ih =>
            intro M9 i D9 hi hfu ha9 hd9 hu9 hD9 hfr hz9 H locs hH hS ls hl
            refine lv_iload_n C.1 C.2.1 dX1_settle_26 rfl (lv_at hl 1 rfl) ?_
            refine lv_iconst (v := 5) C.1 C.2.1 dX1_settle_27 rfl ?_
            refine lv_icmp_ge (tgt := 47) C.1 C.2.1 dX1_settle_28 (by decide) (fun c28 => ?_) (fun c28 => ?_)
            · obtain rfl : i = 5 := five_eq hi c28
              have hs1 : ∃ z : Nat × (Nat → Nat → Int32) × (Nat → Int32), z = zrun 5 D9 U9 := ⟨_, rfl⟩
              obtain ⟨zz, ezz⟩ := hs1
              refine lv_iconst (v := 0) C.1 C.2.1 dX1_settle_47 rfl ?_
              refine lv_istore_n (lv' := [(1, .int 0), (0, .ref a)]) C.1 C.2.1 dX1_settle_48 rfl hl (by decide) rfl (fun ls hl => ?_)
              have loop49 : ∀ (fu : Nat) (M9 : Mp) (i r : Nat) (D8 : Nat → Nat → Int32) (U8 : Nat → Int32), (i + r = 5) → (5 < i + fu) → (M9 a = some (eO 2 [.int sh, .ref d, .ref u])) → (M9 d = some (eQ g 4 5 orow)) → (M9 u = some (eI g 5 U8)) → (∀ i, i < 5 → M9 (dr i) = some (eI g 5 (D8 i))) → (∀ b, b ≠ u → (∀ j, j < 5 → b ≠ dr j) → M9 b = M b) → (zz.1 = i + (zrun r D8 U8).1) → (zz.2 = (zrun r D8 U8).2) →  ∀ (H : Heap) (locs : List Loc), Hw g M9 H → va_S (gA g) s.heap H locs → ∀ (ls : Array Slot), lv_has ls 2 [(0, .ref a), (1, .int (nI i))] → W p l e { frames := 2, cells := 0, slots := 0, locals := 45 } s m args below meth c H locs 0 0 (MQ below (wrQ (S := Nat) g (fun u_ => (some (.int (nI u_)))) (fun u_ M_ => ∃ D1 U1, (∀ j k, j < 5 → k < 5 → D1 j k = 0) ∧ (∀ j, j < 5 → U1 j = zbal D j 5) ∧ u_ = (zrun 5 D1 U1).1 ∧ M_ u = some (eI g 5 (zrun 5 D1 U1).2.2) ∧ (∀ i, i < 5 → M_ (dr i) = some (eI g 5 ((zrun 5 D1 U1).2.1 i))) ∧ ∀ b, b ≠ u → (∀ j, j < 5 → b ≠ dr j) → M_ b = M b)) args s 0 0 (gA g)) (F0 m 49 ls []) := by
                intro fu
                induction fu with
                | zero => intro M9 i r D8 U8 hir hfu ha8 hd8 hu8 hD8 hfr8 hz1 hz2; exact absurd hfu (by omega)
                | succ fu ih =>
                  intro M9 i r D8 U8 hir hfu ha8 hd8 hu8 hD8 hfr8 hz1 hz2 H locs hH hS ls hl
                  refine lv_iload_n C.1 C.2.1 dX1_settle_49 rfl (lv_at hl 1 rfl) ?_
                  refine lv_iconst (v := 5) C.1 C.2.1 dX1_settle_50 rfl ?_
                  refine lv_icmp_ge (tgt := 67) C.1 C.2.1 dX1_settle_51 (by decide) (fun c51 => ?_) (fun c51 => ?_)
                  · refine lv_iload_n C.1 C.2.1 dX1_settle_67 rfl (lv_at hl 1 rfl) ?_
                    exact wr_iret zz.1 C hr hlocks hH hS (congrArg (fun z => some (Value.int z)) (by rw [hz1, show r = 0 by have := five_eq (i := i) (by omega) c51; omega]; rfl)) (by
        obtain rfl : r = 0 := by have := five_eq (i := i) (by omega) c51; omega
        exact ⟨D9, U9, fun j k hj hk => hz9 j k hj hk, hU9, ezz ▸ rfl, by rw [← ezz, hz2]; exact hu8, fun i2 hi2 => by rw [← ezz, hz2]; exact hD8 i2 hi2, hfr8⟩) (by decide) (by decide) dX1_settle_68
                  · refine lv_aload_n C.1 C.2.1 dX1_settle_54 rfl (lv_at hl 0 rfl) ?_
                    refine wr_go1 (runV C hE hH hS (c_settleLowest ha8 hd8 hu8 (hrow) (hD8) (hun)) mv_X1_settleLowest wm_542 ha8 rfl rfl hl.1 dX1_settle_55 rfl rfl ⟨rfl, rfl⟩ ⟨Nat.le_of_ble_eq_true rfl, Nat.le_of_ble_eq_true rfl⟩ (Nat.le_of_ble_eq_true rfl) ⟨Nat.le_of_ble_eq_true rfl, Nat.le_of_ble_eq_true rfl⟩) hS (fun u1 M2 H locs hM2 hH hS => ?_)
                    refine lv_if_eq (tgt := 67) C.1 C.2.1 dX1_settle_58 (by decide) (fun c58 => ?_) (fun c58 => ?_)
                    · refine lv_iload_n C.1 C.2.1 dX1_settle_67 rfl (lv_at hl 1 rfl) ?_
                      exact wr_iret zz.1 C hr hlocks hH hS (congrArg (fun z => some (Value.int z)) (by
        rw [hz1]
        have e0 : zfound U8 = false := bI_z2.mp c58
        cases r with
        | zero => rfl
        | succ r => rw [zrun, if_neg (by rw [e0]; decide)]; rfl)) (by
        rcases hM2 with ⟨e0, e1⟩ | ⟨e0, -⟩
        · have hz : zrun r D8 U8 = (0, D8, U8) := by
            cases r with
            | zero => rfl
            | succ r => rw [zrun, if_neg (by rw [e0]; decide)]
          rw [hz] at hz1 hz2
          exact ⟨D9, U9, fun j k hj hk => hz9 j k hj hk, hU9, ezz ▸ rfl, by rw [← ezz, hz2, e1]; exact hu8, fun i2 hi2 => by rw [← ezz, hz2, e1]; exact hD8 i2 hi2, fun b hb hb2 => by rw [e1]; exact hfr8 b hb hb2⟩
        · exact absurd c58 (fun z => by rw [bI_z2.mp z] at e0; cases e0)) (by decide) (by decide) dX1_settle_68
                    · rcases hM2 with ⟨e0, -⟩ | ⟨e0, j, k, hj, hk, ej, ek, -, -, hM7⟩
                      · exact absurd (bI_z2.mpr e0) c58
                      obtain ⟨r9, rfl⟩ : ∃ z, r = z + 1 := ⟨r - 1, by have := five_lt (i := i) (by omega) c51; omega⟩
                      refine lv_iinc (v := nI (i + 1)) (lv' := [(1, .int (nI (i + 1))), (0, .ref a)]) C.1 C.2.1 dX1_settle_61 hl (k := 1) rfl (nI_1 i) (by decide) rfl (fun ls hl => ?_)
                      refine lv_goto (tgt := 49) C.1 C.2.1 dX1_settle_64 (by decide) ?_
                      exact ih M2 (i + 1) r9 (zstepD U8 D8 j k) (zstepU U8 j k) (by omega) (by omega) (by rw [hM7, mu_n hau, mu_n (had j hj)]; exact ha8) (by rw [hM7, mu_n hdu, mu_n (hdd j hj)]; exact hd8) (by rw [hM7]; exact mu_s) (fun i2 hi2 => by
        rw [hM7, mu_n (hun i2 hi2)]
        unfold zstepD
        by_cases z : i2 = j
        · subst z; rw [if_pos rfl]; exact mu_s
        · rw [if_neg z]; exact (mu_n (fun w => z (hinj i2 j hi2 hj w))).trans (hD8 i2 hi2)) (fun b hb hb2 => by rw [hM7, mu_n hb, mu_n (hb2 j hj)]; exact hfr8 b hb hb2) (by rw [hz1, zrun, if_pos e0, ej, ek, nI_clamp (show j < 2 ^ 31 by omega), nI_clamp (show k < 2 ^ 31 by omega)]; omega) (by rw [hz2, zrun, if_pos e0, ej, ek, nI_clamp (show j < 2 ^ 31 by omega), nI_clamp (show k < 2 ^ 31 by omega)]) H locs hH hS ls (lv_sub hl [1, 0] rfl)
              exact loop49 (6) M9 0 5 D9 U9 (by omega) (by omega) (ha9) (hd9) (hu9) (hD9) (hfr) (by rw [ezz]; omega) (by rw [ezz]) _ _ hH hS _ (lv_sub hl [1, 0] rfl)
            · have hi5 : i < 5 := five_lt hi c28
              refine lv_aload_n C.1 C.2.1 dX1_settle_31 rfl (lv_at hl 0 rfl) ?_
              refine mget C hE hH fl_81 ha9 rfl dX1_settle_32 ?_
              refine lv_iload_n C.1 C.2.1 dX1_settle_35 rfl (lv_at hl 1 rfl) ?_
              refine maldq (k := 4) (y := (dr i)) C hE hH hd9 rfl rfl (vp_in_nI hi5 (by decide)) (by rw [nI_clamp (by omega)]; exact hrow i hi5) dX1_settle_36 ?_
              refine lv_iconst (v := 0) C.1 C.2.1 dX1_settle_37 rfl ?_
              refine wr_go0 (runS C hE hH hS (c_fill (hD9 i hi5) ((by decide))) mv_J7_fill_53178 wm_539 hl.1 dX1_settle_38 rfl rfl ⟨rfl, rfl⟩ ⟨Nat.le_of_ble_eq_true rfl, Nat.le_of_ble_eq_true rfl⟩ (Nat.le_of_ble_eq_true rfl) ⟨Nat.le_of_ble_eq_true rfl, Nat.le_of_ble_eq_true rfl⟩) hS (fun u3 M4 H locs hM4 hH hS => ?_)
              obtain ⟨hM4, hu39⟩ := hM4
              have f5 : M4 a = some (eO 2 [.int sh, .ref d, .ref u]) := by rw [hM4]; exact (mu_n (m_ne ha9 (hD9 i hi5) (by first | (intro z; cases z; done) | exact ne_IQ.symm))).trans ha9
              have f6 : M4 d = some (eQ g 4 5 orow) := by rw [hM4]; exact (mu_n (m_ne hd9 (hD9 i hi5) (by first | (intro z; cases z; done) | exact ne_IQ.symm))).trans hd9
              have f7 : M4 u = some (eI g 5 U9) := by rw [hM4]; exact (mu_n (hun i hi5).symm).trans hu9
              refine lv_iinc (v := nI (i + 1)) (lv' := [(1, .int (nI (i + 1))), (0, .ref a)]) C.1 C.2.1 dX1_settle_41 hl (k := 1) rfl (nI_1 i) (by decide) rfl (fun ls hl => ?_)
              refine lv_goto (tgt := 26) C.1 C.2.1 dX1_settle_44 (by decide) ?_
              exact ih M4 (i + 1) (fun i2 => if i2 = i then u3 else D9 i2) (by omega) (by omega) (f5) (f6) (f7) (fun i2 hi2 => by
        by_cases z : i2 = i
        · subst z; rw [hM4, if_pos rfl]; exact mu_s
        · rw [hM4, if_neg z]; exact (mu_n (fun w => z (hinj i2 i hi2 hi5 w))).trans (hD9 i2 hi2)) (fun b hb hb2 => by rw [hM4, mu_n (hb2 i hi5)]; exact hfr b hb hb2) (fun j k hj hk => by
        by_cases z : j = i
        · simp only [z, if_pos]; exact hu39 k hk
        · simp only [z, if_neg, not_false_eq_true]; exact hz9 j k (by omega) hk) H locs hH hS ls (lv_sub hl [1, 0] rfl)
        exact loop26 (6) M9 0 D (by omega) (by omega) (ha9) (hd9) (hu9) (hD9) (hfr) (fun j k hj => absurd hj (Nat.not_lt_zero j)) _ _ hH hS _ (lv_sub hl [1, 0] rfl)
      · have hi5 : i < 5 := five_lt hi c4
        refine lv_aload_n C.1 C.2.1 dX1_settle_7 rfl (lv_at hl 0 rfl) ?_
        refine mget C hE hH fl_83 ha9 rfl dX1_settle_8 ?_
        refine lv_iload_n C.1 C.2.1 dX1_settle_11 rfl (lv_at hl 1 rfl) ?_
        refine lv_aload_n C.1 C.2.1 dX1_settle_12 rfl (lv_at hl 0 rfl) ?_
        refine lv_iload_n C.1 C.2.1 dX1_settle_13 rfl (lv_at hl 1 rfl) ?_
        refine rd_go1 (runV C hE hH hS (c_balanceOf ha9 hd9 (hrow) (hD9) (hi5)) mv_X1_balanceOf wm_535 ha9 rfl rfl hl.1 dX1_settle_14 rfl rfl ⟨rfl, rfl⟩ ⟨Nat.le_of_ble_eq_true rfl, Nat.le_of_ble_eq_true rfl⟩ (Nat.le_of_ble_eq_true rfl) ⟨Nat.le_of_ble_eq_true rfl, Nat.le_of_ble_eq_true rfl⟩) ?_
        refine mast C hE hH hS hu9 (vp_in_nI hi5 (by decide)) dX1_settle_17 (fun H locs hH hS => ?_)
        rw [nI_clamp (show i < 2 ^ 31 by omega)] at hH
        obtain ⟨M8, hM8⟩ : ∃ z, z = mu M9 u (eI g 5 (upd U9 i (zbal D i 5))) := ⟨_, rfl⟩
        have hH : Hw g M8 H := by rw [hM8]; exact hH
        have f9 : M8 u = some (eI g 5 (upd U9 i (zbal D i 5))) := by rw [hM8]; exact mu_s
        have f10 : M8 a = some (eO 2 [.int sh, .ref d, .ref u]) := by rw [hM8]; exact (mu_n (m_ne ha9 hu9 (by first | (intro z; cases z; done) | exact ne_IQ | exact ne_IQ.symm | exact ne_LI | exact ne_LI.symm | (intro z; cases z; omega) | (intro z; cases z; contradiction) | exact (fun z => by cases z)))).trans ha9
        have f11 : M8 d = some (eQ g 4 5 orow) := by rw [hM8]; exact (mu_n (m_ne hd9 hu9 (by first | (intro z; cases z; done) | exact ne_IQ | exact ne_IQ.symm | exact ne_LI | exact ne_LI.symm | (intro z; cases z; omega) | (intro z; cases z; contradiction) | exact (fun z => by cases z)))).trans hd9
        refine lv_iinc (v := nI (i + 1)) (lv' := [(1, .int (nI (i + 1))), (0, .ref a)]) C.1 C.2.1 dX1_settle_18 hl (k := 1) rfl (nI_1 i) (by decide) rfl (fun ls hl => ?_)
        refine lv_goto (tgt := 2) C.1 C.2.1 dX1_settle_21 (by decide) ?_
        exact ih M8 (i + 1) (upd U9 i (zbal D i 5)) (by omega) (by omega) (f10) (f11) (f9) (fun i2 hi2 => by rw [hM8]; exact (mu_n (hun i2 hi2)).trans (hD9 i2 hi2)) (fun b hb hb2 => by rw [hM8, mu_n hb]; exact hfr b hb hb2) (fun k hk => by unfold upd; by_cases z : k = i <;> simp only [z, if_pos, if_neg, not_false_eq_true]; exact hU9 k (by omega)) H locs hH hS ls (lv_sub hl [1, 0] rfl)
  exact loop2 (6) M 0 U (by omega) (by omega) (h0) (h1) (h2) (hD) (fun _ _ _ => rfl) (fun k hk => absurd hk (Nat.not_lt_zero k)) _ _ hH hS _ (lv_sub hl [1, 0] rfl)
