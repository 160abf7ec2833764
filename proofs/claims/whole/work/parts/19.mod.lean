/-! THE MODEL -/
def sl (k : Nat) : Bool := decide (k < 24) && !(k == 0 || k == 5 || k == 9 || k == 23)
def ml (k : Nat) : Nat := [0, 24, 12, 3, 8, 0, 10, 10, 10, 0, 40, 40, 40, 40, 40, 40, 40, 40, 40, 9, 3, 75, 5, 0].getD k 0
def mfs (ad : Nat → Nat) (sc : Nat → Int32) : List Value := [.int (sc 0), .ref (ad 1), .ref (ad 2), .ref (ad 3), .ref (ad 4), .int (sc 5), .ref (ad 6), .ref (ad 7), .ref (ad 8), .int (sc 9), .ref (ad 10), .ref (ad 11), .ref (ad 12), .ref (ad 13), .ref (ad 14), .ref (ad 15), .ref (ad 16), .ref (ad 17), .ref (ad 18), .ref (ad 19), .ref (ad 20), .ref (ad 21), .ref (ad 22), .int (sc 23)]
def MI (g : gG) (M : Mp) (m : Nat) (ad : Nat → Nat) (sc : Nat → Int32) (ar : Nat → Nat → Int32) : Prop := M m = some (eO 7 (mfs ad sc)) ∧ (∀ k, sl k = true → M (ad k) = some (eI g (ml k) (ar k))) ∧ ∀ i j, sl i = true → sl j = true → ad i = ad j → i = j
def MX (g : gG) (M0 M : Mp) (m : Nat) (ad : Nat → Nat) (sc : Nat → Int32) (ar : Nat → Nat → Int32) : Prop := MI g M m ad sc ar ∧ ∀ b, b ≠ m → (∀ k, b ≠ ad k) → M b = M0 b
section MXS
variable {g : gG} {M0 M M' : Mp} {m : Nat} {ad : Nat → Nat} {sc sc' : Nat → Int32} {ar ar' : Nat → Nat → Int32}
theorem MX_m (h : MX g M0 M m ad sc ar) : M m = some (eO 7 (mfs ad sc)) := h.1.1
theorem MX_a (h : MX g M0 M m ad sc ar) (k : Nat) (hk : sl k = true) : M (ad k) = some (eI g (ml k) (ar k)) := h.1.2.1 k hk
theorem MX_rf (h : MI g M m ad sc ar) : MX g M M m ad sc ar := ⟨h, fun _ _ _ => rfl⟩
theorem MX_tr (h : MX g M0 M m ad sc ar) (h2 : MX g M M' m ad sc' ar') : MX g M0 M' m ad sc' ar' := ⟨h2.1, fun b h3 h4 => (h2.2 b h3 h4).trans (h.2 b h3 h4)⟩
theorem MX_sc (h : MX g M0 M m ad sc ar) : MX g M0 (mu M m (eO 7 (mfs ad sc'))) m ad sc' ar := ⟨⟨mu_s, fun k hk => (mu_n (m_ne (h.1.2.1 k hk) h.1.1 (by intro z; cases z))).trans (h.1.2.1 k hk), h.1.2.2⟩, fun b h3 h4 => (mu_n h3).trans (h.2 b h3 h4)⟩
theorem MX_ar {k N : Nat} {f : Nat → Int32} (hk : sl k = true) (hN : ml k = N) (h : MX g M0 M m ad sc ar) : MX g M0 (mu M (ad k) (eI g N f)) m ad sc (ua ar k f) := by
  refine ⟨⟨(mu_n (m_ne h.1.1 (h.1.2.1 k hk) (by intro z; cases z))).trans h.1.1, fun k' hk' => ?_, h.1.2.2⟩, fun b h3 h4 => (mu_n (h4 k)).trans (h.2 b h3 h4)⟩
  by_cases e : k' = k
  · rw [e, ua_s, hN]; exact mu_s
  · rw [ua_n e]; exact (mu_n (fun z => e (h.1.2.2 _ _ hk' hk z))).trans (h.1.2.1 k' hk')
end MXS
theorem ua_ua {ar : Nat → Nat → Int32} {k : Nat} {f h : Nat → Int32} : ua (ua ar k f) k h = ua ar k h := funext fun k' => by
  unfold ua
  by_cases e : k' = k
  · rw [if_pos e, if_pos e]
  · rw [if_neg e, if_neg e, if_neg e]
theorem us_us {sc : Nat → Int32} {k : Nat} {v w : Int32} : us (us sc k v) k w = us sc k w := funext fun k' => by
  unfold us upd
  by_cases e : k' = k
  · rw [if_pos e, if_pos e]
  · rw [if_neg e, if_neg e, if_neg e]
theorem nI_a (a b : Nat) : nI (a + b) = nI a + nI b := Int32.ofNat_add a b
theorem nI_m (a b : Nat) : nI (a * b) = nI a * nI b := Int32.ofNat_mul a b
theorem bI_iff {P Q : Prop} [Decidable P] [Decidable Q] (h : P ↔ Q) : bI (decide P) = bI (decide Q) := by
  by_cases hp : P
  · rw [decide_eq_true hp, decide_eq_true (h.mp hp)]
  · rw [decide_eq_false hp, decide_eq_false (fun z => hp (h.mpr z))]
theorem ir_ix {x : Int32} {n : Nat} {hi : Int32} (hn : n ≤ 40) (hh : hi = nI n - 1) : inr x 0 hi ↔ inx x n := by
  have e : (nI n).toInt = n := Int32.toInt_ofNat_of_lt (show n < 2 ^ 31 by omega)
  have e2 : (nI n - 1).toInt = n - 1 := by
    have e1 : (1 : Int32).toInt = 1 := by decide
    rw [Int32.toInt_sub, Int.bmod_eq_of_le (by omega) (by omega), e, e1]
  refine and_congr_right (fun _ => ?_)
  rw [hh, Int32.le_iff_toInt_le, Int32.lt_iff_toInt_lt, e, e2]
  omega
def mt1 (b : Bool) : Int32 := if b = true then 0 else 1
def mt2 (b c : Bool) : Int32 := if b = true then if c = true then 0 else 2 else 1
def mt3 (b c d : Bool) : Int32 := if b = true then if c = true then if d = true then 0 else 3 else 2 else 1
def MQ1 (P1 : Prop) (ok : Prop) (bad : Int32 → Prop) : Prop := P1 ∧ ok ∨ ¬ P1 ∧ bad 1
def MQ2 (P1 P2 : Prop) (ok : Prop) (bad : Int32 → Prop) : Prop := P1 ∧ P2 ∧ ok ∨ ¬ P1 ∧ bad 1 ∨ P1 ∧ ¬ P2 ∧ bad 2
def MQ3 (P1 P2 P3 : Prop) (ok : Prop) (bad : Int32 → Prop) : Prop := P1 ∧ P2 ∧ P3 ∧ ok ∨ ¬ P1 ∧ bad 1 ∨ P1 ∧ ¬ P2 ∧ bad 2 ∨ P1 ∧ P2 ∧ ¬ P3 ∧ bad 3
theorem bt_of {b : Bool} (h : ¬ bI b = 0) : b = true := by cases b with | true => rfl | false => exact absurd rfl h
theorem bf_of {b : Bool} (h : bI b = 0) : b = false := bI_z2.mp h
theorem dt {b : Bool} {Q : Prop} [Decidable Q] (h : b = decide Q) (hb : b = true) : Q := of_decide_eq_true (h.symm.trans hb)
theorem df {b : Bool} {Q : Prop} [Decidable Q] (h : b = decide Q) (hb : b = false) : ¬ Q := of_decide_eq_false (h.symm.trans hb)
theorem mq1_bad {b : Bool} {P1 ok : Prop} [Decidable P1] {bad : Int32 → Prop} (h1 : b = decide P1) (hc : bI b = 0) (h : bad (mt1 b)) : MQ1 P1 ok bad := by
  have hb := bf_of hc
  subst hb
  exact Or.inr ⟨df h1 rfl, h⟩
theorem mq2_bad {b c : Bool} {P1 P2 ok : Prop} [Decidable P1] [Decidable P2] {bad : Int32 → Prop} (h1 : b = decide P1) (h2 : c = decide P2) (hc : bI (b && c) = 0) (h : bad (mt2 b c)) : MQ2 P1 P2 ok bad := by
  have hb := bf_of hc
  cases b with
  | false => exact Or.inr (Or.inl ⟨df h1 rfl, h⟩)
  | true => cases c with
    | false => exact Or.inr (Or.inr ⟨dt h1 rfl, df h2 rfl, h⟩)
    | true => cases hb
theorem mq3_bad {b c d : Bool} {P1 P2 P3 ok : Prop} [Decidable P1] [Decidable P2] [Decidable P3] {bad : Int32 → Prop} (h1 : b = decide P1) (h2 : c = decide P2) (h3 : d = decide P3) (hc : bI (b && c && d) = 0) (h : bad (mt3 b c d)) : MQ3 P1 P2 P3 ok bad := by
  have hb := bf_of hc
  cases b with
  | false => exact Or.inr (Or.inl ⟨df h1 rfl, h⟩)
  | true => cases c with
    | false => exact Or.inr (Or.inr (Or.inl ⟨dt h1 rfl, df h2 rfl, h⟩))
    | true => cases d with
      | false => exact Or.inr (Or.inr (Or.inr ⟨dt h1 rfl, dt h2 rfl, df h3 rfl, h⟩))
      | true => cases hb
theorem m1_t {b : Bool} {P1 : Prop} [Decidable P1] (h1 : b = decide P1) (hc : ¬ bI b = 0) : P1 ∧ mt1 b = 0 := by
  have hb := bt_of hc
  subst hb
  exact ⟨dt h1 rfl, rfl⟩
theorem m2_t {b c : Bool} {P1 P2 : Prop} [Decidable P1] [Decidable P2] (h1 : b = decide P1) (h2 : c = decide P2) (hc : ¬ bI (b && c) = 0) : P1 ∧ P2 ∧ mt2 b c = 0 := by
  have hb := bt_of hc
  simp only [Bool.and_eq_true] at hb
  obtain ⟨rfl, rfl⟩ := hb
  exact ⟨dt h1 rfl, dt h2 rfl, rfl⟩
theorem m3_t {b c d : Bool} {P1 P2 P3 : Prop} [Decidable P1] [Decidable P2] [Decidable P3] (h1 : b = decide P1) (h2 : c = decide P2) (h3 : d = decide P3) (hc : ¬ bI (b && c && d) = 0) : P1 ∧ P2 ∧ P3 ∧ mt3 b c d = 0 := by
  have hb := bt_of hc
  simp only [Bool.and_eq_true] at hb
  obtain ⟨⟨rfl, rfl⟩, rfl⟩ := hb
  exact ⟨dt h1 rfl, dt h2 rfl, dt h3 rfl, rfl⟩
set_option maxHeartbeats 4000000 in
set_option maxRecDepth 100000 in
theorem m_isIn {l : Launch} {g : gG} {M : Mp}  (x lo hi : Int32) : Met l yX6_isIn (WY yX6_isIn cX6_isIn 3 (some .boolean)) { frames := 0, cells := 0, slots := 0, locals := 0 } (Wc g M [.int x, .int lo, .int hi]) (rdQ (some (.int (bI (decide (inr x lo hi)))))) 0 0 fr0 := by
  refine ofM (by decide +kernel) (Nat.le_of_ble_eq_true rfl) (fun p e s m args below meth c ls C hr hlocks hin hE hH hl ea => ?_)
  have hl : lv_has ls 3 [(0, .int x), (1, .int lo), (2, .int hi)] := hl
  have hS : va_S (gA g) s.heap s.heap [] := va_S.rf
  refine lv_iload_n C.1 C.2.1 dX6_isIn_0 rfl (lv_at hl 0 rfl) ?_
  refine lv_iload_n C.1 C.2.1 dX6_isIn_1 rfl (lv_at hl 1 rfl) ?_
  refine lv_icmp_lt (tgt := 14) C.1 C.2.1 dX6_isIn_2 (by decide) (fun c2 => ?_) (fun c2 => ?_)
  · refine lv_iconst (v := 0) C.1 C.2.1 dX6_isIn_14 rfl ?_
    exact rd_zret C hr hlocks (rfl) (bI_f (fun z => z.1 c2)) dX6_isIn_15
  · refine lv_iload_n C.1 C.2.1 dX6_isIn_5 rfl (lv_at hl 0 rfl) ?_
    refine lv_iload_n C.1 C.2.1 dX6_isIn_6 rfl (lv_at hl 2 rfl) ?_
    refine lv_icmp_gt (tgt := 14) C.1 C.2.1 dX6_isIn_7 (by decide) (fun c7 => ?_) (fun c7 => ?_)
    · refine lv_iconst (v := 0) C.1 C.2.1 dX6_isIn_14 rfl ?_
      exact rd_zret C hr hlocks (rfl) (bI_f (fun z => Int32.not_lt.mpr z.2 c7)) dX6_isIn_15
    · refine lv_iconst (v := 1) C.1 C.2.1 dX6_isIn_10 rfl ?_
      refine lv_goto (tgt := 15) C.1 C.2.1 dX6_isIn_11 (by decide) ?_
      exact rd_zret C hr hlocks (rfl) (bI_t ⟨c2, Int32.not_lt.mp c7⟩) dX6_isIn_15
set_option maxHeartbeats 4000000 in
set_option maxRecDepth 100000 in
theorem m_isThird {l : Launch} {g : gG} {M : Mp}  (x : Int32) : Met l yX6_isThird (WY yX6_isThird cX6_isThird 1 (some .boolean)) { frames := 1, cells := 0, slots := 0, locals := 22 } (Wc g M [.int x]) (rdQ (some (.int (bI (decide (inx x 3)))))) 0 0 fr0 := by
  refine ofM (by decide +kernel) (Nat.le_of_ble_eq_true rfl) (fun p e s m args below meth c ls C hr hlocks hin hE hH hl ea => ?_)
  have hl : lv_has ls 1 [(0, .int x)] := hl
  have hS : va_S (gA g) s.heap s.heap [] := va_S.rf
  refine lv_iload_n C.1 C.2.1 dX6_isThird_0 rfl (lv_at hl 0 rfl) ?_
  refine lv_iconst (v := 0) C.1 C.2.1 dX6_isThird_1 rfl ?_
  refine lv_iconst (v := 2) C.1 C.2.1 dX6_isThird_2 rfl ?_
  refine rd_go1 (runS C hE hH hS (m_isIn x 0 2) mv_X6_isIn wm_811 hl.1 dX6_isThird_3 rfl rfl ⟨rfl, rfl⟩ ⟨Nat.le_of_ble_eq_true rfl, Nat.le_of_ble_eq_true rfl⟩ (Nat.le_of_ble_eq_true rfl) ⟨Nat.le_of_ble_eq_true rfl, Nat.le_of_ble_eq_true rfl⟩) ?_
  exact rd_zret C hr hlocks ((bI_n _)) (bI_iff (ir_ix (by decide) rfl)) dX6_isThird_6
set_option maxHeartbeats 4000000 in
set_option maxRecDepth 100000 in
theorem m_isPerson {l : Launch} {g : gG} {M : Mp}  (x : Int32) : Met l yX6_isPerson (WY yX6_isPerson cX6_isPerson 1 (some .boolean)) { frames := 1, cells := 0, slots := 0, locals := 22 } (Wc g M [.int x]) (rdQ (some (.int (bI (decide (inx x 5)))))) 0 0 fr0 := by
  refine ofM (by decide +kernel) (Nat.le_of_ble_eq_true rfl) (fun p e s m args below meth c ls C hr hlocks hin hE hH hl ea => ?_)
  have hl : lv_has ls 1 [(0, .int x)] := hl
  have hS : va_S (gA g) s.heap s.heap [] := va_S.rf
  refine lv_iload_n C.1 C.2.1 dX6_isPerson_0 rfl (lv_at hl 0 rfl) ?_
  refine lv_iconst (v := 0) C.1 C.2.1 dX6_isPerson_1 rfl ?_
  refine lv_iconst (v := 4) C.1 C.2.1 dX6_isPerson_2 rfl ?_
  refine rd_go1 (runS C hE hH hS (m_isIn x 0 4) mv_X6_isIn wm_811 hl.1 dX6_isPerson_3 rfl rfl ⟨rfl, rfl⟩ ⟨Nat.le_of_ble_eq_true rfl, Nat.le_of_ble_eq_true rfl⟩ (Nat.le_of_ble_eq_true rfl) ⟨Nat.le_of_ble_eq_true rfl, Nat.le_of_ble_eq_true rfl⟩) ?_
  exact rd_zret C hr hlocks ((bI_n _)) (bI_iff (ir_ix (by decide) rfl)) dX6_isPerson_6
set_option maxHeartbeats 4000000 in
set_option maxRecDepth 100000 in
theorem m_isEntry {l : Launch} {g : gG} {M : Mp} {mo : Nat} {ad : Nat → Nat} {sc : Nat → Int32} {ar : Nat → Nat → Int32} {ne nb no : Nat}  (hI : MI g M mo ad sc ar) (hs0 : sc 0 = nI ne) (hs5 : sc 5 = nI nb) (hs9 : sc 9 = nI no) (hb0 : ne ≤ 12) (hb5 : nb ≤ 10) (hb9 : no ≤ 40) (x : Int32) : Met l yX6_isEntry (WY yX6_isEntry cX6_isEntry 2 (some .boolean)) { frames := 1, cells := 0, slots := 0, locals := 22 } (Wc g M [.ref mo, .int x]) (rdQ (some (.int (bI (decide (inx x ne)))))) 0 0 fr0 := by
  refine ofM (by decide +kernel) (Nat.le_of_ble_eq_true rfl) (fun p e s m args below meth c ls C hr hlocks hin hE hH hl ea => ?_)
  have hl : lv_has ls 2 [(0, .ref mo), (1, .int x)] := hl
  have hS : va_S (gA g) s.heap s.heap [] := va_S.rf
  have X0 := MX_rf hI
  refine lv_iload_n C.1 C.2.1 dX6_isEntry_0 rfl (lv_at hl 1 rfl) ?_
  refine lv_iconst (v := 0) C.1 C.2.1 dX6_isEntry_1 rfl ?_
  refine lv_aload_n C.1 C.2.1 dX6_isEntry_2 rfl (lv_at hl 0 rfl) ?_
  refine mget (v := .int (nI ne)) C hE hH fl_730 (MX_m X0) (congrArg (fun z => some (Value.int z)) hs0) dX6_isEntry_3 ?_
  refine lv_iconst (v := 1) C.1 C.2.1 dX6_isEntry_6 rfl ?_
  refine lv_isub C.1 C.2.1 dX6_isEntry_7 ?_
  refine rd_go1 (runS C hE hH hS (m_isIn x 0 ((nI ne) - 1)) mv_X6_isIn wm_811 hl.1 dX6_isEntry_8 rfl rfl ⟨rfl, rfl⟩ ⟨Nat.le_of_ble_eq_true rfl, Nat.le_of_ble_eq_true rfl⟩ (Nat.le_of_ble_eq_true rfl) ⟨Nat.le_of_ble_eq_true rfl, Nat.le_of_ble_eq_true rfl⟩) ?_
  exact rd_zret C hr hlocks ((bI_n _)) (bI_iff (ir_ix (by omega) rfl)) dX6_isEntry_11
set_option maxHeartbeats 4000000 in
set_option maxRecDepth 100000 in
theorem m_isBath {l : Launch} {g : gG} {M : Mp} {mo : Nat} {ad : Nat → Nat} {sc : Nat → Int32} {ar : Nat → Nat → Int32} {ne nb no : Nat}  (hI : MI g M mo ad sc ar) (hs0 : sc 0 = nI ne) (hs5 : sc 5 = nI nb) (hs9 : sc 9 = nI no) (hb0 : ne ≤ 12) (hb5 : nb ≤ 10) (hb9 : no ≤ 40) (x : Int32) : Met l yX6_isBath (WY yX6_isBath cX6_isBath 2 (some .boolean)) { frames := 1, cells := 0, slots := 0, locals := 22 } (Wc g M [.ref mo, .int x]) (rdQ (some (.int (bI (decide (inx x nb)))))) 0 0 fr0 := by
  refine ofM (by decide +kernel) (Nat.le_of_ble_eq_true rfl) (fun p e s m args below meth c ls C hr hlocks hin hE hH hl ea => ?_)
  have hl : lv_has ls 2 [(0, .ref mo), (1, .int x)] := hl
  have hS : va_S (gA g) s.heap s.heap [] := va_S.rf
  have X0 := MX_rf hI
  refine lv_iload_n C.1 C.2.1 dX6_isBath_0 rfl (lv_at hl 1 rfl) ?_
  refine lv_iconst (v := 0) C.1 C.2.1 dX6_isBath_1 rfl ?_
  refine lv_aload_n C.1 C.2.1 dX6_isBath_2 rfl (lv_at hl 0 rfl) ?_
  refine mget (v := .int (nI nb)) C hE hH fl_735 (MX_m X0) (congrArg (fun z => some (Value.int z)) hs5) dX6_isBath_3 ?_
  refine lv_iconst (v := 1) C.1 C.2.1 dX6_isBath_6 rfl ?_
  refine lv_isub C.1 C.2.1 dX6_isBath_7 ?_
  refine rd_go1 (runS C hE hH hS (m_isIn x 0 ((nI nb) - 1)) mv_X6_isIn wm_811 hl.1 dX6_isBath_8 rfl rfl ⟨rfl, rfl⟩ ⟨Nat.le_of_ble_eq_true rfl, Nat.le_of_ble_eq_true rfl⟩ (Nat.le_of_ble_eq_true rfl) ⟨Nat.le_of_ble_eq_true rfl, Nat.le_of_ble_eq_true rfl⟩) ?_
  exact rd_zret C hr hlocks ((bI_n _)) (bI_iff (ir_ix (by omega) rfl)) dX6_isBath_11
set_option maxHeartbeats 4000000 in
set_option maxRecDepth 100000 in
theorem m_isOrder {l : Launch} {g : gG} {M : Mp} {mo : Nat} {ad : Nat → Nat} {sc : Nat → Int32} {ar : Nat → Nat → Int32} {ne nb no : Nat}  (hI : MI g M mo ad sc ar) (hs0 : sc 0 = nI ne) (hs5 : sc 5 = nI nb) (hs9 : sc 9 = nI no) (hb0 : ne ≤ 12) (hb5 : nb ≤ 10) (hb9 : no ≤ 40) (x : Int32) : Met l yX6_isOrder (WY yX6_isOrder cX6_isOrder 2 (some .boolean)) { frames := 1, cells := 0, slots := 0, locals := 22 } (Wc g M [.ref mo, .int x]) (rdQ (some (.int (bI (decide (inx x no)))))) 0 0 fr0 := by
  refine ofM (by decide +kernel) (Nat.le_of_ble_eq_true rfl) (fun p e s m args below meth c ls C hr hlocks hin hE hH hl ea => ?_)
  have hl : lv_has ls 2 [(0, .ref mo), (1, .int x)] := hl
  have hS : va_S (gA g) s.heap s.heap [] := va_S.rf
  have X0 := MX_rf hI
  refine lv_iload_n C.1 C.2.1 dX6_isOrder_0 rfl (lv_at hl 1 rfl) ?_
  refine lv_iconst (v := 0) C.1 C.2.1 dX6_isOrder_1 rfl ?_
  refine lv_aload_n C.1 C.2.1 dX6_isOrder_2 rfl (lv_at hl 0 rfl) ?_
  refine mget (v := .int (nI no)) C hE hH fl_739 (MX_m X0) (congrArg (fun z => some (Value.int z)) hs9) dX6_isOrder_3 ?_
  refine lv_iconst (v := 1) C.1 C.2.1 dX6_isOrder_6 rfl ?_
  refine lv_isub C.1 C.2.1 dX6_isOrder_7 ?_
  refine rd_go1 (runS C hE hH hS (m_isIn x 0 ((nI no) - 1)) mv_X6_isIn wm_811 hl.1 dX6_isOrder_8 rfl rfl ⟨rfl, rfl⟩ ⟨Nat.le_of_ble_eq_true rfl, Nat.le_of_ble_eq_true rfl⟩ (Nat.le_of_ble_eq_true rfl) ⟨Nat.le_of_ble_eq_true rfl, Nat.le_of_ble_eq_true rfl⟩) ?_
  exact rd_zret C hr hlocks ((bI_n _)) (bI_iff (ir_ix (by omega) rfl)) dX6_isOrder_11
def zfar (x y : Int32) : Int32 := if y < x then x - y else y - x
set_option maxHeartbeats 4000000 in
set_option maxRecDepth 100000 in
theorem m_far {l : Launch} {g : gG} {M : Mp}  (x y : Int32) : Met l yX6_far (WY yX6_far cX6_far 2 (some .int)) { frames := 0, cells := 0, slots := 0, locals := 0 } (Wc g M [.int x, .int y]) (rdQ (some (.int (zfar x y)))) 0 0 fr0 := by
  refine ofM (by decide +kernel) (Nat.le_of_ble_eq_true rfl) (fun p e s m args below meth c ls C hr hlocks hin hE hH hl ea => ?_)
  have hl : lv_has ls 2 [(0, .int x), (1, .int y)] := hl
  have hS : va_S (gA g) s.heap s.heap [] := va_S.rf
  refine lv_iload_n C.1 C.2.1 dX6_far_0 rfl (lv_at hl 0 rfl) ?_
  refine lv_iload_n C.1 C.2.1 dX6_far_1 rfl (lv_at hl 1 rfl) ?_
  refine lv_icmp_le (tgt := 11) C.1 C.2.1 dX6_far_2 (by decide) (fun c2 => ?_) (fun c2 => ?_)
  · refine lv_iload_n C.1 C.2.1 dX6_far_11 rfl (lv_at hl 1 rfl) ?_
    refine lv_iload_n C.1 C.2.1 dX6_far_12 rfl (lv_at hl 0 rfl) ?_
    refine lv_isub C.1 C.2.1 dX6_far_13 ?_
    exact rd_iret C hr hlocks (by unfold zfar; first | rw [if_pos (Int32.not_le.mp c2)] | rw [if_neg (Int32.not_lt.mpr c2)]) dX6_far_14
  · refine lv_iload_n C.1 C.2.1 dX6_far_5 rfl (lv_at hl 0 rfl) ?_
    refine lv_iload_n C.1 C.2.1 dX6_far_6 rfl (lv_at hl 1 rfl) ?_
    refine lv_isub C.1 C.2.1 dX6_far_7 ?_
    refine lv_goto (tgt := 14) C.1 C.2.1 dX6_far_8 (by decide) ?_
    exact rd_iret C hr hlocks (by unfold zfar; first | rw [if_pos (Int32.not_le.mp c2)] | rw [if_neg (Int32.not_lt.mpr c2)]) dX6_far_14
set_option maxHeartbeats 4000000 in
set_option maxRecDepth 100000 in
theorem m_may_t {l : Launch} {g : gG} {M : Mp} {mo : Nat} {ad : Nat → Nat} {sc : Nat → Int32} {ar : Nat → Nat → Int32} {ne nb no : Nat}  (hI : MI g M mo ad sc ar) (hs0 : sc 0 = nI ne) (hs5 : sc 5 = nI nb) (hs9 : sc 9 = nI no) (hb0 : ne ≤ 12) (hb5 : nb ≤ 10) (hb9 : no ≤ 40) : Met l yX6_may (WY yX6_may cX6_may 2 (some .boolean)) { frames := 0, cells := 0, slots := 0, locals := 0 } (Wc g M [.ref mo, .int 1]) (wrQ (S := Unit) g (fun u_ => (some (.int 1))) (fun u_ M_ => MX g M M_ mo ad (us sc 23 0) (ar))) 0 0 (gA g) := by
  refine ofM (by decide +kernel) (Nat.le_of_ble_eq_true rfl) (fun p e s m args below meth c ls C hr hlocks hin hE hH hl ea => ?_)
  have hl : lv_has ls 2 [(0, .ref mo), (1, .int 1)] := hl
  have hS : va_S (gA g) s.heap s.heap [] := va_S.rf
  have X0 := MX_rf hI
  refine lv_aload_n C.1 C.2.1 dX6_may_0 rfl (lv_at hl 0 rfl) ?_
  refine lv_iload_n C.1 C.2.1 dX6_may_1 rfl (lv_at hl 1 rfl) ?_
  refine lv_if_eq (tgt := 9) C.1 C.2.1 dX6_may_2 (by decide) (fun c2 => ?_) (fun c2 => ?_)
  · exact absurd c2 (by decide)
  · refine lv_iconst (v := 0) C.1 C.2.1 dX6_may_5 rfl ?_
    refine lv_goto (tgt := 10) C.1 C.2.1 dX6_may_6 (by decide) ?_
    refine mput (fs' := mfs ad (us (sc) 23 0)) C hE hH hS fl_753 (MX_m X0) rfl rfl rfl (Nat.le_of_ble_eq_true rfl) dX6_may_10 (fun H locs hH hS => ?_)
    obtain ⟨M1, hM1⟩ : ∃ z, z = mu M mo (eO 7 (mfs ad (us (sc) 23 0))) := ⟨_, rfl⟩
    have hH : Hw g M1 H := by rw [hM1]; exact hH
    have X2 := MX_sc (sc' := us (sc) 23 0) X0
    rw [← hM1] at X2
    refine lv_iload_n C.1 C.2.1 dX6_may_13 rfl (lv_at hl 1 rfl) ?_
    exact wr_zret () C hr hlocks (rfl) hH hS rfl (X2) (by decide) (by decide) dX6_may_14
set_option maxHeartbeats 4000000 in
set_option maxRecDepth 100000 in
theorem m_may_f {l : Launch} {g : gG} {M : Mp} {mo : Nat} {ad : Nat → Nat} {sc : Nat → Int32} {ar : Nat → Nat → Int32} {ne nb no : Nat}  (hI : MI g M mo ad sc ar) (hs0 : sc 0 = nI ne) (hs5 : sc 5 = nI nb) (hs9 : sc 9 = nI no) (hb0 : ne ≤ 12) (hb5 : nb ≤ 10) (hb9 : no ≤ 40) : Met l yX6_may (WY yX6_may cX6_may 2 (some .boolean)) { frames := 0, cells := 0, slots := 0, locals := 0 } (Wc g M [.ref mo, .int 0]) (wrQ (S := Unit) g (fun u_ => (some (.int 0))) (fun u_ M_ => MX g M M_ mo ad (us sc 23 1) (ar))) 0 0 (gA g) := by
  refine ofM (by decide +kernel) (Nat.le_of_ble_eq_true rfl) (fun p e s m args below meth c ls C hr hlocks hin hE hH hl ea => ?_)
  have hl : lv_has ls 2 [(0, .ref mo), (1, .int 0)] := hl
  have hS : va_S (gA g) s.heap s.heap [] := va_S.rf
  have X0 := MX_rf hI
  refine lv_aload_n C.1 C.2.1 dX6_may_0 rfl (lv_at hl 0 rfl) ?_
  refine lv_iload_n C.1 C.2.1 dX6_may_1 rfl (lv_at hl 1 rfl) ?_
  refine lv_if_eq (tgt := 9) C.1 C.2.1 dX6_may_2 (by decide) (fun c2 => ?_) (fun c2 => ?_)
  · refine lv_iconst (v := 1) C.1 C.2.1 dX6_may_9 rfl ?_
    refine mput (fs' := mfs ad (us (sc) 23 1)) C hE hH hS fl_753 (MX_m X0) rfl rfl rfl (Nat.le_of_ble_eq_true rfl) dX6_may_10 (fun H locs hH hS => ?_)
    obtain ⟨M1, hM1⟩ : ∃ z, z = mu M mo (eO 7 (mfs ad (us (sc) 23 1))) := ⟨_, rfl⟩
    have hH : Hw g M1 H := by rw [hM1]; exact hH
    have X2 := MX_sc (sc' := us (sc) 23 1) X0
    rw [← hM1] at X2
    refine lv_iload_n C.1 C.2.1 dX6_may_13 rfl (lv_at hl 1 rfl) ?_
    exact wr_zret () C hr hlocks (rfl) hH hS rfl (X2) (by decide) (by decide) dX6_may_14
  · exact absurd c2 (by decide)
theorem m_may {l : Launch} {g : gG} {M : Mp} {mo : Nat} {ad : Nat → Nat} {sc : Nat → Int32} {ar : Nat → Nat → Int32} {ne nb no : Nat}  (hI : MI g M mo ad sc ar) (hs0 : sc 0 = nI ne) (hs5 : sc 5 = nI nb) (hs9 : sc 9 = nI no) (hb0 : ne ≤ 12) (hb5 : nb ≤ 10) (hb9 : no ≤ 40) (b1 : Bool) : Met l yX6_may (WY yX6_may cX6_may 2 (some .boolean)) { frames := 0, cells := 0, slots := 0, locals := 0 } (Wc g M [.ref mo, .int (bI b1)]) (wrQ (S := Unit) g (fun u_ => (some (.int (bI (b1))))) (fun u_ M_ => MX g M M_ mo ad (us sc 23 (mt1 b1)) (ar))) 0 0 (gA g) := by
  cases b1 <;> first | exact m_may_t hI hs0 hs5 hs9 hb0 hb5 hb9 | exact m_may_f hI hs0 hs5 hs9 hb0 hb5 hb9
set_option maxHeartbeats 4000000 in
set_option maxRecDepth 100000 in
theorem m_mayBoth_tt {l : Launch} {g : gG} {M : Mp} {mo : Nat} {ad : Nat → Nat} {sc : Nat → Int32} {ar : Nat → Nat → Int32} {ne nb no : Nat}  (hI : MI g M mo ad sc ar) (hs0 : sc 0 = nI ne) (hs5 : sc 5 = nI nb) (hs9 : sc 9 = nI no) (hb0 : ne ≤ 12) (hb5 : nb ≤ 10) (hb9 : no ≤ 40) : Met l yX6_mayBoth (WY yX6_mayBoth cX6_mayBoth 3 (some .boolean)) { frames := 0, cells := 0, slots := 0, locals := 0 } (Wc g M [.ref mo, .int 1, .int 1]) (wrQ (S := Unit) g (fun u_ => (some (.int 1))) (fun u_ M_ => MX g M M_ mo ad (us sc 23 0) (ar))) 0 0 (gA g) := by
  refine ofM (by decide +kernel) (Nat.le_of_ble_eq_true rfl) (fun p e s m args below meth c ls C hr hlocks hin hE hH hl ea => ?_)
  have hl : lv_has ls 3 [(0, .ref mo), (1, .int 1), (2, .int 1)] := hl
  have hS : va_S (gA g) s.heap s.heap [] := va_S.rf
  have X0 := MX_rf hI
  refine lv_aload_n C.1 C.2.1 dX6_mayBoth_0 rfl (lv_at hl 0 rfl) ?_
  refine lv_iload_n C.1 C.2.1 dX6_mayBoth_1 rfl (lv_at hl 1 rfl) ?_
  refine lv_if_ne (tgt := 9) C.1 C.2.1 dX6_mayBoth_2 (by decide) (fun c2 => ?_) (fun c2 => ?_)
  · refine lv_iload_n C.1 C.2.1 dX6_mayBoth_9 rfl (lv_at hl 2 rfl) ?_
    refine lv_if_ne (tgt := 17) C.1 C.2.1 dX6_mayBoth_10 (by decide) (fun c10 => ?_) (fun c10 => ?_)
    · refine lv_iconst (v := 0) C.1 C.2.1 dX6_mayBoth_17 rfl ?_
      refine mput (fs' := mfs ad (us (sc) 23 0)) C hE hH hS fl_753 (MX_m X0) rfl rfl rfl (Nat.le_of_ble_eq_true rfl) dX6_mayBoth_18 (fun H locs hH hS => ?_)
      obtain ⟨M1, hM1⟩ : ∃ z, z = mu M mo (eO 7 (mfs ad (us (sc) 23 0))) := ⟨_, rfl⟩
      have hH : Hw g M1 H := by rw [hM1]; exact hH
      have X2 := MX_sc (sc' := us (sc) 23 0) X0
      rw [← hM1] at X2
      refine lv_aload_n C.1 C.2.1 dX6_mayBoth_21 rfl (lv_at hl 0 rfl) ?_
      refine mget (v := .int 0) C hE hH fl_753 (MX_m X2) rfl dX6_mayBoth_22 ?_
      refine lv_if_ne (tgt := 32) C.1 C.2.1 dX6_mayBoth_25 (by decide) (fun c25 => ?_) (fun c25 => ?_)
      · exact absurd c25 (by decide)
      · refine lv_iconst (v := 1) C.1 C.2.1 dX6_mayBoth_28 rfl ?_
        refine lv_goto (tgt := 33) C.1 C.2.1 dX6_mayBoth_29 (by decide) ?_
        exact wr_zret () C hr hlocks (rfl) hH hS rfl (X2) (by decide) (by decide) dX6_mayBoth_33
    · exact absurd c10 (by decide)
  · exact absurd c2 (by decide)
set_option maxHeartbeats 4000000 in
set_option maxRecDepth 100000 in
theorem m_mayBoth_tf {l : Launch} {g : gG} {M : Mp} {mo : Nat} {ad : Nat → Nat} {sc : Nat → Int32} {ar : Nat → Nat → Int32} {ne nb no : Nat}  (hI : MI g M mo ad sc ar) (hs0 : sc 0 = nI ne) (hs5 : sc 5 = nI nb) (hs9 : sc 9 = nI no) (hb0 : ne ≤ 12) (hb5 : nb ≤ 10) (hb9 : no ≤ 40) : Met l yX6_mayBoth (WY yX6_mayBoth cX6_mayBoth 3 (some .boolean)) { frames := 0, cells := 0, slots := 0, locals := 0 } (Wc g M [.ref mo, .int 1, .int 0]) (wrQ (S := Unit) g (fun u_ => (some (.int 0))) (fun u_ M_ => MX g M M_ mo ad (us sc 23 2) (ar))) 0 0 (gA g) := by
  refine ofM (by decide +kernel) (Nat.le_of_ble_eq_true rfl) (fun p e s m args below meth c ls C hr hlocks hin hE hH hl ea => ?_)
  have hl : lv_has ls 3 [(0, .ref mo), (1, .int 1), (2, .int 0)] := hl
  have hS : va_S (gA g) s.heap s.heap [] := va_S.rf
  have X0 := MX_rf hI
  refine lv_aload_n C.1 C.2.1 dX6_mayBoth_0 rfl (lv_at hl 0 rfl) ?_
  refine lv_iload_n C.1 C.2.1 dX6_mayBoth_1 rfl (lv_at hl 1 rfl) ?_
  refine lv_if_ne (tgt := 9) C.1 C.2.1 dX6_mayBoth_2 (by decide) (fun c2 => ?_) (fun c2 => ?_)
  · refine lv_iload_n C.1 C.2.1 dX6_mayBoth_9 rfl (lv_at hl 2 rfl) ?_
    refine lv_if_ne (tgt := 17) C.1 C.2.1 dX6_mayBoth_10 (by decide) (fun c10 => ?_) (fun c10 => ?_)
    · exact absurd c10 (by decide)
    · refine lv_iconst (v := 2) C.1 C.2.1 dX6_mayBoth_13 rfl ?_
      refine lv_goto (tgt := 18) C.1 C.2.1 dX6_mayBoth_14 (by decide) ?_
      refine mput (fs' := mfs ad (us (sc) 23 2)) C hE hH hS fl_753 (MX_m X0) rfl rfl rfl (Nat.le_of_ble_eq_true rfl) dX6_mayBoth_18 (fun H locs hH hS => ?_)
      obtain ⟨M1, hM1⟩ : ∃ z, z = mu M mo (eO 7 (mfs ad (us (sc) 23 2))) := ⟨_, rfl⟩
      have hH : Hw g M1 H := by rw [hM1]; exact hH
      have X2 := MX_sc (sc' := us (sc) 23 2) X0
      rw [← hM1] at X2
      refine lv_aload_n C.1 C.2.1 dX6_mayBoth_21 rfl (lv_at hl 0 rfl) ?_
      refine mget (v := .int 2) C hE hH fl_753 (MX_m X2) rfl dX6_mayBoth_22 ?_
      refine lv_if_ne (tgt := 32) C.1 C.2.1 dX6_mayBoth_25 (by decide) (fun c25 => ?_) (fun c25 => ?_)
      · refine lv_iconst (v := 0) C.1 C.2.1 dX6_mayBoth_32 rfl ?_
        exact wr_zret () C hr hlocks (rfl) hH hS rfl (X2) (by decide) (by decide) dX6_mayBoth_33
      · exact absurd c25 (by decide)
  · exact absurd c2 (by decide)
set_option maxHeartbeats 4000000 in
set_option maxRecDepth 100000 in
theorem m_mayBoth_ft {l : Launch} {g : gG} {M : Mp} {mo : Nat} {ad : Nat → Nat} {sc : Nat → Int32} {ar : Nat → Nat → Int32} {ne nb no : Nat}  (hI : MI g M mo ad sc ar) (hs0 : sc 0 = nI ne) (hs5 : sc 5 = nI nb) (hs9 : sc 9 = nI no) (hb0 : ne ≤ 12) (hb5 : nb ≤ 10) (hb9 : no ≤ 40) : Met l yX6_mayBoth (WY yX6_mayBoth cX6_mayBoth 3 (some .boolean)) { frames := 0, cells := 0, slots := 0, locals := 0 } (Wc g M [.ref mo, .int 0, .int 1]) (wrQ (S := Unit) g (fun u_ => (some (.int 0))) (fun u_ M_ => MX g M M_ mo ad (us sc 23 1) (ar))) 0 0 (gA g) := by
  refine ofM (by decide +kernel) (Nat.le_of_ble_eq_true rfl) (fun p e s m args below meth c ls C hr hlocks hin hE hH hl ea => ?_)
  have hl : lv_has ls 3 [(0, .ref mo), (1, .int 0), (2, .int 1)] := hl
  have hS : va_S (gA g) s.heap s.heap [] := va_S.rf
  have X0 := MX_rf hI
  refine lv_aload_n C.1 C.2.1 dX6_mayBoth_0 rfl (lv_at hl 0 rfl) ?_
  refine lv_iload_n C.1 C.2.1 dX6_mayBoth_1 rfl (lv_at hl 1 rfl) ?_
  refine lv_if_ne (tgt := 9) C.1 C.2.1 dX6_mayBoth_2 (by decide) (fun c2 => ?_) (fun c2 => ?_)
  · exact absurd c2 (by decide)
  · refine lv_iconst (v := 1) C.1 C.2.1 dX6_mayBoth_5 rfl ?_
    refine lv_goto (tgt := 18) C.1 C.2.1 dX6_mayBoth_6 (by decide) ?_
    refine mput (fs' := mfs ad (us (sc) 23 1)) C hE hH hS fl_753 (MX_m X0) rfl rfl rfl (Nat.le_of_ble_eq_true rfl) dX6_mayBoth_18 (fun H locs hH hS => ?_)
    obtain ⟨M1, hM1⟩ : ∃ z, z = mu M mo (eO 7 (mfs ad (us (sc) 23 1))) := ⟨_, rfl⟩
    have hH : Hw g M1 H := by rw [hM1]; exact hH
    have X2 := MX_sc (sc' := us (sc) 23 1) X0
    rw [← hM1] at X2
    refine lv_aload_n C.1 C.2.1 dX6_mayBoth_21 rfl (lv_at hl 0 rfl) ?_
    refine mget (v := .int 1) C hE hH fl_753 (MX_m X2) rfl dX6_mayBoth_22 ?_
    refine lv_if_ne (tgt := 32) C.1 C.2.1 dX6_mayBoth_25 (by decide) (fun c25 => ?_) (fun c25 => ?_)
    · refine lv_iconst (v := 0) C.1 C.2.1 dX6_mayBoth_32 rfl ?_
      exact wr_zret () C hr hlocks (rfl) hH hS rfl (X2) (by decide) (by decide) dX6_mayBoth_33
    · exact absurd c25 (by decide)
set_option maxHeartbeats 4000000 in
set_option maxRecDepth 100000 in
theorem m_mayBoth_ff {l : Launch} {g : gG} {M : Mp} {mo : Nat} {ad : Nat → Nat} {sc : Nat → Int32} {ar : Nat → Nat → Int32} {ne nb no : Nat}  (hI : MI g M mo ad sc ar) (hs0 : sc 0 = nI ne) (hs5 : sc 5 = nI nb) (hs9 : sc 9 = nI no) (hb0 : ne ≤ 12) (hb5 : nb ≤ 10) (hb9 : no ≤ 40) : Met l yX6_mayBoth (WY yX6_mayBoth cX6_mayBoth 3 (some .boolean)) { frames := 0, cells := 0, slots := 0, locals := 0 } (Wc g M [.ref mo, .int 0, .int 0]) (wrQ (S := Unit) g (fun u_ => (some (.int 0))) (fun u_ M_ => MX g M M_ mo ad (us sc 23 1) (ar))) 0 0 (gA g) := by
  refine ofM (by decide +kernel) (Nat.le_of_ble_eq_true rfl) (fun p e s m args below meth c ls C hr hlocks hin hE hH hl ea => ?_)
  have hl : lv_has ls 3 [(0, .ref mo), (1, .int 0), (2, .int 0)] := hl
  have hS : va_S (gA g) s.heap s.heap [] := va_S.rf
  have X0 := MX_rf hI
  refine lv_aload_n C.1 C.2.1 dX6_mayBoth_0 rfl (lv_at hl 0 rfl) ?_
  refine lv_iload_n C.1 C.2.1 dX6_mayBoth_1 rfl (lv_at hl 1 rfl) ?_
  refine lv_if_ne (tgt := 9) C.1 C.2.1 dX6_mayBoth_2 (by decide) (fun c2 => ?_) (fun c2 => ?_)
  · exact absurd c2 (by decide)
  · refine lv_iconst (v := 1) C.1 C.2.1 dX6_mayBoth_5 rfl ?_
    refine lv_goto (tgt := 18) C.1 C.2.1 dX6_mayBoth_6 (by decide) ?_
    refine mput (fs' := mfs ad (us (sc) 23 1)) C hE hH hS fl_753 (MX_m X0) rfl rfl rfl (Nat.le_of_ble_eq_true rfl) dX6_mayBoth_18 (fun H locs hH hS => ?_)
    obtain ⟨M1, hM1⟩ : ∃ z, z = mu M mo (eO 7 (mfs ad (us (sc) 23 1))) := ⟨_, rfl⟩
    have hH : Hw g M1 H := by rw [hM1]; exact hH
    have X2 := MX_sc (sc' := us (sc) 23 1) X0
    rw [← hM1] at X2
    refine lv_aload_n C.1 C.2.1 dX6_mayBoth_21 rfl (lv_at hl 0 rfl) ?_
    refine mget (v := .int 1) C hE hH fl_753 (MX_m X2) rfl dX6_mayBoth_22 ?_
    refine lv_if_ne (tgt := 32) C.1 C.2.1 dX6_mayBoth_25 (by decide) (fun c25 => ?_) (fun c25 => ?_)
    · refine lv_iconst (v := 0) C.1 C.2.1 dX6_mayBoth_32 rfl ?_
      exact wr_zret () C hr hlocks (rfl) hH hS rfl (X2) (by decide) (by decide) dX6_mayBoth_33
    · exact absurd c25 (by decide)
theorem m_mayBoth {l : Launch} {g : gG} {M : Mp} {mo : Nat} {ad : Nat → Nat} {sc : Nat → Int32} {ar : Nat → Nat → Int32} {ne nb no : Nat}  (hI : MI g M mo ad sc ar) (hs0 : sc 0 = nI ne) (hs5 : sc 5 = nI nb) (hs9 : sc 9 = nI no) (hb0 : ne ≤ 12) (hb5 : nb ≤ 10) (hb9 : no ≤ 40) (b1 b2 : Bool) : Met l yX6_mayBoth (WY yX6_mayBoth cX6_mayBoth 3 (some .boolean)) { frames := 0, cells := 0, slots := 0, locals := 0 } (Wc g M [.ref mo, .int (bI b1), .int (bI b2)]) (wrQ (S := Unit) g (fun u_ => (some (.int (bI (b1 && b2))))) (fun u_ M_ => MX g M M_ mo ad (us sc 23 (mt2 b1 b2)) (ar))) 0 0 (gA g) := by
  cases b1 <;> cases b2 <;> first | exact m_mayBoth_tt hI hs0 hs5 hs9 hb0 hb5 hb9 | exact m_mayBoth_tf hI hs0 hs5 hs9 hb0 hb5 hb9 | exact m_mayBoth_ft hI hs0 hs5 hs9 hb0 hb5 hb9 | exact m_mayBoth_ff hI hs0 hs5 hs9 hb0 hb5 hb9
set_option maxHeartbeats 4000000 in
set_option maxRecDepth 100000 in
theorem m_mayAll_ttt {l : Launch} {g : gG} {M : Mp} {mo : Nat} {ad : Nat → Nat} {sc : Nat → Int32} {ar : Nat → Nat → Int32} {ne nb no : Nat}  (hI : MI g M mo ad sc ar) (hs0 : sc 0 = nI ne) (hs5 : sc 5 = nI nb) (hs9 : sc 9 = nI no) (hb0 : ne ≤ 12) (hb5 : nb ≤ 10) (hb9 : no ≤ 40) : Met l yX6_mayAll (WY yX6_mayAll cX6_mayAll 4 (some .boolean)) { frames := 0, cells := 0, slots := 0, locals := 0 } (Wc g M [.ref mo, .int 1, .int 1, .int 1]) (wrQ (S := Unit) g (fun u_ => (some (.int 1))) (fun u_ M_ => MX g M M_ mo ad (us sc 23 0) (ar))) 0 0 (gA g) := by
  refine ofM (by decide +kernel) (Nat.le_of_ble_eq_true rfl) (fun p e s m args below meth c ls C hr hlocks hin hE hH hl ea => ?_)
  have hl : lv_has ls 4 [(0, .ref mo), (1, .int 1), (2, .int 1), (3, .int 1)] := hl
  have hS : va_S (gA g) s.heap s.heap [] := va_S.rf
  have X0 := MX_rf hI
  refine lv_aload_n C.1 C.2.1 dX6_mayAll_0 rfl (lv_at hl 0 rfl) ?_
  refine lv_iload_n C.1 C.2.1 dX6_mayAll_1 rfl (lv_at hl 1 rfl) ?_
  refine lv_if_ne (tgt := 9) C.1 C.2.1 dX6_mayAll_2 (by decide) (fun c2 => ?_) (fun c2 => ?_)
  · refine lv_iload_n C.1 C.2.1 dX6_mayAll_9 rfl (lv_at hl 2 rfl) ?_
    refine lv_if_ne (tgt := 17) C.1 C.2.1 dX6_mayAll_10 (by decide) (fun c10 => ?_) (fun c10 => ?_)
    · refine lv_iload_n C.1 C.2.1 dX6_mayAll_17 rfl (lv_at hl 3 rfl) ?_
      refine lv_if_ne (tgt := 25) C.1 C.2.1 dX6_mayAll_18 (by decide) (fun c18 => ?_) (fun c18 => ?_)
      · refine lv_iconst (v := 0) C.1 C.2.1 dX6_mayAll_25 rfl ?_
        refine mput (fs' := mfs ad (us (sc) 23 0)) C hE hH hS fl_753 (MX_m X0) rfl rfl rfl (Nat.le_of_ble_eq_true rfl) dX6_mayAll_26 (fun H locs hH hS => ?_)
        obtain ⟨M1, hM1⟩ : ∃ z, z = mu M mo (eO 7 (mfs ad (us (sc) 23 0))) := ⟨_, rfl⟩
        have hH : Hw g M1 H := by rw [hM1]; exact hH
        have X2 := MX_sc (sc' := us (sc) 23 0) X0
        rw [← hM1] at X2
        refine lv_aload_n C.1 C.2.1 dX6_mayAll_29 rfl (lv_at hl 0 rfl) ?_
        refine mget (v := .int 0) C hE hH fl_753 (MX_m X2) rfl dX6_mayAll_30 ?_
        refine lv_if_ne (tgt := 40) C.1 C.2.1 dX6_mayAll_33 (by decide) (fun c33 => ?_) (fun c33 => ?_)
        · exact absurd c33 (by decide)
        · refine lv_iconst (v := 1) C.1 C.2.1 dX6_mayAll_36 rfl ?_
          refine lv_goto (tgt := 41) C.1 C.2.1 dX6_mayAll_37 (by decide) ?_
          exact wr_zret () C hr hlocks (rfl) hH hS rfl (X2) (by decide) (by decide) dX6_mayAll_41
      · exact absurd c18 (by decide)
    · exact absurd c10 (by decide)
  · exact absurd c2 (by decide)
set_option maxHeartbeats 4000000 in
set_option maxRecDepth 100000 in
theorem m_mayAll_ttf {l : Launch} {g : gG} {M : Mp} {mo : Nat} {ad : Nat → Nat} {sc : Nat → Int32} {ar : Nat → Nat → Int32} {ne nb no : Nat}  (hI : MI g M mo ad sc ar) (hs0 : sc 0 = nI ne) (hs5 : sc 5 = nI nb) (hs9 : sc 9 = nI no) (hb0 : ne ≤ 12) (hb5 : nb ≤ 10) (hb9 : no ≤ 40) : Met l yX6_mayAll (WY yX6_mayAll cX6_mayAll 4 (some .boolean)) { frames := 0, cells := 0, slots := 0, locals := 0 } (Wc g M [.ref mo, .int 1, .int 1, .int 0]) (wrQ (S := Unit) g (fun u_ => (some (.int 0))) (fun u_ M_ => MX g M M_ mo ad (us sc 23 3) (ar))) 0 0 (gA g) := by
  refine ofM (by decide +kernel) (Nat.le_of_ble_eq_true rfl) (fun p e s m args below meth c ls C hr hlocks hin hE hH hl ea => ?_)
  have hl : lv_has ls 4 [(0, .ref mo), (1, .int 1), (2, .int 1), (3, .int 0)] := hl
  have hS : va_S (gA g) s.heap s.heap [] := va_S.rf
  have X0 := MX_rf hI
  refine lv_aload_n C.1 C.2.1 dX6_mayAll_0 rfl (lv_at hl 0 rfl) ?_
  refine lv_iload_n C.1 C.2.1 dX6_mayAll_1 rfl (lv_at hl 1 rfl) ?_
  refine lv_if_ne (tgt := 9) C.1 C.2.1 dX6_mayAll_2 (by decide) (fun c2 => ?_) (fun c2 => ?_)
  · refine lv_iload_n C.1 C.2.1 dX6_mayAll_9 rfl (lv_at hl 2 rfl) ?_
    refine lv_if_ne (tgt := 17) C.1 C.2.1 dX6_mayAll_10 (by decide) (fun c10 => ?_) (fun c10 => ?_)
    · refine lv_iload_n C.1 C.2.1 dX6_mayAll_17 rfl (lv_at hl 3 rfl) ?_
      refine lv_if_ne (tgt := 25) C.1 C.2.1 dX6_mayAll_18 (by decide) (fun c18 => ?_) (fun c18 => ?_)
      · exact absurd c18 (by decide)
      · refine lv_iconst (v := 3) C.1 C.2.1 dX6_mayAll_21 rfl ?_
        refine lv_goto (tgt := 26) C.1 C.2.1 dX6_mayAll_22 (by decide) ?_
        refine mput (fs' := mfs ad (us (sc) 23 3)) C hE hH hS fl_753 (MX_m X0) rfl rfl rfl (Nat.le_of_ble_eq_true rfl) dX6_mayAll_26 (fun H locs hH hS => ?_)
        obtain ⟨M1, hM1⟩ : ∃ z, z = mu M mo (eO 7 (mfs ad (us (sc) 23 3))) := ⟨_, rfl⟩
        have hH : Hw g M1 H := by rw [hM1]; exact hH
        have X2 := MX_sc (sc' := us (sc) 23 3) X0
        rw [← hM1] at X2
        refine lv_aload_n C.1 C.2.1 dX6_mayAll_29 rfl (lv_at hl 0 rfl) ?_
        refine mget (v := .int 3) C hE hH fl_753 (MX_m X2) rfl dX6_mayAll_30 ?_
        refine lv_if_ne (tgt := 40) C.1 C.2.1 dX6_mayAll_33 (by decide) (fun c33 => ?_) (fun c33 => ?_)
        · refine lv_iconst (v := 0) C.1 C.2.1 dX6_mayAll_40 rfl ?_
          exact wr_zret () C hr hlocks (rfl) hH hS rfl (X2) (by decide) (by decide) dX6_mayAll_41
        · exact absurd c33 (by decide)
    · exact absurd c10 (by decide)
  · exact absurd c2 (by decide)
set_option maxHeartbeats 4000000 in
set_option maxRecDepth 100000 in
theorem m_mayAll_tft {l : Launch} {g : gG} {M : Mp} {mo : Nat} {ad : Nat → Nat} {sc : Nat → Int32} {ar : Nat → Nat → Int32} {ne nb no : Nat}  (hI : MI g M mo ad sc ar) (hs0 : sc 0 = nI ne) (hs5 : sc 5 = nI nb) (hs9 : sc 9 = nI no) (hb0 : ne ≤ 12) (hb5 : nb ≤ 10) (hb9 : no ≤ 40) : Met l yX6_mayAll (WY yX6_mayAll cX6_mayAll 4 (some .boolean)) { frames := 0, cells := 0, slots := 0, locals := 0 } (Wc g M [.ref mo, .int 1, .int 0, .int 1]) (wrQ (S := Unit) g (fun u_ => (some (.int 0))) (fun u_ M_ => MX g M M_ mo ad (us sc 23 2) (ar))) 0 0 (gA g) := by
  refine ofM (by decide +kernel) (Nat.le_of_ble_eq_true rfl) (fun p e s m args below meth c ls C hr hlocks hin hE hH hl ea => ?_)
  have hl : lv_has ls 4 [(0, .ref mo), (1, .int 1), (2, .int 0), (3, .int 1)] := hl
  have hS : va_S (gA g) s.heap s.heap [] := va_S.rf
  have X0 := MX_rf hI
  refine lv_aload_n C.1 C.2.1 dX6_mayAll_0 rfl (lv_at hl 0 rfl) ?_
  refine lv_iload_n C.1 C.2.1 dX6_mayAll_1 rfl (lv_at hl 1 rfl) ?_
  refine lv_if_ne (tgt := 9) C.1 C.2.1 dX6_mayAll_2 (by decide) (fun c2 => ?_) (fun c2 => ?_)
  · refine lv_iload_n C.1 C.2.1 dX6_mayAll_9 rfl (lv_at hl 2 rfl) ?_
    refine lv_if_ne (tgt := 17) C.1 C.2.1 dX6_mayAll_10 (by decide) (fun c10 => ?_) (fun c10 => ?_)
    · exact absurd c10 (by decide)
    · refine lv_iconst (v := 2) C.1 C.2.1 dX6_mayAll_13 rfl ?_
      refine lv_goto (tgt := 26) C.1 C.2.1 dX6_mayAll_14 (by decide) ?_
      refine mput (fs' := mfs ad (us (sc) 23 2)) C hE hH hS fl_753 (MX_m X0) rfl rfl rfl (Nat.le_of_ble_eq_true rfl) dX6_mayAll_26 (fun H locs hH hS => ?_)
      obtain ⟨M1, hM1⟩ : ∃ z, z = mu M mo (eO 7 (mfs ad (us (sc) 23 2))) := ⟨_, rfl⟩
      have hH : Hw g M1 H := by rw [hM1]; exact hH
      have X2 := MX_sc (sc' := us (sc) 23 2) X0
      rw [← hM1] at X2
      refine lv_aload_n C.1 C.2.1 dX6_mayAll_29 rfl (lv_at hl 0 rfl) ?_
      refine mget (v := .int 2) C hE hH fl_753 (MX_m X2) rfl dX6_mayAll_30 ?_
      refine lv_if_ne (tgt := 40) C.1 C.2.1 dX6_mayAll_33 (by decide) (fun c33 => ?_) (fun c33 => ?_)
      · refine lv_iconst (v := 0) C.1 C.2.1 dX6_mayAll_40 rfl ?_
        exact wr_zret () C hr hlocks (rfl) hH hS rfl (X2) (by decide) (by decide) dX6_mayAll_41
      · exact absurd c33 (by decide)
  · exact absurd c2 (by decide)
set_option maxHeartbeats 4000000 in
set_option maxRecDepth 100000 in
theorem m_mayAll_tff {l : Launch} {g : gG} {M : Mp} {mo : Nat} {ad : Nat → Nat} {sc : Nat → Int32} {ar : Nat → Nat → Int32} {ne nb no : Nat}  (hI : MI g M mo ad sc ar) (hs0 : sc 0 = nI ne) (hs5 : sc 5 = nI nb) (hs9 : sc 9 = nI no) (hb0 : ne ≤ 12) (hb5 : nb ≤ 10) (hb9 : no ≤ 40) : Met l yX6_mayAll (WY yX6_mayAll cX6_mayAll 4 (some .boolean)) { frames := 0, cells := 0, slots := 0, locals := 0 } (Wc g M [.ref mo, .int 1, .int 0, .int 0]) (wrQ (S := Unit) g (fun u_ => (some (.int 0))) (fun u_ M_ => MX g M M_ mo ad (us sc 23 2) (ar))) 0 0 (gA g) := by
  refine ofM (by decide +kernel) (Nat.le_of_ble_eq_true rfl) (fun p e s m args below meth c ls C hr hlocks hin hE hH hl ea => ?_)
  have hl : lv_has ls 4 [(0, .ref mo), (1, .int 1), (2, .int 0), (3, .int 0)] := hl
  have hS : va_S (gA g) s.heap s.heap [] := va_S.rf
  have X0 := MX_rf hI
  refine lv_aload_n C.1 C.2.1 dX6_mayAll_0 rfl (lv_at hl 0 rfl) ?_
  refine lv_iload_n C.1 C.2.1 dX6_mayAll_1 rfl (lv_at hl 1 rfl) ?_
  refine lv_if_ne (tgt := 9) C.1 C.2.1 dX6_mayAll_2 (by decide) (fun c2 => ?_) (fun c2 => ?_)
  · refine lv_iload_n C.1 C.2.1 dX6_mayAll_9 rfl (lv_at hl 2 rfl) ?_
    refine lv_if_ne (tgt := 17) C.1 C.2.1 dX6_mayAll_10 (by decide) (fun c10 => ?_) (fun c10 => ?_)
    · exact absurd c10 (by decide)
    · refine lv_iconst (v := 2) C.1 C.2.1 dX6_mayAll_13 rfl ?_
      refine lv_goto (tgt := 26) C.1 C.2.1 dX6_mayAll_14 (by decide) ?_
      refine mput (fs' := mfs ad (us (sc) 23 2)) C hE hH hS fl_753 (MX_m X0) rfl rfl rfl (Nat.le_of_ble_eq_true rfl) dX6_mayAll_26 (fun H locs hH hS => ?_)
      obtain ⟨M1, hM1⟩ : ∃ z, z = mu M mo (eO 7 (mfs ad (us (sc) 23 2))) := ⟨_, rfl⟩
      have hH : Hw g M1 H := by rw [hM1]; exact hH
      have X2 := MX_sc (sc' := us (sc) 23 2) X0
      rw [← hM1] at X2
      refine lv_aload_n C.1 C.2.1 dX6_mayAll_29 rfl (lv_at hl 0 rfl) ?_
      refine mget (v := .int 2) C hE hH fl_753 (MX_m X2) rfl dX6_mayAll_30 ?_
      refine lv_if_ne (tgt := 40) C.1 C.2.1 dX6_mayAll_33 (by decide) (fun c33 => ?_) (fun c33 => ?_)
      · refine lv_iconst (v := 0) C.1 C.2.1 dX6_mayAll_40 rfl ?_
        exact wr_zret () C hr hlocks (rfl) hH hS rfl (X2) (by decide) (by decide) dX6_mayAll_41
      · exact absurd c33 (by decide)
  · exact absurd c2 (by decide)
set_option maxHeartbeats 4000000 in
set_option maxRecDepth 100000 in
theorem m_mayAll_ftt {l : Launch} {g : gG} {M : Mp} {mo : Nat} {ad : Nat → Nat} {sc : Nat → Int32} {ar : Nat → Nat → Int32} {ne nb no : Nat}  (hI : MI g M mo ad sc ar) (hs0 : sc 0 = nI ne) (hs5 : sc 5 = nI nb) (hs9 : sc 9 = nI no) (hb0 : ne ≤ 12) (hb5 : nb ≤ 10) (hb9 : no ≤ 40) : Met l yX6_mayAll (WY yX6_mayAll cX6_mayAll 4 (some .boolean)) { frames := 0, cells := 0, slots := 0, locals := 0 } (Wc g M [.ref mo, .int 0, .int 1, .int 1]) (wrQ (S := Unit) g (fun u_ => (some (.int 0))) (fun u_ M_ => MX g M M_ mo ad (us sc 23 1) (ar))) 0 0 (gA g) := by
  refine ofM (by decide +kernel) (Nat.le_of_ble_eq_true rfl) (fun p e s m args below meth c ls C hr hlocks hin hE hH hl ea => ?_)
  have hl : lv_has ls 4 [(0, .ref mo), (1, .int 0), (2, .int 1), (3, .int 1)] := hl
  have hS : va_S (gA g) s.heap s.heap [] := va_S.rf
  have X0 := MX_rf hI
  refine lv_aload_n C.1 C.2.1 dX6_mayAll_0 rfl (lv_at hl 0 rfl) ?_
  refine lv_iload_n C.1 C.2.1 dX6_mayAll_1 rfl (lv_at hl 1 rfl) ?_
  refine lv_if_ne (tgt := 9) C.1 C.2.1 dX6_mayAll_2 (by decide) (fun c2 => ?_) (fun c2 => ?_)
  · exact absurd c2 (by decide)
  · refine lv_iconst (v := 1) C.1 C.2.1 dX6_mayAll_5 rfl ?_
    refine lv_goto (tgt := 26) C.1 C.2.1 dX6_mayAll_6 (by decide) ?_
    refine mput (fs' := mfs ad (us (sc) 23 1)) C hE hH hS fl_753 (MX_m X0) rfl rfl rfl (Nat.le_of_ble_eq_true rfl) dX6_mayAll_26 (fun H locs hH hS => ?_)
    obtain ⟨M1, hM1⟩ : ∃ z, z = mu M mo (eO 7 (mfs ad (us (sc) 23 1))) := ⟨_, rfl⟩
    have hH : Hw g M1 H := by rw [hM1]; exact hH
    have X2 := MX_sc (sc' := us (sc) 23 1) X0
    rw [← hM1] at X2
    refine lv_aload_n C.1 C.2.1 dX6_mayAll_29 rfl (lv_at hl 0 rfl) ?_
    refine mget (v := .int 1) C hE hH fl_753 (MX_m X2) rfl dX6_mayAll_30 ?_
    refine lv_if_ne (tgt := 40) C.1 C.2.1 dX6_mayAll_33 (by decide) (fun c33 => ?_) (fun c33 => ?_)
    · refine lv_iconst (v := 0) C.1 C.2.1 dX6_mayAll_40 rfl ?_
      exact wr_zret () C hr hlocks (rfl) hH hS rfl (X2) (by decide) (by decide) dX6_mayAll_41
    · exact absurd c33 (by decide)
set_option maxHeartbeats 4000000 in
set_option maxRecDepth 100000 in
theorem m_mayAll_ftf {l : Launch} {g : gG} {M : Mp} {mo : Nat} {ad : Nat → Nat} {sc : Nat → Int32} {ar : Nat → Nat → Int32} {ne nb no : Nat}  (hI : MI g M mo ad sc ar) (hs0 : sc 0 = nI ne) (hs5 : sc 5 = nI nb) (hs9 : sc 9 = nI no) (hb0 : ne ≤ 12) (hb5 : nb ≤ 10) (hb9 : no ≤ 40) : Met l yX6_mayAll (WY yX6_mayAll cX6_mayAll 4 (some .boolean)) { frames := 0, cells := 0, slots := 0, locals := 0 } (Wc g M [.ref mo, .int 0, .int 1, .int 0]) (wrQ (S := Unit) g (fun u_ => (some (.int 0))) (fun u_ M_ => MX g M M_ mo ad (us sc 23 1) (ar))) 0 0 (gA g) := by
  refine ofM (by decide +kernel) (Nat.le_of_ble_eq_true rfl) (fun p e s m args below meth c ls C hr hlocks hin hE hH hl ea => ?_)
  have hl : lv_has ls 4 [(0, .ref mo), (1, .int 0), (2, .int 1), (3, .int 0)] := hl
  have hS : va_S (gA g) s.heap s.heap [] := va_S.rf
  have X0 := MX_rf hI
  refine lv_aload_n C.1 C.2.1 dX6_mayAll_0 rfl (lv_at hl 0 rfl) ?_
  refine lv_iload_n C.1 C.2.1 dX6_mayAll_1 rfl (lv_at hl 1 rfl) ?_
  refine lv_if_ne (tgt := 9) C.1 C.2.1 dX6_mayAll_2 (by decide) (fun c2 => ?_) (fun c2 => ?_)
  · exact absurd c2 (by decide)
  · refine lv_iconst (v := 1) C.1 C.2.1 dX6_mayAll_5 rfl ?_
    refine lv_goto (tgt := 26) C.1 C.2.1 dX6_mayAll_6 (by decide) ?_
    refine mput (fs' := mfs ad (us (sc) 23 1)) C hE hH hS fl_753 (MX_m X0) rfl rfl rfl (Nat.le_of_ble_eq_true rfl) dX6_mayAll_26 (fun H locs hH hS => ?_)
    obtain ⟨M1, hM1⟩ : ∃ z, z = mu M mo (eO 7 (mfs ad (us (sc) 23 1))) := ⟨_, rfl⟩
    have hH : Hw g M1 H := by rw [hM1]; exact hH
    have X2 := MX_sc (sc' := us (sc) 23 1) X0
    rw [← hM1] at X2
    refine lv_aload_n C.1 C.2.1 dX6_mayAll_29 rfl (lv_at hl 0 rfl) ?_
    refine mget (v := .int 1) C hE hH fl_753 (MX_m X2) rfl dX6_mayAll_30 ?_
    refine lv_if_ne (tgt := 40) C.1 C.2.1 dX6_mayAll_33 (by decide) (fun c33 => ?_) (fun c33 => ?_)
    · refine lv_iconst (v := 0) C.1 C.2.1 dX6_mayAll_40 rfl ?_
      exact wr_zret () C hr hlocks (rfl) hH hS rfl (X2) (by decide) (by decide) dX6_mayAll_41
    · exact absurd c33 (by decide)
set_option maxHeartbeats 4000000 in
set_option maxRecDepth 100000 in
theorem m_mayAll_fft {l : Launch} {g : gG} {M : Mp} {mo : Nat} {ad : Nat → Nat} {sc : Nat → Int32} {ar : Nat → Nat → Int32} {ne nb no : Nat}  (hI : MI g M mo ad sc ar) (hs0 : sc 0 = nI ne) (hs5 : sc 5 = nI nb) (hs9 : sc 9 = nI no) (hb0 : ne ≤ 12) (hb5 : nb ≤ 10) (hb9 : no ≤ 40) : Met l yX6_mayAll (WY yX6_mayAll cX6_mayAll 4 (some .boolean)) { frames := 0, cells := 0, slots := 0, locals := 0 } (Wc g M [.ref mo, .int 0, .int 0, .int 1]) (wrQ (S := Unit) g (fun u_ => (some (.int 0))) (fun u_ M_ => MX g M M_ mo ad (us sc 23 1) (ar))) 0 0 (gA g) := by
  refine ofM (by decide +kernel) (Nat.le_of_ble_eq_true rfl) (fun p e s m args below meth c ls C hr hlocks hin hE hH hl ea => ?_)
  have hl : lv_has ls 4 [(0, .ref mo), (1, .int 0), (2, .int 0), (3, .int 1)] := hl
  have hS : va_S (gA g) s.heap s.heap [] := va_S.rf
  have X0 := MX_rf hI
  refine lv_aload_n C.1 C.2.1 dX6_mayAll_0 rfl (lv_at hl 0 rfl) ?_
  refine lv_iload_n C.1 C.2.1 dX6_mayAll_1 rfl (lv_at hl 1 rfl) ?_
  refine lv_if_ne (tgt := 9) C.1 C.2.1 dX6_mayAll_2 (by decide) (fun c2 => ?_) (fun c2 => ?_)
  · exact absurd c2 (by decide)
  · refine lv_iconst (v := 1) C.1 C.2.1 dX6_mayAll_5 rfl ?_
    refine lv_goto (tgt := 26) C.1 C.2.1 dX6_mayAll_6 (by decide) ?_
    refine mput (fs' := mfs ad (us (sc) 23 1)) C hE hH hS fl_753 (MX_m X0) rfl rfl rfl (Nat.le_of_ble_eq_true rfl) dX6_mayAll_26 (fun H locs hH hS => ?_)
    obtain ⟨M1, hM1⟩ : ∃ z, z = mu M mo (eO 7 (mfs ad (us (sc) 23 1))) := ⟨_, rfl⟩
    have hH : Hw g M1 H := by rw [hM1]; exact hH
    have X2 := MX_sc (sc' := us (sc) 23 1) X0
    rw [← hM1] at X2
    refine lv_aload_n C.1 C.2.1 dX6_mayAll_29 rfl (lv_at hl 0 rfl) ?_
    refine mget (v := .int 1) C hE hH fl_753 (MX_m X2) rfl dX6_mayAll_30 ?_
    refine lv_if_ne (tgt := 40) C.1 C.2.1 dX6_mayAll_33 (by decide) (fun c33 => ?_) (fun c33 => ?_)
    · refine lv_iconst (v := 0) C.1 C.2.1 dX6_mayAll_40 rfl ?_
      exact wr_zret () C hr hlocks (rfl) hH hS rfl (X2) (by decide) (by decide) dX6_mayAll_41
    · exact absurd c33 (by decide)
set_option maxHeartbeats 4000000 in
set_option maxRecDepth 100000 in
theorem m_mayAll_fff {l : Launch} {g : gG} {M : Mp} {mo : Nat} {ad : Nat → Nat} {sc : Nat → Int32} {ar : Nat → Nat → Int32} {ne nb no : Nat}  (hI : MI g M mo ad sc ar) (hs0 : sc 0 = nI ne) (hs5 : sc 5 = nI nb) (hs9 : sc 9 = nI no) (hb0 : ne ≤ 12) (hb5 : nb ≤ 10) (hb9 : no ≤ 40) : Met l yX6_mayAll (WY yX6_mayAll cX6_mayAll 4 (some .boolean)) { frames := 0, cells := 0, slots := 0, locals := 0 } (Wc g M [.ref mo, .int 0, .int 0, .int 0]) (wrQ (S := Unit) g (fun u_ => (some (.int 0))) (fun u_ M_ => MX g M M_ mo ad (us sc 23 1) (ar))) 0 0 (gA g) := by
  refine ofM (by decide +kernel) (Nat.le_of_ble_eq_true rfl) (fun p e s m args below meth c ls C hr hlocks hin hE hH hl ea => ?_)
  have hl : lv_has ls 4 [(0, .ref mo), (1, .int 0), (2, .int 0), (3, .int 0)] := hl
  have hS : va_S (gA g) s.heap s.heap [] := va_S.rf
  have X0 := MX_rf hI
  refine lv_aload_n C.1 C.2.1 dX6_mayAll_0 rfl (lv_at hl 0 rfl) ?_
  refine lv_iload_n C.1 C.2.1 dX6_mayAll_1 rfl (lv_at hl 1 rfl) ?_
  refine lv_if_ne (tgt := 9) C.1 C.2.1 dX6_mayAll_2 (by decide) (fun c2 => ?_) (fun c2 => ?_)
  · exact absurd c2 (by decide)
  · refine lv_iconst (v := 1) C.1 C.2.1 dX6_mayAll_5 rfl ?_
    refine lv_goto (tgt := 26) C.1 C.2.1 dX6_mayAll_6 (by decide) ?_
    refine mput (fs' := mfs ad (us (sc) 23 1)) C hE hH hS fl_753 (MX_m X0) rfl rfl rfl (Nat.le_of_ble_eq_true rfl) dX6_mayAll_26 (fun H locs hH hS => ?_)
    obtain ⟨M1, hM1⟩ : ∃ z, z = mu M mo (eO 7 (mfs ad (us (sc) 23 1))) := ⟨_, rfl⟩
    have hH : Hw g M1 H := by rw [hM1]; exact hH
    have X2 := MX_sc (sc' := us (sc) 23 1) X0
    rw [← hM1] at X2
    refine lv_aload_n C.1 C.2.1 dX6_mayAll_29 rfl (lv_at hl 0 rfl) ?_
    refine mget (v := .int 1) C hE hH fl_753 (MX_m X2) rfl dX6_mayAll_30 ?_
    refine lv_if_ne (tgt := 40) C.1 C.2.1 dX6_mayAll_33 (by decide) (fun c33 => ?_) (fun c33 => ?_)
    · refine lv_iconst (v := 0) C.1 C.2.1 dX6_mayAll_40 rfl ?_
      exact wr_zret () C hr hlocks (rfl) hH hS rfl (X2) (by decide) (by decide) dX6_mayAll_41
    · exact absurd c33 (by decide)
theorem m_mayAll {l : Launch} {g : gG} {M : Mp} {mo : Nat} {ad : Nat → Nat} {sc : Nat → Int32} {ar : Nat → Nat → Int32} {ne nb no : Nat}  (hI : MI g M mo ad sc ar) (hs0 : sc 0 = nI ne) (hs5 : sc 5 = nI nb) (hs9 : sc 9 = nI no) (hb0 : ne ≤ 12) (hb5 : nb ≤ 10) (hb9 : no ≤ 40) (b1 b2 b3 : Bool) : Met l yX6_mayAll (WY yX6_mayAll cX6_mayAll 4 (some .boolean)) { frames := 0, cells := 0, slots := 0, locals := 0 } (Wc g M [.ref mo, .int (bI b1), .int (bI b2), .int (bI b3)]) (wrQ (S := Unit) g (fun u_ => (some (.int (bI (b1 && b2 && b3))))) (fun u_ M_ => MX g M M_ mo ad (us sc 23 (mt3 b1 b2 b3)) (ar))) 0 0 (gA g) := by
  cases b1 <;> cases b2 <;> cases b3 <;> first | exact m_mayAll_ttt hI hs0 hs5 hs9 hb0 hb5 hb9 | exact m_mayAll_ttf hI hs0 hs5 hs9 hb0 hb5 hb9 | exact m_mayAll_tft hI hs0 hs5 hs9 hb0 hb5 hb9 | exact m_mayAll_tff hI hs0 hs5 hs9 hb0 hb5 hb9 | exact m_mayAll_ftt hI hs0 hs5 hs9 hb0 hb5 hb9 | exact m_mayAll_ftf hI hs0 hs5 hs9 hb0 hb5 hb9 | exact m_mayAll_fft hI hs0 hs5 hs9 hb0 hb5 hb9 | exact m_mayAll_fff hI hs0 hs5 hs9 hb0 hb5 hb9
set_option maxHeartbeats 4000000 in
set_option maxRecDepth 100000 in
theorem mw_entry {l : Launch} {g : gG} {M : Mp} {mo : Nat} {ad : Nat → Nat} {sc : Nat → Int32} {ar : Nat → Nat → Int32} {ne nb no : Nat}  (hI : MI g M mo ad sc ar) (hs0 : sc 0 = nI ne) (hs5 : sc 5 = nI nb) (hs9 : sc 9 = nI no) (hb0 : ne ≤ 12) (hb5 : nb ≤ 10) (hb9 : no ≤ 40) (p0 p1 p2 : Int32) : Met l yX6_entry (WY yX6_entry cX6_entry 4 (some .int)) { frames := 1, cells := 0, slots := 0, locals := 22 } (Wc g M [.ref mo, .int p0, .int p1, .int p2]) (wrQ (S := Int32) g (fun u_ => (some (.int u_))) (fun u_ M_ => MQ2 (((inr p0 0 60) ∧ inr p1 0 60) ∧ inr p2 0 20) (nI ne < 12) (u_ = (nI (ne + 1) - 1) ∧ MX g M M_ mo ad (us (us sc 23 0) 0 (nI (ne + 1))) (ua (ua ar 1 (upd (upd (ar 1) (2 * ne) p0) (2 * ne + 1) p1)) 2 (upd (ar 2) ne p2))) (fun t_ => u_ = 0 ∧ MX g M M_ mo ad (us sc 23 t_) ar))) 0 0 (gA g) := by
  refine ofM (by decide +kernel) (Nat.le_of_ble_eq_true rfl) (fun p e s m args below meth c ls C hr hlocks hin hE hH hl ea => ?_)
  have hl : lv_has ls 4 [(0, .ref mo), (1, .int p0), (2, .int p1), (3, .int p2)] := hl
  have hS : va_S (gA g) s.heap s.heap [] := va_S.rf
  have X0 := MX_rf hI
  refine lv_aload_n C.1 C.2.1 dX6_entry_0 rfl (lv_at hl 0 rfl) ?_
  have J36 : ∀ (b1 : Bool), b1 = decide (((inr p0 0 60) ∧ inr p1 0 60) ∧ inr p2 0 20) → ∀ (ls : Array Slot), lv_has ls 4 [(0, .ref mo), (1, .int p0), (2, .int p1), (3, .int p2)] → W p l e { frames := 1, cells := 0, slots := 0, locals := 22 } s m args below meth c s.heap [] 0 0 (MQ below (wrQ (S := Int32) g (fun u_ => (some (.int u_))) (fun u_ M_ => MQ2 (((inr p0 0 60) ∧ inr p1 0 60) ∧ inr p2 0 20) (nI ne < 12) (u_ = (nI (ne + 1) - 1) ∧ MX g M M_ mo ad (us (us sc 23 0) 0 (nI (ne + 1))) (ua (ua ar 1 (upd (upd (ar 1) (2 * ne) p0) (2 * ne + 1) p1)) 2 (upd (ar 2) ne p2))) (fun t_ => u_ = 0 ∧ MX g M M_ mo ad (us sc 23 t_) ar))) args s 0 0 (gA g)) (F0 m 36 ls [.int (bI b1), .ref mo]) := by
    intro b1 hb1 ls hl
    have J50 : ∀ (b2 : Bool), b2 = decide (nI ne < 12) → ∀ (ls : Array Slot), lv_has ls 4 [(0, .ref mo), (1, .int p0), (2, .int p1), (3, .int p2)] → W p l e { frames := 1, cells := 0, slots := 0, locals := 22 } s m args below meth c s.heap [] 0 0 (MQ below (wrQ (S := Int32) g (fun u_ => (some (.int u_))) (fun u_ M_ => MQ2 (((inr p0 0 60) ∧ inr p1 0 60) ∧ inr p2 0 20) (nI ne < 12) (u_ = (nI (ne + 1) - 1) ∧ MX g M M_ mo ad (us (us sc 23 0) 0 (nI (ne + 1))) (ua (ua ar 1 (upd (upd (ar 1) (2 * ne) p0) (2 * ne + 1) p1)) 2 (upd (ar 2) ne p2))) (fun t_ => u_ = 0 ∧ MX g M M_ mo ad (us sc 23 t_) ar))) args s 0 0 (gA g)) (F0 m 50 ls [.int (bI b2), .int (bI b1), .ref mo]) := by
      intro b2 hb2 ls hl
      refine wr_go1 (runV C hE hH hS (m_mayBoth X0.1 hs0 hs5 hs9 hb0 hb5 hb9 b1 b2) mv_X6_mayBoth wm_814 (MX_m X0) rfl rfl hl.1 dX6_entry_50 rfl rfl ⟨rfl, rfl⟩ ⟨Nat.le_of_ble_eq_true rfl, Nat.le_of_ble_eq_true rfl⟩ (Nat.le_of_ble_eq_true rfl) ⟨Nat.le_of_ble_eq_true rfl, Nat.le_of_ble_eq_true rfl⟩) hS (fun u1 M2 H locs hM2 hH hS => ?_)
      have X3 := MX_tr X0 hM2
      refine lv_if_ne (tgt := 58) C.1 C.2.1 dX6_entry_53 (by decide) (fun c53 => ?_) (fun c53 => ?_)
      · obtain ⟨k1, k2, hz0⟩ := m2_t hb1 hb2 c53
        rw [hz0] at X3
        have k2n : ne < 12 := (nI_ltI (by omega) (by decide)).mp k2
        refine lv_aload_n C.1 C.2.1 dX6_entry_58 rfl (lv_at hl 0 rfl) ?_
        refine mget (v := .ref (ad 1)) C hE hH fl_731 (MX_m X3) rfl dX6_entry_59 ?_
        refine lv_iconst (v := 2) C.1 C.2.1 dX6_entry_62 rfl ?_
        refine lv_aload_n C.1 C.2.1 dX6_entry_63 rfl (lv_at hl 0 rfl) ?_
        refine mget (v := .int (nI ne)) C hE hH fl_730 (MX_m X3) (congrArg (fun z => some (Value.int z)) hs0) dX6_entry_64 ?_
        refine lv_imul C.1 C.2.1 dX6_entry_67 ?_
        rw [show (2 : Int32) * (nI ne) = nI (2 * ne) from (nI_m 2 ne).symm]
        refine lv_iload_n C.1 C.2.1 dX6_entry_68 rfl (lv_at hl 1 rfl) ?_
        refine mast (n := 24) (f := (ar 1)) C hE hH hS (MX_a X3 1 rfl) (vp_in_nI (show (2 * ne) < 24 by omega) (by decide)) dX6_entry_69 (fun H locs hH hS => ?_)
        rw [nI_clamp (show (2 * ne) < 2 ^ 31 by omega)] at hH
        obtain ⟨M4, hM4⟩ : ∃ z, z = mu M2 (ad 1) (eI g 24 (upd (ar 1) (2 * ne) p0)) := ⟨_, rfl⟩
        have hH : Hw g M4 H := by rw [hM4]; exact hH
        have X5 := MX_ar (k := 1) (N := 24) (f := upd (ar 1) (2 * ne) p0) rfl rfl X3
        rw [← hM4] at X5
        refine lv_aload_n C.1 C.2.1 dX6_entry_70 rfl (lv_at hl 0 rfl) ?_
        refine mget (v := .ref (ad 1)) C hE hH fl_731 (MX_m X5) rfl dX6_entry_71 ?_
        refine lv_iconst (v := 2) C.1 C.2.1 dX6_entry_74 rfl ?_
        refine lv_aload_n C.1 C.2.1 dX6_entry_75 rfl (lv_at hl 0 rfl) ?_
        refine mget (v := .int (nI ne)) C hE hH fl_730 (MX_m X5) (congrArg (fun z => some (Value.int z)) hs0) dX6_entry_76 ?_
        refine lv_imul C.1 C.2.1 dX6_entry_79 ?_
        rw [show (2 : Int32) * (nI ne) = nI (2 * ne) from (nI_m 2 ne).symm]
        refine lv_iconst (v := 1) C.1 C.2.1 dX6_entry_80 rfl ?_
        refine lv_iadd C.1 C.2.1 dX6_entry_81 ?_
        rw [show (nI (2 * ne) : Int32) + 1 = nI ((2 * ne) + 1) from (nI_a (2 * ne) 1).symm]
        refine lv_iload_n C.1 C.2.1 dX6_entry_82 rfl (lv_at hl 2 rfl) ?_
        refine mast (n := 24) (f := (upd (ar 1) (2 * ne) p0)) C hE hH hS (MX_a X5 1 rfl) (vp_in_nI (show ((2 * ne) + 1) < 24 by omega) (by decide)) dX6_entry_83 (fun H locs hH hS => ?_)
        rw [nI_clamp (show ((2 * ne) + 1) < 2 ^ 31 by omega)] at hH
        obtain ⟨M6, hM6⟩ : ∃ z, z = mu M4 (ad 1) (eI g 24 (upd (upd (ar 1) (2 * ne) p0) ((2 * ne) + 1) p1)) := ⟨_, rfl⟩
        have hH : Hw g M6 H := by rw [hM6]; exact hH
        have X7 := MX_ar (k := 1) (N := 24) (f := upd (upd (ar 1) (2 * ne) p0) ((2 * ne) + 1) p1) rfl rfl X5
        rw [← hM6] at X7
        refine lv_aload_n C.1 C.2.1 dX6_entry_84 rfl (lv_at hl 0 rfl) ?_
        refine mget (v := .ref (ad 2)) C hE hH fl_732 (MX_m X7) rfl dX6_entry_85 ?_
        refine lv_aload_n C.1 C.2.1 dX6_entry_88 rfl (lv_at hl 0 rfl) ?_
        refine mget (v := .int (nI ne)) C hE hH fl_730 (MX_m X7) (congrArg (fun z => some (Value.int z)) hs0) dX6_entry_89 ?_
        refine lv_iload_n C.1 C.2.1 dX6_entry_92 rfl (lv_at hl 3 rfl) ?_
        refine mast (n := 12) (f := (ar 2)) C hE hH hS (MX_a X7 2 rfl) (vp_in_nI (show ne < 12 by omega) (by decide)) dX6_entry_93 (fun H locs hH hS => ?_)
        rw [nI_clamp (show ne < 2 ^ 31 by omega)] at hH
        obtain ⟨M8, hM8⟩ : ∃ z, z = mu M6 (ad 2) (eI g 12 (upd (ar 2) ne p2)) := ⟨_, rfl⟩
        have hH : Hw g M8 H := by rw [hM8]; exact hH
        have X9 := MX_ar (k := 2) (N := 12) (f := upd (ar 2) ne p2) rfl rfl X7
        rw [← hM8] at X9
        refine lv_aload_n C.1 C.2.1 dX6_entry_94 rfl (lv_at hl 0 rfl) ?_
        refine lv_dup C.1 C.2.1 dX6_entry_95 rfl ?_
        refine mget (v := .int (nI ne)) C hE hH fl_730 (MX_m X9) (congrArg (fun z => some (Value.int z)) hs0) dX6_entry_96 ?_
        refine lv_iconst (v := 1) C.1 C.2.1 dX6_entry_99 rfl ?_
        refine lv_iadd C.1 C.2.1 dX6_entry_100 ?_
        rw [show (nI ne : Int32) + 1 = nI (ne + 1) from (nI_a ne 1).symm]
        refine mput (fs' := mfs ad (us (us ((sc)) 23 0) 0 (nI (ne + 1)))) C hE hH hS fl_730 (MX_m X9) rfl rfl rfl (Nat.le_of_ble_eq_true rfl) dX6_entry_101 (fun H locs hH hS => ?_)
        obtain ⟨M10, hM10⟩ : ∃ z, z = mu M8 mo (eO 7 (mfs ad (us (us ((sc)) 23 0) 0 (nI (ne + 1))))) := ⟨_, rfl⟩
        have hH : Hw g M10 H := by rw [hM10]; exact hH
        have X11 := MX_sc (sc' := us (us ((sc)) 23 0) 0 (nI (ne + 1))) X9
        rw [← hM10] at X11
        refine lv_aload_n C.1 C.2.1 dX6_entry_104 rfl (lv_at hl 0 rfl) ?_
        refine mget (v := .int (nI (ne + 1))) C hE hH fl_730 (MX_m X11) rfl dX6_entry_105 ?_
        refine lv_iconst (v := 1) C.1 C.2.1 dX6_entry_108 rfl ?_
        refine lv_isub C.1 C.2.1 dX6_entry_109 ?_
        exact wr_iret ((nI (ne + 1)) - 1) C hr hlocks hH hS rfl (Or.inl ⟨k1, k2, rfl, by have h9 := X11; rw [ua_ua] at h9; exact h9⟩) (by decide) (by decide) dX6_entry_110
      · refine lv_iconst (v := 0) C.1 C.2.1 dX6_entry_56 rfl ?_
        exact wr_iret 0 C hr hlocks hH hS rfl (mq2_bad hb1 hb2 c53 ⟨rfl, X3⟩) (by decide) (by decide) dX6_entry_57
    refine lv_aload_n C.1 C.2.1 dX6_entry_36 rfl (lv_at hl 0 rfl) ?_
    refine mget (v := .int (nI ne)) C hE hH fl_730 (MX_m X0) (congrArg (fun z => some (Value.int z)) hs0) dX6_entry_37 ?_
    refine lv_bipush (v := 12) C.1 C.2.1 dX6_entry_40 rfl ?_
    refine lv_icmp_ge (tgt := 49) C.1 C.2.1 dX6_entry_42 (by decide) (fun c42 => ?_) (fun c42 => ?_)
    · refine lv_iconst (v := 0) C.1 C.2.1 dX6_entry_49 rfl ?_
      exact J50 false ((decide_eq_false (fun z => (Int32.not_lt.mpr c42) z)).symm) ls hl
    · refine lv_iconst (v := 1) C.1 C.2.1 dX6_entry_45 rfl ?_
      refine lv_goto (tgt := 50) C.1 C.2.1 dX6_entry_46 (by decide) ?_
      exact J50 true ((decide_eq_true (Int32.not_le.mp c42)).symm) ls hl
  refine lv_iload_n C.1 C.2.1 dX6_entry_1 rfl (lv_at hl 1 rfl) ?_
  refine lv_iconst (v := 0) C.1 C.2.1 dX6_entry_2 rfl ?_
  refine lv_bipush (v := 60) C.1 C.2.1 dX6_entry_3 rfl ?_
  refine rd_go1 (runS C hE hH hS (m_isIn p0 0 60) mv_X6_isIn wm_811 hl.1 dX6_entry_5 rfl rfl ⟨rfl, rfl⟩ ⟨Nat.le_of_ble_eq_true rfl, Nat.le_of_ble_eq_true rfl⟩ (Nat.le_of_ble_eq_true rfl) ⟨Nat.le_of_ble_eq_true rfl, Nat.le_of_ble_eq_true rfl⟩) ?_
  refine lv_if_eq (tgt := 35) C.1 C.2.1 dX6_entry_8 (by decide) (fun c8 => ?_) (fun c8 => ?_)
  · refine lv_iconst (v := 0) C.1 C.2.1 dX6_entry_35 rfl ?_
    exact J36 false ((decide_eq_false (fun z => (bI_z.mp c8) z.1.1)).symm) ls hl
  · refine lv_iload_n C.1 C.2.1 dX6_entry_11 rfl (lv_at hl 2 rfl) ?_
    refine lv_iconst (v := 0) C.1 C.2.1 dX6_entry_12 rfl ?_
    refine lv_bipush (v := 60) C.1 C.2.1 dX6_entry_13 rfl ?_
    refine rd_go1 (runS C hE hH hS (m_isIn p1 0 60) mv_X6_isIn wm_811 hl.1 dX6_entry_15 rfl rfl ⟨rfl, rfl⟩ ⟨Nat.le_of_ble_eq_true rfl, Nat.le_of_ble_eq_true rfl⟩ (Nat.le_of_ble_eq_true rfl) ⟨Nat.le_of_ble_eq_true rfl, Nat.le_of_ble_eq_true rfl⟩) ?_
    refine lv_if_eq (tgt := 35) C.1 C.2.1 dX6_entry_18 (by decide) (fun c18 => ?_) (fun c18 => ?_)
    · refine lv_iconst (v := 0) C.1 C.2.1 dX6_entry_35 rfl ?_
      exact J36 false ((decide_eq_false (fun z => (bI_z.mp c18) z.1.2)).symm) ls hl
    · refine lv_iload_n C.1 C.2.1 dX6_entry_21 rfl (lv_at hl 3 rfl) ?_
      refine lv_iconst (v := 0) C.1 C.2.1 dX6_entry_22 rfl ?_
      refine lv_bipush (v := 20) C.1 C.2.1 dX6_entry_23 rfl ?_
      refine rd_go1 (runS C hE hH hS (m_isIn p2 0 20) mv_X6_isIn wm_811 hl.1 dX6_entry_25 rfl rfl ⟨rfl, rfl⟩ ⟨Nat.le_of_ble_eq_true rfl, Nat.le_of_ble_eq_true rfl⟩ (Nat.le_of_ble_eq_true rfl) ⟨Nat.le_of_ble_eq_true rfl, Nat.le_of_ble_eq_true rfl⟩) ?_
      refine lv_if_eq (tgt := 35) C.1 C.2.1 dX6_entry_28 (by decide) (fun c28 => ?_) (fun c28 => ?_)
      · refine lv_iconst (v := 0) C.1 C.2.1 dX6_entry_35 rfl ?_
        exact J36 false ((decide_eq_false (fun z => (bI_z.mp c28) z.2)).symm) ls hl
      · refine lv_iconst (v := 1) C.1 C.2.1 dX6_entry_31 rfl ?_
        refine lv_goto (tgt := 36) C.1 C.2.1 dX6_entry_32 (by decide) ?_
        exact J36 true ((decide_eq_true ⟨⟨(bI_nz c8), bI_nz c18⟩, bI_nz c28⟩).symm) ls hl
set_option maxHeartbeats 4000000 in
set_option maxRecDepth 100000 in
theorem mw_order {l : Launch} {g : gG} {M : Mp} {mo : Nat} {ad : Nat → Nat} {sc : Nat → Int32} {ar : Nat → Nat → Int32} {ne nb no : Nat}  (hI : MI g M mo ad sc ar) (hs0 : sc 0 = nI ne) (hs5 : sc 5 = nI nb) (hs9 : sc 9 = nI no) (hb0 : ne ≤ 12) (hb5 : nb ≤ 10) (hb9 : no ≤ 40) (p0 p1 p2 : Int32) : Met l yX6_order (WY yX6_order cX6_order 4 (some .int)) { frames := 2, cells := 0, slots := 0, locals := 43 } (Wc g M [.ref mo, .int p0, .int p1, .int p2]) (wrQ (S := Int32) g (fun u_ => (some (.int u_))) (fun u_ M_ => MQ3 ((inx p0 ne) ∧ inx p2 4) (inr p1 1 40) (nI no < 40) (u_ = (nI (no + 1) - 1) ∧ MX g M M_ mo ad (us (us sc 23 0) 9 (nI (no + 1))) (ua (ua (ua ar 10 (upd (ar 10) no p0)) 11 (upd (ar 11) no p1)) 12 (upd (ar 12) no p2))) (fun t_ => u_ = 0 ∧ MX g M M_ mo ad (us sc 23 t_) ar))) 0 0 (gA g) := by
  refine ofM (by decide +kernel) (Nat.le_of_ble_eq_true rfl) (fun p e s m args below meth c ls C hr hlocks hin hE hH hl ea => ?_)
  have hl : lv_has ls 4 [(0, .ref mo), (1, .int p0), (2, .int p1), (3, .int p2)] := hl
  have hS : va_S (gA g) s.heap s.heap [] := va_S.rf
  have X0 := MX_rf hI
  refine lv_aload_n C.1 C.2.1 dX6_order_0 rfl (lv_at hl 0 rfl) ?_
  have J23 : ∀ (b1 : Bool), b1 = decide ((inx p0 ne) ∧ inx p2 4) → ∀ (ls : Array Slot), lv_has ls 4 [(0, .ref mo), (1, .int p0), (2, .int p1), (3, .int p2)] → W p l e { frames := 2, cells := 0, slots := 0, locals := 43 } s m args below meth c s.heap [] 0 0 (MQ below (wrQ (S := Int32) g (fun u_ => (some (.int u_))) (fun u_ M_ => MQ3 ((inx p0 ne) ∧ inx p2 4) (inr p1 1 40) (nI no < 40) (u_ = (nI (no + 1) - 1) ∧ MX g M M_ mo ad (us (us sc 23 0) 9 (nI (no + 1))) (ua (ua (ua ar 10 (upd (ar 10) no p0)) 11 (upd (ar 11) no p1)) 12 (upd (ar 12) no p2))) (fun t_ => u_ = 0 ∧ MX g M M_ mo ad (us sc 23 t_) ar))) args s 0 0 (gA g)) (F0 m 23 ls [.int (bI b1), .ref mo]) := by
    intro b1 hb1 ls hl
    refine lv_iload_n C.1 C.2.1 dX6_order_23 rfl (lv_at hl 2 rfl) ?_
    refine lv_iconst (v := 1) C.1 C.2.1 dX6_order_24 rfl ?_
    refine lv_bipush (v := 40) C.1 C.2.1 dX6_order_25 rfl ?_
    refine rd_go1 (runS C hE hH hS (m_isIn p1 1 40) mv_X6_isIn wm_811 hl.1 dX6_order_27 rfl rfl ⟨rfl, rfl⟩ ⟨Nat.le_of_ble_eq_true rfl, Nat.le_of_ble_eq_true rfl⟩ (Nat.le_of_ble_eq_true rfl) ⟨Nat.le_of_ble_eq_true rfl, Nat.le_of_ble_eq_true rfl⟩) ?_
    obtain ⟨b2, hb2⟩ : ∃ z : Bool, z = decide (inr p1 1 40) := ⟨_, rfl⟩
    rw [← hb2]
    have J44 : ∀ (b3 : Bool), b3 = decide (nI no < 40) → ∀ (ls : Array Slot), lv_has ls 4 [(0, .ref mo), (1, .int p0), (2, .int p1), (3, .int p2)] → W p l e { frames := 2, cells := 0, slots := 0, locals := 43 } s m args below meth c s.heap [] 0 0 (MQ below (wrQ (S := Int32) g (fun u_ => (some (.int u_))) (fun u_ M_ => MQ3 ((inx p0 ne) ∧ inx p2 4) (inr p1 1 40) (nI no < 40) (u_ = (nI (no + 1) - 1) ∧ MX g M M_ mo ad (us (us sc 23 0) 9 (nI (no + 1))) (ua (ua (ua ar 10 (upd (ar 10) no p0)) 11 (upd (ar 11) no p1)) 12 (upd (ar 12) no p2))) (fun t_ => u_ = 0 ∧ MX g M M_ mo ad (us sc 23 t_) ar))) args s 0 0 (gA g)) (F0 m 44 ls [.int (bI b3), .int (bI b2), .int (bI b1), .ref mo]) := by
      intro b3 hb3 ls hl
      refine wr_go1 (runV C hE hH hS (m_mayAll X0.1 hs0 hs5 hs9 hb0 hb5 hb9 b1 b2 b3) mv_X6_mayAll wm_864 (MX_m X0) rfl rfl hl.1 dX6_order_44 rfl rfl ⟨rfl, rfl⟩ ⟨Nat.le_of_ble_eq_true rfl, Nat.le_of_ble_eq_true rfl⟩ (Nat.le_of_ble_eq_true rfl) ⟨Nat.le_of_ble_eq_true rfl, Nat.le_of_ble_eq_true rfl⟩) hS (fun u1 M2 H locs hM2 hH hS => ?_)
      have X3 := MX_tr X0 hM2
      refine lv_if_ne (tgt := 52) C.1 C.2.1 dX6_order_47 (by decide) (fun c47 => ?_) (fun c47 => ?_)
      · obtain ⟨k1, k2, k3, hz0⟩ := m3_t hb1 hb2 hb3 c47
        rw [hz0] at X3
        have k3n : no < 40 := (nI_ltI (by omega) (by decide)).mp k3
        refine lv_aload_n C.1 C.2.1 dX6_order_52 rfl (lv_at hl 0 rfl) ?_
        refine mget (v := .ref (ad 10)) C hE hH fl_740 (MX_m X3) rfl dX6_order_53 ?_
        refine lv_aload_n C.1 C.2.1 dX6_order_56 rfl (lv_at hl 0 rfl) ?_
        refine mget (v := .int (nI no)) C hE hH fl_739 (MX_m X3) (congrArg (fun z => some (Value.int z)) hs9) dX6_order_57 ?_
        refine lv_iload_n C.1 C.2.1 dX6_order_60 rfl (lv_at hl 1 rfl) ?_
        refine mast (n := 40) (f := (ar 10)) C hE hH hS (MX_a X3 10 rfl) (vp_in_nI (show no < 40 by omega) (by decide)) dX6_order_61 (fun H locs hH hS => ?_)
        rw [nI_clamp (show no < 2 ^ 31 by omega)] at hH
        obtain ⟨M4, hM4⟩ : ∃ z, z = mu M2 (ad 10) (eI g 40 (upd (ar 10) no p0)) := ⟨_, rfl⟩
        have hH : Hw g M4 H := by rw [hM4]; exact hH
        have X5 := MX_ar (k := 10) (N := 40) (f := upd (ar 10) no p0) rfl rfl X3
        rw [← hM4] at X5
        refine lv_aload_n C.1 C.2.1 dX6_order_62 rfl (lv_at hl 0 rfl) ?_
        refine mget (v := .ref (ad 11)) C hE hH fl_741 (MX_m X5) rfl dX6_order_63 ?_
        refine lv_aload_n C.1 C.2.1 dX6_order_66 rfl (lv_at hl 0 rfl) ?_
        refine mget (v := .int (nI no)) C hE hH fl_739 (MX_m X5) (congrArg (fun z => some (Value.int z)) hs9) dX6_order_67 ?_
        refine lv_iload_n C.1 C.2.1 dX6_order_70 rfl (lv_at hl 2 rfl) ?_
        refine mast (n := 40) (f := (ar 11)) C hE hH hS (MX_a X5 11 rfl) (vp_in_nI (show no < 40 by omega) (by decide)) dX6_order_71 (fun H locs hH hS => ?_)
        rw [nI_clamp (show no < 2 ^ 31 by omega)] at hH
        obtain ⟨M6, hM6⟩ : ∃ z, z = mu M4 (ad 11) (eI g 40 (upd (ar 11) no p1)) := ⟨_, rfl⟩
        have hH : Hw g M6 H := by rw [hM6]; exact hH
        have X7 := MX_ar (k := 11) (N := 40) (f := upd (ar 11) no p1) rfl rfl X5
        rw [← hM6] at X7
        refine lv_aload_n C.1 C.2.1 dX6_order_72 rfl (lv_at hl 0 rfl) ?_
        refine mget (v := .ref (ad 12)) C hE hH fl_742 (MX_m X7) rfl dX6_order_73 ?_
        refine lv_aload_n C.1 C.2.1 dX6_order_76 rfl (lv_at hl 0 rfl) ?_
        refine mget (v := .int (nI no)) C hE hH fl_739 (MX_m X7) (congrArg (fun z => some (Value.int z)) hs9) dX6_order_77 ?_
        refine lv_iload_n C.1 C.2.1 dX6_order_80 rfl (lv_at hl 3 rfl) ?_
        refine mast (n := 40) (f := (ar 12)) C hE hH hS (MX_a X7 12 rfl) (vp_in_nI (show no < 40 by omega) (by decide)) dX6_order_81 (fun H locs hH hS => ?_)
        rw [nI_clamp (show no < 2 ^ 31 by omega)] at hH
        obtain ⟨M8, hM8⟩ : ∃ z, z = mu M6 (ad 12) (eI g 40 (upd (ar 12) no p2)) := ⟨_, rfl⟩
        have hH : Hw g M8 H := by rw [hM8]; exact hH
        have X9 := MX_ar (k := 12) (N := 40) (f := upd (ar 12) no p2) rfl rfl X7
        rw [← hM8] at X9
        refine lv_aload_n C.1 C.2.1 dX6_order_82 rfl (lv_at hl 0 rfl) ?_
        refine lv_dup C.1 C.2.1 dX6_order_83 rfl ?_
        refine mget (v := .int (nI no)) C hE hH fl_739 (MX_m X9) (congrArg (fun z => some (Value.int z)) hs9) dX6_order_84 ?_
        refine lv_iconst (v := 1) C.1 C.2.1 dX6_order_87 rfl ?_
        refine lv_iadd C.1 C.2.1 dX6_order_88 ?_
        rw [show (nI no : Int32) + 1 = nI (no + 1) from (nI_a no 1).symm]
        refine mput (fs' := mfs ad (us (us ((sc)) 23 0) 9 (nI (no + 1)))) C hE hH hS fl_739 (MX_m X9) rfl rfl rfl (Nat.le_of_ble_eq_true rfl) dX6_order_89 (fun H locs hH hS => ?_)
        obtain ⟨M10, hM10⟩ : ∃ z, z = mu M8 mo (eO 7 (mfs ad (us (us ((sc)) 23 0) 9 (nI (no + 1))))) := ⟨_, rfl⟩
        have hH : Hw g M10 H := by rw [hM10]; exact hH
        have X11 := MX_sc (sc' := us (us ((sc)) 23 0) 9 (nI (no + 1))) X9
        rw [← hM10] at X11
        refine lv_aload_n C.1 C.2.1 dX6_order_92 rfl (lv_at hl 0 rfl) ?_
        refine mget (v := .int (nI (no + 1))) C hE hH fl_739 (MX_m X11) rfl dX6_order_93 ?_
        refine lv_iconst (v := 1) C.1 C.2.1 dX6_order_96 rfl ?_
        refine lv_isub C.1 C.2.1 dX6_order_97 ?_
        exact wr_iret ((nI (no + 1)) - 1) C hr hlocks hH hS rfl (Or.inl ⟨k1, k2, k3, rfl, by have h9 := X11; exact h9⟩) (by decide) (by decide) dX6_order_98
      · refine lv_iconst (v := 0) C.1 C.2.1 dX6_order_50 rfl ?_
        exact wr_iret 0 C hr hlocks hH hS rfl (mq3_bad hb1 hb2 hb3 c47 ⟨rfl, X3⟩) (by decide) (by decide) dX6_order_51
    refine lv_aload_n C.1 C.2.1 dX6_order_30 rfl (lv_at hl 0 rfl) ?_
    refine mget (v := .int (nI no)) C hE hH fl_739 (MX_m X0) (congrArg (fun z => some (Value.int z)) hs9) dX6_order_31 ?_
    refine lv_bipush (v := 40) C.1 C.2.1 dX6_order_34 rfl ?_
    refine lv_icmp_ge (tgt := 43) C.1 C.2.1 dX6_order_36 (by decide) (fun c36 => ?_) (fun c36 => ?_)
    · refine lv_iconst (v := 0) C.1 C.2.1 dX6_order_43 rfl ?_
      exact J44 false ((decide_eq_false (fun z => (Int32.not_lt.mpr c36) z)).symm) ls hl
    · refine lv_iconst (v := 1) C.1 C.2.1 dX6_order_39 rfl ?_
      refine lv_goto (tgt := 44) C.1 C.2.1 dX6_order_40 (by decide) ?_
      exact J44 true ((decide_eq_true (Int32.not_le.mp c36)).symm) ls hl
  refine lv_aload_n C.1 C.2.1 dX6_order_1 rfl (lv_at hl 0 rfl) ?_
  refine lv_iload_n C.1 C.2.1 dX6_order_2 rfl (lv_at hl 1 rfl) ?_
  refine rd_go1 (runV C hE hH hS (m_isEntry X0.1 hs0 hs5 hs9 hb0 hb5 hb9 p0) mv_X6_isEntry wm_833 (MX_m X0) rfl rfl hl.1 dX6_order_3 rfl rfl ⟨rfl, rfl⟩ ⟨Nat.le_of_ble_eq_true rfl, Nat.le_of_ble_eq_true rfl⟩ (Nat.le_of_ble_eq_true rfl) ⟨Nat.le_of_ble_eq_true rfl, Nat.le_of_ble_eq_true rfl⟩) ?_
  refine lv_if_eq (tgt := 22) C.1 C.2.1 dX6_order_6 (by decide) (fun c6 => ?_) (fun c6 => ?_)
  · refine lv_iconst (v := 0) C.1 C.2.1 dX6_order_22 rfl ?_
    exact J23 false ((decide_eq_false (fun z => (bI_z.mp c6) z.1)).symm) ls hl
  · refine lv_iload_n C.1 C.2.1 dX6_order_9 rfl (lv_at hl 3 rfl) ?_
    refine lv_iconst (v := 0) C.1 C.2.1 dX6_order_10 rfl ?_
    refine lv_iconst (v := 3) C.1 C.2.1 dX6_order_11 rfl ?_
    refine rd_go1 (runS C hE hH hS (m_isIn p2 0 3) mv_X6_isIn wm_811 hl.1 dX6_order_12 rfl rfl ⟨rfl, rfl⟩ ⟨Nat.le_of_ble_eq_true rfl, Nat.le_of_ble_eq_true rfl⟩ (Nat.le_of_ble_eq_true rfl) ⟨Nat.le_of_ble_eq_true rfl, Nat.le_of_ble_eq_true rfl⟩) ?_
    refine lv_if_eq (tgt := 22) C.1 C.2.1 dX6_order_15 (by decide) (fun c15 => ?_) (fun c15 => ?_)
    · refine lv_iconst (v := 0) C.1 C.2.1 dX6_order_22 rfl ?_
      exact J23 false ((decide_eq_false (fun z => ((fun q => bI_z.mp c15 ((ir_ix (by decide) rfl).mpr q))) z.2)).symm) ls hl
    · refine lv_iconst (v := 1) C.1 C.2.1 dX6_order_18 rfl ?_
      refine lv_goto (tgt := 23) C.1 C.2.1 dX6_order_19 (by decide) ?_
      exact J23 true ((decide_eq_true ⟨(bI_nz c6), (ir_ix (by decide) rfl).mp (bI_nz c15)⟩).symm) ls hl
set_option maxHeartbeats 4000000 in
set_option maxRecDepth 100000 in
theorem mw_bath {l : Launch} {g : gG} {M : Mp} {mo : Nat} {ad : Nat → Nat} {sc : Nat → Int32} {ar : Nat → Nat → Int32} {ne nb no : Nat}  (hI : MI g M mo ad sc ar) (hs0 : sc 0 = nI ne) (hs5 : sc 5 = nI nb) (hs9 : sc 9 = nI no) (hb0 : ne ≤ 12) (hb5 : nb ≤ 10) (hb9 : no ≤ 40) (p0 p1 : Int32) : Met l yX6_bath (WY yX6_bath cX6_bath 3 (some .int)) { frames := 2, cells := 0, slots := 0, locals := 43 } (Wc g M [.ref mo, .int p0, .int p1]) (wrQ (S := Int32) g (fun u_ => (some (.int u_))) (fun u_ M_ => MQ2 ((inx p0 3) ∧ inx p1 ne) (nI nb < 10) (u_ = (nI (nb + 1) - 1) ∧ MX g M M_ mo ad (us (us sc 23 0) 5 (nI (nb + 1))) (ua (ua (ua ar 6 (upd (ar 6) nb p0)) 7 (upd (ar 7) nb p1)) 8 (upd (ar 8) nb 100))) (fun t_ => u_ = 0 ∧ MX g M M_ mo ad (us sc 23 t_) ar))) 0 0 (gA g) := by
  refine ofM (by decide +kernel) (Nat.le_of_ble_eq_true rfl) (fun p e s m args below meth c ls C hr hlocks hin hE hH hl ea => ?_)
  have hl : lv_has ls 3 [(0, .ref mo), (1, .int p0), (2, .int p1)] := hl
  have hS : va_S (gA g) s.heap s.heap [] := va_S.rf
  have X0 := MX_rf hI
  refine lv_aload_n C.1 C.2.1 dX6_bath_0 rfl (lv_at hl 0 rfl) ?_
  have J21 : ∀ (b1 : Bool), b1 = decide ((inx p0 3) ∧ inx p1 ne) → ∀ (ls : Array Slot), lv_has ls 3 [(0, .ref mo), (1, .int p0), (2, .int p1)] → W p l e { frames := 2, cells := 0, slots := 0, locals := 43 } s m args below meth c s.heap [] 0 0 (MQ below (wrQ (S := Int32) g (fun u_ => (some (.int u_))) (fun u_ M_ => MQ2 ((inx p0 3) ∧ inx p1 ne) (nI nb < 10) (u_ = (nI (nb + 1) - 1) ∧ MX g M M_ mo ad (us (us sc 23 0) 5 (nI (nb + 1))) (ua (ua (ua ar 6 (upd (ar 6) nb p0)) 7 (upd (ar 7) nb p1)) 8 (upd (ar 8) nb 100))) (fun t_ => u_ = 0 ∧ MX g M M_ mo ad (us sc 23 t_) ar))) args s 0 0 (gA g)) (F0 m 21 ls [.int (bI b1), .ref mo]) := by
    intro b1 hb1 ls hl
    have J35 : ∀ (b2 : Bool), b2 = decide (nI nb < 10) → ∀ (ls : Array Slot), lv_has ls 3 [(0, .ref mo), (1, .int p0), (2, .int p1)] → W p l e { frames := 2, cells := 0, slots := 0, locals := 43 } s m args below meth c s.heap [] 0 0 (MQ below (wrQ (S := Int32) g (fun u_ => (some (.int u_))) (fun u_ M_ => MQ2 ((inx p0 3) ∧ inx p1 ne) (nI nb < 10) (u_ = (nI (nb + 1) - 1) ∧ MX g M M_ mo ad (us (us sc 23 0) 5 (nI (nb + 1))) (ua (ua (ua ar 6 (upd (ar 6) nb p0)) 7 (upd (ar 7) nb p1)) 8 (upd (ar 8) nb 100))) (fun t_ => u_ = 0 ∧ MX g M M_ mo ad (us sc 23 t_) ar))) args s 0 0 (gA g)) (F0 m 35 ls [.int (bI b2), .int (bI b1), .ref mo]) := by
      intro b2 hb2 ls hl
      refine wr_go1 (runV C hE hH hS (m_mayBoth X0.1 hs0 hs5 hs9 hb0 hb5 hb9 b1 b2) mv_X6_mayBoth wm_814 (MX_m X0) rfl rfl hl.1 dX6_bath_35 rfl rfl ⟨rfl, rfl⟩ ⟨Nat.le_of_ble_eq_true rfl, Nat.le_of_ble_eq_true rfl⟩ (Nat.le_of_ble_eq_true rfl) ⟨Nat.le_of_ble_eq_true rfl, Nat.le_of_ble_eq_true rfl⟩) hS (fun u1 M2 H locs hM2 hH hS => ?_)
      have X3 := MX_tr X0 hM2
      refine lv_if_ne (tgt := 43) C.1 C.2.1 dX6_bath_38 (by decide) (fun c38 => ?_) (fun c38 => ?_)
      · obtain ⟨k1, k2, hz0⟩ := m2_t hb1 hb2 c38
        rw [hz0] at X3
        have k2n : nb < 10 := (nI_ltI (by omega) (by decide)).mp k2
        refine lv_aload_n C.1 C.2.1 dX6_bath_43 rfl (lv_at hl 0 rfl) ?_
        refine mget (v := .ref (ad 6)) C hE hH fl_736 (MX_m X3) rfl dX6_bath_44 ?_
        refine lv_aload_n C.1 C.2.1 dX6_bath_47 rfl (lv_at hl 0 rfl) ?_
        refine mget (v := .int (nI nb)) C hE hH fl_735 (MX_m X3) (congrArg (fun z => some (Value.int z)) hs5) dX6_bath_48 ?_
        refine lv_iload_n C.1 C.2.1 dX6_bath_51 rfl (lv_at hl 1 rfl) ?_
        refine mast (n := 10) (f := (ar 6)) C hE hH hS (MX_a X3 6 rfl) (vp_in_nI (show nb < 10 by omega) (by decide)) dX6_bath_52 (fun H locs hH hS => ?_)
        rw [nI_clamp (show nb < 2 ^ 31 by omega)] at hH
        obtain ⟨M4, hM4⟩ : ∃ z, z = mu M2 (ad 6) (eI g 10 (upd (ar 6) nb p0)) := ⟨_, rfl⟩
        have hH : Hw g M4 H := by rw [hM4]; exact hH
        have X5 := MX_ar (k := 6) (N := 10) (f := upd (ar 6) nb p0) rfl rfl X3
        rw [← hM4] at X5
        refine lv_aload_n C.1 C.2.1 dX6_bath_53 rfl (lv_at hl 0 rfl) ?_
        refine mget (v := .ref (ad 7)) C hE hH fl_737 (MX_m X5) rfl dX6_bath_54 ?_
        refine lv_aload_n C.1 C.2.1 dX6_bath_57 rfl (lv_at hl 0 rfl) ?_
        refine mget (v := .int (nI nb)) C hE hH fl_735 (MX_m X5) (congrArg (fun z => some (Value.int z)) hs5) dX6_bath_58 ?_
        refine lv_iload_n C.1 C.2.1 dX6_bath_61 rfl (lv_at hl 2 rfl) ?_
        refine mast (n := 10) (f := (ar 7)) C hE hH hS (MX_a X5 7 rfl) (vp_in_nI (show nb < 10 by omega) (by decide)) dX6_bath_62 (fun H locs hH hS => ?_)
        rw [nI_clamp (show nb < 2 ^ 31 by omega)] at hH
        obtain ⟨M6, hM6⟩ : ∃ z, z = mu M4 (ad 7) (eI g 10 (upd (ar 7) nb p1)) := ⟨_, rfl⟩
        have hH : Hw g M6 H := by rw [hM6]; exact hH
        have X7 := MX_ar (k := 7) (N := 10) (f := upd (ar 7) nb p1) rfl rfl X5
        rw [← hM6] at X7
        refine lv_aload_n C.1 C.2.1 dX6_bath_63 rfl (lv_at hl 0 rfl) ?_
        refine mget (v := .ref (ad 8)) C hE hH fl_738 (MX_m X7) rfl dX6_bath_64 ?_
        refine lv_aload_n C.1 C.2.1 dX6_bath_67 rfl (lv_at hl 0 rfl) ?_
        refine mget (v := .int (nI nb)) C hE hH fl_735 (MX_m X7) (congrArg (fun z => some (Value.int z)) hs5) dX6_bath_68 ?_
        refine lv_bipush (v := 100) C.1 C.2.1 dX6_bath_71 rfl ?_
        refine mast (n := 10) (f := (ar 8)) C hE hH hS (MX_a X7 8 rfl) (vp_in_nI (show nb < 10 by omega) (by decide)) dX6_bath_73 (fun H locs hH hS => ?_)
        rw [nI_clamp (show nb < 2 ^ 31 by omega)] at hH
        obtain ⟨M8, hM8⟩ : ∃ z, z = mu M6 (ad 8) (eI g 10 (upd (ar 8) nb 100)) := ⟨_, rfl⟩
        have hH : Hw g M8 H := by rw [hM8]; exact hH
        have X9 := MX_ar (k := 8) (N := 10) (f := upd (ar 8) nb 100) rfl rfl X7
        rw [← hM8] at X9
        refine lv_aload_n C.1 C.2.1 dX6_bath_74 rfl (lv_at hl 0 rfl) ?_
        refine lv_dup C.1 C.2.1 dX6_bath_75 rfl ?_
        refine mget (v := .int (nI nb)) C hE hH fl_735 (MX_m X9) (congrArg (fun z => some (Value.int z)) hs5) dX6_bath_76 ?_
        refine lv_iconst (v := 1) C.1 C.2.1 dX6_bath_79 rfl ?_
        refine lv_iadd C.1 C.2.1 dX6_bath_80 ?_
        rw [show (nI nb : Int32) + 1 = nI (nb + 1) from (nI_a nb 1).symm]
        refine mput (fs' := mfs ad (us (us ((sc)) 23 0) 5 (nI (nb + 1)))) C hE hH hS fl_735 (MX_m X9) rfl rfl rfl (Nat.le_of_ble_eq_true rfl) dX6_bath_81 (fun H locs hH hS => ?_)
        obtain ⟨M10, hM10⟩ : ∃ z, z = mu M8 mo (eO 7 (mfs ad (us (us ((sc)) 23 0) 5 (nI (nb + 1))))) := ⟨_, rfl⟩
        have hH : Hw g M10 H := by rw [hM10]; exact hH
        have X11 := MX_sc (sc' := us (us ((sc)) 23 0) 5 (nI (nb + 1))) X9
        rw [← hM10] at X11
        refine lv_aload_n C.1 C.2.1 dX6_bath_84 rfl (lv_at hl 0 rfl) ?_
        refine mget (v := .int (nI (nb + 1))) C hE hH fl_735 (MX_m X11) rfl dX6_bath_85 ?_
        refine lv_iconst (v := 1) C.1 C.2.1 dX6_bath_88 rfl ?_
        refine lv_isub C.1 C.2.1 dX6_bath_89 ?_
        exact wr_iret ((nI (nb + 1)) - 1) C hr hlocks hH hS rfl (Or.inl ⟨k1, k2, rfl, by have h9 := X11; exact h9⟩) (by decide) (by decide) dX6_bath_90
      · refine lv_iconst (v := 0) C.1 C.2.1 dX6_bath_41 rfl ?_
        exact wr_iret 0 C hr hlocks hH hS rfl (mq2_bad hb1 hb2 c38 ⟨rfl, X3⟩) (by decide) (by decide) dX6_bath_42
    refine lv_aload_n C.1 C.2.1 dX6_bath_21 rfl (lv_at hl 0 rfl) ?_
    refine mget (v := .int (nI nb)) C hE hH fl_735 (MX_m X0) (congrArg (fun z => some (Value.int z)) hs5) dX6_bath_22 ?_
    refine lv_bipush (v := 10) C.1 C.2.1 dX6_bath_25 rfl ?_
    refine lv_icmp_ge (tgt := 34) C.1 C.2.1 dX6_bath_27 (by decide) (fun c27 => ?_) (fun c27 => ?_)
    · refine lv_iconst (v := 0) C.1 C.2.1 dX6_bath_34 rfl ?_
      exact J35 false ((decide_eq_false (fun z => (Int32.not_lt.mpr c27) z)).symm) ls hl
    · refine lv_iconst (v := 1) C.1 C.2.1 dX6_bath_30 rfl ?_
      refine lv_goto (tgt := 35) C.1 C.2.1 dX6_bath_31 (by decide) ?_
      exact J35 true ((decide_eq_true (Int32.not_le.mp c27)).symm) ls hl
  refine lv_iload_n C.1 C.2.1 dX6_bath_1 rfl (lv_at hl 1 rfl) ?_
  refine rd_go1 (runS C hE hH hS (m_isThird p0) mv_X6_isThird wm_822 hl.1 dX6_bath_2 rfl rfl ⟨rfl, rfl⟩ ⟨Nat.le_of_ble_eq_true rfl, Nat.le_of_ble_eq_true rfl⟩ (Nat.le_of_ble_eq_true rfl) ⟨Nat.le_of_ble_eq_true rfl, Nat.le_of_ble_eq_true rfl⟩) ?_
  refine lv_if_eq (tgt := 20) C.1 C.2.1 dX6_bath_5 (by decide) (fun c5 => ?_) (fun c5 => ?_)
  · refine lv_iconst (v := 0) C.1 C.2.1 dX6_bath_20 rfl ?_
    exact J21 false ((decide_eq_false (fun z => (bI_z.mp c5) z.1)).symm) ls hl
  · refine lv_aload_n C.1 C.2.1 dX6_bath_8 rfl (lv_at hl 0 rfl) ?_
    refine lv_iload_n C.1 C.2.1 dX6_bath_9 rfl (lv_at hl 2 rfl) ?_
    refine rd_go1 (runV C hE hH hS (m_isEntry X0.1 hs0 hs5 hs9 hb0 hb5 hb9 p1) mv_X6_isEntry wm_833 (MX_m X0) rfl rfl hl.1 dX6_bath_10 rfl rfl ⟨rfl, rfl⟩ ⟨Nat.le_of_ble_eq_true rfl, Nat.le_of_ble_eq_true rfl⟩ (Nat.le_of_ble_eq_true rfl) ⟨Nat.le_of_ble_eq_true rfl, Nat.le_of_ble_eq_true rfl⟩) ?_
    refine lv_if_eq (tgt := 20) C.1 C.2.1 dX6_bath_13 (by decide) (fun c13 => ?_) (fun c13 => ?_)
    · refine lv_iconst (v := 0) C.1 C.2.1 dX6_bath_20 rfl ?_
      exact J21 false ((decide_eq_false (fun z => (bI_z.mp c13) z.2)).symm) ls hl
    · refine lv_iconst (v := 1) C.1 C.2.1 dX6_bath_16 rfl ?_
      refine lv_goto (tgt := 21) C.1 C.2.1 dX6_bath_17 (by decide) ?_
      exact J21 true ((decide_eq_true ⟨(bI_nz c5), bI_nz c13⟩).symm) ls hl
set_option maxHeartbeats 4000000 in
set_option maxRecDepth 100000 in
theorem mw_water {l : Launch} {g : gG} {M : Mp} {mo : Nat} {ad : Nat → Nat} {sc : Nat → Int32} {ar : Nat → Nat → Int32} {ne nb no : Nat}  (hI : MI g M mo ad sc ar) (hs0 : sc 0 = nI ne) (hs5 : sc 5 = nI nb) (hs9 : sc 9 = nI no) (hb0 : ne ≤ 12) (hb5 : nb ≤ 10) (hb9 : no ≤ 40) (p0 p1 : Int32) : Met l yX6_water (WY yX6_water cX6_water 4 (some .int)) { frames := 2, cells := 0, slots := 0, locals := 42 } (Wc g M [.ref mo, .int p0, .int p1]) (wrQ (S := Int32) g (fun u_ => (some (.int u_))) (fun u_ M_ => MQ2 (inx p0 3) (inr p1 (-10) 10) (u_ = (ar 3 p0.toNatClampNeg) ∧ MX g M M_ mo ad (us sc 23 0) (ua ar 3 (upd (ar 3) p0.toNatClampNeg p1))) (fun t_ => u_ = 0 ∧ MX g M M_ mo ad (us sc 23 t_) ar))) 0 0 (gA g) := by
  refine ofM (by decide +kernel) (Nat.le_of_ble_eq_true rfl) (fun p e s m args below meth c ls C hr hlocks hin hE hH hl ea => ?_)
  have hl : lv_has ls 4 [(0, .ref mo), (1, .int p0), (2, .int p1)] := hl
  have hS : va_S (gA g) s.heap s.heap [] := va_S.rf
  have X0 := MX_rf hI
  refine lv_aload_n C.1 C.2.1 dX6_water_0 rfl (lv_at hl 0 rfl) ?_
  refine lv_iload_n C.1 C.2.1 dX6_water_1 rfl (lv_at hl 1 rfl) ?_
  refine rd_go1 (runS C hE hH hS (m_isThird p0) mv_X6_isThird wm_822 hl.1 dX6_water_2 rfl rfl ⟨rfl, rfl⟩ ⟨Nat.le_of_ble_eq_true rfl, Nat.le_of_ble_eq_true rfl⟩ (Nat.le_of_ble_eq_true rfl) ⟨Nat.le_of_ble_eq_true rfl, Nat.le_of_ble_eq_true rfl⟩) ?_
  obtain ⟨b1, hb1⟩ : ∃ z : Bool, z = decide (inx p0 3) := ⟨_, rfl⟩
  rw [← hb1]
  refine lv_iload_n C.1 C.2.1 dX6_water_5 rfl (lv_at hl 2 rfl) ?_
  refine lv_bipush (v := -10) C.1 C.2.1 dX6_water_6 rfl ?_
  refine lv_bipush (v := 10) C.1 C.2.1 dX6_water_8 rfl ?_
  refine rd_go1 (runS C hE hH hS (m_isIn p1 (-10) 10) mv_X6_isIn wm_811 hl.1 dX6_water_10 rfl rfl ⟨rfl, rfl⟩ ⟨Nat.le_of_ble_eq_true rfl, Nat.le_of_ble_eq_true rfl⟩ (Nat.le_of_ble_eq_true rfl) ⟨Nat.le_of_ble_eq_true rfl, Nat.le_of_ble_eq_true rfl⟩) ?_
  obtain ⟨b2, hb2⟩ : ∃ z : Bool, z = decide (inr p1 (-10) 10) := ⟨_, rfl⟩
  rw [← hb2]
  refine wr_go1 (runV C hE hH hS (m_mayBoth X0.1 hs0 hs5 hs9 hb0 hb5 hb9 b1 b2) mv_X6_mayBoth wm_814 (MX_m X0) rfl rfl hl.1 dX6_water_13 rfl rfl ⟨rfl, rfl⟩ ⟨Nat.le_of_ble_eq_true rfl, Nat.le_of_ble_eq_true rfl⟩ (Nat.le_of_ble_eq_true rfl) ⟨Nat.le_of_ble_eq_true rfl, Nat.le_of_ble_eq_true rfl⟩) hS (fun u1 M2 H locs hM2 hH hS => ?_)
  have X3 := MX_tr X0 hM2
  refine lv_if_ne (tgt := 21) C.1 C.2.1 dX6_water_16 (by decide) (fun c16 => ?_) (fun c16 => ?_)
  · obtain ⟨k1, k2, hz0⟩ := m2_t hb1 hb2 c16
    rw [hz0] at X3
    refine lv_aload_n C.1 C.2.1 dX6_water_21 rfl (lv_at hl 0 rfl) ?_
    refine mget (v := .ref (ad 3)) C hE hH fl_733 (MX_m X3) rfl dX6_water_22 ?_
    refine lv_iload_n C.1 C.2.1 dX6_water_25 rfl (lv_at hl 1 rfl) ?_
    refine mald (n := 3) (f := (ar 3)) C hE hH (MX_a X3 3 rfl) (inx_in k1 (by decide)) dX6_water_26 ?_
    refine lv_topi (fun x4 ex4 => ?_)
    refine lv_istore_n (lv' := [(3, .int x4), (0, .ref mo), (1, .int p0), (2, .int p1)]) C.1 C.2.1 dX6_water_27 rfl hl (by decide) rfl (fun ls hl => ?_)
    refine lv_aload_n C.1 C.2.1 dX6_water_28 rfl (lv_at hl 1 rfl) ?_
    refine mget (v := .ref (ad 3)) C hE hH fl_733 (MX_m X3) rfl dX6_water_29 ?_
    refine lv_iload_n C.1 C.2.1 dX6_water_32 rfl (lv_at hl 2 rfl) ?_
    refine lv_iload_n C.1 C.2.1 dX6_water_33 rfl (lv_at hl 3 rfl) ?_
    refine mast (n := 3) (f := (ar 3)) C hE hH hS (MX_a X3 3 rfl) (inx_in k1 (by decide)) dX6_water_34 (fun H locs hH hS => ?_)
    obtain ⟨M5, hM5⟩ : ∃ z, z = mu M2 (ad 3) (eI g 3 (upd (ar 3) p0.toNatClampNeg p1)) := ⟨_, rfl⟩
    have hH : Hw g M5 H := by rw [hM5]; exact hH
    have X6 := MX_ar (k := 3) (N := 3) (f := upd (ar 3) p0.toNatClampNeg p1) rfl rfl X3
    rw [← hM5] at X6
    refine lv_iload_n C.1 C.2.1 dX6_water_35 rfl (lv_at hl 0 rfl) ?_
    exact wr_iret x4 C hr hlocks hH hS rfl (Or.inl ⟨k1, k2, ex4, by have h9 := X6; exact h9⟩) (by decide) (by decide) dX6_water_36
  · refine lv_iconst (v := 0) C.1 C.2.1 dX6_water_19 rfl ?_
    exact wr_iret 0 C hr hlocks hH hS rfl (mq2_bad hb1 hb2 c16 ⟨rfl, X3⟩) (by decide) (by decide) dX6_water_20
set_option maxHeartbeats 4000000 in
set_option maxRecDepth 100000 in
theorem mw_shrinks {l : Launch} {g : gG} {M : Mp} {mo : Nat} {ad : Nat → Nat} {sc : Nat → Int32} {ar : Nat → Nat → Int32} {ne nb no : Nat}  (hI : MI g M mo ad sc ar) (hs0 : sc 0 = nI ne) (hs5 : sc 5 = nI nb) (hs9 : sc 9 = nI no) (hb0 : ne ≤ 12) (hb5 : nb ≤ 10) (hb9 : no ≤ 40) (p0 p1 : Int32) : Met l yX6_shrinks (WY yX6_shrinks cX6_shrinks 4 (some .int)) { frames := 2, cells := 0, slots := 0, locals := 42 } (Wc g M [.ref mo, .int p0, .int p1]) (wrQ (S := Int32) g (fun u_ => (some (.int u_))) (fun u_ M_ => MQ2 (inx p0 3) (inr p1 0 90) (u_ = (ar 20 p0.toNatClampNeg) ∧ MX g M M_ mo ad (us sc 23 0) (ua ar 20 (upd (ar 20) p0.toNatClampNeg p1))) (fun t_ => u_ = 0 ∧ MX g M M_ mo ad (us sc 23 t_) ar))) 0 0 (gA g) := by
  refine ofM (by decide +kernel) (Nat.le_of_ble_eq_true rfl) (fun p e s m args below meth c ls C hr hlocks hin hE hH hl ea => ?_)
  have hl : lv_has ls 4 [(0, .ref mo), (1, .int p0), (2, .int p1)] := hl
  have hS : va_S (gA g) s.heap s.heap [] := va_S.rf
  have X0 := MX_rf hI
  refine lv_aload_n C.1 C.2.1 dX6_shrinks_0 rfl (lv_at hl 0 rfl) ?_
  refine lv_iload_n C.1 C.2.1 dX6_shrinks_1 rfl (lv_at hl 1 rfl) ?_
  refine rd_go1 (runS C hE hH hS (m_isThird p0) mv_X6_isThird wm_822 hl.1 dX6_shrinks_2 rfl rfl ⟨rfl, rfl⟩ ⟨Nat.le_of_ble_eq_true rfl, Nat.le_of_ble_eq_true rfl⟩ (Nat.le_of_ble_eq_true rfl) ⟨Nat.le_of_ble_eq_true rfl, Nat.le_of_ble_eq_true rfl⟩) ?_
  obtain ⟨b1, hb1⟩ : ∃ z : Bool, z = decide (inx p0 3) := ⟨_, rfl⟩
  rw [← hb1]
  refine lv_iload_n C.1 C.2.1 dX6_shrinks_5 rfl (lv_at hl 2 rfl) ?_
  refine lv_iconst (v := 0) C.1 C.2.1 dX6_shrinks_6 rfl ?_
  refine lv_bipush (v := 90) C.1 C.2.1 dX6_shrinks_7 rfl ?_
  refine rd_go1 (runS C hE hH hS (m_isIn p1 0 90) mv_X6_isIn wm_811 hl.1 dX6_shrinks_9 rfl rfl ⟨rfl, rfl⟩ ⟨Nat.le_of_ble_eq_true rfl, Nat.le_of_ble_eq_true rfl⟩ (Nat.le_of_ble_eq_true rfl) ⟨Nat.le_of_ble_eq_true rfl, Nat.le_of_ble_eq_true rfl⟩) ?_
  obtain ⟨b2, hb2⟩ : ∃ z : Bool, z = decide (inr p1 0 90) := ⟨_, rfl⟩
  rw [← hb2]
  refine wr_go1 (runV C hE hH hS (m_mayBoth X0.1 hs0 hs5 hs9 hb0 hb5 hb9 b1 b2) mv_X6_mayBoth wm_814 (MX_m X0) rfl rfl hl.1 dX6_shrinks_12 rfl rfl ⟨rfl, rfl⟩ ⟨Nat.le_of_ble_eq_true rfl, Nat.le_of_ble_eq_true rfl⟩ (Nat.le_of_ble_eq_true rfl) ⟨Nat.le_of_ble_eq_true rfl, Nat.le_of_ble_eq_true rfl⟩) hS (fun u1 M2 H locs hM2 hH hS => ?_)
  have X3 := MX_tr X0 hM2
  refine lv_if_ne (tgt := 20) C.1 C.2.1 dX6_shrinks_15 (by decide) (fun c15 => ?_) (fun c15 => ?_)
  · obtain ⟨k1, k2, hz0⟩ := m2_t hb1 hb2 c15
    rw [hz0] at X3
    refine lv_aload_n C.1 C.2.1 dX6_shrinks_20 rfl (lv_at hl 0 rfl) ?_
    refine mget (v := .ref (ad 20)) C hE hH fl_750 (MX_m X3) rfl dX6_shrinks_21 ?_
    refine lv_iload_n C.1 C.2.1 dX6_shrinks_24 rfl (lv_at hl 1 rfl) ?_
    refine mald (n := 3) (f := (ar 20)) C hE hH (MX_a X3 20 rfl) (inx_in k1 (by decide)) dX6_shrinks_25 ?_
    refine lv_topi (fun x4 ex4 => ?_)
    refine lv_istore_n (lv' := [(3, .int x4), (0, .ref mo), (1, .int p0), (2, .int p1)]) C.1 C.2.1 dX6_shrinks_26 rfl hl (by decide) rfl (fun ls hl => ?_)
    refine lv_aload_n C.1 C.2.1 dX6_shrinks_27 rfl (lv_at hl 1 rfl) ?_
    refine mget (v := .ref (ad 20)) C hE hH fl_750 (MX_m X3) rfl dX6_shrinks_28 ?_
    refine lv_iload_n C.1 C.2.1 dX6_shrinks_31 rfl (lv_at hl 2 rfl) ?_
    refine lv_iload_n C.1 C.2.1 dX6_shrinks_32 rfl (lv_at hl 3 rfl) ?_
    refine mast (n := 3) (f := (ar 20)) C hE hH hS (MX_a X3 20 rfl) (inx_in k1 (by decide)) dX6_shrinks_33 (fun H locs hH hS => ?_)
    obtain ⟨M5, hM5⟩ : ∃ z, z = mu M2 (ad 20) (eI g 3 (upd (ar 20) p0.toNatClampNeg p1)) := ⟨_, rfl⟩
    have hH : Hw g M5 H := by rw [hM5]; exact hH
    have X6 := MX_ar (k := 20) (N := 3) (f := upd (ar 20) p0.toNatClampNeg p1) rfl rfl X3
    rw [← hM5] at X6
    refine lv_iload_n C.1 C.2.1 dX6_shrinks_34 rfl (lv_at hl 0 rfl) ?_
    exact wr_iret x4 C hr hlocks hH hS rfl (Or.inl ⟨k1, k2, ex4, by have h9 := X6; exact h9⟩) (by decide) (by decide) dX6_shrinks_35
  · refine lv_iconst (v := 0) C.1 C.2.1 dX6_shrinks_18 rfl ?_
    exact wr_iret 0 C hr hlocks hH hS rfl (mq2_bad hb1 hb2 c15 ⟨rfl, X3⟩) (by decide) (by decide) dX6_shrinks_19
theorem vp_up {x : Int32} {a b : Nat} (h : vp_in x a) (hab : a ≤ b) : vp_in x b := fun q => h (q.imp id (fun z => Nat.le_trans hab z))
set_option maxHeartbeats 4000000 in
set_option maxRecDepth 100000 in
theorem mw_freshen {l : Launch} {g : gG} {M : Mp} {mo : Nat} {ad : Nat → Nat} {sc : Nat → Int32} {ar : Nat → Nat → Int32} {ne nb no : Nat}  (hI : MI g M mo ad sc ar) (hs0 : sc 0 = nI ne) (hs5 : sc 5 = nI nb) (hs9 : sc 9 = nI no) (hb0 : ne ≤ 12) (hb5 : nb ≤ 10) (hb9 : no ≤ 40) (p0 : Int32) : Met l yX6_freshen (WY yX6_freshen cX6_freshen 3 (some .int)) { frames := 2, cells := 0, slots := 0, locals := 43 } (Wc g M [.ref mo, .int p0]) (wrQ (S := Int32) g (fun u_ => (some (.int u_))) (fun u_ M_ => MQ1 (inx p0 nb) (u_ = (ar 8 p0.toNatClampNeg) ∧ MX g M M_ mo ad (us sc 23 0) (ua ar 8 (upd (ar 8) p0.toNatClampNeg 100))) (fun t_ => u_ = 0 ∧ MX g M M_ mo ad (us sc 23 t_) ar))) 0 0 (gA g) := by
  refine ofM (by decide +kernel) (Nat.le_of_ble_eq_true rfl) (fun p e s m args below meth c ls C hr hlocks hin hE hH hl ea => ?_)
  have hl : lv_has ls 3 [(0, .ref mo), (1, .int p0)] := hl
  have hS : va_S (gA g) s.heap s.heap [] := va_S.rf
  have X0 := MX_rf hI
  refine lv_aload_n C.1 C.2.1 dX6_freshen_0 rfl (lv_at hl 0 rfl) ?_
  refine lv_aload_n C.1 C.2.1 dX6_freshen_1 rfl (lv_at hl 0 rfl) ?_
  refine lv_iload_n C.1 C.2.1 dX6_freshen_2 rfl (lv_at hl 1 rfl) ?_
  refine rd_go1 (runV C hE hH hS (m_isBath X0.1 hs0 hs5 hs9 hb0 hb5 hb9 p0) mv_X6_isBath wm_852 (MX_m X0) rfl rfl hl.1 dX6_freshen_3 rfl rfl ⟨rfl, rfl⟩ ⟨Nat.le_of_ble_eq_true rfl, Nat.le_of_ble_eq_true rfl⟩ (Nat.le_of_ble_eq_true rfl) ⟨Nat.le_of_ble_eq_true rfl, Nat.le_of_ble_eq_true rfl⟩) ?_
  obtain ⟨b1, hb1⟩ : ∃ z : Bool, z = decide (inx p0 nb) := ⟨_, rfl⟩
  rw [← hb1]
  refine wr_go1 (runV C hE hH hS (m_may X0.1 hs0 hs5 hs9 hb0 hb5 hb9 b1) mv_X6_may wm_837 (MX_m X0) rfl rfl hl.1 dX6_freshen_6 rfl rfl ⟨rfl, rfl⟩ ⟨Nat.le_of_ble_eq_true rfl, Nat.le_of_ble_eq_true rfl⟩ (Nat.le_of_ble_eq_true rfl) ⟨Nat.le_of_ble_eq_true rfl, Nat.le_of_ble_eq_true rfl⟩) hS (fun u1 M2 H locs hM2 hH hS => ?_)
  have X3 := MX_tr X0 hM2
  refine lv_if_ne (tgt := 14) C.1 C.2.1 dX6_freshen_9 (by decide) (fun c9 => ?_) (fun c9 => ?_)
  · obtain ⟨k1, hz0⟩ := m1_t hb1 c9
    rw [hz0] at X3
    refine lv_aload_n C.1 C.2.1 dX6_freshen_14 rfl (lv_at hl 0 rfl) ?_
    refine mget (v := .ref (ad 8)) C hE hH fl_738 (MX_m X3) rfl dX6_freshen_15 ?_
    refine lv_iload_n C.1 C.2.1 dX6_freshen_18 rfl (lv_at hl 1 rfl) ?_
    refine mald (n := 10) (f := (ar 8)) C hE hH (MX_a X3 8 rfl) (vp_up (inx_in k1 (by omega)) hb5) dX6_freshen_19 ?_
    refine lv_topi (fun x4 ex4 => ?_)
    refine lv_istore_n (lv' := [(2, .int x4), (0, .ref mo), (1, .int p0)]) C.1 C.2.1 dX6_freshen_20 rfl hl (by decide) rfl (fun ls hl => ?_)
    refine lv_aload_n C.1 C.2.1 dX6_freshen_21 rfl (lv_at hl 1 rfl) ?_
    refine mget (v := .ref (ad 8)) C hE hH fl_738 (MX_m X3) rfl dX6_freshen_22 ?_
    refine lv_iload_n C.1 C.2.1 dX6_freshen_25 rfl (lv_at hl 2 rfl) ?_
    refine lv_bipush (v := 100) C.1 C.2.1 dX6_freshen_26 rfl ?_
    refine mast (n := 10) (f := (ar 8)) C hE hH hS (MX_a X3 8 rfl) (vp_up (inx_in k1 (by omega)) hb5) dX6_freshen_28 (fun H locs hH hS => ?_)
    obtain ⟨M5, hM5⟩ : ∃ z, z = mu M2 (ad 8) (eI g 10 (upd (ar 8) p0.toNatClampNeg 100)) := ⟨_, rfl⟩
    have hH : Hw g M5 H := by rw [hM5]; exact hH
    have X6 := MX_ar (k := 8) (N := 10) (f := upd (ar 8) p0.toNatClampNeg 100) rfl rfl X3
    rw [← hM5] at X6
    refine lv_iload_n C.1 C.2.1 dX6_freshen_29 rfl (lv_at hl 0 rfl) ?_
    exact wr_iret x4 C hr hlocks hH hS rfl (Or.inl ⟨k1, ex4, by have h9 := X6; exact h9⟩) (by decide) (by decide) dX6_freshen_30
  · refine lv_iconst (v := 0) C.1 C.2.1 dX6_freshen_12 rfl ?_
    exact wr_iret 0 C hr hlocks hH hS rfl (mq1_bad hb1 c9 ⟨rfl, X3⟩) (by decide) (by decide) dX6_freshen_13
set_option maxHeartbeats 4000000 in
set_option maxRecDepth 100000 in
theorem mw_strength {l : Launch} {g : gG} {M : Mp} {mo : Nat} {ad : Nat → Nat} {sc : Nat → Int32} {ar : Nat → Nat → Int32} {ne nb no : Nat}  (hI : MI g M mo ad sc ar) (hs0 : sc 0 = nI ne) (hs5 : sc 5 = nI nb) (hs9 : sc 9 = nI no) (hb0 : ne ≤ 12) (hb5 : nb ≤ 10) (hb9 : no ≤ 40) (p0 : Int32) : Met l yX6_strength (WY yX6_strength cX6_strength 2 (some .int)) { frames := 2, cells := 0, slots := 0, locals := 43 } (Wc g M [.ref mo, .int p0]) (wrQ (S := Int32) g (fun u_ => (some (.int u_))) (fun u_ M_ => MQ1 (inx p0 nb) (u_ = (ar 8 p0.toNatClampNeg) ∧ MX g M M_ mo ad (us sc 23 0) (ar)) (fun t_ => u_ = 0 ∧ MX g M M_ mo ad (us sc 23 t_) ar))) 0 0 (gA g) := by
  refine ofM (by decide +kernel) (Nat.le_of_ble_eq_true rfl) (fun p e s m args below meth c ls C hr hlocks hin hE hH hl ea => ?_)
  have hl : lv_has ls 2 [(0, .ref mo), (1, .int p0)] := hl
  have hS : va_S (gA g) s.heap s.heap [] := va_S.rf
  have X0 := MX_rf hI
  refine lv_aload_n C.1 C.2.1 dX6_strength_0 rfl (lv_at hl 0 rfl) ?_
  refine lv_aload_n C.1 C.2.1 dX6_strength_1 rfl (lv_at hl 0 rfl) ?_
  refine lv_iload_n C.1 C.2.1 dX6_strength_2 rfl (lv_at hl 1 rfl) ?_
  refine rd_go1 (runV C hE hH hS (m_isBath X0.1 hs0 hs5 hs9 hb0 hb5 hb9 p0) mv_X6_isBath wm_852 (MX_m X0) rfl rfl hl.1 dX6_strength_3 rfl rfl ⟨rfl, rfl⟩ ⟨Nat.le_of_ble_eq_true rfl, Nat.le_of_ble_eq_true rfl⟩ (Nat.le_of_ble_eq_true rfl) ⟨Nat.le_of_ble_eq_true rfl, Nat.le_of_ble_eq_true rfl⟩) ?_
  obtain ⟨b1, hb1⟩ : ∃ z : Bool, z = decide (inx p0 nb) := ⟨_, rfl⟩
  rw [← hb1]
  refine wr_go1 (runV C hE hH hS (m_may X0.1 hs0 hs5 hs9 hb0 hb5 hb9 b1) mv_X6_may wm_837 (MX_m X0) rfl rfl hl.1 dX6_strength_6 rfl rfl ⟨rfl, rfl⟩ ⟨Nat.le_of_ble_eq_true rfl, Nat.le_of_ble_eq_true rfl⟩ (Nat.le_of_ble_eq_true rfl) ⟨Nat.le_of_ble_eq_true rfl, Nat.le_of_ble_eq_true rfl⟩) hS (fun u1 M2 H locs hM2 hH hS => ?_)
  have X3 := MX_tr X0 hM2
  refine lv_if_eq (tgt := 21) C.1 C.2.1 dX6_strength_9 (by decide) (fun c9 => ?_) (fun c9 => ?_)
  · refine lv_iconst (v := 0) C.1 C.2.1 dX6_strength_21 rfl ?_
    exact wr_iret 0 C hr hlocks hH hS rfl (mq1_bad hb1 c9 ⟨rfl, X3⟩) (by decide) (by decide) dX6_strength_22
  · obtain ⟨k1, hz0⟩ := m1_t hb1 c9
    rw [hz0] at X3
    refine lv_aload_n C.1 C.2.1 dX6_strength_12 rfl (lv_at hl 0 rfl) ?_
    refine mget (v := .ref (ad 8)) C hE hH fl_738 (MX_m X3) rfl dX6_strength_13 ?_
    refine lv_iload_n C.1 C.2.1 dX6_strength_16 rfl (lv_at hl 1 rfl) ?_
    refine mald (n := 10) (f := (ar 8)) C hE hH (MX_a X3 8 rfl) (vp_up (inx_in k1 (by omega)) hb5) dX6_strength_17 ?_
    refine lv_goto (tgt := 22) C.1 C.2.1 dX6_strength_18 (by decide) ?_
    exact wr_iret ((ar 8) p0.toNatClampNeg) C hr hlocks hH hS rfl (Or.inl ⟨k1, rfl, by have h9 := X3; exact h9⟩) (by decide) (by decide) dX6_strength_22
set_option maxHeartbeats 4000000 in
set_option maxRecDepth 100000 in
theorem mw_stateOf {l : Launch} {g : gG} {M : Mp} {mo : Nat} {ad : Nat → Nat} {sc : Nat → Int32} {ar : Nat → Nat → Int32} {ne nb no : Nat}  (hI : MI g M mo ad sc ar) (hs0 : sc 0 = nI ne) (hs5 : sc 5 = nI nb) (hs9 : sc 9 = nI no) (hb0 : ne ≤ 12) (hb5 : nb ≤ 10) (hb9 : no ≤ 40) (p0 : Int32) : Met l yX6_stateOf (WY yX6_stateOf cX6_stateOf 2 (some .int)) { frames := 2, cells := 0, slots := 0, locals := 43 } (Wc g M [.ref mo, .int p0]) (wrQ (S := Int32) g (fun u_ => (some (.int u_))) (fun u_ M_ => MQ1 (inx p0 no) (u_ = (ar 13 p0.toNatClampNeg) ∧ MX g M M_ mo ad (us sc 23 0) (ar)) (fun t_ => u_ = 0 ∧ MX g M M_ mo ad (us sc 23 t_) ar))) 0 0 (gA g) := by
  refine ofM (by decide +kernel) (Nat.le_of_ble_eq_true rfl) (fun p e s m args below meth c ls C hr hlocks hin hE hH hl ea => ?_)
  have hl : lv_has ls 2 [(0, .ref mo), (1, .int p0)] := hl
  have hS : va_S (gA g) s.heap s.heap [] := va_S.rf
  have X0 := MX_rf hI
  refine lv_aload_n C.1 C.2.1 dX6_stateOf_0 rfl (lv_at hl 0 rfl) ?_
  refine lv_aload_n C.1 C.2.1 dX6_stateOf_1 rfl (lv_at hl 0 rfl) ?_
  refine lv_iload_n C.1 C.2.1 dX6_stateOf_2 rfl (lv_at hl 1 rfl) ?_
  refine rd_go1 (runV C hE hH hS (m_isOrder X0.1 hs0 hs5 hs9 hb0 hb5 hb9 p0) mv_X6_isOrder wm_872 (MX_m X0) rfl rfl hl.1 dX6_stateOf_3 rfl rfl ⟨rfl, rfl⟩ ⟨Nat.le_of_ble_eq_true rfl, Nat.le_of_ble_eq_true rfl⟩ (Nat.le_of_ble_eq_true rfl) ⟨Nat.le_of_ble_eq_true rfl, Nat.le_of_ble_eq_true rfl⟩) ?_
  obtain ⟨b1, hb1⟩ : ∃ z : Bool, z = decide (inx p0 no) := ⟨_, rfl⟩
  rw [← hb1]
  refine wr_go1 (runV C hE hH hS (m_may X0.1 hs0 hs5 hs9 hb0 hb5 hb9 b1) mv_X6_may wm_837 (MX_m X0) rfl rfl hl.1 dX6_stateOf_6 rfl rfl ⟨rfl, rfl⟩ ⟨Nat.le_of_ble_eq_true rfl, Nat.le_of_ble_eq_true rfl⟩ (Nat.le_of_ble_eq_true rfl) ⟨Nat.le_of_ble_eq_true rfl, Nat.le_of_ble_eq_true rfl⟩) hS (fun u1 M2 H locs hM2 hH hS => ?_)
  have X3 := MX_tr X0 hM2
  refine lv_if_eq (tgt := 21) C.1 C.2.1 dX6_stateOf_9 (by decide) (fun c9 => ?_) (fun c9 => ?_)
  · refine lv_iconst (v := 0) C.1 C.2.1 dX6_stateOf_21 rfl ?_
    exact wr_iret 0 C hr hlocks hH hS rfl (mq1_bad hb1 c9 ⟨rfl, X3⟩) (by decide) (by decide) dX6_stateOf_22
  · obtain ⟨k1, hz0⟩ := m1_t hb1 c9
    rw [hz0] at X3
    refine lv_aload_n C.1 C.2.1 dX6_stateOf_12 rfl (lv_at hl 0 rfl) ?_
    refine mget (v := .ref (ad 13)) C hE hH fl_743 (MX_m X3) rfl dX6_stateOf_13 ?_
    refine lv_iload_n C.1 C.2.1 dX6_stateOf_16 rfl (lv_at hl 1 rfl) ?_
    refine mald (n := 40) (f := (ar 13)) C hE hH (MX_a X3 13 rfl) (vp_up (inx_in k1 (by omega)) hb9) dX6_stateOf_17 ?_
    refine lv_goto (tgt := 22) C.1 C.2.1 dX6_stateOf_18 (by decide) ?_
    exact wr_iret ((ar 13) p0.toNatClampNeg) C hr hlocks hH hS rfl (Or.inl ⟨k1, rfl, by have h9 := X3; exact h9⟩) (by decide) (by decide) dX6_stateOf_22
