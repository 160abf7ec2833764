/-! NETTING: the model's two pointers against the ring's lowest ones -/
def ucnt (U : Nat → Int32) : Nat → Nat
  | 0 => 0
  | n + 1 => ucnt U n + if U n = 0 then 0 else 1
theorem ucnt_le {U V : Nat → Int32} : ∀ {n : Nat}, (∀ t, t < n → ¬ V t = 0 → ¬ U t = 0) → ucnt V n ≤ ucnt U n
  | 0, _ => Nat.le_refl _
  | n + 1, h => by
    have ih := ucnt_le (U := U) (V := V) (n := n) (fun t ht => h t (by omega))
    unfold ucnt
    by_cases hv : V n = 0
    · rw [if_pos hv]; omega
    · rw [if_neg hv, if_neg (h n (by omega) hv)]; omega
theorem ucnt_lt {U V : Nat → Int32} {t0 : Nat} : ∀ {n : Nat}, t0 < n → (∀ t, t < n → ¬ V t = 0 → ¬ U t = 0) → V t0 = 0 → ¬ U t0 = 0 → ucnt V n + 1 ≤ ucnt U n
  | 0, h0, _, _, _ => absurd h0 (Nat.not_lt_zero _)
  | n + 1, h0, h, hv, hu => by
    unfold ucnt
    by_cases e : t0 = n
    · have ih := ucnt_le (U := U) (V := V) (n := n) (fun t ht => h t (by omega))
      rw [← e, if_pos hv, if_neg hu, e]; omega
    · have ih := ucnt_lt (U := U) (V := V) (n := n) (by omega) (fun t ht => h t (by omega)) hv hu
      by_cases hv2 : V n = 0
      · rw [if_pos hv2]; omega
      · rw [if_neg hv2, if_neg (h n (by omega) hv2)]; omega
abbrev rgU (x : Int32) : Prop := rng x (-2147483647) 2147483647
theorem ti_neg {a : Int32} (h : rgU a) : (-a).toInt = -a.toInt := by
  obtain ⟨h1, h2⟩ := h
  rw [Int32.toInt_neg, Int.bmod_eq_of_le (by omega) (by omega)]
theorem neg1 {a : Int32} (h : rgU a) : a * (-1) ≤ 0 ↔ 0 ≤ a := by
  obtain ⟨h1, h2⟩ := h
  have e1 : (-1 : Int32).toInt = -1 := by decide
  have e : (a * (-1)).toInt = -a.toInt := by rw [Int32.toInt_mul, e1, Int.bmod_eq_of_le (by omega) (by omega)]; omega
  have z0 : (0 : Int32).toInt = 0 := by decide
  rw [Int32.le_iff_toInt_le, Int32.le_iff_toInt_le, e, z0]
  omega
theorem zlow_at {U : Nat → Int32} {sg : Int32} {j : Nat} (hj : ¬ U j * sg ≤ 0) : ∀ (r i : Nat), i ≤ j → j < i + r → (∀ t, i ≤ t → t < j → U t * sg ≤ 0) → zlow U sg r i = nI j
  | 0, i, h1, h2, _ => absurd h2 (by omega)
  | r + 1, i, h1, h2, h => by
    unfold zlow
    by_cases e : i = j
    · rw [e, if_neg hj]
    · rw [if_pos (h i (Nat.le_refl i) (by omega))]
      exact zlow_at hj r (i + 1) (by omega) (by omega) (fun t h3 h4 => h t (by omega) h4)
theorem zlow_no {U : Nat → Int32} {sg : Int32} : ∀ (r i : Nat), (∀ t, i ≤ t → t < i + r → U t * sg ≤ 0) → zlow U sg r i = -1
  | 0, _, _ => rfl
  | r + 1, i, h => by
    unfold zlow
    rw [if_pos (h i (Nat.le_refl i) (by omega))]
    exact zlow_no r (i + 1) (fun t h3 h4 => h t (by omega) (by omega))
def mbo (x y : Int32) : Int32 := if -x < y then -x else y
theorem mbo_zam {x y : Int32} : mbo x y = zam x y := by
  unfold mbo zam
  by_cases h : -x < y
  · rw [if_pos h]
    rw [if_neg (fun z => by rw [Int32.lt_iff_toInt_lt] at h z; omega)]
  · rw [if_neg h]
    by_cases h2 : y < -x
    · rw [if_pos h2]
    · rw [if_neg h2]
      exact Int32.toInt_inj.mp (by rw [Int32.lt_iff_toInt_lt] at h h2; omega)
/-- what the run that remains gives: R -/
def NV (k c lo hi : Nat) (D U : Nat → Int32) (R : Nat × (Nat → Nat → Int32)) (r : Nat) : Prop := (∀ t, t < lo → 0 ≤ U t) ∧ (∀ t, t < hi → U t ≤ 0) ∧ (∀ t, t < 5 → rgU (U t)) ∧ c + (zrun r (fun i j => D (25 * k + 5 * i + j)) U).1 = R.1 ∧ (∀ i j, i < 5 → j < 5 → (zrun r (fun i j => D (25 * k + 5 * i + j)) U).2.1 i j = R.2 i j) ∧ ucnt U 5 ≤ r
theorem NV_lo {k c lo hi r : Nat} {D U : Nat → Int32} {R : Nat × (Nat → Nat → Int32)} (h : NV k c lo hi D U R r) (h0 : 0 ≤ U lo) : NV k c (lo + 1) hi D U R r := ⟨fun t ht => by
  rcases (by omega : t < lo ∨ t = lo) with q | rfl
  · exact h.1 t q
  · exact h0, h.2⟩
theorem NV_hi {k c lo hi r : Nat} {D U : Nat → Int32} {R : Nat × (Nat → Nat → Int32)} (h : NV k c lo hi D U R r) (h0 : U hi ≤ 0) : NV k c lo (hi + 1) D U R r := ⟨h.1, fun t ht => by
  rcases (by omega : t < hi ∨ t = hi) with q | rfl
  · exact h.2.1 t q
  · exact h0, h.2.2⟩
theorem NV_end {k c lo hi r : Nat} {D U : Nat → Int32} {R : Nat × (Nat → Nat → Int32)} (h : NV k c lo hi D U R r) (h0 : lo = 5 ∨ hi = 5) : c = R.1 ∧ ∀ i j, i < 5 → j < 5 → D (25 * k + 5 * i + j) = R.2 i j := by
  obtain ⟨h1, h2, h3, h4, h5, h6⟩ := h
  have hf : ¬ zfound U = true := fun z => by
    have z := of_decide_eq_true z
    rcases h0 with rfl | rfl
    · exact z.1 (zlow_no 5 0 (fun t _ ht => (neg1 (h3 t (by omega))).mpr (h1 t (by omega))))
    · exact z.2 (zlow_no 5 0 (fun t _ ht => by rw [Int32.mul_one]; exact h2 t (by omega)))
  cases r with
  | zero => exact ⟨h4, h5⟩
  | succ r =>
    rw [zrun_f hf] at h4 h5
    exact ⟨h4, h5⟩
theorem NV_step {k c lo hi r : Nat} {D U : Nat → Int32} {R : Nat × (Nat → Nat → Int32)} (h : NV k c lo hi D U R r) (hl : lo < 5) (hh : hi < 5) (h0 : ¬ 0 ≤ U lo) (h1 : ¬ U hi ≤ 0) : ∃ r', NV k (c + 1) lo hi (upd D (25 * k + 5 * lo + hi) (mbo (U lo) (U hi))) (upd (upd U lo (U lo + mbo (U lo) (U hi))) hi (upd U lo (U lo + mbo (U lo) (U hi)) hi - mbo (U lo) (U hi))) R r' ∧ ucnt (upd (upd U lo (U lo + mbo (U lo) (U hi))) hi (upd U lo (U lo + mbo (U lo) (U hi)) hi - mbo (U lo) (U hi))) 5 + 1 ≤ ucnt U 5 := by
  obtain ⟨k1, k2, k3, k4, k5, k6⟩ := h
  have z0 : (0 : Int32).toInt = 0 := by decide
  have gx := k3 lo hl
  have gy := k3 hi hh
  have h0' := h0
  have h1' := h1
  rw [Int32.le_iff_toInt_le, z0] at h0' h1'
  have nx := ti_neg gx
  have hne : hi ≠ lo := fun e => by rw [e] at h1'; omega
  obtain ⟨b, hb⟩ : ∃ z, z = mbo (U lo) (U hi) := ⟨_, rfl⟩
  have hbt : (b.toInt = -(U lo).toInt ∨ b.toInt = (U hi).toInt) ∧ b.toInt ≤ -(U lo).toInt ∧ b.toInt ≤ (U hi).toInt := by
    rw [hb]
    unfold mbo
    by_cases q : -U lo < U hi
    · rw [if_pos q]
      rw [Int32.lt_iff_toInt_lt] at q
      omega
    · rw [if_neg q]
      rw [Int32.lt_iff_toInt_lt] at q
      omega
  have hzam : zam (U lo) (U hi) = b := by rw [hb, mbo_zam]
  rw [← hb, upd_n hne]
  obtain ⟨gx1, gx2⟩ := id gx
  obtain ⟨gy1, gy2⟩ := id gy
  have ex : (U lo + b).toInt = (U lo).toInt + b.toInt := by rw [Int32.toInt_add, Int.bmod_eq_of_le (by omega) (by omega)]
  have ey : (U hi - b).toInt = (U hi).toInt - b.toInt := by rw [Int32.toInt_sub, Int.bmod_eq_of_le (by omega) (by omega)]
  obtain ⟨V, hV⟩ : ∃ z, z = upd (upd U lo (U lo + b)) hi (U hi - b) := ⟨_, rfl⟩
  rw [← hV]
  have v1 : V lo = U lo + b := by rw [hV, upd_n hne.symm, upd_s]
  have v2 : V hi = U hi - b := by rw [hV, upd_s]
  have v3 : ∀ t, t ≠ lo → t ≠ hi → V t = U t := fun t a1 a2 => by rw [hV, upd_n a2, upd_n a1]
  have nz : ∀ {a : Int32}, a.toInt = 0 → a = 0 := fun ha => Int32.toInt_inj.mp (by rw [ha, z0])
  have zn : ∀ {a : Int32}, a = 0 → a.toInt = 0 := fun ha => by rw [ha, z0]
  have hc : ucnt V 5 + 1 ≤ ucnt U 5 := by
    have hsub : ∀ t, t < 5 → ¬ V t = 0 → ¬ U t = 0 := fun t ht hv hu => by
      by_cases e1 : t = lo
      · rw [e1] at hu; have := zn hu; omega
      by_cases e2 : t = hi
      · rw [e2] at hu; have := zn hu; omega
      exact hv (by rw [v3 t e1 e2]; exact hu)
    rcases hbt.1 with q | q
    · exact ucnt_lt hl hsub (by rw [v1]; exact nz (by omega)) (fun z => by have := zn z; omega)
    · exact ucnt_lt hh hsub (by rw [v2]; exact nz (by omega)) (fun z => by have := zn z; omega)
  cases r with
  | zero => omega
  | succ r =>
    have l1 : zlow U (-1) 5 0 = nI lo := zlow_at (fun z => h0 ((neg1 gx).mp z)) 5 0 (by omega) (by omega) (fun t _ ht => (neg1 (k3 t (by omega))).mpr (k1 t ht))
    have l2 : zlow U 1 5 0 = nI hi := zlow_at (by rw [Int32.mul_one]; exact h1) 5 0 (by omega) (by omega) (fun t _ ht => by rw [Int32.mul_one]; exact k2 t ht)
    have nn : ∀ j, j < 5 → ¬ nI j = -1 := fun j hj z => by
      have h9 := congrArg Int32.toInt z
      rw [show (nI j).toInt = j from Int32.toInt_ofNat_of_lt (by omega), show (-1 : Int32).toInt = -1 by decide] at h9
      omega
    have hf : zfound U = true := decide_eq_true ⟨by rw [l1]; exact nn lo hl, by rw [l2]; exact nn hi hh⟩
    rw [zrun_t hf, l1, l2, nI_clamp (by omega), nI_clamp (by omega)] at k4 k5
    have cg := zrun_congr r (D := zstepD U (fun i j => D (25 * k + 5 * i + j)) lo hi) (E := fun i j => upd D (25 * k + 5 * lo + hi) b (25 * k + 5 * i + j)) (U := zstepU U lo hi) (V := V) (fun i j hi2 hj2 => by
      unfold zstepD
      rw [hzam]
      by_cases ei : i = lo
      · rw [if_pos ei]
        by_cases ej : j = hi
        · rw [ej, ei, upd_s, upd_s]
        · rw [upd_n ej, upd_n (by omega), ei]
      · rw [if_neg ei, upd_n (by omega)]) (fun t _ => by
      unfold zstepU
      rw [hzam, upd_n hne, hV])
    refine ⟨r, ⟨fun t ht => ?_, fun t ht => ?_, fun t ht => ?_, ?_, fun i j hi2 hj2 => ?_, by omega⟩, hc⟩
    · by_cases e2 : t = hi
      · rw [e2, v2, Int32.le_iff_toInt_le, z0]; omega
      · rw [v3 t (by omega) e2]; exact k1 t ht
    · by_cases e1 : t = lo
      · rw [e1, v1, Int32.le_iff_toInt_le, z0]; omega
      · rw [v3 t e1 (by omega)]; exact k2 t ht
    · by_cases e1 : t = lo
      · rw [e1, v1]; unfold rgU rng; omega
      by_cases e2 : t = hi
      · rw [e2, v2]; unfold rgU rng; omega
      rw [v3 t e1 e2]; exact k3 t ht
    · rw [← cg.1]; omega
    · rw [← cg.2 i j hi2 hj2]; exact k5 i j hi2 hj2
