/-! DEBTS OVER THE ROUNDS (of the whole row) -/
theorem zsh_rng {x k : Int32} (hx : rng x 1 1000) (hk : rng k 0 90) : 0 ≤ (zsh x k).toInt ∧ (zsh x k).toInt ≤ 1000 := by
  obtain ⟨x1, x2⟩ := hx
  obtain ⟨k1, k2⟩ := hk
  have m1 : 0 ≤ x.toInt * k.toInt := Int.mul_nonneg (by omega) k1
  have m2 : x.toInt * k.toInt ≤ x.toInt * 90 := Int.mul_le_mul_of_nonneg_left k2 (by omega)
  have em : (x * k).toInt = x.toInt * k.toInt := by rw [Int32.toInt_mul, Int.bmod_eq_of_le (by omega) (by omega)]
  have e99 : (99 : Int32).toInt = 99 := by decide
  have e100 : (100 : Int32).toInt = 100 := by decide
  have ea : (x * k + 99).toInt = x.toInt * k.toInt + 99 := by rw [Int32.toInt_add, em, e99, Int.bmod_eq_of_le (by omega) (by omega)]
  have d1 : (x * k + 99).toInt.tdiv 100 = (x * k + 99).toInt / 100 := Int.tdiv_eq_ediv_of_nonneg (by omega)
  have ed : ((x * k + 99) / 100).toInt = (x.toInt * k.toInt + 99) / 100 := by rw [Int32.toInt_div, e100, d1, ea, Int.bmod_eq_of_le (by omega) (by omega)]
  have es : (zsh x k).toInt = x.toInt - (x.toInt * k.toInt + 99) / 100 := by unfold zsh; rw [Int32.toInt_sub, ed, Int.bmod_eq_of_le (by omega) (by omega)]
  rw [es]
  omega
def krN (n : Nat) (ar : Nat → Nat → Int32) : Prop := ∀ k, k < 3 → NZ (1000 * (n : Int)) (zD ar k)
section KRN
variable {n : Nat} {ar ar2 : Nat → Nat → Int32}
theorem krN_le {m : Nat} (h : krN n ar) (hm : n ≤ m) : krN m ar := fun k hk => by
  obtain ⟨h1, h2, h3⟩ := h k hk
  exact ⟨h1, fun i hi => Int.le_trans (h2 i hi) (by omega), fun j hj => Int.le_trans (h3 j hj) (by omega)⟩
theorem krN_cg (h : krN n ar) (h21 : ∀ i, i < 75 → ar2 21 i = ar 21 i) : krN n ar2 := fun k hk => by
  obtain ⟨h1, h2, h3⟩ := h k hk
  have e : ∀ i j, i < 5 → j < 5 → zD ar2 k i j = zD ar k i j := fun i j hi hj => by unfold zD; exact h21 _ (by omega)
  refine ⟨fun i j hi hj => by rw [e i j hi hj]; exact h1 i j hi hj, fun i hi => ?_, fun j hj => ?_⟩
  · rw [isum_cg (f := fun j => (zD ar k i j).toInt) (fun j hj => by show (zD ar2 k i j).toInt = _; rw [e i j hi hj])]; exact h2 i hi
  · rw [isum_cg (f := fun i => (zD ar k i j).toInt) (fun i hi => by show (zD ar2 k i j).toInt = _; rw [e i j hi hj])]; exact h3 j hj
end KRN
theorem isum_ge {f : Nat → Int} {m j : Nat} (hj : j < m) (h : ∀ i, i < m → 0 ≤ f i) : f j ≤ isum f m := by
  have a := isum_mono (f := f) (n := j + 1) (m := m) hj h
  have b : 0 ≤ isum f j := isum_nn (fun i hi => h i (by omega))
  have c : isum f (j + 1) = isum f j + f j := rfl
  omega
theorem NZ_cg {B : Int} {D D' : Nat → Nat → Int32} (h : NZ B D) (e : ∀ i j, i < 5 → j < 5 → D' i j = D i j) : NZ B D' := by
  obtain ⟨h1, h2, h3⟩ := h
  refine ⟨fun i j hi hj => by rw [e i j hi hj]; exact h1 i j hi hj, fun i hi => ?_, fun j hj => ?_⟩
  · rw [isum_cg (f := fun j => (D i j).toInt) (fun j hj => by show (D' i j).toInt = _; rw [e i j hi hj])]; exact h2 i hi
  · rw [isum_cg (f := fun i => (D i j).toInt) (fun i hi => by show (D' i j).toInt = _; rw [e i j hi hj])]; exact h3 j hj
theorem NZ_le {B B' : Int} {D : Nat → Nat → Int32} (h : NZ B D) (hB : B ≤ B') : NZ B' D := ⟨h.1, fun i hi => Int.le_trans (h.2.1 i hi) hB, fun j hj => Int.le_trans (h.2.2 j hj) hB⟩
theorem krN_give {n : Nat} {ar : Nat → Nat → Int32} {c i j : Nat} {v d : Int32} (hN : krN n ar) (hn : n ≤ 512) (hc : c < 3) (hi : i < 5) (hj : j < 5) (hv : v = ar 21 (25 * c + 5 * i + j) + d) (h0 : 0 ≤ d.toInt) (h1 : d.toInt ≤ 1000) : krN (n + 1) (ua ar 21 (upd (ar 21) (25 * c + 5 * i + j) v)) := by
  have hz := hN c hc
  have a0 : 0 ≤ (ar 21 (25 * c + 5 * i + j)).toInt := hz.1 i j hi hj
  have a1 : (ar 21 (25 * c + 5 * i + j)).toInt ≤ 1000 * (n : Int) := Int.le_trans (isum_ge (f := fun j => (zD ar c i j).toInt) hj (fun t ht => hz.1 i t hi ht)) (hz.2.1 i hi)
  have ev : v.toInt = (ar 21 (25 * c + 5 * i + j)).toInt + d.toInt := by rw [hv, Int32.toInt_add, Int.bmod_eq_of_le (by omega) (by omega)]
  intro k hk
  have eB : 1000 * ((n + 1 : Nat) : Int) = 1000 * (n : Int) + 1000 := by omega
  rw [eB]
  by_cases e : k = c
  · subst e
    have eD : zD (ua ar 21 (upd (ar 21) (25 * k + 5 * i + j) v)) k i j = v := by unfold zD; rw [ua_s, upd_s]
    refine NZ_up (a := i) (b := j) hz (fun i' j' hi' hj' hne => ?_) (by rw [eD]; omega) (by rw [eD]; show v.toInt ≤ (ar 21 (25 * k + 5 * i + j)).toInt + 1000; omega)
    unfold zD
    rw [ua_s, upd_n (by omega)]
  · refine NZ_le (NZ_cg (hN k hk) (fun i' j' hi' hj' => ?_)) (by omega)
    unfold zD
    rw [ua_s, upd_n (by omega)]
theorem znetf_at {ar : Nat → Nat → Int32} {c i : Nat} {D9 : Nat → Int32} (h1 : ∀ i j, i < 5 → j < 5 → D9 (25 * c + 5 * i + j) = (znet 5 ar c).2.1 i j) (h2 : ∀ t, t < 25 * c ∨ 25 * c + 25 ≤ t → D9 t = ar 21 t) : D9 i = znetf ar c i := by
  unfold znetf
  by_cases q : 25 * c ≤ i ∧ i < 25 * c + 25
  · rw [if_pos q, ← h1 _ _ (by omega) (by omega)]
    exact congrArg D9 (by omega)
  · rw [if_neg q]
    exact h2 i (by omega)
