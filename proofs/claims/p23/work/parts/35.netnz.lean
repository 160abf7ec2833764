/-! NETTING KEEPS THE DEBTS SMALL -/
def ng (x : Int32) : Int := if x.toInt < 0 then -x.toInt else 0
def ps (x : Int32) : Int := if 0 < x.toInt then x.toInt else 0
def NU (B : Int) (D : Nat → Nat → Int32) (U : Nat → Int32) : Prop := (∀ i j, i < 5 → j < 5 → 0 ≤ (D i j).toInt) ∧ (∀ i, i < 5 → isum (fun j => (D i j).toInt) 5 + ng (U i) ≤ B) ∧ (∀ j, j < 5 → isum (fun i => (D i j).toInt) 5 + ps (U j) ≤ B) ∧ ∀ t, t < 5 → rgU (U t)
theorem NU_step {B : Int} {D : Nat → Nat → Int32} {U : Nat → Int32} {a b : Nat} (h : NU B D U) (ha : a < 5) (hb : b < 5) (h0 : ¬ 0 ≤ U a) (h1 : ¬ U b ≤ 0) : NU B (zstepD U D a b) (zstepU U a b) := by
  obtain ⟨k1, k2, k3, k4⟩ := h
  have z0 : (0 : Int32).toInt = 0 := by decide
  rw [Int32.le_iff_toInt_le, z0] at h0 h1
  have hne : b ≠ a := fun e => by rw [e] at h1; omega
  have nx := ti_neg (k4 a ha)
  obtain ⟨c, hc⟩ : ∃ z, z = zam (U a) (U b) := ⟨_, rfl⟩
  have hct : 0 < c.toInt ∧ c.toInt ≤ -(U a).toInt ∧ c.toInt ≤ (U b).toInt := by
    rw [hc]
    unfold zam
    by_cases q : U b < -U a
    · rw [if_pos q]; rw [Int32.lt_iff_toInt_lt] at q; omega
    · rw [if_neg q]; rw [Int32.lt_iff_toInt_lt] at q; omega
  obtain ⟨ga1, ga2⟩ := k4 a ha
  obtain ⟨gb1, gb2⟩ := k4 b hb
  have ex : (U a + c).toInt = (U a).toInt + c.toInt := by rw [Int32.toInt_add, Int.bmod_eq_of_le (by omega) (by omega)]
  have ey : (U b - c).toInt = (U b).toInt - c.toInt := by rw [Int32.toInt_sub, Int.bmod_eq_of_le (by omega) (by omega)]
  have eD : ∀ i j, zstepD U D a b i j = if i = a ∧ j = b then c else D i j := fun i j => by
    unfold zstepD
    rw [← hc]
    by_cases e : i = a
    · rw [if_pos e]
      by_cases e2 : j = b
      · rw [e2, upd_s, if_pos ⟨e, rfl⟩]
      · rw [upd_n e2, if_neg (fun z => e2 z.2), e]
    · rw [if_neg e, if_neg (fun z => e z.1)]
  have v1 : zstepU U a b a = U a + c := by unfold zstepU; rw [← hc, upd_n hne.symm, upd_s]
  have v2 : zstepU U a b b = U b - c := by unfold zstepU; rw [← hc, upd_s, upd_n hne]
  have v3 : ∀ t, t ≠ a → t ≠ b → zstepU U a b t = U t := fun t e1 e2 => by unfold zstepU; rw [upd_n e2, upd_n e1]
  refine ⟨fun i j hi hj => ?_, fun i hi => ?_, fun j hj => ?_, fun t ht => ?_⟩
  · rw [eD]
    by_cases e : i = a ∧ j = b
    · rw [if_pos e]; omega
    · rw [if_neg e]; exact k1 i j hi hj
  · have z := k2 i hi
    by_cases e : i = a
    · have q := isum_one (f := fun j => (D i j).toInt) (f' := fun j => (zstepD U D a b i j).toInt) (b := b) (v := c.toInt) (by omega) (by show (zstepD U D a b i b).toInt ≤ (D i b).toInt + c.toInt; rw [eD, if_pos ⟨e, rfl⟩]; have := k1 i b hi hb; omega) (n := 5) (fun j hj hjb => by show (zstepD U D a b i j).toInt = (D i j).toInt; rw [eD, if_neg (fun z => hjb z.2)])
      rw [if_pos hb] at q
      rw [e, v1]
      rw [e] at z q
      unfold ng at z ⊢
      split at z <;> split <;> omega
    · have q := isum_cg (f := fun j => (D i j).toInt) (f' := fun j => (zstepD U D a b i j).toInt) (n := 5) (fun j hj => by show (zstepD U D a b i j).toInt = (D i j).toInt; rw [eD, if_neg (fun z => e z.1)])
      rw [q]
      by_cases e2 : i = b
      · rw [e2, v2]
        rw [e2] at z
        unfold ng at z ⊢
        split at z <;> split <;> omega
      · rw [v3 i e e2]; exact z
  · have z := k3 j hj
    by_cases e : j = b
    · have q := isum_one (f := fun i => (D i j).toInt) (f' := fun i => (zstepD U D a b i j).toInt) (b := a) (v := c.toInt) (by omega) (by show (zstepD U D a b a j).toInt ≤ (D a j).toInt + c.toInt; rw [eD, if_pos ⟨rfl, e⟩]; have := k1 a j ha hj; omega) (n := 5) (fun i hi hia => by show (zstepD U D a b i j).toInt = (D i j).toInt; rw [eD, if_neg (fun z => hia z.1)])
      rw [if_pos ha] at q
      rw [e, v2]
      rw [e] at z q
      unfold ps at z ⊢
      split at z <;> split <;> omega
    · have q := isum_cg (f := fun i => (D i j).toInt) (f' := fun i => (zstepD U D a b i j).toInt) (n := 5) (fun i hi => by show (zstepD U D a b i j).toInt = (D i j).toInt; rw [eD, if_neg (fun z => e z.2)])
      rw [q]
      by_cases e2 : j = a
      · rw [e2, v1]
        rw [e2] at z
        unfold ps at z ⊢
        split at z <;> split <;> omega
      · rw [v3 j e2 e]; exact z
  · by_cases e1 : t = a
    · rw [e1, v1]; unfold rgU rng; omega
    by_cases e2 : t = b
    · rw [e2, v2]; unfold rgU rng; omega
    rw [v3 t e1 e2]; exact k4 t ht
theorem NU_run {B : Int} (n : Nat) : ∀ {D : Nat → Nat → Int32} {U : Nat → Int32}, NU B D U → NZ B (zrun n D U).2.1 := by
  have base : ∀ {D : Nat → Nat → Int32} {U : Nat → Int32}, NU B D U → NZ B D := fun h => ⟨h.1, fun i hi => by
    have z := h.2.1 i hi
    unfold ng at z
    split at z <;> omega, fun j hj => by
    have z := h.2.2.1 j hj
    unfold ps at z
    split at z <;> omega⟩
  induction n with
  | zero => exact fun h => base h
  | succ n ih =>
    intro D U h
    by_cases hf : zfound U = true
    · rw [zrun_t hf]
      have hf2 := of_decide_eq_true hf
      obtain ⟨j, hj, ej, qj⟩ := zlow_5 hf2.1
      obtain ⟨k, hk, ek, qk⟩ := zlow_5 hf2.2
      rw [ej, ek, nI_clamp (by omega), nI_clamp (by omega)]
      exact ih (NU_step h hj hk (fun z => qj ((neg1 (h.2.2.2 j hj)).mpr z)) (fun z => qk (by rw [Int32.mul_one]; exact z)))
    · rw [zrun_f hf]
      exact base h
theorem NZ_net {B : Int} {ar : Nat → Nat → Int32} {k : Nat} (n : Nat) (h : NZ B (zD ar k)) (hB : B ≤ 2000000) : NZ B (znet n ar k).2.1 := by
  refine NU_run n ⟨fun i j _ _ => (by decide : (0 : Int) ≤ (0 : Int32).toInt), fun i hi => ?_, fun j hj => ?_, fun t ht => NZ_rg h hB ht⟩
  · have e := zbal_ti h hB hi (n := 5) (Nat.le_refl 5)
    have c2 := h.2.1 i hi
    have c3 : 0 ≤ isum (fun t => (zD ar k t i).toInt) 5 := isum_nn (fun t ht => h.1 t i ht hi)
    have c4 : 0 ≤ isum (fun t => (zD ar k i t).toInt) 5 := isum_nn (fun t ht => h.1 i t hi ht)
    have s0 : isum (fun _ => (0 : Int32).toInt) 5 = 0 := by decide
    rw [s0]
    unfold ng zU
    rw [e]
    split <;> omega
  · have e := zbal_ti h hB hj (n := 5) (Nat.le_refl 5)
    have c2 := h.2.2 j hj
    have c3 : 0 ≤ isum (fun t => (zD ar k t j).toInt) 5 := isum_nn (fun t ht => h.1 t j ht hj)
    have c4 : 0 ≤ isum (fun t => (zD ar k j t).toInt) 5 := isum_nn (fun t ht => h.1 j t hj ht)
    have s0 : isum (fun _ => (0 : Int32).toInt) 5 = 0 := by decide
    rw [s0]
    unfold ps zU
    rw [e]
    split <;> omega
