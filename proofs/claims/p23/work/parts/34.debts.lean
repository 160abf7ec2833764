/-! DEBTS: what keeps every position small -/
def isum (f : Nat → Int) : Nat → Int
  | 0 => 0
  | n + 1 => isum f n + f n
theorem isum_nn {f : Nat → Int} : ∀ {n : Nat}, (∀ i, i < n → 0 ≤ f i) → 0 ≤ isum f n
  | 0, _ => Int.le_refl _
  | n + 1, h => by
    have a := isum_nn (f := f) (n := n) (fun i hi => h i (by omega))
    have b := h n (by omega)
    unfold isum
    omega
theorem isum_mono {f : Nat → Int} {n : Nat} : ∀ {m : Nat}, n ≤ m → (∀ i, i < m → 0 ≤ f i) → isum f n ≤ isum f m
  | 0, hn, _ => by rw [show n = 0 by omega]; exact Int.le_refl _
  | m + 1, hn, h => by
    rcases (by omega : n = m + 1 ∨ n ≤ m) with rfl | q
    · exact Int.le_refl _
    · have a := isum_mono (f := f) (n := n) (m := m) q (fun i hi => h i (by omega))
      have b := h m (by omega)
      show isum f n ≤ isum f m + f m
      omega
def NZ (B : Int) (D : Nat → Nat → Int32) : Prop := (∀ i j, i < 5 → j < 5 → 0 ≤ (D i j).toInt) ∧ (∀ i, i < 5 → isum (fun j => (D i j).toInt) 5 ≤ B) ∧ ∀ j, j < 5 → isum (fun i => (D i j).toInt) 5 ≤ B
theorem zbal_ti {B : Int} {D : Nat → Nat → Int32} {j : Nat} (h : NZ B D) (hB : B ≤ 2000000) (hj : j < 5) : ∀ {n : Nat}, n ≤ 5 → (zbal D j n).toInt = isum (fun i => (D i j).toInt) n - isum (fun i => (D j i).toInt) n
  | 0, _ => rfl
  | n + 1, hn => by
    obtain ⟨h1, h2, h3⟩ := id h
    have ih := zbal_ti h hB hj (n := n) (by omega)
    have c1 : isum (fun i => (D i j).toInt) (n + 1) ≤ B := Int.le_trans (isum_mono hn (fun i hi => h1 i j hi hj)) (h3 j hj)
    have c2 : isum (fun i => (D j i).toInt) (n + 1) ≤ B := Int.le_trans (isum_mono hn (fun i hi => h1 j i hj hi)) (h2 j hj)
    have c3 : 0 ≤ isum (fun i => (D i j).toInt) n := isum_nn (fun i hi => h1 i j (by omega) hj)
    have c4 : 0 ≤ isum (fun i => (D j i).toInt) n := isum_nn (fun i hi => h1 j i hj (by omega))
    have a1 := h1 n j (by omega) hj
    have a2 := h1 j n hj (by omega)
    have u1 : isum (fun i => (D i j).toInt) (n + 1) = isum (fun i => (D i j).toInt) n + (D n j).toInt := rfl
    have u2 : isum (fun i => (D j i).toInt) (n + 1) = isum (fun i => (D j i).toInt) n + (D j n).toInt := rfl
    have e1 : (D n j - D j n).toInt = (D n j).toInt - (D j n).toInt := by rw [Int32.toInt_sub, Int.bmod_eq_of_le (by omega) (by omega)]
    unfold zbal
    rw [Int32.toInt_add, e1, ih, Int.bmod_eq_of_le (by omega) (by omega), u1, u2]
    omega
theorem NZ_rg {B : Int} {ar : Nat → Nat → Int32} {k j : Nat} (h : NZ B (zD ar k)) (hB : B ≤ 2000000) (hj : j < 5) : rgU (zU ar k j) := by
  have e := zbal_ti h hB hj (n := 5) (Nat.le_refl 5)
  have c1 := h.2.2 j hj
  have c2 := h.2.1 j hj
  have c3 : 0 ≤ isum (fun i => (zD ar k i j).toInt) 5 := isum_nn (fun i hi => h.1 i j hi hj)
  have c4 : 0 ≤ isum (fun i => (zD ar k j i).toInt) 5 := isum_nn (fun i hi => h.1 j i hj hi)
  unfold rgU rng zU
  rw [e]
  omega
theorem isum_cg {f f' : Nat → Int} : ∀ {n : Nat}, (∀ i, i < n → f' i = f i) → isum f' n = isum f n
  | 0, _ => rfl
  | n + 1, h => by
    unfold isum
    rw [isum_cg (fun i hi => h i (by omega)), h n (by omega)]
theorem isum_one {f f' : Nat → Int} {b : Nat} {v : Int} (hv : 0 ≤ v) (hb : f' b ≤ f b + v) : ∀ {n : Nat}, (∀ i, i < n → i ≠ b → f' i = f i) → isum f' n ≤ isum f n + (if b < n then v else 0)
  | 0, _ => by rw [if_neg (Nat.not_lt_zero b)]; exact Int.le_refl _
  | n + 1, h => by
    have ih := isum_one (f := f) (f' := f') hv hb (n := n) (fun i hi => h i (by omega))
    unfold isum
    by_cases e : n = b
    · rw [if_neg (by omega)] at ih
      rw [if_pos (by omega)]
      rw [← e] at hb
      omega
    · have e2 := h n (by omega) e
      by_cases e3 : b < n
      · rw [if_pos e3] at ih; rw [if_pos (by omega)]; omega
      · rw [if_neg e3] at ih; rw [if_neg (by omega)]; omega
theorem NZ_up {B : Int} {D D' : Nat → Nat → Int32} {a b : Nat} (h : NZ B D) (hD : ∀ i j, i < 5 → j < 5 → ¬ (i = a ∧ j = b) → D' i j = D i j) (h0 : 0 ≤ (D' a b).toInt) (h1 : (D' a b).toInt ≤ (D a b).toInt + 1000) : NZ (B + 1000) D' := by
  obtain ⟨k1, k2, k3⟩ := h
  refine ⟨fun i j hi hj => ?_, fun i hi => ?_, fun j hj => ?_⟩
  · by_cases e : i = a ∧ j = b
    · rw [e.1, e.2]; exact h0
    · rw [hD i j hi hj e]; exact k1 i j hi hj
  · have z := k2 i hi
    by_cases e : i = a
    · have q := isum_one (f := fun j => (D i j).toInt) (f' := fun j => (D' i j).toInt) (b := b) (v := 1000) (by decide) (by rw [e]; exact h1) (n := 5) (fun j hj hjb => by show (D' i j).toInt = (D i j).toInt; rw [hD i j hi hj (fun z => hjb z.2)])
      split at q <;> omega
    · have q := isum_cg (f := fun j => (D i j).toInt) (f' := fun j => (D' i j).toInt) (n := 5) (fun j hj => by show (D' i j).toInt = (D i j).toInt; rw [hD i j hi hj (fun z => e z.1)])
      omega
  · have z := k3 j hj
    by_cases e : j = b
    · have q := isum_one (f := fun i => (D i j).toInt) (f' := fun i => (D' i j).toInt) (b := a) (v := 1000) (by decide) (by rw [e]; exact h1) (n := 5) (fun i hi hia => by show (D' i j).toInt = (D i j).toInt; rw [hD i j hi hj (fun z => hia z.1)])
      split at q <;> omega
    · have q := isum_cg (f := fun i => (D i j).toInt) (f' := fun i => (D' i j).toInt) (n := 5) (fun i hi => by show (D' i j).toInt = (D i j).toInt; rw [hD i j hi hj (fun z => e z.2)])
      omega
