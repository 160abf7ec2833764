/-! WORDS AND RANGES (of the whole row) -/
def zfar (x y : Int32) : Int32 := if y < x then x - y else y - x
theorem ti_sub {a b : Int32} {l h l2 h2 : Int} (ha : rng a l h) (hb : rng b l2 h2) (h1 : -2147483648 ≤ l - h2) (h3 : h - l2 ≤ 2147483647) : (a - b).toInt = a.toInt - b.toInt := by
  obtain ⟨a1, a2⟩ := ha
  obtain ⟨b1, b2⟩ := hb
  rw [Int32.toInt_sub, Int.bmod_eq_of_le (by omega) (by omega)]
theorem ti_add {a b : Int32} {l h l2 h2 : Int} (ha : rng a l h) (hb : rng b l2 h2) (h1 : -2147483648 ≤ l + l2) (h3 : h + h2 ≤ 2147483647) : (a + b).toInt = a.toInt + b.toInt := by
  obtain ⟨a1, a2⟩ := ha
  obtain ⟨b1, b2⟩ := hb
  rw [Int32.toInt_add, Int.bmod_eq_of_le (by omega) (by omega)]
theorem rng_add {a b : Int32} {l h l2 h2 : Int} (ha : rng a l h) (hb : rng b l2 h2) (h1 : -2147483648 ≤ l + l2) (h3 : h + h2 ≤ 2147483647) : rng (a + b) (l + l2) (h + h2) := by
  have e := ti_add ha hb h1 h3
  obtain ⟨a1, a2⟩ := ha
  obtain ⟨b1, b2⟩ := hb
  unfold rng
  omega
theorem rng_le {a : Int32} {l h l2 h2 : Int} (ha : rng a l h) (h1 : l2 ≤ l) (h3 : h ≤ h2) : rng a l2 h2 := ⟨Int.le_trans h1 ha.1, Int.le_trans ha.2 h3⟩
theorem far_ab {f x : Int32} (hf : rng f (-1000) 1000) (hx : rng x (-1000) 1000) : zab (f - x) = zfar f x ∧ zab (f - x) = zfar x f := by
  have e := ti_sub hf hx (by decide) (by decide)
  have e2 := ti_sub hx hf (by decide) (by decide)
  have z0 : (0 : Int32).toInt = 0 := by decide
  have r : rng (f - x) (-2000) 2000 := by
    unfold rng at *
    omega
  have e3 : (0 - (f - x)).toInt = 0 - (f - x).toInt := by
    rw [ti_sub (a := 0) (l := 0) (h := 0) ⟨by decide, by decide⟩ r (by decide) (by decide), z0]
  unfold zab zfar
  constructor
  · by_cases h1 : 0 ≤ f - x
    · rw [if_pos h1]
      by_cases h2 : x < f
      · rw [if_pos h2]
      · rw [if_neg h2]
        rw [Int32.le_iff_toInt_le] at h1
        rw [Int32.lt_iff_toInt_lt] at h2
        exact Int32.toInt_inj.mp (by omega)
    · rw [if_neg h1]
      rw [Int32.le_iff_toInt_le] at h1
      by_cases h2 : x < f
      · rw [Int32.lt_iff_toInt_lt] at h2
        omega
      · rw [if_neg h2]
        exact Int32.toInt_inj.mp (by omega)
  · by_cases h1 : 0 ≤ f - x
    · rw [if_pos h1]
      rw [Int32.le_iff_toInt_le] at h1
      by_cases h2 : f < x
      · rw [Int32.lt_iff_toInt_lt] at h2
        omega
      · rw [if_neg h2]
    · rw [if_neg h1]
      rw [Int32.le_iff_toInt_le] at h1
      by_cases h2 : f < x
      · rw [if_pos h2]
        exact Int32.toInt_inj.mp (by omega)
      · rw [Int32.lt_iff_toInt_lt] at h2
        omega
theorem dv_rng {f k : Int32} (hf : rng f 0 60) (hk : rng k 0 100) : rng (f * k / 100) 0 60 := by
  obtain ⟨f1, f2⟩ := hf
  obtain ⟨k1, k2⟩ := hk
  have m1 : 0 ≤ f.toInt * k.toInt := Int.mul_nonneg f1 k1
  have m2 : f.toInt * k.toInt ≤ 60 * 100 := Int.mul_le_mul f2 k2 k1 (by decide)
  have em : (f * k).toInt = f.toInt * k.toInt := by rw [Int32.toInt_mul, Int.bmod_eq_of_le (by omega) (by omega)]
  have e100 : (100 : Int32).toInt = 100 := by decide
  have d1 : (f * k).toInt.tdiv 100 = (f * k).toInt / 100 := Int.tdiv_eq_ediv_of_nonneg (by omega)
  have ed : (f * k / 100).toInt = (f * k).toInt / 100 := by rw [Int32.toInt_div, e100, d1, Int.bmod_eq_of_le (by omega) (by omega)]
  unfold rng
  rw [ed]
  omega
section MRI
variable {g : gG} {M : Mp} {x : Nat} {tg : Nat → Nat} {A : Nat → Nat → Nat} {pr br : Nat → Bool} {np : Nat → Nat} {hh : Nat → Nat → Nat} {ne nb no : Nat} {sc : Nat → Int32} {ar : Nat → Nat → Int32}
theorem RI_e (h : RI g M x tg A pr br np hh ne nb no sc ar) {o : Nat} (ho : o < no) : zE ar o < ne ∧ ar 10 o = nI (zE ar o) ∧ rng (ar 1 (2 * zE ar o)) 0 60 ∧ rng (ar 1 (2 * zE ar o + 1)) 0 60 ∧ rng (ar 2 (zE ar o)) 0 20 ∧ rng (ar 11 o) 1 40 := by
  obtain ⟨-, -, hE, -, hO, -⟩ := h
  obtain ⟨e, y, a1, a2, a3, -⟩ := hO.2.2.2 o ho
  have n1 := hE.1
  have e1 : zE ar o = e := zE_at a2 (by omega)
  rw [e1]
  obtain ⟨-, b1, b2, b3⟩ := hE.2.2 e a1
  exact ⟨a1, a2, b1, b2, b3, a3⟩
theorem RI_y (h : RI g M x tg A pr br np hh ne nb no sc ar) {o : Nat} (ho : o < no) : rng (zy8 ar o) (-10) 10 ∧ rng (zy9 ar o) (-10) 10 := by
  obtain ⟨-, -, -, -, hO, hW, -⟩ := h
  obtain ⟨e, y, -, -, -, a4, a5, -⟩ := hO.2.2.2 o ho
  obtain ⟨-, ⟨f1, -, b1⟩, f2, -, b2⟩ := hW
  unfold zy8 zy9
  rw [a5, nI_clamp (by omega)]
  exact ⟨(b1 y a4).2, (b2 y a4).2⟩
theorem RI_w (h : RI g M x tg A pr br np hh ne nb no sc ar) {b : Nat} (hb : b < nb) : rng (zw9 ar b) (-10) 10 ∧ rng (ar 8 b) 0 100 := by
  obtain ⟨-, -, -, hB, -, hW, -⟩ := h
  obtain ⟨-, ⟨d, d1, d2⟩, d3, -⟩ := hB.2.2 b hb
  obtain ⟨⟨f, -, b1⟩, -⟩ := hW
  unfold zw9
  rw [d2, nI_clamp (by omega)]
  exact ⟨(b1 d d1).2, d3⟩
theorem RI_p (h : RI g M x tg A pr br np hh ne nb no sc ar) {o : Nat} (ho : o < no) (hs : ¬ ar 13 o = 0) : rng (ar 15 o) 0 100 ∧ rng (ar 16 o) (-10) 10 ∧ rng (ar 17 o) (-10) 10 ∧ rng (ar 18 o) (-10) 10 := by
  obtain ⟨-, -, -, -, hO, -⟩ := h
  obtain ⟨e, y, -, -, -, -, -, -, -, a8⟩ := hO.2.2.2 o ho
  obtain ⟨b, t, -, -, -, -, -, a9⟩ := a8 hs
  exact a9
end MRI
