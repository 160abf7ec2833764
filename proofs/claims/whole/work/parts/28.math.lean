/-! THE RING'S WORDS AND THE MODEL'S, UNDER THE RANGES -/
theorem ti_sub {a b : Int32} {l h l2 h2 : Int} (ha : rng a l h) (hb : rng b l2 h2) (h1 : -2147483648 ≤ l - h2) (h3 : h - l2 ≤ 2147483647) : (a - b).toInt = a.toInt - b.toInt := by
  obtain ⟨a1, a2⟩ := ha
  obtain ⟨b1, b2⟩ := hb
  rw [Int32.toInt_sub, Int.bmod_eq_of_le (by omega) (by omega)]
theorem ti_add {a b : Int32} {l h l2 h2 : Int} (ha : rng a l h) (hb : rng b l2 h2) (h1 : -2147483648 ≤ l + l2) (h3 : h + h2 ≤ 2147483647) : (a + b).toInt = a.toInt + b.toInt := by
  obtain ⟨a1, a2⟩ := ha
  obtain ⟨b1, b2⟩ := hb
  rw [Int32.toInt_add, Int.bmod_eq_of_le (by omega) (by omega)]
theorem rng_add {a b : Int32} {l h l2 h2 : Int} (ha : rng a l h) (hb : rng b l2 h2) (h1 : -2147483648 ≤ l + l2) (h3 : h + h2 ≤ 2147483647) : rng (a + b) (l + l2) (h + h2) := by
  have e := ti_add ha hb h1 h3
  obtain ⟨a1, a2⟩ := ha
  obtain ⟨b1, b2⟩ := hb
  unfold rng
  omega
theorem rng_le {a : Int32} {l h l2 h2 : Int} (ha : rng a l h) (h1 : l2 ≤ l) (h3 : h ≤ h2) : rng a l2 h2 := ⟨Int.le_trans h1 ha.1, Int.le_trans ha.2 h3⟩
theorem far_ab {f x : Int32} (hf : rng f (-1000) 1000) (hx : rng x (-1000) 1000) : zab (f - x) = zfar f x ∧ zab (f - x) = zfar x f := by
  have e := ti_sub hf hx (by decide) (by decide)
  have e2 := ti_sub hx hf (by decide) (by decide)
  have z0 : (0 : Int32).toInt = 0 := by decide
  have r : rng (f - x) (-2000) 2000 := by
    unfold rng at *
    omega
  have e3 : (0 - (f - x)).toInt = 0 - (f - x).toInt := by
    rw [ti_sub (a := 0) (l := 0) (h := 0) ⟨by decide, by decide⟩ r (by decide) (by decide), z0]
  unfold zab zfar
  constructor
  · by_cases h1 : 0 ≤ f - x
    · rw [if_pos h1]
      by_cases h2 : x < f
      · rw [if_pos h2]
      · rw [if_neg h2]
        rw [Int32.le_iff_toInt_le] at h1
        rw [Int32.lt_iff_toInt_lt] at h2
        exact Int32.toInt_inj.mp (by omega)
    · rw [if_neg h1]
      rw [Int32.le_iff_toInt_le] at h1
      by_cases h2 : x < f
      · rw [Int32.lt_iff_toInt_lt] at h2
        omega
      · rw [if_neg h2]
        exact Int32.toInt_inj.mp (by omega)
  · by_cases h1 : 0 ≤ f - x
    · rw [if_pos h1]
      rw [Int32.le_iff_toInt_le] at h1
      by_cases h2 : f < x
      · rw [Int32.lt_iff_toInt_lt] at h2
        omega
      · rw [if_neg h2]
    · rw [if_neg h1]
      rw [Int32.le_iff_toInt_le] at h1
      by_cases h2 : f < x
      · rw [if_pos h2]
        exact Int32.toInt_inj.mp (by omega)
      · rw [Int32.lt_iff_toInt_lt] at h2
        omega
theorem dv_rng {f k : Int32} (hf : rng f 0 60) (hk : rng k 0 100) : rng (f * k / 100) 0 60 := by
  obtain ⟨f1, f2⟩ := hf
  obtain ⟨k1, k2⟩ := hk
  have m1 : 0 ≤ f.toInt * k.toInt := Int.mul_nonneg f1 k1
  have m2 : f.toInt * k.toInt ≤ 60 * 100 := Int.mul_le_mul f2 k2 k1 (by decide)
  have em : (f * k).toInt = f.toInt * k.toInt := by rw [Int32.toInt_mul, Int.bmod_eq_of_le (by omega) (by omega)]
  have e100 : (100 : Int32).toInt = 100 := by decide
  have d1 : (f * k).toInt.tdiv 100 = (f * k).toInt / 100 := Int.tdiv_eq_ediv_of_nonneg (by omega)
  have ed : (f * k / 100).toInt = (f * k).toInt / 100 := by rw [Int32.toInt_div, e100, d1, Int.bmod_eq_of_le (by omega) (by omega)]
  unfold rng
  rw [ed]
  omega
theorem zod_off {ar : Nat → Nat → Int32} {u : Nat} {k w y1 y2 : Int32} (h1 : rng (ar 1 (2 * u)) 0 60) (h2 : rng (ar 1 (2 * u + 1)) 0 60) (hk : rng k 0 100) (hw : rng w (-10) 10) (hy1 : rng y1 (-10) 10) (hy2 : rng y2 (-10) 10) : zod (ar 1 (2 * u)) (ar 1 (2 * u + 1)) k w y1 y2 = zoff ar u k (y1 + w) y2 := by
  have d1 := dv_rng h1 hk
  have d2 := dv_rng h2 hk
  have r1 := rng_add d1 (rng_add hy1 hw (by decide) (by decide)) (by decide) (by decide)
  have r2 := rng_add d2 hy2 (by decide) (by decide)
  unfold zod zd zf zs zoff
  rw [Int32.add_assoc]
  rw [(far_ab (rng_le h1 (by decide) (by decide)) (rng_le r1 (by decide) (by decide))).2, (far_ab (rng_le h2 (by decide) (by decide)) (rng_le r2 (by decide) (by decide))).2]
theorem zw_zmw {k w : Int32} (hk : rng k 0 100) (hw : rng w 1 40) : zw k w = zmw k w := by
  have e := ti_sub hk hw (by decide) (by decide)
  have z0 : (0 : Int32).toInt = 0 := by decide
  unfold zw zmw
  by_cases h : w < k
  · rw [if_pos h, if_pos]
    rw [Int32.lt_iff_toInt_lt] at h ⊢
    omega
  · rw [if_neg h, if_neg]
    rw [Int32.lt_iff_toInt_lt] at h ⊢
    omega
theorem zdye_mdye {ar : Nat → Nat → Int32} {o b : Nat} (hk : rng (ar 8 b) 0 100) (hw : rng (ar 11 o) 1 40) : zdye ar o b = mdye ar o b := by
  unfold zdye mdye
  rw [zw_zmw hk hw]
theorem zbest_zmb {rt : Nat → Bool} {st : Nat → Int32} : ∀ {n : Nat}, n ≤ 10 → (∀ i, i < n → rng (st i) 0 100) → (zbest rt st n).1 = zmb rt st n ∧ (zmb rt st n = -1 → (zbest rt st n).2 = 101) ∧ (¬ zmb rt st n = -1 → (zbest rt st n).2 = st (zmb rt st n).toNatClampNeg)
  | 0, _, _ => ⟨rfl, fun _ => rfl, fun h => absurd rfl h⟩
  | n + 1, hn, hr => by
    obtain ⟨a1, a2, a3⟩ := zbest_zmb (rt := rt) (st := st) (n := n) (by omega) (fun i hi => hr i (by omega))
    have nn : ¬ nI n = -1 := fun z => by
      have h9 := congrArg Int32.toInt z
      rw [show (nI n).toInt = n from Int32.toInt_ofNat_of_lt (by omega), show (-1 : Int32).toInt = -1 by decide] at h9
      omega
    have key : (st n < (zbest rt st n).2 ∧ rt n = true) ↔ (rt n = true ∧ (zmb rt st n = -1 ∨ st n < st (zmb rt st n).toNatClampNeg)) := by
      by_cases hz : zmb rt st n = -1
      · rw [a2 hz]
        refine ⟨fun h => ⟨h.2, Or.inl hz⟩, fun h => ⟨?_, h.1⟩⟩
        have := (hr n (by omega)).2
        rw [Int32.lt_iff_toInt_lt, show (101 : Int32).toInt = 101 by decide]
        omega
      · rw [a3 hz]
        exact ⟨fun h => ⟨h.2, Or.inr h.1⟩, fun h => ⟨h.2.resolve_left hz, h.1⟩⟩
    unfold zbest zmb
    by_cases hq : rt n = true ∧ (zmb rt st n = -1 ∨ st n < st (zmb rt st n).toNatClampNeg)
    · rw [if_pos (key.mpr hq), if_pos hq]
      exact ⟨rfl, fun z => absurd z nn, fun _ => by rw [nI_clamp (by omega)]⟩
    · rw [if_neg (fun z => hq (key.mp z)), if_neg hq]
      exact ⟨a1, a2, a3⟩
