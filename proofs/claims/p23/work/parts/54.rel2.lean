/-! ORDERS, PIECES AND BLAME: the law's numbers and the ring's -/
theorem mul_rng {f k : Int32} (hf : rng f 0 60) (hk : rng k 0 100) : (f * k).toInt = f.toInt * k.toInt ∧ 0 ≤ f.toInt * k.toInt ∧ f.toInt * k.toInt ≤ 6000 := by
  obtain ⟨f1, f2⟩ := hf
  obtain ⟨k1, k2⟩ := hk
  have m1 : 0 ≤ f.toInt * k.toInt := Int.mul_nonneg f1 k1
  have m2 : f.toInt * k.toInt ≤ 60 * k.toInt := Int.mul_le_mul_of_nonneg_right f2 k1
  have m3 : f.toInt * k.toInt ≤ 6000 := by omega
  exact ⟨by rw [Int32.toInt_mul, Int.bmod_eq_of_le (by omega) (by omega)], m1, m3⟩
theorem dv100 {x : Int32} (h0 : 0 ≤ x.toInt) : (x / 100).toInt = x.toInt / 100 := by
  have e : (100 : Int32).toInt = 100 := by decide
  have hx := Int32.toInt_lt x
  rw [Int32.toInt_div, e, Int.tdiv_eq_ediv_of_nonneg h0, Int.bmod_eq_of_le (by omega) (by omega)]
theorem zq_eq {x : Int32} (h0 : 0 ≤ x.toInt) (h1 : x.toInt ≤ 200000) : (x - (x - x / 100 * 100)) / 100 = x / 100 := by
  have e : (100 : Int32).toInt = 100 := by decide
  have d := dv100 h0
  have m : (x / 100 * 100).toInt = x.toInt / 100 * 100 := by rw [Int32.toInt_mul, d, e, Int.bmod_eq_of_le (by omega) (by omega)]
  have s : (x - x / 100 * 100).toInt = x.toInt - x.toInt / 100 * 100 := by rw [Int32.toInt_sub, m, Int.bmod_eq_of_le (by omega) (by omega)]
  have t : (x - (x - x / 100 * 100)).toInt = x.toInt / 100 * 100 := by rw [Int32.toInt_sub, s, Int.bmod_eq_of_le (by omega) (by omega)]; omega
  refine Int32.toInt_inj.mp ?_
  rw [dv100 (by rw [t]; omega), t, d]
  omega
theorem zgq_eq {f k : Int32} (hf : rng f 0 60) (hk : rng k 0 100) : zgq f k = f * k / 100 := by
  obtain ⟨m, m1, m2⟩ := mul_rng hf hk
  exact zq_eq (by rw [m]; exact m1) (by rw [m]; omega)
theorem f100 {f : Int32} (hf : rng f 0 60) : f * 100 / 100 = f := by
  have e : (100 : Int32).toInt = 100 := by decide
  obtain ⟨m, m1, m2⟩ := mul_rng hf (k := 100) (by unfold rng; decide)
  refine Int32.toInt_inj.mp ?_
  rw [dv100 (by rw [m]; exact m1), m, e]
  omega
theorem zap_eq {a b : Int32} (ha : rng a (-1000) 1000) (hb : rng b (-1000) 1000) : zap a b = zab (b - a) := by
  rw [(far_ab hb ha).2]
  unfold zap zfar
  by_cases h : b ≤ a
  · rw [if_pos h]
    by_cases h2 : b < a
    · rw [if_pos h2]
    · rw [if_neg h2]
      have e : a = b := Int32.toInt_inj.mp (by rw [Int32.le_iff_toInt_le] at h; rw [Int32.lt_iff_toInt_lt] at h2; omega)
      rw [e]
  · rw [if_neg h, if_neg (fun z => h (Int32.le_of_lt z))]
section OFZ
variable {f h k w y1 y2 : Int32}
theorem g_rng {a b c : Int32} (ha : rng a 0 60) (hb : rng b (-10) 10) (hc : rng c (-10) 10) : rng (a + b + c) (-1000) 1000 :=
  rng_le (rng_add (rng_add ha hb (by decide) (by decide)) hc (by decide) (by decide)) (by decide) (by decide)
theorem r00 : rng (0 : Int32) (-10) 10 := by unfold rng; decide
theorem off_zod (hf : rng f 0 60) (hh : rng h 0 60) (hk : rng k 0 100) (hw : rng w (-10) 10) (h1 : rng y1 (-10) 10) (h2 : rng y2 (-10) 10) : zap (zgq f k + y1 + w) f + zap (zgq h k + y2 + 0) h = zod f h k w y1 y2 := by
  have bf := rng_le hf (l2 := -1000) (h2 := 1000) (by decide) (by decide)
  have bh := rng_le hh (l2 := -1000) (h2 := 1000) (by decide) (by decide)
  rw [zgq_eq hf hk, zgq_eq hh hk, zap_eq (g_rng (dv_rng hf hk) h1 hw) bf, zap_eq (g_rng (dv_rng hh hk) h2 r00) bh, Int32.add_zero]
  rfl
theorem off_bath (hf : rng f 0 60) (hh : rng h 0 60) (hw : rng w (-10) 10) (h1 : rng y1 (-10) 10) (h2 : rng y2 (-10) 10) : zap (f + y1 + w) f + zap (h + y2) h = zod f h 100 w y1 y2 := by
  have bf := rng_le hf (l2 := -1000) (h2 := 1000) (by decide) (by decide)
  have bh := rng_le hh (l2 := -1000) (h2 := 1000) (by decide) (by decide)
  have q := g_rng hh h2 r00
  rw [Int32.add_zero] at q
  rw [zap_eq (g_rng hf h1 hw) bf, zap_eq q bh]
  unfold zod zd zf zs
  rw [f100 hf, f100 hh]
theorem off_water (hf : rng f 0 60) (hh : rng h 0 60) (hk : rng k 0 100) (h1 : rng y1 (-10) 10) (h2 : rng y2 (-10) 10) : zap (zgq f k + y1 + w - w) f + zap (zgq h k + y2 + 0) h = zod f h k 0 y1 y2 := by
  have e := off_zod hf hh hk r00 h1 h2
  rw [Int32.add_zero] at e
  rw [Int32.add_sub_cancel]
  exact e
theorem off_yarn (hf : rng f 0 60) (hh : rng h 0 60) (hk : rng k 0 100) (hw : rng w (-10) 10) : zap (zgq f k + y1 + w - y1) f + zap (zgq h k + y2 + 0 - y2) h = zod f h k w 0 0 := by
  have e := off_zod hf hh hk hw r00 r00
  rw [Int32.add_zero] at e
  have e1 : zgq f k + y1 + w - y1 = zgq f k + w := by
    rw [Int32.add_assoc, Int32.add_comm y1 w, ← Int32.add_assoc, Int32.add_sub_cancel]
  have e2 : zgq h k + y2 + 0 - y2 = zgq h k + 0 := by rw [Int32.add_zero, Int32.add_sub_cancel, Int32.add_zero]
  simp only [Int32.add_zero] at e
  rw [e1, e2, Int32.add_zero]
  exact e
theorem zab_nn {x : Int32} (hx : rng x (-2000) 2000) : rng (zab x) 0 2000 := by
  have z0 : (0 : Int32).toInt = 0 := by decide
  obtain ⟨x1, x2⟩ := hx
  unfold zab rng
  by_cases q : 0 ≤ x
  · rw [if_pos q]
    rw [Int32.le_iff_toInt_le, z0] at q
    omega
  · rw [if_neg q]
    rw [Int32.le_iff_toInt_le, z0] at q
    have e : (0 - x).toInt = 0 - x.toInt := by rw [Int32.toInt_sub, z0, Int.bmod_eq_of_le (by omega) (by omega)]
    omega
theorem zod_nn (hf : rng f 0 60) (hh : rng h 0 60) (hk : rng k 0 100) (hw : rng w (-10) 10) (h1 : rng y1 (-10) 10) (h2 : rng y2 (-10) 10) : 0 ≤ zod f h k w y1 y2 := by
  have z0 : (0 : Int32).toInt = 0 := by decide
  have a1 := g_rng (dv_rng hf hk) h1 hw
  have a2 := g_rng (dv_rng hh hk) h2 r00
  rw [Int32.add_zero] at a2
  have s1 : rng (f - (f * k / 100 + y1 + w)) (-2000) 2000 := by
    have e := ti_sub (rng_le hf (l2 := -1000) (h2 := 1000) (by decide) (by decide)) a1 (by decide) (by decide)
    unfold rng at *
    omega
  have s2 : rng (h - (h * k / 100 + y2)) (-2000) 2000 := by
    have e := ti_sub (rng_le hh (l2 := -1000) (h2 := 1000) (by decide) (by decide)) a2 (by decide) (by decide)
    unfold rng at *
    omega
  have t := rng_add (zab_nn s1) (zab_nn s2) (by decide) (by decide)
  rw [Int32.le_iff_toInt_le, z0]
  exact t.1
end OFZ
/-! the weakest bath that is right, from the last one down -/
def LPB (rt : Nat → Bool) (st : Nat → Int32) (n i : Nat) (b : Int32) : Prop := (b = -1 ∧ ∀ t, i ≤ t → t < n → rt t = false) ∨ ∃ j, i ≤ j ∧ j < n ∧ b = nI j ∧ rt j = true ∧ ∀ t, i ≤ t → t < n → rt t = true → st j ≤ st t ∧ (t < j → st j < st t)
section LPS
variable {rt : Nat → Bool} {st : Nat → Int32} {n i j : Nat} {b : Int32}
theorem LPB_0 : LPB rt st n n (-1) := Or.inl ⟨rfl, fun t h1 h2 => absurd h2 (by omega)⟩
theorem LPB_no (h : LPB rt st n (i + 1) b) (hr : rt i = false) : LPB rt st n i b := by
  rcases h with ⟨h1, h2⟩ | ⟨j, a1, a2, a3, a4, a5⟩
  · refine Or.inl ⟨h1, fun t t1 t2 => ?_⟩
    by_cases e : t = i
    · rw [e]; exact hr
    · exact h2 t (by omega) t2
  · refine Or.inr ⟨j, by omega, a2, a3, a4, fun t t1 t2 t3 => ?_⟩
    by_cases e : t = i
    · rw [e, hr] at t3; cases t3
    · exact a5 t (by omega) t2 t3
theorem LPB_first (h : ∀ t, i + 1 ≤ t → t < n → rt t = false) (hi : i < n) (hr : rt i = true) : LPB rt st n i (nI i) := Or.inr ⟨i, Nat.le_refl i, hi, rfl, hr, fun t t1 t2 t3 => by
  by_cases e : t = i
  · rw [e]; exact ⟨Int32.le_refl _, fun z => absurd z (by omega)⟩
  · rw [h t (by omega) t2] at t3; cases t3⟩
theorem LPB_le (a5 : ∀ t, i + 1 ≤ t → t < n → rt t = true → st j ≤ st t ∧ (t < j → st j < st t)) (hi : i < n) (hr : rt i = true) (hle : st i ≤ st j) : LPB rt st n i (nI i) := Or.inr ⟨i, Nat.le_refl i, hi, rfl, hr, fun t t1 t2 t3 => by
  by_cases e : t = i
  · rw [e]; exact ⟨Int32.le_refl _, fun z => absurd z (by omega)⟩
  · exact ⟨Int32.le_trans hle (a5 t (by omega) t2 t3).1, fun z => absurd z (by omega)⟩⟩
theorem LPB_gt (a1 : i + 1 ≤ j) (a2 : j < n) (a4 : rt j = true) (a5 : ∀ t, i + 1 ≤ t → t < n → rt t = true → st j ≤ st t ∧ (t < j → st j < st t)) (hlt : st j < st i) : LPB rt st n i (nI j) := Or.inr ⟨j, by omega, a2, rfl, a4, fun t t1 t2 t3 => by
  by_cases e : t = i
  · rw [e]; exact ⟨Int32.le_of_lt hlt, fun _ => hlt⟩
  · exact a5 t (by omega) t2 t3⟩
/-- the ring's own search, read off -/
theorem zbest_ch (hst : ∀ i, i < n → rng (st i) 0 100) : ((zbest rt st n).1 = -1 ∧ (zbest rt st n).2 = 101 ∧ ∀ t, t < n → rt t = false) ∨ ∃ j, j < n ∧ (zbest rt st n).1 = nI j ∧ (zbest rt st n).2 = st j ∧ rt j = true ∧ ∀ t, t < n → rt t = true → st j ≤ st t ∧ (t < j → st j < st t) := by
  induction n with
  | zero => exact Or.inl ⟨rfl, rfl, fun t ht => absurd ht (Nat.not_lt_zero t)⟩
  | succ n ih =>
    have e101 : (101 : Int32).toInt = 101 := by decide
    have hn := hst n (Nat.lt_succ_self n)
    rcases ih (fun i hi => hst i (by omega)) with ⟨h1, h2, h3⟩ | ⟨j, a1, a2, a3, a4, a5⟩
    · by_cases q : rt n = true
      · have hlt : st n < (zbest rt st n).2 := by
          rw [h2, Int32.lt_iff_toInt_lt, e101]
          have := hn.2
          omega
        unfold zbest
        rw [if_pos ⟨hlt, q⟩]
        refine Or.inr ⟨n, by omega, rfl, rfl, q, fun t t1 t2 => ?_⟩
        by_cases e : t = n
        · rw [e]; exact ⟨Int32.le_refl _, fun z => absurd z (by omega)⟩
        · rw [h3 t (by omega)] at t2; cases t2
      · unfold zbest
        rw [if_neg (fun z => q z.2)]
        refine Or.inl ⟨h1, h2, fun t t1 => ?_⟩
        by_cases e : t = n
        · rw [e]
          cases hr : rt n with
          | false => rfl
          | true => exact absurd hr q
        · exact h3 t (by omega)
    · unfold zbest
      by_cases q : st n < (zbest rt st n).2 ∧ rt n = true
      · rw [if_pos q]
        obtain ⟨q1, q2⟩ := q
        rw [a3] at q1
        refine Or.inr ⟨n, by omega, rfl, rfl, q2, fun t t1 t2 => ?_⟩
        by_cases e : t = n
        · rw [e]; exact ⟨Int32.le_refl _, fun z => absurd z (by omega)⟩
        · have h := (a5 t (by omega) t2).1
          have hlt : st n < st t := by
            rw [Int32.lt_iff_toInt_lt] at q1 ⊢
            rw [Int32.le_iff_toInt_le] at h
            omega
          exact ⟨Int32.le_of_lt hlt, fun _ => hlt⟩
      · rw [if_neg q]
        refine Or.inr ⟨j, by omega, a2, a3, a4, fun t t1 t2 => ?_⟩
        by_cases e : t = n
        · subst e
          refine ⟨Int32.not_lt.mp (fun z => q ⟨by rw [a3]; exact z, t2⟩), fun z => absurd z (by omega)⟩
        · exact a5 t (by omega) t2
theorem LPB_z (h : LPB rt st n 0 b) (hst : ∀ i, i < n → rng (st i) 0 100) : (zbest rt st n).1 = b := by
  rcases zbest_ch (rt := rt) hst with ⟨z1, -, z3⟩ | ⟨j, a1, a2, -, a4, a5⟩ <;> rcases h with ⟨h1, h2⟩ | ⟨j', b1, b2, b3, b4, b5⟩
  · rw [z1, h1]
  · rw [z3 j' b2] at b4; cases b4
  · rw [h2 j (by omega) a1] at a4; cases a4
  · rw [a2, b3]
    refine congrArg nI ?_
    have p := a5 j' b2 b4
    have q := b5 j (by omega) a1 a4
    rcases Nat.lt_trichotomy j j' with e | e | e
    · have q2 := q.2 e
      have p1 := p.1
      rw [Int32.lt_iff_toInt_lt] at q2
      rw [Int32.le_iff_toInt_le] at p1
      omega
    · exact e
    · have p2 := p.2 e
      have q1 := q.1
      rw [Int32.lt_iff_toInt_lt] at p2
      rw [Int32.le_iff_toInt_le] at q1
      omega
end LPS
/-! what the calls of the second kind leave -/
theorem lo_4 {lf : Nat → Nat → Int32} {k j : Nat} (h : k < 10) : lf 4 (5 * (k % 10) + j) = lo lf k j := by
  unfold lo
  rw [show 4 + k / 10 = 4 by omega]
theorem lo_5 {lf : Nat → Nat → Int32} {k j : Nat} (h : ¬ k < 10) (h2 : k < 20) : lf 5 (5 * (k % 10) + j) = lo lf k j := by
  unfold lo
  rw [show 4 + k / 10 = 5 by omega]
theorem zbl_3 {ar : Nat → Nat → Int32} {o : Nat} : ∃ q, q < 3 ∧ zbl ar o = nI q := by
  unfold zbl zblame
  split
  · exact ⟨0, by omega, rfl⟩
  · split
    · exact ⟨1, by omega, rfl⟩
    · exact ⟨2, by omega, rfl⟩
section LRT
variable {ne nb no : Nat} {lf ar : Nat → Nat → Int32}
theorem lo_far {lf' : Nat → Nat → Int32} {k j R o : Nat} {f : Nat → Int32} (hne : k ≠ o) (hR : R = 4 + o / 10) (hk : k < 20) (hj : j < 5) (hf : ∀ i, i < 5 * (o % 10) ∨ 5 * (o % 10) + 5 ≤ i → f i = lf R i) (h1 : lf' R = f) (h2 : ∀ t, t ≠ R → 4 ≤ t → t ≤ 5 → lf' t = lf t) : lo lf' k j = lo lf k j := by
  unfold lo
  by_cases e : 4 + k / 10 = R
  · rw [e, h1]
    exact hf _ (by omega)
  · rw [h2 _ e (by omega) (by omega)]
theorem LR_order {a w y : Int32} {R : Nat} (h : LR ne nb no lf ar) (hlt : no < 20) (h13 : ar 13 no = 0) (hR : R = 4 + no / 10) : LR ne nb (no + 1) (ua (ua lf R (upd (upd (upd (upd (lf R) (5 * (no % 10)) a) (5 * (no % 10) + 1) y) (5 * (no % 10) + 2) w) (5 * (no % 10) + 3) 0)) 0 (upd (lf 0) 2 (nI (no + 1)))) (ua (ua (ua ar 10 (upd (ar 10) no a)) 11 (upd (ar 11) no w)) 12 (upd (ar 12) no y)) := by
  obtain ⟨⟨c0, c1, c2⟩, ⟨s0, s1, s2⟩, rE, rW, rB, rO, rM, rD, rZ⟩ := h
  have far : ∀ t, t ≠ 0 → t ≠ 4 → t ≠ 5 → ua (ua lf R (upd (upd (upd (upd (lf R) (5 * (no % 10)) a) (5 * (no % 10) + 1) y) (5 * (no % 10) + 2) w) (5 * (no % 10) + 3) 0)) 0 (upd (lf 0) 2 (nI (no + 1))) t = lf t := fun t h0 h4 h5 => by rw [ua_n h0, ua_n (by omega)]
  obtain ⟨lf', hl⟩ : ∃ z, z = ua (ua lf R (upd (upd (upd (upd (lf R) (5 * (no % 10)) a) (5 * (no % 10) + 1) y) (5 * (no % 10) + 2) w) (5 * (no % 10) + 3) 0)) 0 (upd (lf 0) 2 (nI (no + 1))) := ⟨_, rfl⟩
  rw [← hl] at far ⊢
  have l0 : lf' 0 = upd (lf 0) 2 (nI (no + 1)) := by rw [hl, ua_s]
  have lR : lf' R = upd (upd (upd (upd (lf R) (5 * (no % 10)) a) (5 * (no % 10) + 1) y) (5 * (no % 10) + 2) w) (5 * (no % 10) + 3) 0 := by rw [hl, ua_n (by omega), ua_s]
  have lN : ∀ t, t ≠ R → 4 ≤ t → t ≤ 5 → lf' t = lf t := fun t h1 h2 h3 => by rw [hl, ua_n (by omega), ua_n h1]
  refine ⟨⟨by rw [l0, upd_n (by decide)]; exact c0, by rw [l0, upd_n (by decide)]; exact c1, by rw [l0, upd_s]⟩, ⟨s0, s1, by omega⟩, fun i hi => ?_, ⟨fun i hi => ?_, fun i hi => ?_⟩, fun i hi => ?_, fun k hk => ?_, fun i hi => ?_, fun i hi => ?_, fun i hi => ?_⟩
  · unfold LRe; rw [far 1 (by decide) (by decide) (by decide)]; exact rE i hi
  · rw [far 2 (by decide) (by decide) (by decide)]; exact rW.1 i hi
  · rw [far 2 (by decide) (by decide) (by decide)]; exact rW.2 i hi
  · unfold LRb; rw [far 3 (by decide) (by decide) (by decide)]; exact rB i hi
  · by_cases e : k = no
    · subst e
      have lo9 : ∀ j, lo lf' k j = (upd (upd (upd (upd (lf R) (5 * (k % 10)) a) (5 * (k % 10) + 1) y) (5 * (k % 10) + 2) w) (5 * (k % 10) + 3) 0) (5 * (k % 10) + j) := fun j => by unfold lo; rw [← hR, lR]
      unfold LRo
      rw [lo9, lo9, lo9, lo9]
      refine ⟨⟨?_, ?_, ?_, ?_⟩, fun z => absurd h13 z⟩
      · rw [upd_n (by omega), upd_n (by omega), upd_n (by omega)]
        show upd _ _ _ _ = upd (ar 10) k a k
        rw [show upd (ar 10) k a k = a from upd_s]
        exact upd_s
      · rw [upd_n (by omega), upd_n (by omega), upd_s]
        show _ = upd (ar 12) k y k
        rw [upd_s]
      · rw [upd_n (by omega), upd_s]
        show _ = upd (ar 11) k w k
        rw [upd_s]
      · rw [upd_s]; exact h13.symm
    · refine LRo_cg (rO k (by omega)) (fun t h1 h2 => ?_) ⟨rfl, rfl⟩ rfl (fun j hj => lo_far e hR (by omega) hj (fun i hi => ?_) lR lN) (fun j hj => by rw [far 6 (by decide) (by decide) (by decide)])
      · rcases (show t = 10 ∨ t = 11 ∨ t = 12 ∨ t = 13 ∨ t = 14 ∨ t = 15 ∨ t = 16 ∨ t = 17 ∨ t = 18 by omega) with rfl | rfl | rfl | rfl | rfl | rfl | rfl | rfl | rfl <;> first | rfl | exact upd_n e
      · rw [upd_n (by omega), upd_n (by omega), upd_n (by omega), upd_n (by omega)]
  · rw [far 7 (by decide) (by decide) (by decide)]; exact rM i hi
  · rw [far 8 (by decide) (by decide) (by decide)]; exact rD i hi
  · rw [far 9 (by decide) (by decide) (by decide)]; exact rZ i hi
theorem LR_claim {k R i : Nat} (h : LR ne nb no lf ar) (hk : k < no) (hR : R = 4 + k / 10) (h13 : ¬ ar 13 k = 0) (hi9 : i < 9) : LR ne nb no (ua (ua lf R (upd (lf R) (5 * (k % 10) + 3) 2)) 7 (upd (lf 7) i (lf 7 i + 1))) (ua (ua ar 13 (upd (ar 13) k 2)) 19 (upd (ar 19) i (ar 19 i + 1))) := by
  obtain ⟨⟨c0, c1, c2⟩, ⟨s0, s1, s2⟩, rE, rW, rB, rO, rM, rD, rZ⟩ := h
  obtain ⟨lf', hl⟩ : ∃ z, z = ua (ua lf R (upd (lf R) (5 * (k % 10) + 3) 2)) 7 (upd (lf 7) i (lf 7 i + 1)) := ⟨_, rfl⟩
  have far : ∀ t, t ≠ 7 → t ≠ 4 → t ≠ 5 → lf' t = lf t := fun t h0 h4 h5 => by rw [hl, ua_n h0, ua_n (by omega)]
  have l7 : lf' 7 = upd (lf 7) i (lf 7 i + 1) := by rw [hl, ua_s]
  have lR : lf' R = upd (lf R) (5 * (k % 10) + 3) 2 := by rw [hl, ua_n (by omega), ua_s]
  have lN : ∀ t, t ≠ R → 4 ≤ t → t ≤ 5 → lf' t = lf t := fun t h1 h2 h3 => by rw [hl, ua_n (by omega), ua_n h1]
  rw [← hl]
  refine ⟨by rw [far 0 (by decide) (by decide) (by decide)]; exact ⟨c0, c1, c2⟩, ⟨s0, s1, s2⟩, fun t ht => ?_, ⟨fun t ht => ?_, fun t ht => ?_⟩, fun t ht => ?_, fun t ht => ?_, fun t ht => ?_, fun t ht => ?_, fun t ht => ?_⟩
  · unfold LRe; rw [far 1 (by decide) (by decide) (by decide)]; exact rE t ht
  · rw [far 2 (by decide) (by decide) (by decide)]; exact rW.1 t ht
  · rw [far 2 (by decide) (by decide) (by decide)]; exact rW.2 t ht
  · unfold LRb; rw [far 3 (by decide) (by decide) (by decide)]; exact rB t ht
  · by_cases e : t = k
    · subst e
      obtain ⟨⟨a0, a1, a2, a3⟩, a4⟩ := rO t ht
      obtain ⟨b0, b1, b2, b3⟩ := a4 h13
      have lo9 : ∀ j, lo lf' t j = (upd (lf R) (5 * (t % 10) + 3) 2) (5 * (t % 10) + j) := fun j => by unfold lo; rw [← hR, lR]
      have lo8 : ∀ j, lo lf t j = lf R (5 * (t % 10) + j) := fun j => by unfold lo; rw [← hR]
      rw [lo8] at a0 a1 a2 b0
      unfold LRo
      rw [lo9, lo9, lo9, lo9, lo9, far 6 (by decide) (by decide) (by decide)]
      refine ⟨⟨?_, ?_, ?_, ?_⟩, fun _ => ⟨?_, b1, b2, b3⟩⟩
      · rw [upd_n (by omega)]; exact a0
      · rw [upd_n (by omega)]; exact a1
      · rw [upd_n (by omega)]; exact a2
      · rw [upd_s]
        show _ = upd (ar 13) t 2 t
        rw [upd_s]
      · rw [upd_n (by omega)]; exact b0
    · obtain ⟨⟨a0, a1, a2, a3⟩, a4⟩ := rO t ht
      have lo9 : ∀ j, j < 5 → lo lf' t j = lo lf t j := fun j hj => lo_far e hR (by omega) hj (fun i hi => upd_n (by omega)) lR lN
      have e13 : ua (ua ar 13 (upd (ar 13) k 2)) 19 (upd (ar 19) i (ar 19 i + 1)) 13 t = ar 13 t := by
        show upd (ar 13) k 2 t = _
        exact upd_n e
      unfold LRo
      rw [lo9 0 (by omega), lo9 1 (by omega), lo9 2 (by omega), lo9 3 (by omega), lo9 4 (by omega), far 6 (by decide) (by decide) (by decide), e13]
      exact ⟨⟨a0, a1, a2, a3⟩, a4⟩
  · rw [l7, ua_s]
    by_cases e : t = i
    · rw [e, upd_s, upd_s, rM i hi9]
    · rw [upd_n e, upd_n e]; exact rM t ht
  · rw [far 8 (by decide) (by decide) (by decide)]; exact rD t ht
  · rw [far 9 (by decide) (by decide) (by decide)]; exact rZ t ht
theorem zdye_cg {o b k : Nat} (e : k ≠ o) : ∀ t, 10 ≤ t → t ≤ 18 → zdye ar o b t k = ar t k := fun t h1 h2 => by
  rcases (show t = 10 ∨ t = 11 ∨ t = 12 ∨ t = 13 ∨ t = 14 ∨ t = 15 ∨ t = 16 ∨ t = 17 ∨ t = 18 by omega) with rfl | rfl | rfl | rfl | rfl | rfl | rfl | rfl | rfl <;> first | rfl | exact upd_n e
theorem zdye_o {o b : Nat} : zdye ar o b 10 o = ar 10 o ∧ zdye ar o b 13 o = 1 ∧ zdye ar o b 14 o = nI b ∧ zdye ar o b 15 o = ar 8 b ∧ zdye ar o b 16 o = zw9 ar b ∧ zdye ar o b 17 o = zy8 ar o ∧ zdye ar o b 18 o = zy9 ar o :=
  ⟨rfl, upd_s (f := ar 13), upd_s (f := ar 14), upd_s (f := ar 15), upd_s (f := ar 16), upd_s (f := ar 17), upd_s (f := ar 18)⟩
theorem LR_dye {o b R : Nat} {F S B X T : Int32} (h : LR ne nb no lf ar) (ho : o < no) (hb : b < nb) (hR : R = 4 + o / 10) (eF : F = zf (ar 1 (2 * zE ar o)) (ar 8 b) (zw9 ar b) (zy8 ar o)) (eS : S = zs (ar 1 (2 * zE ar o + 1)) (ar 8 b) (zy9 ar o)) (eB : B = if zdst ar o (ar 8 b) (zw9 ar b) (zy8 ar o) (zy9 ar o) ≤ ar 2 (zE ar o) then 0 else zblame (zdst ar o 100 (zw9 ar b) (zy8 ar o) (zy9 ar o)) (zdst ar o (ar 8 b) 0 (zy8 ar o) (zy9 ar o)) (zdst ar o (ar 8 b) (zw9 ar b) 0 0) + 1) (eT : T = zw (ar 8 b) (ar 11 o)) : LR ne nb no (ua (ua (ua lf 6 (upd (upd (upd (lf 6) (3 * o) F) (3 * o + 1) S) (3 * o + 2) B)) R (upd (upd (lf R) (5 * (o % 10) + 3) 1) (5 * (o % 10) + 4) (nI b))) 3 (upd (upd (lf 3) (3 * b + 2) X) (3 * b + 2) T)) (zdye ar o b) := by
  obtain ⟨⟨c0, c1, c2⟩, ⟨s0, s1, s2⟩, rE, rW, rB, rO, rM, rD, rZ⟩ := h
  obtain ⟨lf', hl⟩ : ∃ z, z = ua (ua (ua lf 6 (upd (upd (upd (lf 6) (3 * o) F) (3 * o + 1) S) (3 * o + 2) B)) R (upd (upd (lf R) (5 * (o % 10) + 3) 1) (5 * (o % 10) + 4) (nI b))) 3 (upd (upd (lf 3) (3 * b + 2) X) (3 * b + 2) T) := ⟨_, rfl⟩
  have far : ∀ t, t ≠ 3 → t ≠ 4 → t ≠ 5 → t ≠ 6 → lf' t = lf t := fun t h3 h4 h5 h6 => by rw [hl, ua_n h3, ua_n (by omega), ua_n h6]
  have l3 : lf' 3 = upd (upd (lf 3) (3 * b + 2) X) (3 * b + 2) T := by rw [hl, ua_s]
  have l6 : lf' 6 = upd (upd (upd (lf 6) (3 * o) F) (3 * o + 1) S) (3 * o + 2) B := by rw [hl, ua_n (by decide), ua_n (by omega), ua_s]
  have lR : lf' R = upd (upd (lf R) (5 * (o % 10) + 3) 1) (5 * (o % 10) + 4) (nI b) := by rw [hl, ua_n (by omega), ua_s]
  have lN : ∀ t, t ≠ R → 4 ≤ t → t ≤ 5 → lf' t = lf t := fun t h1 h2 h3 => by rw [hl, ua_n (by omega), ua_n h1, ua_n (by omega)]
  obtain ⟨z10, z13, z14, z15, z16, z17, z18⟩ := zdye_o (ar := ar) (o := o) (b := b)
  have zE9 : zE (zdye ar o b) o = zE ar o := by unfold zE; rw [z10]
  have z1 : zdye ar o b 1 = ar 1 := rfl
  have z2 : zdye ar o b 2 = ar 2 := rfl
  rw [← hl]
  refine ⟨by rw [far 0 (by decide) (by decide) (by decide) (by decide)]; exact ⟨c0, c1, c2⟩, ⟨s0, s1, s2⟩, fun t ht => ?_, ⟨fun t ht => ?_, fun t ht => ?_⟩, fun t ht => ?_, fun t ht => ?_, fun t ht => ?_, fun t ht => ?_, fun t ht => ?_⟩
  · unfold LRe; rw [far 1 (by decide) (by decide) (by decide) (by decide)]; exact rE t ht
  · rw [far 2 (by decide) (by decide) (by decide) (by decide)]; exact rW.1 t ht
  · rw [far 2 (by decide) (by decide) (by decide) (by decide)]; exact rW.2 t ht
  · obtain ⟨q1, q2, q3⟩ := rB t ht
    unfold LRb
    rw [l3]
    refine ⟨by rw [upd_n (by omega), upd_n (by omega)]; exact q1, by rw [upd_n (by omega), upd_n (by omega)]; exact q2, ?_⟩
    show _ = upd (ar 8) b (zw (ar 8 b) (ar 11 o)) t
    by_cases e : t = b
    · rw [e, upd_s, upd_s, eT]
    · rw [upd_n (by omega), upd_n (by omega), upd_n e]; exact q3
  · by_cases e : t = o
    · subst e
      obtain ⟨⟨a0, a1, a2, a3⟩, -⟩ := rO t ht
      have lo9 : ∀ j, lo lf' t j = (upd (upd (lf R) (5 * (t % 10) + 3) 1) (5 * (t % 10) + 4) (nI b)) (5 * (t % 10) + j) := fun j => by unfold lo; rw [← hR, lR]
      have lo8 : ∀ j, lo lf t j = lf R (5 * (t % 10) + j) := fun j => by unfold lo; rw [← hR]
      rw [lo8] at a0 a1 a2
      unfold LRo
      rw [lo9, lo9, lo9, lo9, lo9, l6]
      refine ⟨⟨?_, ?_, ?_, ?_⟩, fun _ => ⟨?_, ?_, ?_, ?_⟩⟩
      · rw [upd_n (by omega), upd_n (by omega)]; exact a0
      · rw [upd_n (by omega), upd_n (by omega)]; exact a1
      · rw [upd_n (by omega), upd_n (by omega)]; exact a2
      · rw [upd_n (by omega), upd_s, z13]
      · rw [upd_s, z14]
      · rw [upd_n (by omega), upd_n (by omega), upd_s, eF]
        unfold zcol
        rw [if_pos rfl, zE9, z1, z15, z16, z17]
      · rw [upd_n (by omega), upd_s, eS]
        unfold zcol
        rw [if_neg (by decide), zE9, z1, z15, z18]
      · rw [upd_s, eB]
        unfold zbo zbl zdst
        rw [zE9, z1, z2, z15, z16, z17, z18]
    · refine LRo_cg (rO t ht) (zdye_cg e) ⟨rfl, rfl⟩ rfl (fun j hj => lo_far e hR (by omega) hj (fun i hi => ?_) lR lN) (fun j hj => ?_)
      · rw [upd_n (by omega), upd_n (by omega)]
      · rw [l6, upd_n (by omega), upd_n (by omega), upd_n (by omega)]
  · rw [far 7 (by decide) (by decide) (by decide) (by decide)]; exact rM t ht
  · rw [far 8 (by decide) (by decide) (by decide) (by decide)]; exact rD t ht
  · rw [far 9 (by decide) (by decide) (by decide) (by decide)]; exact rZ t ht
end LRT
