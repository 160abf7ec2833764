/-! A ROUND OF THE LAW: both sides in one map -/
theorem zsh_rng {x k : Int32} (hx : rng x 1 1000) (hk : rng k 0 90) : 0 ≤ (zsh x k).toInt ∧ (zsh x k).toInt ≤ 1000 := by
  obtain ⟨x1, x2⟩ := hx
  obtain ⟨k1, k2⟩ := hk
  have m1 : 0 ≤ x.toInt * k.toInt := Int.mul_nonneg (by omega) k1
  have m2 : x.toInt * k.toInt ≤ x.toInt * 90 := Int.mul_le_mul_of_nonneg_left k2 (by omega)
  have em : (x * k).toInt = x.toInt * k.toInt := by rw [Int32.toInt_mul, Int.bmod_eq_of_le (by omega) (by omega)]
  have e99 : (99 : Int32).toInt = 99 := by decide
  have e100 : (100 : Int32).toInt = 100 := by decide
  have ea : (x * k + 99).toInt = x.toInt * k.toInt + 99 := by rw [Int32.toInt_add, em, e99, Int.bmod_eq_of_le (by omega) (by omega)]
  have d1 : (x * k + 99).toInt.tdiv 100 = (x * k + 99).toInt / 100 := Int.tdiv_eq_ediv_of_nonneg (by omega)
  have ed : ((x * k + 99) / 100).toInt = (x.toInt * k.toInt + 99) / 100 := by rw [Int32.toInt_div, e100, d1, ea, Int.bmod_eq_of_le (by omega) (by omega)]
  have es : (zsh x k).toInt = x.toInt - (x.toInt * k.toInt + 99) / 100 := by unfold zsh; rw [Int32.toInt_sub, ed, Int.bmod_eq_of_le (by omega) (by omega)]
  rw [es]
  omega
/-- the law's own cells: the model mo, its arrays ad, the row o of one long -/
def krT (tg : Nat → Nat) (mo o : Nat) (ad : Nat → Nat) : Prop := 30000 ≤ tg mo ∧ 30000 ≤ tg o ∧ ∀ k, (sl k = true ∨ ad k = mo) ∧ 30000 ≤ tg (ad k)
/-- the ring holds (sc', ar'), the model (sc, ar) -/
def krP (g : gG) (M : Mp) (x mo o : Nat) (f : Nat → Int64) (ad : Nat → Nat) (sc : Nat → Int32) (ar : Nat → Nat → Int32) (sc' : Nat → Int32) (ar' : Nat → Nat → Int32) : Prop := ∃ tg A pr br np hh ne nb no, RI g M x tg A pr br np hh ne nb no sc' ar' ∧ MI g M mo ad sc ar ∧ krT tg mo o ad ∧ M o = some (eL g 1 f)
def krN (n : Nat) (ar : Nat → Nat → Int32) : Prop := ∀ k, k < 3 → NZ (1000 * (n : Int)) (zD ar k)
/-- before and behind each round -/
def krS (g : gG) (M : Mp) (x mo o n : Nat) : Prop := ∃ f ad sc ar, krP g M x mo o f ad sc ar sc ar ∧ krN n ar
/-- a call of the ring that answers v -/
def krK (g : gG) (M : Mp) (x o : Nat) (tg : Nat → Nat) (v : Int32) (sc : Nat → Int32) (ar : Nat → Nat → Int32) (M_ : Mp) : Prop := ∃ M1 f, RIx g M1 M x tg sc ar ∧ M_ = mu M1 o (eL g 1 f) ∧ f 0 = v.toInt64
def krQ1 (Q1 : Prop) (ok bad : Prop) (u : Int32) : Prop := (u = 0 ∧ Q1 ∧ ok) ∨ (u = 1 ∧ ¬ Q1) ∧ bad
def krQ2 (Q1 Q2 : Prop) (ok bad : Prop) (u : Int32) : Prop := (u = 0 ∧ (Q1 ∧ Q2) ∧ ok) ∨ (u = 1 ∧ ¬ Q1 ∨ u = 2 ∧ Q1 ∧ ¬ Q2) ∧ bad
def krQ3 (Q1 Q2 Q3 : Prop) (ok bad : Prop) (u : Int32) : Prop := (u = 0 ∧ (Q1 ∧ Q2 ∧ Q3) ∧ ok) ∨ (u = 1 ∧ ¬ Q1 ∨ u = 2 ∧ Q1 ∧ ¬ Q2 ∨ u = 3 ∧ Q1 ∧ Q2 ∧ ¬ Q3) ∧ bad
theorem lr1 {P1 Q1 ok OK E R : Prop} {bad : Int32 → Prop} {k : Int32} (i1 : P1 ↔ Q1) (hr : krQ1 Q1 OK E k) (hm : MQ1 P1 ok bad) (h0 : Q1 → k = 0 → OK → ok → R) (hb : E → ∀ t, ¬ t = 0 → k = t → bad t → R) : R := by
  unfold krQ1 at hr
  unfold MQ1 at hm
  rw [i1] at hm
  rcases hr with ⟨e, a, o⟩ | ⟨⟨e, a⟩, o⟩ <;> rcases hm with ⟨b, w⟩ | ⟨b, w⟩
  · exact h0 a e o w
  · exact absurd a b
  · exact absurd b a
  · exact hb o 1 (by decide) e w
theorem lr2 {P1 P2 Q1 Q2 ok OK E R : Prop} {bad : Int32 → Prop} {k : Int32} (i1 : P1 ↔ Q1) (i2 : Q1 → (P2 ↔ Q2)) (hr : krQ2 Q1 Q2 OK E k) (hm : MQ2 P1 P2 ok bad) (h0 : Q1 → Q2 → k = 0 → OK → ok → R) (hb : E → ∀ t, ¬ t = 0 → k = t → bad t → R) : R := by
  unfold krQ2 at hr
  unfold MQ2 at hm
  rw [i1] at hm
  rcases hr with ⟨e, ⟨a, a2⟩, o⟩ | ⟨⟨e, a⟩ | ⟨e, a, a2⟩, o⟩ <;> rcases hm with ⟨b, b2, w⟩ | ⟨b, w⟩ | ⟨b, b2, w⟩
  · exact h0 a a2 e o w
  · exact absurd a b
  · exact absurd ((i2 a).mpr a2) b2
  · exact absurd b a
  · exact hb o 1 (by decide) e w
  · exact absurd b a
  · exact absurd ((i2 a).mp b2) a2
  · exact absurd a b
  · exact hb o 2 (by decide) e w
theorem lr3 {P1 P2 P3 Q1 Q2 Q3 ok OK E R : Prop} {bad : Int32 → Prop} {k : Int32} (i1 : P1 ↔ Q1) (i2 : Q1 → (P2 ↔ Q2)) (i3 : Q1 → Q2 → (P3 ↔ Q3)) (hr : krQ3 Q1 Q2 Q3 OK E k) (hm : MQ3 P1 P2 P3 ok bad) (h0 : Q1 → Q2 → Q3 → k = 0 → OK → ok → R) (hb : E → ∀ t, ¬ t = 0 → k = t → bad t → R) : R := by
  unfold krQ3 at hr
  unfold MQ3 at hm
  rw [i1] at hm
  rcases hr with ⟨e, ⟨a, a2, a3⟩, o⟩ | ⟨⟨e, a⟩ | ⟨e, a, a2⟩ | ⟨e, a, a2, a3⟩, o⟩ <;> rcases hm with ⟨b, b2, b3, w⟩ | ⟨b, w⟩ | ⟨b, b2, w⟩ | ⟨b, b2, b3, w⟩
  · exact h0 a a2 a3 e o w
  · exact absurd a b
  · exact absurd ((i2 a).mpr a2) b2
  · exact absurd ((i3 a a2).mpr a3) b3
  · exact absurd b a
  · exact hb o 1 (by decide) e w
  · exact absurd b a
  · exact absurd b a
  · exact absurd ((i2 a).mp b2) a2
  · exact absurd a b
  · exact hb o 2 (by decide) e w
  · exact absurd ((i2 a).mp b2) a2
  · exact absurd ((i3 a a2).mp b3) a3
  · exact absurd a b
  · exact absurd ((i2 a).mpr a2) b2
  · exact hb o 3 (by decide) e w
section LRR
variable {g : gG} {M M1 M2 M_ : Mp} {x mo o n : Nat} {tg : Nat → Nat} {A : Nat → Nat → Nat} {pr br : Nat → Bool} {np : Nat → Nat} {hh : Nat → Nat → Nat} {ne nb no : Nat} {sc sc2 sc' : Nat → Int32} {ar ar2 ar' : Nat → Nat → Int32} {f f0 : Nat → Int64} {ad : Nat → Nat} {v k b : Int32}
theorem hed_mu {a : Nat} {e : va_E} {d : Nat} (h : mu M a e d = none) : M d = none := by
  unfold mu at h
  split at h
  · cases h
  · exact h
theorem lq_ok (hm : MI g M mo ad sc ar) (ht : krT tg mo o ad) (ho : M o = some (eL g 1 f0)) (hM1 : RIx g M1 M x tg sc' ar') (hed : mu M1 o (eL g 1 f) (g.2.2.2 0) = none) : krP g (mu M1 o (eL g 1 f)) x mo o f ad sc ar sc' ar' := by
  obtain ⟨tg', A', pr', br', np', hh', ne', nb', no', h1, h2⟩ := hM1
  have n1 : ∀ b y, M b = some y → 30000 ≤ tg b → M1 b = some y ∧ 30000 ≤ tg' b := fun b y hb ht => by
    obtain ⟨a1, a2⟩ := h2 b (by rw [hb]; exact fun z => by cases z) ht
    exact ⟨a1.trans hb, by rw [a2]; exact ht⟩
  have o1 := n1 o _ ho ht.2.1
  have m1 := n1 mo _ hm.1 ht.1
  refine ⟨tg', A', pr', br', np', hh', ne', nb', no', RI_keep (T := fun t => 30000 ≤ t) h1 (FR_mu o1.1 o1.2 (hed_mu hed)) (fun t ht => by show ¬ 30000 ≤ t; omega), ⟨(mu_n (m_ne hm.1 ho (by intro z; cases z))).trans m1.1, fun k hk => (mu_n (m_ne (hm.2.1 k hk) ho (Ne.symm ne_LI))).trans (n1 _ _ (hm.2.1 k hk) (ht.2.2 k).2).1, hm.2.2⟩, ⟨m1.2, o1.2, fun k => ⟨(ht.2.2 k).1, ?_⟩⟩, mu_s⟩
  rcases (ht.2.2 k).1 with q | q
  · exact (n1 _ _ (hm.2.1 k q) (ht.2.2 k).2).2
  · rw [q]; exact m1.2
theorem lp_mx (h : krP g M_ x mo o f ad sc ar sc' ar') (hx : MX g M_ M2 mo ad sc2 ar2) (hed : M2 (g.2.2.2 0) = none) : krP g M2 x mo o f ad sc2 ar2 sc' ar' := by
  obtain ⟨tg, A, pr, br, np, hh, ne, nb, no, h1, h2, h3, h4⟩ := h
  refine ⟨tg, A, pr, br, np, hh, ne, nb, no, RI_keep (T := fun t => 30000 ≤ t) h1 (FR_of (fun b _ ht => hx.2 b (fun z => ht (by rw [z]; exact h3.1)) (fun k z => ht (by rw [z]; exact (h3.2.2 k).2))) hed) (fun t ht => by show ¬ 30000 ≤ t; omega), hx.1, h3, (hx.2 o (m_ne h4 h2.1 (by intro z; cases z)) (fun k => ?_)).trans h4⟩
  rcases (h3.2.2 k).1 with q | q
  · exact m_ne h4 (h2.2.1 k q) ne_LI
  · rw [q]; exact m_ne h4 h2.1 (by intro z; cases z)
theorem lp_cg (h : krP g M x mo o f ad sc2 ar2 sc' ar') (hed : M (g.2.2.2 0) = none) (hs : sc2 0 = sc' 0 ∧ sc2 5 = sc' 5 ∧ sc2 9 = sc' 9) (ha : ∀ k, k ≠ 21 → k ≠ 22 → ar2 k = ar' k) (h21 : ∀ i, i < 75 → ar2 21 i = ar' 21 i) : krP g M x mo o f ad sc2 ar2 sc2 ar2 := by
  obtain ⟨tg, A, pr, br, np, hh, ne, nb, no, h1, h2, h3, h4⟩ := h
  exact ⟨tg, A, pr, br, np, hh, ne, nb, no, RI_cg h1 hed hs ha h21, h2, h3, h4⟩
/-- what a round leaves: the ring's answer k (0, or which throw), the model's b and its thrown k -/
def krR (g : gG) (M : Mp) (x mo o n : Nat) (k b : Int32) : Prop := ∃ f ad sc ar, krP g M x mo o f ad sc ar sc ar ∧ krN n ar ∧ sc 23 = k ∧ (k = 0 → f 0 = b.toInt64)
theorem krN_le {m : Nat} (h : krN n ar) (hm : n ≤ m) : krN m ar := fun k hk => by
  obtain ⟨h1, h2, h3⟩ := h k hk
  exact ⟨h1, fun i hi => Int.le_trans (h2 i hi) (by omega), fun j hj => Int.le_trans (h3 j hj) (by omega)⟩
theorem krN_cg (h : krN n ar) (h21 : ∀ i, i < 75 → ar2 21 i = ar 21 i) : krN n ar2 := fun k hk => by
  obtain ⟨h1, h2, h3⟩ := h k hk
  have e : ∀ i j, i < 5 → j < 5 → zD ar2 k i j = zD ar k i j := fun i j hi hj => by unfold zD; exact h21 _ (by omega)
  refine ⟨fun i j hi hj => by rw [e i j hi hj]; exact h1 i j hi hj, fun i hi => ?_, fun j hj => ?_⟩
  · rw [isum_cg (f := fun j => (zD ar k i j).toInt) (fun j hj => by show (zD ar2 k i j).toInt = _; rw [e i j hi hj])]; exact h2 i hi
  · rw [isum_cg (f := fun i => (zD ar k i j).toInt) (fun i hi => by show (zD ar2 k i j).toInt = _; rw [e i j hi hj])]; exact h3 j hj
theorem lr_ok (hI : RI g M x tg A pr br np hh ne nb no sc ar) (hm : MI g M mo ad sc ar) (ht : krT tg mo o ad) (ho : M o = some (eL g 1 f0)) (hk : k = 0) (hK : krK g M x o tg v sc' ar' M_) (hed : M_ (g.2.2.2 0) = none) (hb : b = v) (hx : MX g M_ M2 mo ad sc2 ar2) (hed2 : M2 (g.2.2.2 0) = none) (hs : sc2 0 = sc' 0 ∧ sc2 5 = sc' 5 ∧ sc2 9 = sc' 9) (ha : ∀ k, k ≠ 21 → k ≠ 22 → ar2 k = ar' k) (h21 : ∀ i, i < 75 → ar2 21 i = ar' 21 i) (h23 : sc2 23 = 0) (hN : krN n ar2) : krR g M2 x mo o n k b := by
  obtain ⟨M1, f, h1, rfl, hf⟩ := hK
  exact ⟨f, ad, sc2, ar2, lp_cg (lp_mx (lq_ok hm ht ho h1 hed) hx hed2) hed2 hs ha h21, hN, h23.trans hk.symm, fun _ => by rw [hf, hb]⟩
theorem RIx_rf (hI : RI g M x tg A pr br np hh ne nb no sc ar) : RIx g M M x tg sc ar := ⟨tg, A, pr, br, np, hh, ne, nb, no, hI, fun _ _ _ => ⟨rfl, rfl⟩⟩
theorem RIx_at {e : va_E} (h : RIx g M1 M x tg sc ar) (ho : M o = some e) (ht : 30000 ≤ tg o) : M1 o = some e := by
  obtain ⟨_, _, _, _, _, _, _, _, _, -, h2⟩ := h
  exact (h2 o (by rw [ho]; exact fun z => by cases z) ht).1.trans ho
theorem lq_mi (hm : MI g M mo ad sc ar) (ht : krT tg mo o ad) (ho : M o = some (eL g 1 f0)) (hed : M_ (g.2.2.2 0) = none) (h : krK g M x o tg v sc' ar' M_ ∨ M_ = M) : MI g M_ mo ad sc ar := by
  rcases h with ⟨M1, f, h1, rfl, -⟩ | rfl
  · obtain ⟨_, _, _, _, _, _, _, _, _, -, h2, -⟩ := lq_ok hm ht ho h1 hed
    exact h2
  · exact hm
theorem lr_bad (hI : RI g M x tg A pr br np hh ne nb no sc ar) (hm : MI g M mo ad sc ar) (ht : krT tg mo o ad) (ho : M o = some (eL g 1 f0)) (hk : ¬ k = 0) (hM : M_ = M) (hx : MX g M_ M2 mo ad (us sc 23 k) ar) (hed2 : M2 (g.2.2.2 0) = none) (hN : krN n ar) : krR g M2 x mo o (n + 1) k b := by
  subst hM
  exact ⟨f0, ad, us sc 23 k, ar, lp_cg (lp_mx ⟨tg, A, pr, br, np, hh, ne, nb, no, hI, hm, ht, ho⟩ hx hed2) hed2 ⟨upd_n (by decide), upd_n (by decide), upd_n (by decide)⟩ (fun _ _ _ => rfl) (fun _ _ => rfl), krN_le hN (Nat.le_succ n), upd_s, fun z => absurd z hk⟩
end LRR
theorem uL0 {f : Nat → Int64} {x : Int64} : vp_updL f (0 : Int32).toNatClampNeg x 0 = x := by
  rw [show (0 : Int32).toNatClampNeg = 0 from rfl]
  exact if_pos rfl
theorem krQ1_or {Q1 ok bad : Prop} {u : Int32} (h : krQ1 Q1 ok bad u) : ok ∨ bad := h.elim (fun z => Or.inl z.2.2) (fun z => Or.inr z.2)
theorem krQ2_or {Q1 Q2 ok bad : Prop} {u : Int32} (h : krQ2 Q1 Q2 ok bad u) : ok ∨ bad := h.elim (fun z => Or.inl z.2.2) (fun z => Or.inr z.2)
theorem krQ3_or {Q1 Q2 Q3 ok bad : Prop} {u : Int32} (h : krQ3 Q1 Q2 Q3 ok bad u) : ok ∨ bad := h.elim (fun z => Or.inl z.2.2) (fun z => Or.inr z.2)
theorem v01 : vp_in 0 1 := fun h => by
  rcases h with h | h
  · revert h; decide
  · revert h; decide
