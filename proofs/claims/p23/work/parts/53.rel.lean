/-! THE LAW'S ROWS AND THE RING'S -/
theorem ua_ua {ar : Nat → Nat → Int32} {k : Nat} {f h : Nat → Int32} : ua (ua ar k f) k h = ua ar k h := funext fun k' => by
  unfold ua
  by_cases e : k' = k
  · rw [if_pos e, if_pos e]
  · rw [if_neg e, if_neg e, if_neg e]
/-- order k's place in the law's two rows -/
def lo (lf : Nat → Nat → Int32) (k j : Nat) : Int32 := lf (4 + k / 10) (5 * (k % 10) + j)
/-- 0, or what to blame and 1 -/
def zbo (ar : Nat → Nat → Int32) (o : Nat) : Int32 := if zdst ar o (ar 15 o) (ar 16 o) (ar 17 o) (ar 18 o) ≤ ar 2 (zE ar o) then 0 else zbl ar o + 1
def LRo (lf ar : Nat → Nat → Int32) (k : Nat) : Prop := (lo lf k 0 = ar 10 k ∧ lo lf k 1 = ar 12 k ∧ lo lf k 2 = ar 11 k ∧ lo lf k 3 = ar 13 k) ∧ (¬ ar 13 k = 0 → lo lf k 4 = ar 14 k ∧ lf 6 (3 * k) = zcol ar k 0 ∧ lf 6 (3 * k + 1) = zcol ar k 1 ∧ lf 6 (3 * k + 2) = zbo ar k)
def LRe (lf ar : Nat → Nat → Int32) (i : Nat) : Prop := lf 1 (3 * i) = ar 1 (2 * i) ∧ lf 1 (3 * i + 1) = ar 1 (2 * i + 1) ∧ lf 1 (3 * i + 2) = ar 2 i
def LRw (lf ar : Nat → Nat → Int32) : Prop := (∀ i, i < 3 → lf 2 i = ar 3 i) ∧ ∀ i, i < 4 → lf 2 (3 + 2 * i) = ar 4 (2 * i) ∧ lf 2 (4 + 2 * i) = ar 4 (2 * i + 1)
def LRb (lf ar : Nat → Nat → Int32) (i : Nat) : Prop := lf 3 (3 * i) = ar 6 i ∧ lf 3 (3 * i + 1) = ar 7 i ∧ lf 3 (3 * i + 2) = ar 8 i
def LR (ne nb no : Nat) (lf ar : Nat → Nat → Int32) : Prop := (lf 0 0 = nI ne ∧ lf 0 1 = nI nb ∧ lf 0 2 = nI no) ∧ (ne ≤ 4 ∧ nb ≤ 5 ∧ no ≤ 20) ∧ (∀ i, i < ne → LRe lf ar i) ∧ LRw lf ar ∧ (∀ i, i < nb → LRb lf ar i) ∧ (∀ k, k < no → LRo lf ar k) ∧ (∀ i, i < 9 → lf 7 i = ar 19 i) ∧ (∀ i, i < 50 → lf 8 i = ar 21 i) ∧ ∀ i, i < 3 → lf 9 i = ar 20 i
theorem zcol_cg {ar ar' : Nat → Nat → Int32} {k : Nat} {ax : Int32} (hk : ∀ t, 10 ≤ t → t ≤ 18 → ar' t k = ar t k) (h1 : ar' 1 (2 * zE ar k) = ar 1 (2 * zE ar k) ∧ ar' 1 (2 * zE ar k + 1) = ar 1 (2 * zE ar k + 1)) : zcol ar' k ax = zcol ar k ax := by
  have e : zE ar' k = zE ar k := by unfold zE; rw [hk 10 (by omega) (by omega)]
  unfold zcol
  rw [e, h1.1, h1.2, hk 15 (by omega) (by omega), hk 16 (by omega) (by omega), hk 17 (by omega) (by omega), hk 18 (by omega) (by omega)]
theorem zdst_cg {ar ar' : Nat → Nat → Int32} {k : Nat} {a b c d : Int32} (h10 : ar' 10 k = ar 10 k) (h1 : ar' 1 (2 * zE ar k) = ar 1 (2 * zE ar k) ∧ ar' 1 (2 * zE ar k + 1) = ar 1 (2 * zE ar k + 1)) : zdst ar' k a b c d = zdst ar k a b c d := by
  have e : zE ar' k = zE ar k := by unfold zE; rw [h10]
  unfold zdst
  rw [e, h1.1, h1.2]
theorem zbo_cg {ar ar' : Nat → Nat → Int32} {k : Nat} (hk : ∀ t, 10 ≤ t → t ≤ 18 → ar' t k = ar t k) (h1 : ar' 1 (2 * zE ar k) = ar 1 (2 * zE ar k) ∧ ar' 1 (2 * zE ar k + 1) = ar 1 (2 * zE ar k + 1)) (h2 : ar' 2 (zE ar k) = ar 2 (zE ar k)) : zbo ar' k = zbo ar k := by
  have h10 := hk 10 (by omega) (by omega)
  have e : zE ar' k = zE ar k := by unfold zE; rw [h10]
  unfold zbo zbl
  rw [zdst_cg h10 h1, zdst_cg h10 h1, zdst_cg h10 h1, zdst_cg h10 h1, e, h2, hk 15 (by omega) (by omega), hk 16 (by omega) (by omega), hk 17 (by omega) (by omega), hk 18 (by omega) (by omega)]
theorem LRo_cg {lf lf' ar ar' : Nat → Nat → Int32} {k : Nat} (h : LRo lf ar k) (hk : ∀ t, 10 ≤ t → t ≤ 18 → ar' t k = ar t k) (h1 : ar' 1 (2 * zE ar k) = ar 1 (2 * zE ar k) ∧ ar' 1 (2 * zE ar k + 1) = ar 1 (2 * zE ar k + 1)) (h2 : ar' 2 (zE ar k) = ar 2 (zE ar k)) (hl : ∀ j, j < 5 → lo lf' k j = lo lf k j) (h6 : ∀ j, j < 3 → lf' 6 (3 * k + j) = lf 6 (3 * k + j)) : LRo lf' ar' k := by
  obtain ⟨⟨a0, a1, a2, a3⟩, a4⟩ := h
  unfold LRo
  rw [hl 0 (by omega), hl 1 (by omega), hl 2 (by omega), hl 3 (by omega), hl 4 (by omega), hk 10 (by omega) (by omega), hk 11 (by omega) (by omega), hk 12 (by omega) (by omega), hk 13 (by omega) (by omega), hk 14 (by omega) (by omega), h6 1 (by omega), h6 2 (by omega), zcol_cg hk h1, zcol_cg hk h1, zbo_cg hk h1 h2]
  exact ⟨⟨a0, a1, a2, a3⟩, fun z => ⟨(a4 z).1, (h6 0 (by omega)).trans (a4 z).2.1, (a4 z).2.2⟩⟩
/-- the law's world: the ring holds (sc, ar), the law's rows agree; n bounds the debts -/
def WS (g : gG) (M : Mp) (x : Nat) (la : Nat → Nat) (n : Nat) : Prop := ∃ tg A pr br np hh ne nb no sc ar lf, RI g M x tg A pr br np hh ne nb no sc ar ∧ LI g M la lf ∧ (∀ k, k < 10 → 30000 ≤ tg (la k)) ∧ LR ne nb no lf ar ∧ krN n ar
theorem WS_le {g : gG} {M : Mp} {x : Nat} {la : Nat → Nat} {n m : Nat} (h : WS g M x la n) (hm : n ≤ m) : WS g M x la m := by
  obtain ⟨tg, A, pr, br, np, hh, ne, nb, no, sc, ar, lf, h1, h2, h3, h4, h5⟩ := h
  exact ⟨tg, A, pr, br, np, hh, ne, nb, no, sc, ar, lf, h1, h2, h3, h4, krN_le h5 hm⟩
section LSS
variable {g : gG} {M M1 M2 : Mp} {x : Nat} {tg : Nat → Nat} {A : Nat → Nat → Nat} {pr br : Nat → Bool} {np : Nat → Nat} {hh : Nat → Nat → Nat} {ne nb no : Nat} {sc sc' : Nat → Int32} {ar ar' lf lf' : Nat → Nat → Int32} {la : Nat → Nat}
theorem WS_up (hI : RI g M x tg A pr br np hh ne nb no sc ar) (hX : LX g M M1 la lf') (hT : ∀ k, k < 10 → 30000 ≤ tg (la k)) (hed : M1 (g.2.2.2 0) = none) : RI g M1 x tg A pr br np hh ne nb no sc ar :=
  RI_keep (T := fun t => 30000 ≤ t) hI (FR_of (fun b hb ht => hX.2 b hb (fun k hk z => ht (by rw [z]; exact hT k hk))) hed) (fun t ht => by show ¬ 30000 ≤ t; omega)
theorem WS_mk {ne' nb' no' n : Nat} (hx : RIx g M2 M1 x tg sc' ar') (hL : LI g M1 la lf') (hT : ∀ k, k < 10 → 30000 ≤ tg (la k)) (hs : sc' 0 = nI ne' ∧ sc' 5 = nI nb' ∧ sc' 9 = nI no') (hR : LR ne' nb' no' lf' ar') (hN : krN n ar') : WS g M2 x la n := by
  obtain ⟨tg2, A2, pr2, br2, np2, hh2, ne2, nb2, no2, hI, hk⟩ := hx
  have nn : ∀ k, k < 10 → M1 (la k) ≠ none := fun k hk => by rw [hL.1 k hk]; exact fun z => by cases z
  obtain ⟨⟨s0, s5, s9⟩, -, iE, iB, iO, -⟩ := id hI
  have b1 := iE.1
  have b2 := iB.1
  have b3 := iO.1
  obtain ⟨r1, r2, r3⟩ := hR.2.1
  have e1 : ne2 = ne' := nI_inj (by omega) (by omega) (s0.symm.trans hs.1)
  have e2 : nb2 = nb' := nI_inj (by omega) (by omega) (s5.symm.trans hs.2.1)
  have e3 : no2 = no' := nI_inj (by omega) (by omega) (s9.symm.trans hs.2.2)
  subst e1 e2 e3
  exact ⟨tg2, A2, pr2, br2, np2, hh2, ne2, nb2, no2, sc', ar', lf', hI, ⟨fun k h9 => (hk _ (nn k h9) (hT k h9)).1.trans (hL.1 k h9), hL.2⟩, fun k h9 => by rw [(hk _ (nn k h9) (hT k h9)).2]; exact hT k h9, hR, hN⟩
end LSS
/-! what the calls ask of numbers -/
theorem inx_n {a n : Nat} (ha : a < 2 ^ 31) (hn : n < 2 ^ 31) : inx (nI a) n ↔ a < n := ⟨fun h => (nI_ltI ha hn).mp h.2, fun h => ⟨nI_pos ha, (nI_ltI ha hn).mpr h⟩⟩
theorem inx_m {x : Int32} {n : Nat} (hx : x < 0) : ¬ inx x n := fun h => h.1 hx
theorem inr_n {a n : Nat} (ha : a < 2 ^ 31) (hn : n < 2 ^ 31) : inr (nI a) 0 (nI n) ↔ a ≤ n := ⟨fun h => (nI_leI ha hn).mp h.2, fun h => ⟨nI_pos ha, (nI_leI ha hn).mpr h⟩⟩
theorem inr_1 {a n : Nat} (ha : a < 2 ^ 31) (hn : n < 2 ^ 31) : inr (nI a) 1 (nI n) ↔ 1 ≤ a ∧ a ≤ n := ⟨fun h => ⟨Nat.not_lt.mp (fun z => h.1 ((nI_ltI (a := a) (b := 1) ha (by decide)).mpr z)), (nI_leI ha hn).mp h.2⟩, fun h => ⟨fun z => absurd ((nI_ltI (a := a) (b := 1) ha (by decide)).mp z) (by omega), (nI_leI ha hn).mpr h.2⟩⟩
theorem inr_g {x : Int32} {h : Int} (hx : rng x (-10) h) (h1 : x ≤ 10) : inr x (-10) 10 := ⟨fun z => by
  have e : (-10 : Int32).toInt = -10 := by decide
  rw [Int32.lt_iff_toInt_lt, e] at z
  exact absurd hx.1 (by omega), h1⟩
theorem rng_s {k : Nat} (h : k < 21) : rng (nI k - 10) (-10) 10 := by
  have e1 : (nI k).toInt = k := nI_toInt (by omega)
  have e2 : (10 : Int32).toInt = 10 := by decide
  have e : (nI k - 10).toInt = (k : Int) - 10 := by rw [Int32.toInt_sub, e1, e2, Int.bmod_eq_of_le (by omega) (by omega)]
  unfold rng
  omega
theorem rng_nle {x : Int32} (h : rng x (-10) 10) : ¬ x ≤ -20 := fun z => by
  have e : (-20 : Int32).toInt = -20 := by decide
  rw [Int32.le_iff_toInt_le, e] at z
  exact absurd h.1 (by omega)
theorem rng_n0 {x : Int32} {h : Int} (hx : rng x 0 h) : ¬ x < 0 := fun z => by
  have e : (0 : Int32).toInt = 0 := by decide
  rw [Int32.lt_iff_toInt_lt, e] at z
  exact absurd hx.1 (by omega)
theorem rng_p0 {x : Int32} {h : Int} (hx : rng x 0 h) : 0 ≤ x := Int32.not_lt.mp (rng_n0 hx)
/-! what the calls of the first kind leave -/
section LRS
variable {ne nb no : Nat} {lf ar : Nat → Nat → Int32}
theorem LR_entry {a b t : Int32} (h : LR ne nb no lf ar) (hlt : ne < 4) (hz : ∀ k, k < no → zE ar k < ne) : LR (ne + 1) nb no (ua (ua lf 1 (upd (upd (upd (lf 1) (3 * ne) a) (3 * ne + 1) b) (3 * ne + 2) t)) 0 (upd (lf 0) 0 (nI (ne + 1)))) (ua (ua ar 1 (upd (upd (ar 1) (2 * ne) a) (2 * ne + 1) b)) 2 (upd (ar 2) ne t)) := by
  obtain ⟨⟨c0, c1, c2⟩, ⟨s0, s1, s2⟩, rE, rW, rB, rO, rM, rD, rZ⟩ := h
  refine ⟨⟨by rw [ua_s, upd_s], by rw [ua_s, upd_n (by decide)]; exact c1, by rw [ua_s, upd_n (by decide)]; exact c2⟩, ⟨by omega, s1, s2⟩, fun i hi => ?_, rW, rB, fun k hk => ?_, rM, rD, rZ⟩
  · unfold LRe
    rw [ua_n (by decide), ua_s, ua_n (by decide), ua_s, ua_s]
    by_cases e : i = ne
    · subst e
      exact ⟨by rw [upd_n (by omega), upd_n (by omega), upd_s, upd_n (by omega), upd_s], by rw [upd_n (by omega), upd_s, upd_s], by rw [upd_s, upd_s]⟩
    · obtain ⟨q1, q2, q3⟩ := rE i (by omega)
      exact ⟨by rw [upd_n (by omega), upd_n (by omega), upd_n (by omega), upd_n (by omega), upd_n (by omega)]; exact q1, by rw [upd_n (by omega), upd_n (by omega), upd_n (by omega), upd_n (by omega), upd_n (by omega)]; exact q2, by rw [upd_n (by omega), upd_n (by omega), upd_n (by omega), upd_n (by omega)]; exact q3⟩
  · have hq := hz k hk
    refine LRo_cg (rO k hk) (fun t h1 h2 => by rw [ua_n (by omega), ua_n (by omega)]) ⟨?_, ?_⟩ ?_ (fun j hj => ?_) (fun j hj => rfl)
    · rw [ua_n (by decide), ua_s, upd_n (by omega), upd_n (by omega)]
    · rw [ua_n (by decide), ua_s, upd_n (by omega), upd_n (by omega)]
    · rw [ua_s, upd_n (by omega)]
    · unfold lo
      rw [ua_n (by omega), ua_n (by omega)]
theorem LRo_far {lf' ar' : Nat → Nat → Int32} {k : Nat} (h : LRo lf ar k) (ha : ∀ t, t = 1 ∨ t = 2 ∨ (10 ≤ t ∧ t ≤ 18) → ar' t = ar t) (hl : ∀ t, 4 ≤ t → t ≤ 6 → lf' t = lf t) (hk : k < 20) : LRo lf' ar' k :=
  LRo_cg h (fun t h1 h2 => by rw [ha t (by omega)]) ⟨by rw [ha 1 (by omega)], by rw [ha 1 (by omega)]⟩ (by rw [ha 2 (by omega)]) (fun j hj => by unfold lo; rw [hl _ (by omega) (by omega)]) (fun j hj => by rw [hl 6 (by omega) (by omega)])
theorem LR_water {d : Nat} {v : Int32} (h : LR ne nb no lf ar) (hd : d < 3) : LR ne nb no (ua lf 2 (upd (lf 2) d v)) (ua ar 3 (upd (ar 3) d v)) := by
  obtain ⟨hc, ⟨s0, s1, s2⟩, rE, ⟨rW, rY⟩, rB, rO, rM, rD, rZ⟩ := h
  refine ⟨hc, ⟨s0, s1, s2⟩, rE, ⟨fun i hi => ?_, fun i hi => ?_⟩, rB, fun k hk => LRo_far (rO k hk) (fun t ht => ua_n (by omega)) (fun t h1 h2 => ua_n (by omega)) (by omega), rM, rD, rZ⟩
  · rw [ua_s, ua_s]
    by_cases e : i = d
    · rw [e, upd_s, upd_s]
    · rw [upd_n e, upd_n e]; exact rW i hi
  · rw [ua_s, upd_n (by omega), upd_n (by omega)]
    exact rY i hi
theorem LR_yarn {d : Nat} {v w : Int32} (h : LR ne nb no lf ar) (hd : d < 4) : LR ne nb no (ua lf 2 (upd (upd (lf 2) (3 + 2 * d) v) (4 + 2 * d) w)) (ua ar 4 (upd (upd (ar 4) (2 * d) v) (2 * d + 1) w)) := by
  obtain ⟨hc, ⟨s0, s1, s2⟩, rE, ⟨rW, rY⟩, rB, rO, rM, rD, rZ⟩ := h
  refine ⟨hc, ⟨s0, s1, s2⟩, rE, ⟨fun i hi => ?_, fun i hi => ?_⟩, rB, fun k hk => LRo_far (rO k hk) (fun t ht => ua_n (by omega)) (fun t h1 h2 => ua_n (by omega)) (by omega), rM, rD, rZ⟩
  · rw [ua_s, upd_n (by omega), upd_n (by omega)]
    exact rW i hi
  · rw [ua_s, ua_s]
    by_cases e : i = d
    · rw [e]
      exact ⟨by rw [upd_n (by omega), upd_s, upd_n (by omega), upd_s], by rw [upd_s, upd_s]⟩
    · obtain ⟨q1, q2⟩ := rY i hi
      exact ⟨by rw [upd_n (by omega), upd_n (by omega), upd_n (by omega), upd_n (by omega)]; exact q1, by rw [upd_n (by omega), upd_n (by omega), upd_n (by omega), upd_n (by omega)]; exact q2⟩
theorem LR_bath {d u v : Int32} (h : LR ne nb no lf ar) (hlt : nb < 5) : LR ne (nb + 1) no (ua (ua lf 3 (upd (upd (upd (lf 3) (3 * nb) d) (3 * nb + 1) u) (3 * nb + 2) v)) 0 (upd (lf 0) 1 (nI (nb + 1)))) (ua (ua (ua ar 6 (upd (ar 6) nb d)) 7 (upd (ar 7) nb u)) 8 (upd (ar 8) nb v)) := by
  obtain ⟨⟨c0, c1, c2⟩, ⟨s0, s1, s2⟩, rE, rW, rB, rO, rM, rD, rZ⟩ := h
  refine ⟨⟨by rw [ua_s, upd_n (by decide)]; exact c0, by rw [ua_s, upd_s], by rw [ua_s, upd_n (by decide)]; exact c2⟩, ⟨s0, by omega, s2⟩, rE, rW, fun i hi => ?_, fun k hk => LRo_far (rO k hk) (fun t ht => by rw [ua_n (by omega), ua_n (by omega), ua_n (by omega)]) (fun t h1 h2 => by rw [ua_n (by omega), ua_n (by omega)]) (by omega), rM, rD, rZ⟩
  unfold LRb
  rw [ua_n (by decide), ua_s, ua_n (by decide), ua_n (by decide), ua_s, ua_n (by decide), ua_s, ua_s]
  by_cases e : i = nb
  · subst e
    exact ⟨by rw [upd_n (by omega), upd_n (by omega), upd_s, upd_s], by rw [upd_n (by omega), upd_s, upd_s], by rw [upd_s, upd_s]⟩
  · obtain ⟨q1, q2, q3⟩ := rB i (by omega)
    exact ⟨by rw [upd_n (by omega), upd_n (by omega), upd_n (by omega), upd_n (by omega)]; exact q1, by rw [upd_n (by omega), upd_n (by omega), upd_n (by omega), upd_n (by omega)]; exact q2, by rw [upd_n (by omega), upd_n (by omega), upd_n (by omega), upd_n (by omega)]; exact q3⟩
theorem LR_fresh {b : Nat} {v : Int32} (h : LR ne nb no lf ar) (hb : b < nb) : LR ne nb no (ua lf 3 (upd (lf 3) (3 * b + 2) v)) (ua ar 8 (upd (ar 8) b v)) := by
  obtain ⟨hc, ⟨s0, s1, s2⟩, rE, rW, rB, rO, rM, rD, rZ⟩ := h
  refine ⟨hc, ⟨s0, s1, s2⟩, rE, rW, fun i hi => ?_, fun k hk => LRo_far (rO k hk) (fun t ht => ua_n (by omega)) (fun t h1 h2 => ua_n (by omega)) (by omega), rM, rD, rZ⟩
  obtain ⟨q1, q2, q3⟩ := rB i hi
  unfold LRb
  rw [ua_s, ua_n (by decide), ua_n (by decide), ua_s]
  refine ⟨by rw [upd_n (by omega)]; exact q1, by rw [upd_n (by omega)]; exact q2, ?_⟩
  by_cases e : i = b
  · rw [e, upd_s, upd_s]
  · rw [upd_n (by omega), upd_n e]; exact q3
theorem LR_shrinks {c : Nat} {v : Int32} (h : LR ne nb no lf ar) : LR ne nb no (ua lf 9 (upd (lf 9) c v)) (ua ar 20 (upd (ar 20) c v)) := by
  obtain ⟨hc, ⟨s0, s1, s2⟩, rE, rW, rB, rO, rM, rD, rZ⟩ := h
  refine ⟨hc, ⟨s0, s1, s2⟩, rE, rW, rB, fun k hk => LRo_far (rO k hk) (fun t ht => ua_n (by omega)) (fun t h1 h2 => ua_n (by omega)) (by omega), rM, rD, fun i hi => ?_⟩
  rw [ua_s, ua_s]
  by_cases e : i = c
  · rw [e, upd_s, upd_s]
  · rw [upd_n e, upd_n e]; exact rZ i hi
theorem LR_give {i : Nat} {v : Int32} (h : LR ne nb no lf ar) : LR ne nb no (ua lf 8 (upd (lf 8) i v)) (ua ar 21 (upd (ar 21) i v)) := by
  obtain ⟨hc, ⟨s0, s1, s2⟩, rE, rW, rB, rO, rM, rD, rZ⟩ := h
  refine ⟨hc, ⟨s0, s1, s2⟩, rE, rW, rB, fun k hk => LRo_far (rO k hk) (fun t ht => ua_n (by omega)) (fun t h1 h2 => ua_n (by omega)) (by omega), rM, fun j hj => ?_, rZ⟩
  rw [ua_s, ua_s]
  by_cases e : j = i
  · rw [e, upd_s, upd_s]
  · rw [upd_n e, upd_n e]; exact rD j hj
theorem LR_net {f f' : Nat → Int32} (h : LR ne nb no lf ar) (hf : ∀ i, i < 50 → f i = f' i) : LR ne nb no (ua lf 8 f) (ua ar 21 f') := by
  obtain ⟨hc, ⟨s0, s1, s2⟩, rE, rW, rB, rO, rM, rD, rZ⟩ := h
  exact ⟨hc, ⟨s0, s1, s2⟩, rE, rW, rB, fun k hk => LRo_far (rO k hk) (fun t ht => ua_n (by omega)) (fun t h1 h2 => ua_n (by omega)) (by omega), rM, fun j hj => by rw [ua_s, ua_s]; exact hf j hj, rZ⟩
end LRS
theorem LI_rx {g : gG} {M1 M2 : Mp} {x : Nat} {tg : Nat → Nat} {sc : Nat → Int32} {ar lf : Nat → Nat → Int32} {la : Nat → Nat} (hx : RIx g M2 M1 x tg sc ar) (hL : LI g M1 la lf) (hT : ∀ k, k < 10 → 30000 ≤ tg (la k)) : LI g M2 la lf := by
  obtain ⟨_, _, _, _, _, _, _, _, _, -, hk⟩ := hx
  exact ⟨fun k h9 => (hk _ (by rw [hL.1 k h9]; exact fun z => by cases z) (hT k h9)).1.trans (hL.1 k h9), hL.2⟩
theorem rng_nl {x : Int32} {h : Int} (hx : rng x (-10) h) : ¬ x < -10 := fun z => by
  have e : (-10 : Int32).toInt = -10 := by decide
  rw [Int32.lt_iff_toInt_lt, e] at z
  exact absurd hx.1 (by omega)
