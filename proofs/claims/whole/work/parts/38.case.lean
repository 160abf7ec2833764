/-! WHAT A ROUND LEAVES, METHOD BY METHOD -/
theorem isum_ge {f : Nat → Int} {m j : Nat} (hj : j < m) (h : ∀ i, i < m → 0 ≤ f i) : f j ≤ isum f m := by
  have a := isum_mono (f := f) (n := j + 1) (m := m) hj h
  have b : 0 ≤ isum f j := isum_nn (fun i hi => h i (by omega))
  have c : isum f (j + 1) = isum f j + f j := rfl
  omega
theorem NZ_cg {B : Int} {D D' : Nat → Nat → Int32} (h : NZ B D) (e : ∀ i j, i < 5 → j < 5 → D' i j = D i j) : NZ B D' := by
  obtain ⟨h1, h2, h3⟩ := h
  refine ⟨fun i j hi hj => by rw [e i j hi hj]; exact h1 i j hi hj, fun i hi => ?_, fun j hj => ?_⟩
  · rw [isum_cg (f := fun j => (D i j).toInt) (fun j hj => by show (D' i j).toInt = _; rw [e i j hi hj])]; exact h2 i hi
  · rw [isum_cg (f := fun i => (D i j).toInt) (fun i hi => by show (D' i j).toInt = _; rw [e i j hi hj])]; exact h3 j hj
theorem NZ_le {B B' : Int} {D : Nat → Nat → Int32} (h : NZ B D) (hB : B ≤ B') : NZ B' D := ⟨h.1, fun i hi => Int.le_trans (h.2.1 i hi) hB, fun j hj => Int.le_trans (h.2.2 j hj) hB⟩
theorem krN_give {n : Nat} {ar : Nat → Nat → Int32} {c i j : Nat} {v d : Int32} (hN : krN n ar) (hn : n ≤ 512) (hc : c < 3) (hi : i < 5) (hj : j < 5) (hv : v = ar 21 (25 * c + 5 * i + j) + d) (h0 : 0 ≤ d.toInt) (h1 : d.toInt ≤ 1000) : krN (n + 1) (ua ar 21 (upd (ar 21) (25 * c + 5 * i + j) v)) := by
  have hz := hN c hc
  have a0 : 0 ≤ (ar 21 (25 * c + 5 * i + j)).toInt := hz.1 i j hi hj
  have a1 : (ar 21 (25 * c + 5 * i + j)).toInt ≤ 1000 * (n : Int) := Int.le_trans (isum_ge (f := fun j => (zD ar c i j).toInt) hj (fun t ht => hz.1 i t hi ht)) (hz.2.1 i hi)
  have ev : v.toInt = (ar 21 (25 * c + 5 * i + j)).toInt + d.toInt := by rw [hv, Int32.toInt_add, Int.bmod_eq_of_le (by omega) (by omega)]
  intro k hk
  have eB : 1000 * ((n + 1 : Nat) : Int) = 1000 * (n : Int) + 1000 := by omega
  rw [eB]
  by_cases e : k = c
  · subst e
    have eD : zD (ua ar 21 (upd (ar 21) (25 * k + 5 * i + j) v)) k i j = v := by unfold zD; rw [ua_s, upd_s]
    refine NZ_up (a := i) (b := j) hz (fun i' j' hi' hj' hne => ?_) (by rw [eD]; omega) (by rw [eD]; show v.toInt ≤ (ar 21 (25 * k + 5 * i + j)).toInt + 1000; omega)
    unfold zD
    rw [ua_s, upd_n (by omega)]
  · refine NZ_le (NZ_cg (hN k hk) (fun i' j' hi' hj' => ?_)) (by omega)
    unfold zD
    rw [ua_s, upd_n (by omega)]
theorem krN_net {n : Nat} {ar : Nat → Nat → Int32} {c : Nat} {U9 D9 : Nat → Int32} (N : Nat) (hN : krN n ar) (hn : n ≤ 512) (h1 : ∀ i j, i < 5 → j < 5 → D9 (25 * c + 5 * i + j) = (znet N ar c).2.1 i j) (h2 : ∀ t, t < 25 * c ∨ 25 * c + 25 ≤ t → D9 t = ar 21 t) : krN (n + 1) (ua (ua ar 22 U9) 21 D9) := by
  intro k hk
  by_cases e : k = c
  · subst e
    refine NZ_le (NZ_cg (NZ_net N (hN k hk) (by omega)) (fun i j hi hj => ?_)) (by omega)
    unfold zD
    rw [ua_s]
    exact h1 i j hi hj
  · refine NZ_le (NZ_cg (hN k hk) (fun i j hi hj => ?_)) (by omega)
    unfold zD
    rw [ua_s]
    exact h2 _ (by omega)
theorem znetf_at {ar : Nat → Nat → Int32} {c i : Nat} {D9 : Nat → Int32} (h1 : ∀ i j, i < 5 → j < 5 → D9 (25 * c + 5 * i + j) = (znet 5 ar c).2.1 i j) (h2 : ∀ t, t < 25 * c ∨ 25 * c + 25 ≤ t → D9 t = ar 21 t) : D9 i = znetf ar c i := by
  unfold znetf
  by_cases q : 25 * c ≤ i ∧ i < 25 * c + 25
  · rw [if_pos q, ← h1 _ _ (by omega) (by omega)]
    exact congrArg D9 (by omega)
  · rw [if_neg q]
    exact h2 i (by omega)
theorem ua2_21 {ar : Nat → Nat → Int32} {a b : Nat} {f h : Nat → Int32} (ha : 21 ≠ a) (hb : 21 ≠ b) : ua (ua ar a f) b h 21 = ar 21 := by rw [ua_n hb, ua_n ha]
theorem zdye_21 {ar : Nat → Nat → Int32} {o b : Nat} : zdye ar o b 21 = ar 21 := by
  unfold zdye
  rw [ua_n (by decide), ua2_21 (by decide) (by decide), ua2_21 (by decide) (by decide), ua2_21 (by decide) (by decide)]
theorem mdye_21 {ar : Nat → Nat → Int32} {o b : Nat} : mdye ar o b 21 = ar 21 := by
  unfold mdye
  rw [ua_n (by decide), ua2_21 (by decide) (by decide), ua2_21 (by decide) (by decide), ua2_21 (by decide) (by decide)]
set_option maxHeartbeats 2000000 in
theorem kc_entry {g : gG} {M M_ M2 : Mp} {x mo o n : Nat} {tg : Nat → Nat} {A : Nat → Nat → Nat} {pr br : Nat → Bool} {np : Nat → Nat} {hh : Nat → Nat → Nat} {ne nb no : Nat} {sc : Nat → Int32} {ar : Nat → Nat → Int32} {f0 : Nat → Int64} {ad : Nat → Nat} {k b : Int32} (hI : RI g M x tg A pr br np hh ne nb no sc ar) (hm : MI g M mo ad sc ar) (ht : krT tg mo o ad) (ho : M o = some (eL g 1 f0)) (hN : krN n ar) (hn : n ≤ 512) (hed1 : M_ (g.2.2.2 0) = none) (hed2 : M2 (g.2.2.2 0) = none) (p0 p1 p2 : Int32) (h1 : krQ2 (((inr p0 0 60 ∧ inr p1 0 60) ∧ inr p2 0 20)) (sc 0 < 12) (krK g M x o tg (sc 0) (us sc 0 (sc 0 + 1)) (ua (ua ar 1 (upd (upd (ar 1) (2 * (sc 0).toNatClampNeg) p0) (2 * (sc 0).toNatClampNeg + 1) p1)) 2 (upd (ar 2) (sc 0).toNatClampNeg p2)) M_) (M_ = M) k) (h2 : MQ2 (((inr p0 0 60) ∧ inr p1 0 60) ∧ inr p2 0 20) (nI ne < 12) (b = (nI (ne + 1) - 1) ∧ MX g M_ M2 mo ad (us (us sc 23 0) 0 (nI (ne + 1))) (ua (ua ar 1 (upd (upd (ar 1) (2 * ne) p0) (2 * ne + 1) p1)) 2 (upd (ar 2) ne p2))) (fun t_ => b = 0 ∧ MX g M_ M2 mo ad (us sc 23 t_) ar)) : krR g M2 x mo o (n + 1) k b := by
  obtain ⟨⟨hs0, hs5, hs9⟩, iX, iE, iB, iO, iW, iL, iC⟩ := id hI
  have hne : ne < 2 ^ 31 := Nat.lt_of_le_of_lt iE.1 (by decide)
  have hnb : nb < 2 ^ 31 := Nat.lt_of_le_of_lt iB.1 (by decide)
  have hno : no < 2 ^ 31 := Nat.lt_of_le_of_lt iO.1 (by decide)
  refine lr2 (Iff.rfl) (fun _ => by rw [hs0]) h1 h2 (fun q1 q2 hk hK hok => ?_) (fun hE t h0 hkt hbad => ?_)
  · obtain ⟨hb, hx⟩ := hok
    exact lr_ok hI hm ht ho hk hK hed1 (hb.trans (by rw [hs0, ← nI_1]; exact Int32.add_sub_cancel _ _)) hx hed2 ⟨(by unfold us; rw [upd_s, upd_s, hs0, nI_1]), rfl, rfl⟩ (fun k _ _ => by rw [hs0, nI_clamp hne]) (fun _ _ => rfl) rfl (krN_cg (krN_le hN (Nat.le_succ n)) (fun _ _ => rfl))
  · subst hkt
    exact lr_bad hI hm ht ho h0 hE hbad.2 hed2 hN
set_option maxHeartbeats 2000000 in
theorem kc_water {g : gG} {M M_ M2 : Mp} {x mo o n : Nat} {tg : Nat → Nat} {A : Nat → Nat → Nat} {pr br : Nat → Bool} {np : Nat → Nat} {hh : Nat → Nat → Nat} {ne nb no : Nat} {sc : Nat → Int32} {ar : Nat → Nat → Int32} {f0 : Nat → Int64} {ad : Nat → Nat} {k b : Int32} (hI : RI g M x tg A pr br np hh ne nb no sc ar) (hm : MI g M mo ad sc ar) (ht : krT tg mo o ad) (ho : M o = some (eL g 1 f0)) (hN : krN n ar) (hn : n ≤ 512) (hed1 : M_ (g.2.2.2 0) = none) (hed2 : M2 (g.2.2.2 0) = none) (p0 p1 : Int32) (h1 : krQ2 (inx p0 3) (inr p1 (-10) 10) (krK g M x o tg (ar 3 p0.toNatClampNeg) (sc) (ua ar 3 (upd (ar 3) p0.toNatClampNeg p1)) M_) (M_ = M) k) (h2 : MQ2 (inx p0 3) (inr p1 (-10) 10) (b = (ar 3 p0.toNatClampNeg) ∧ MX g M_ M2 mo ad (us sc 23 0) (ua ar 3 (upd (ar 3) p0.toNatClampNeg p1))) (fun t_ => b = 0 ∧ MX g M_ M2 mo ad (us sc 23 t_) ar)) : krR g M2 x mo o (n + 1) k b := by
  obtain ⟨⟨hs0, hs5, hs9⟩, iX, iE, iB, iO, iW, iL, iC⟩ := id hI
  have hne : ne < 2 ^ 31 := Nat.lt_of_le_of_lt iE.1 (by decide)
  have hnb : nb < 2 ^ 31 := Nat.lt_of_le_of_lt iB.1 (by decide)
  have hno : no < 2 ^ 31 := Nat.lt_of_le_of_lt iO.1 (by decide)
  refine lr2 (Iff.rfl) (fun _ => Iff.rfl) h1 h2 (fun q1 q2 hk hK hok => ?_) (fun hE t h0 hkt hbad => ?_)
  · obtain ⟨hb, hx⟩ := hok
    exact lr_ok hI hm ht ho hk hK hed1 (hb) hx hed2 ⟨rfl, rfl, rfl⟩ (fun _ _ _ => rfl) (fun _ _ => rfl) rfl (krN_cg (krN_le hN (Nat.le_succ n)) (fun _ _ => rfl))
  · subst hkt
    exact lr_bad hI hm ht ho h0 hE hbad.2 hed2 hN
set_option maxHeartbeats 2000000 in
theorem kc_yarn {g : gG} {M M_ M2 : Mp} {x mo o n : Nat} {tg : Nat → Nat} {A : Nat → Nat → Nat} {pr br : Nat → Bool} {np : Nat → Nat} {hh : Nat → Nat → Nat} {ne nb no : Nat} {sc : Nat → Int32} {ar : Nat → Nat → Int32} {f0 : Nat → Int64} {ad : Nat → Nat} {k b : Int32} (hI : RI g M x tg A pr br np hh ne nb no sc ar) (hm : MI g M mo ad sc ar) (ht : krT tg mo o ad) (ho : M o = some (eL g 1 f0)) (hN : krN n ar) (hn : n ≤ 512) (hed1 : M_ (g.2.2.2 0) = none) (hed2 : M2 (g.2.2.2 0) = none) (p0 p1 p2 : Int32) (h1 : krQ2 (inx p0 4) ((inr p1 (-10) 10 ∧ inr p2 (-10) 10)) (krK g M x o tg (ar 4 (2 * p0.toNatClampNeg)) (sc) (ua ar 4 (upd (upd (ar 4) (2 * p0.toNatClampNeg) p1) (2 * p0.toNatClampNeg + 1) p2)) M_) (M_ = M) k) (h2 : MQ2 (inx p0 4) ((inr p1 (-10) 10) ∧ inr p2 (-10) 10) (b = (ar 4 (2 * p0.toNatClampNeg)) ∧ MX g M_ M2 mo ad (us sc 23 0) (ua ar 4 (upd (upd (ar 4) (2 * p0.toNatClampNeg) p1) (2 * p0.toNatClampNeg + 1) p2))) (fun t_ => b = 0 ∧ MX g M_ M2 mo ad (us sc 23 t_) ar)) : krR g M2 x mo o (n + 1) k b := by
  obtain ⟨⟨hs0, hs5, hs9⟩, iX, iE, iB, iO, iW, iL, iC⟩ := id hI
  have hne : ne < 2 ^ 31 := Nat.lt_of_le_of_lt iE.1 (by decide)
  have hnb : nb < 2 ^ 31 := Nat.lt_of_le_of_lt iB.1 (by decide)
  have hno : no < 2 ^ 31 := Nat.lt_of_le_of_lt iO.1 (by decide)
  refine lr2 (Iff.rfl) (fun _ => Iff.rfl) h1 h2 (fun q1 q2 hk hK hok => ?_) (fun hE t h0 hkt hbad => ?_)
  · obtain ⟨hb, hx⟩ := hok
    exact lr_ok hI hm ht ho hk hK hed1 (hb) hx hed2 ⟨rfl, rfl, rfl⟩ (fun _ _ _ => rfl) (fun _ _ => rfl) rfl (krN_cg (krN_le hN (Nat.le_succ n)) (fun _ _ => rfl))
  · subst hkt
    exact lr_bad hI hm ht ho h0 hE hbad.2 hed2 hN
set_option maxHeartbeats 2000000 in
theorem kc_apart {g : gG} {M M_ M2 : Mp} {x mo o n : Nat} {tg : Nat → Nat} {A : Nat → Nat → Nat} {pr br : Nat → Bool} {np : Nat → Nat} {hh : Nat → Nat → Nat} {ne nb no : Nat} {sc : Nat → Int32} {ar : Nat → Nat → Int32} {f0 : Nat → Int64} {ad : Nat → Nat} {k b : Int32} (hI : RI g M x tg A pr br np hh ne nb no sc ar) (hm : MI g M mo ad sc ar) (ht : krT tg mo o ad) (ho : M o = some (eL g 1 f0)) (hN : krN n ar) (hn : n ≤ 512) (hed1 : M_ (g.2.2.2 0) = none) (hed2 : M2 (g.2.2.2 0) = none) (p0 p1 : Int32) (h1 : krQ1 ((inx p0 ne ∧ inx p1 ne)) (krK g M x o tg (zd (ar 1 (2 * p0.toNatClampNeg)) (ar 1 (2 * p0.toNatClampNeg + 1)) (ar 1 (2 * p1.toNatClampNeg)) (ar 1 (2 * p1.toNatClampNeg + 1))) (sc) (ar) M_) (M_ = M) k) (h2 : MQ1 ((inx p0 ne) ∧ inx p1 ne) (b = (zfar (ar 1 (2 * p0.toNatClampNeg)) (ar 1 (2 * p1.toNatClampNeg)) + zfar (ar 1 (2 * p0.toNatClampNeg + 1)) (ar 1 (2 * p1.toNatClampNeg + 1))) ∧ MX g M_ M2 mo ad (us sc 23 0) (ar)) (fun t_ => b = 0 ∧ MX g M_ M2 mo ad (us sc 23 t_) ar)) : krR g M2 x mo o (n + 1) k b := by
  obtain ⟨⟨hs0, hs5, hs9⟩, iX, iE, iB, iO, iW, iL, iC⟩ := id hI
  have hne : ne < 2 ^ 31 := Nat.lt_of_le_of_lt iE.1 (by decide)
  have hnb : nb < 2 ^ 31 := Nat.lt_of_le_of_lt iB.1 (by decide)
  have hno : no < 2 ^ 31 := Nat.lt_of_le_of_lt iO.1 (by decide)
  refine lr1 (Iff.rfl) h1 h2 (fun q1 hk hK hok => ?_) (fun hE t h0 hkt hbad => ?_)
  · obtain ⟨hb, hx⟩ := hok
    exact lr_ok hI hm ht ho hk hK hed1 (hb.trans (RI_ap hI (inx_lt q1.1 hne) (inx_lt q1.2 hne)).symm) hx hed2 ⟨rfl, rfl, rfl⟩ (fun _ _ _ => rfl) (fun _ _ => rfl) rfl (krN_cg (krN_le hN (Nat.le_succ n)) (fun _ _ => rfl))
  · subst hkt
    exact lr_bad hI hm ht ho h0 hE hbad.2 hed2 hN
set_option maxHeartbeats 2000000 in
theorem kc_bath {g : gG} {M M_ M2 : Mp} {x mo o n : Nat} {tg : Nat → Nat} {A : Nat → Nat → Nat} {pr br : Nat → Bool} {np : Nat → Nat} {hh : Nat → Nat → Nat} {ne nb no : Nat} {sc : Nat → Int32} {ar : Nat → Nat → Int32} {f0 : Nat → Int64} {ad : Nat → Nat} {k b : Int32} (hI : RI g M x tg A pr br np hh ne nb no sc ar) (hm : MI g M mo ad sc ar) (ht : krT tg mo o ad) (ho : M o = some (eL g 1 f0)) (hN : krN n ar) (hn : n ≤ 512) (hed1 : M_ (g.2.2.2 0) = none) (hed2 : M2 (g.2.2.2 0) = none) (p0 p1 : Int32) (h1 : krQ2 ((inx p0 3 ∧ inx p1 ne)) (sc 5 < 10) (krK g M x o tg (sc 5) (us sc 5 (sc 5 + 1)) (ua (ua (ua ar 6 (upd (ar 6) (sc 5).toNatClampNeg p0)) 7 (upd (ar 7) (sc 5).toNatClampNeg p1)) 8 (upd (ar 8) (sc 5).toNatClampNeg 100)) M_) (M_ = M) k) (h2 : MQ2 ((inx p0 3) ∧ inx p1 ne) (nI nb < 10) (b = (nI (nb + 1) - 1) ∧ MX g M_ M2 mo ad (us (us sc 23 0) 5 (nI (nb + 1))) (ua (ua (ua ar 6 (upd (ar 6) nb p0)) 7 (upd (ar 7) nb p1)) 8 (upd (ar 8) nb 100))) (fun t_ => b = 0 ∧ MX g M_ M2 mo ad (us sc 23 t_) ar)) : krR g M2 x mo o (n + 1) k b := by
  obtain ⟨⟨hs0, hs5, hs9⟩, iX, iE, iB, iO, iW, iL, iC⟩ := id hI
  have hne : ne < 2 ^ 31 := Nat.lt_of_le_of_lt iE.1 (by decide)
  have hnb : nb < 2 ^ 31 := Nat.lt_of_le_of_lt iB.1 (by decide)
  have hno : no < 2 ^ 31 := Nat.lt_of_le_of_lt iO.1 (by decide)
  refine lr2 (Iff.rfl) (fun _ => by rw [hs5]) h1 h2 (fun q1 q2 hk hK hok => ?_) (fun hE t h0 hkt hbad => ?_)
  · obtain ⟨hb, hx⟩ := hok
    exact lr_ok hI hm ht ho hk hK hed1 (hb.trans (by rw [hs5, ← nI_1]; exact Int32.add_sub_cancel _ _)) hx hed2 ⟨rfl, (by unfold us; rw [upd_s, upd_s, hs5, nI_1]), rfl⟩ (fun k _ _ => by rw [hs5, nI_clamp hnb]) (fun _ _ => rfl) rfl (krN_cg (krN_le hN (Nat.le_succ n)) (fun _ _ => rfl))
  · subst hkt
    exact lr_bad hI hm ht ho h0 hE hbad.2 hed2 hN
set_option maxHeartbeats 2000000 in
theorem kc_freshen {g : gG} {M M_ M2 : Mp} {x mo o n : Nat} {tg : Nat → Nat} {A : Nat → Nat → Nat} {pr br : Nat → Bool} {np : Nat → Nat} {hh : Nat → Nat → Nat} {ne nb no : Nat} {sc : Nat → Int32} {ar : Nat → Nat → Int32} {f0 : Nat → Int64} {ad : Nat → Nat} {k b : Int32} (hI : RI g M x tg A pr br np hh ne nb no sc ar) (hm : MI g M mo ad sc ar) (ht : krT tg mo o ad) (ho : M o = some (eL g 1 f0)) (hN : krN n ar) (hn : n ≤ 512) (hed1 : M_ (g.2.2.2 0) = none) (hed2 : M2 (g.2.2.2 0) = none) (p0 : Int32) (h1 : krQ1 (inx p0 nb) (krK g M x o tg (ar 8 p0.toNatClampNeg) (sc) (ua ar 8 (upd (ar 8) p0.toNatClampNeg 100)) M_) (M_ = M) k) (h2 : MQ1 (inx p0 nb) (b = (ar 8 p0.toNatClampNeg) ∧ MX g M_ M2 mo ad (us sc 23 0) (ua ar 8 (upd (ar 8) p0.toNatClampNeg 100))) (fun t_ => b = 0 ∧ MX g M_ M2 mo ad (us sc 23 t_) ar)) : krR g M2 x mo o (n + 1) k b := by
  obtain ⟨⟨hs0, hs5, hs9⟩, iX, iE, iB, iO, iW, iL, iC⟩ := id hI
  have hne : ne < 2 ^ 31 := Nat.lt_of_le_of_lt iE.1 (by decide)
  have hnb : nb < 2 ^ 31 := Nat.lt_of_le_of_lt iB.1 (by decide)
  have hno : no < 2 ^ 31 := Nat.lt_of_le_of_lt iO.1 (by decide)
  refine lr1 (Iff.rfl) h1 h2 (fun q1 hk hK hok => ?_) (fun hE t h0 hkt hbad => ?_)
  · obtain ⟨hb, hx⟩ := hok
    exact lr_ok hI hm ht ho hk hK hed1 (hb) hx hed2 ⟨rfl, rfl, rfl⟩ (fun _ _ _ => rfl) (fun _ _ => rfl) rfl (krN_cg (krN_le hN (Nat.le_succ n)) (fun _ _ => rfl))
  · subst hkt
    exact lr_bad hI hm ht ho h0 hE hbad.2 hed2 hN
set_option maxHeartbeats 2000000 in
theorem kc_strength {g : gG} {M M_ M2 : Mp} {x mo o n : Nat} {tg : Nat → Nat} {A : Nat → Nat → Nat} {pr br : Nat → Bool} {np : Nat → Nat} {hh : Nat → Nat → Nat} {ne nb no : Nat} {sc : Nat → Int32} {ar : Nat → Nat → Int32} {f0 : Nat → Int64} {ad : Nat → Nat} {k b : Int32} (hI : RI g M x tg A pr br np hh ne nb no sc ar) (hm : MI g M mo ad sc ar) (ht : krT tg mo o ad) (ho : M o = some (eL g 1 f0)) (hN : krN n ar) (hn : n ≤ 512) (hed1 : M_ (g.2.2.2 0) = none) (hed2 : M2 (g.2.2.2 0) = none) (p0 : Int32) (h1 : krQ1 (inx p0 nb) (krK g M x o tg (ar 8 p0.toNatClampNeg) (sc) (ar) M_) (M_ = M) k) (h2 : MQ1 (inx p0 nb) (b = (ar 8 p0.toNatClampNeg) ∧ MX g M_ M2 mo ad (us sc 23 0) (ar)) (fun t_ => b = 0 ∧ MX g M_ M2 mo ad (us sc 23 t_) ar)) : krR g M2 x mo o (n + 1) k b := by
  obtain ⟨⟨hs0, hs5, hs9⟩, iX, iE, iB, iO, iW, iL, iC⟩ := id hI
  have hne : ne < 2 ^ 31 := Nat.lt_of_le_of_lt iE.1 (by decide)
  have hnb : nb < 2 ^ 31 := Nat.lt_of_le_of_lt iB.1 (by decide)
  have hno : no < 2 ^ 31 := Nat.lt_of_le_of_lt iO.1 (by decide)
  refine lr1 (Iff.rfl) h1 h2 (fun q1 hk hK hok => ?_) (fun hE t h0 hkt hbad => ?_)
  · obtain ⟨hb, hx⟩ := hok
    exact lr_ok hI hm ht ho hk hK hed1 (hb) hx hed2 ⟨rfl, rfl, rfl⟩ (fun _ _ _ => rfl) (fun _ _ => rfl) rfl (krN_cg (krN_le hN (Nat.le_succ n)) (fun _ _ => rfl))
  · subst hkt
    exact lr_bad hI hm ht ho h0 hE hbad.2 hed2 hN
set_option maxHeartbeats 2000000 in
theorem kc_order {g : gG} {M M_ M2 : Mp} {x mo o n : Nat} {tg : Nat → Nat} {A : Nat → Nat → Nat} {pr br : Nat → Bool} {np : Nat → Nat} {hh : Nat → Nat → Nat} {ne nb no : Nat} {sc : Nat → Int32} {ar : Nat → Nat → Int32} {f0 : Nat → Int64} {ad : Nat → Nat} {k b : Int32} (hI : RI g M x tg A pr br np hh ne nb no sc ar) (hm : MI g M mo ad sc ar) (ht : krT tg mo o ad) (ho : M o = some (eL g 1 f0)) (hN : krN n ar) (hn : n ≤ 512) (hed1 : M_ (g.2.2.2 0) = none) (hed2 : M2 (g.2.2.2 0) = none) (p0 p1 p2 : Int32) (h1 : krQ3 ((inx p0 ne ∧ inx p2 4)) (inr p1 1 40) (sc 9 < 40) (krK g M x o tg (sc 9) (us sc 9 (sc 9 + 1)) (ua (ua (ua ar 10 (upd (ar 10) (sc 9).toNatClampNeg p0)) 11 (upd (ar 11) (sc 9).toNatClampNeg p1)) 12 (upd (ar 12) (sc 9).toNatClampNeg p2)) M_) (M_ = M) k) (h2 : MQ3 ((inx p0 ne) ∧ inx p2 4) (inr p1 1 40) (nI no < 40) (b = (nI (no + 1) - 1) ∧ MX g M_ M2 mo ad (us (us sc 23 0) 9 (nI (no + 1))) (ua (ua (ua ar 10 (upd (ar 10) no p0)) 11 (upd (ar 11) no p1)) 12 (upd (ar 12) no p2))) (fun t_ => b = 0 ∧ MX g M_ M2 mo ad (us sc 23 t_) ar)) : krR g M2 x mo o (n + 1) k b := by
  obtain ⟨⟨hs0, hs5, hs9⟩, iX, iE, iB, iO, iW, iL, iC⟩ := id hI
  have hne : ne < 2 ^ 31 := Nat.lt_of_le_of_lt iE.1 (by decide)
  have hnb : nb < 2 ^ 31 := Nat.lt_of_le_of_lt iB.1 (by decide)
  have hno : no < 2 ^ 31 := Nat.lt_of_le_of_lt iO.1 (by decide)
  refine lr3 (Iff.rfl) (fun _ => Iff.rfl) (fun _ _ => by rw [hs9]) h1 h2 (fun q1 q2 q3 hk hK hok => ?_) (fun hE t h0 hkt hbad => ?_)
  · obtain ⟨hb, hx⟩ := hok
    exact lr_ok hI hm ht ho hk hK hed1 (hb.trans (by rw [hs9, ← nI_1]; exact Int32.add_sub_cancel _ _)) hx hed2 ⟨rfl, rfl, (by unfold us; rw [upd_s, upd_s, hs9, nI_1])⟩ (fun k _ _ => by rw [hs9, nI_clamp hno]) (fun _ _ => rfl) rfl (krN_cg (krN_le hN (Nat.le_succ n)) (fun _ _ => rfl))
  · subst hkt
    exact lr_bad hI hm ht ho h0 hE hbad.2 hed2 hN
set_option maxHeartbeats 2000000 in
theorem kc_place {g : gG} {M M_ M2 : Mp} {x mo o n : Nat} {tg : Nat → Nat} {A : Nat → Nat → Nat} {pr br : Nat → Bool} {np : Nat → Nat} {hh : Nat → Nat → Nat} {ne nb no : Nat} {sc : Nat → Int32} {ar : Nat → Nat → Int32} {f0 : Nat → Int64} {ad : Nat → Nat} {k b : Int32} (hI : RI g M x tg A pr br np hh ne nb no sc ar) (hm : MI g M mo ad sc ar) (ht : krT tg mo o ad) (ho : M o = some (eL g 1 f0)) (hN : krN n ar) (hn : n ≤ 512) (hed1 : M_ (g.2.2.2 0) = none) (hed2 : M2 (g.2.2.2 0) = none) (p0 : Int32) (h1 : krQ3 (inx p0 no) (ar 13 p0.toNatClampNeg = 0) (¬ zpl ar p0.toNatClampNeg nb = -1) (krK g M x o tg (zpl ar p0.toNatClampNeg nb) (sc) (zdye ar p0.toNatClampNeg (zpl ar p0.toNatClampNeg nb).toNatClampNeg) M_) (M_ = M) k) (h2 : MQ3 (inx p0 no) ((inx p0 no) ∧ ar 13 p0.toNatClampNeg = 0) (¬ zmpl ar p0.toNatClampNeg nb = -1) (b = (zmpl ar p0.toNatClampNeg nb) ∧ MX g M_ M2 mo ad (us sc 23 0) (mdye ar p0.toNatClampNeg (zmpl ar p0.toNatClampNeg nb).toNatClampNeg)) (fun t_ => b = 0 ∧ MX g M_ M2 mo ad (us sc 23 t_) ar)) : krR g M2 x mo o (n + 1) k b := by
  obtain ⟨⟨hs0, hs5, hs9⟩, iX, iE, iB, iO, iW, iL, iC⟩ := id hI
  have hne : ne < 2 ^ 31 := Nat.lt_of_le_of_lt iE.1 (by decide)
  have hnb : nb < 2 ^ 31 := Nat.lt_of_le_of_lt iB.1 (by decide)
  have hno : no < 2 ^ 31 := Nat.lt_of_le_of_lt iO.1 (by decide)
  refine lr3 (Iff.rfl) (fun q => ⟨fun z => z.2, fun z => ⟨q, z⟩⟩) (fun q _ => by rw [RI_pl hI (inx_lt q hno)]) h1 h2 (fun q1 q2 q3 hk hK hok => ?_) (fun hE t h0 hkt hbad => ?_)
  · obtain ⟨hb, hx⟩ := hok
    have ho9 := inx_lt q1 hno
    have hbn : (zpl ar p0.toNatClampNeg nb).toNatClampNeg < nb := by
      obtain ⟨i, hi, ei, -⟩ := zbest_in (p := zrt ar p0.toNatClampNeg) (u := ar 8) q3
      show ((zbest (zrt ar p0.toNatClampNeg) (ar 8) nb).1).toNatClampNeg < nb
      rw [ei, nI_clamp (by omega)]
      exact hi
    exact lr_ok hI hm ht ho hk hK hed1 (hb.trans (RI_pl hI ho9).symm) hx hed2 ⟨rfl, rfl, rfl⟩ (fun k _ _ => by rw [← RI_pl hI ho9, (RI_dye hI ho9 hbn).2]) (fun i _ => (congrFun mdye_21 i).trans (congrFun zdye_21 i).symm) rfl (krN_cg (krN_le hN (Nat.le_succ n)) (fun i _ => congrFun mdye_21 i))
  · subst hkt
    exact lr_bad hI hm ht ho h0 hE hbad.2 hed2 hN
set_option maxHeartbeats 2000000 in
theorem kc_dye {g : gG} {M M_ M2 : Mp} {x mo o n : Nat} {tg : Nat → Nat} {A : Nat → Nat → Nat} {pr br : Nat → Bool} {np : Nat → Nat} {hh : Nat → Nat → Nat} {ne nb no : Nat} {sc : Nat → Int32} {ar : Nat → Nat → Int32} {f0 : Nat → Int64} {ad : Nat → Nat} {k b : Int32} (hI : RI g M x tg A pr br np hh ne nb no sc ar) (hm : MI g M mo ad sc ar) (ht : krT tg mo o ad) (ho : M o = some (eL g 1 f0)) (hN : krN n ar) (hn : n ≤ 512) (hed1 : M_ (g.2.2.2 0) = none) (hed2 : M2 (g.2.2.2 0) = none) (p0 p1 : Int32) (h1 : krQ3 ((inx p0 no ∧ inx p1 nb)) (ar 7 p1.toNatClampNeg = ar 10 p0.toNatClampNeg) (ar 13 p0.toNatClampNeg = 0) (krK g M x o tg (zdst ar p0.toNatClampNeg (ar 8 p1.toNatClampNeg) (zw9 ar p1.toNatClampNeg) (zy8 ar p0.toNatClampNeg) (zy9 ar p0.toNatClampNeg)) (sc) (zdye ar p0.toNatClampNeg p1.toNatClampNeg) M_) (M_ = M) k) (h2 : MQ3 ((inx p0 no) ∧ inx p1 nb) (((inx p0 no) ∧ inx p1 nb) ∧ ar 7 p1.toNatClampNeg = ar 10 p0.toNatClampNeg) (((inx p0 no) ∧ inx p1 nb) ∧ ar 13 p0.toNatClampNeg = 0) (b = (zoff ar (zE ar p0.toNatClampNeg) (ar 8 p1.toNatClampNeg) (zy8 ar p0.toNatClampNeg + zw9 ar p1.toNatClampNeg) (zy9 ar p0.toNatClampNeg)) ∧ MX g M_ M2 mo ad (us sc 23 0) (mdye ar p0.toNatClampNeg p1.toNatClampNeg)) (fun t_ => b = 0 ∧ MX g M_ M2 mo ad (us sc 23 t_) ar)) : krR g M2 x mo o (n + 1) k b := by
  obtain ⟨⟨hs0, hs5, hs9⟩, iX, iE, iB, iO, iW, iL, iC⟩ := id hI
  have hne : ne < 2 ^ 31 := Nat.lt_of_le_of_lt iE.1 (by decide)
  have hnb : nb < 2 ^ 31 := Nat.lt_of_le_of_lt iB.1 (by decide)
  have hno : no < 2 ^ 31 := Nat.lt_of_le_of_lt iO.1 (by decide)
  refine lr3 (Iff.rfl) (fun q => ⟨fun z => z.2, fun z => ⟨q, z⟩⟩) (fun q _ => ⟨fun z => z.2, fun z => ⟨q, z⟩⟩) h1 h2 (fun q1 q2 q3 hk hK hok => ?_) (fun hE t h0 hkt hbad => ?_)
  · obtain ⟨hb, hx⟩ := hok
    exact lr_ok hI hm ht ho hk hK hed1 (hb.trans (RI_dye hI (inx_lt q1.1 hno) (inx_lt q1.2 hnb)).1.symm) hx hed2 ⟨rfl, rfl, rfl⟩ (fun k _ _ => by rw [(RI_dye hI (inx_lt q1.1 hno) (inx_lt q1.2 hnb)).2]) (fun i _ => (congrFun mdye_21 i).trans (congrFun zdye_21 i).symm) rfl (krN_cg (krN_le hN (Nat.le_succ n)) (fun i _ => congrFun mdye_21 i))
  · subst hkt
    exact lr_bad hI hm ht ho h0 hE hbad.2 hed2 hN
set_option maxHeartbeats 2000000 in
theorem kc_claim {g : gG} {M M_ M2 : Mp} {x mo o n : Nat} {tg : Nat → Nat} {A : Nat → Nat → Nat} {pr br : Nat → Bool} {np : Nat → Nat} {hh : Nat → Nat → Nat} {ne nb no : Nat} {sc : Nat → Int32} {ar : Nat → Nat → Int32} {f0 : Nat → Int64} {ad : Nat → Nat} {k b : Int32} (hI : RI g M x tg A pr br np hh ne nb no sc ar) (hm : MI g M mo ad sc ar) (ht : krT tg mo o ad) (ho : M o = some (eL g 1 f0)) (hN : krN n ar) (hn : n ≤ 512) (hed1 : M_ (g.2.2.2 0) = none) (hed2 : M2 (g.2.2.2 0) = none) (p0 : Int32) (h1 : krQ2 (inx p0 no) ((ar 13 p0.toNatClampNeg = 1 ∧ ¬ zdst ar p0.toNatClampNeg (ar 15 p0.toNatClampNeg) (ar 16 p0.toNatClampNeg) (ar 17 p0.toNatClampNeg) (ar 18 p0.toNatClampNeg) ≤ ar 2 (zE ar p0.toNatClampNeg))) (krK g M x o tg (zbl ar p0.toNatClampNeg) (sc) (ua (ua ar 13 (upd (ar 13) p0.toNatClampNeg 2)) 19 (upd (ar 19) (zbix ar p0.toNatClampNeg) (ar 19 (zbix ar p0.toNatClampNeg) + 1))) M_) (M_ = M) k) (h2 : MQ2 (inx p0 no) (((inx p0 no) ∧ ar 13 p0.toNatClampNeg = 1) ∧ ¬ zmof ar p0.toNatClampNeg ≤ ar 2 (zE ar p0.toNatClampNeg)) (b = (zmbl ar p0.toNatClampNeg) ∧ MX g M_ M2 mo ad (us sc 23 0) (ua (ua ar 13 (upd (ar 13) p0.toNatClampNeg 2)) 19 (upd (ar 19) (zmix ar p0.toNatClampNeg) (ar 19 (zmix ar p0.toNatClampNeg) + 1)))) (fun t_ => b = 0 ∧ MX g M_ M2 mo ad (us sc 23 t_) ar)) : krR g M2 x mo o (n + 1) k b := by
  obtain ⟨⟨hs0, hs5, hs9⟩, iX, iE, iB, iO, iW, iL, iC⟩ := id hI
  have hne : ne < 2 ^ 31 := Nat.lt_of_le_of_lt iE.1 (by decide)
  have hnb : nb < 2 ^ 31 := Nat.lt_of_le_of_lt iB.1 (by decide)
  have hno : no < 2 ^ 31 := Nat.lt_of_le_of_lt iO.1 (by decide)
  refine lr2 (Iff.rfl) (fun q => ⟨fun z => ⟨z.1.2, fun w => z.2 (by rw [← RI_of hI (inx_lt q hno) (by rw [z.1.2]; decide)]; exact w)⟩, fun z => ⟨⟨q, z.1⟩, fun w => z.2 (by rw [RI_of hI (inx_lt q hno) (by rw [z.1]; decide)]; exact w)⟩⟩) h1 h2 (fun q1 q2 hk hK hok => ?_) (fun hE t h0 hkt hbad => ?_)
  · obtain ⟨hb, hx⟩ := hok
    have ho9 := inx_lt q1 hno
    have h13 : ¬ ar 13 p0.toNatClampNeg = 0 := by rw [q2.1]; decide
    exact lr_ok hI hm ht ho hk hK hed1 (hb.trans (RI_bl hI ho9 h13).symm) hx hed2 ⟨rfl, rfl, rfl⟩ (fun k _ _ => by rw [RI_ix hI ho9 h13]) (fun i _ => (congrFun (ua2_21 (by decide) (by decide)) i).trans (congrFun (ua2_21 (by decide) (by decide)) i).symm) rfl (krN_cg (krN_le hN (Nat.le_succ n)) (fun i _ => congrFun (ua2_21 (by decide) (by decide)) i))
  · subst hkt
    exact lr_bad hI hm ht ho h0 hE hbad.2 hed2 hN
set_option maxHeartbeats 2000000 in
theorem kc_stateOf {g : gG} {M M_ M2 : Mp} {x mo o n : Nat} {tg : Nat → Nat} {A : Nat → Nat → Nat} {pr br : Nat → Bool} {np : Nat → Nat} {hh : Nat → Nat → Nat} {ne nb no : Nat} {sc : Nat → Int32} {ar : Nat → Nat → Int32} {f0 : Nat → Int64} {ad : Nat → Nat} {k b : Int32} (hI : RI g M x tg A pr br np hh ne nb no sc ar) (hm : MI g M mo ad sc ar) (ht : krT tg mo o ad) (ho : M o = some (eL g 1 f0)) (hN : krN n ar) (hn : n ≤ 512) (hed1 : M_ (g.2.2.2 0) = none) (hed2 : M2 (g.2.2.2 0) = none) (p0 : Int32) (h1 : krQ1 (inx p0 no) (krK g M x o tg (ar 13 p0.toNatClampNeg) (sc) (ar) M_) (M_ = M) k) (h2 : MQ1 (inx p0 no) (b = (ar 13 p0.toNatClampNeg) ∧ MX g M_ M2 mo ad (us sc 23 0) (ar)) (fun t_ => b = 0 ∧ MX g M_ M2 mo ad (us sc 23 t_) ar)) : krR g M2 x mo o (n + 1) k b := by
  obtain ⟨⟨hs0, hs5, hs9⟩, iX, iE, iB, iO, iW, iL, iC⟩ := id hI
  have hne : ne < 2 ^ 31 := Nat.lt_of_le_of_lt iE.1 (by decide)
  have hnb : nb < 2 ^ 31 := Nat.lt_of_le_of_lt iB.1 (by decide)
  have hno : no < 2 ^ 31 := Nat.lt_of_le_of_lt iO.1 (by decide)
  refine lr1 (Iff.rfl) h1 h2 (fun q1 hk hK hok => ?_) (fun hE t h0 hkt hbad => ?_)
  · obtain ⟨hb, hx⟩ := hok
    exact lr_ok hI hm ht ho hk hK hed1 (hb) hx hed2 ⟨rfl, rfl, rfl⟩ (fun _ _ _ => rfl) (fun _ _ => rfl) rfl (krN_cg (krN_le hN (Nat.le_succ n)) (fun _ _ => rfl))
  · subst hkt
    exact lr_bad hI hm ht ho h0 hE hbad.2 hed2 hN
set_option maxHeartbeats 2000000 in
theorem kc_colour {g : gG} {M M_ M2 : Mp} {x mo o n : Nat} {tg : Nat → Nat} {A : Nat → Nat → Nat} {pr br : Nat → Bool} {np : Nat → Nat} {hh : Nat → Nat → Nat} {ne nb no : Nat} {sc : Nat → Int32} {ar : Nat → Nat → Int32} {f0 : Nat → Int64} {ad : Nat → Nat} {k b : Int32} (hI : RI g M x tg A pr br np hh ne nb no sc ar) (hm : MI g M mo ad sc ar) (ht : krT tg mo o ad) (ho : M o = some (eL g 1 f0)) (hN : krN n ar) (hn : n ≤ 512) (hed1 : M_ (g.2.2.2 0) = none) (hed2 : M2 (g.2.2.2 0) = none) (p0 p1 : Int32) (h1 : krQ2 ((inx p0 no ∧ inx p1 2)) (¬ ar 13 p0.toNatClampNeg = 0) (krK g M x o tg (zcol ar p0.toNatClampNeg p1) (sc) (ar) M_) (M_ = M) k) (h2 : MQ2 ((inx p0 no) ∧ inx p1 2) (((inx p0 no) ∧ inx p1 2) ∧ ¬ ar 13 p0.toNatClampNeg = 0) (b = (zmcol ar p0.toNatClampNeg p1) ∧ MX g M_ M2 mo ad (us sc 23 0) (ar)) (fun t_ => b = 0 ∧ MX g M_ M2 mo ad (us sc 23 t_) ar)) : krR g M2 x mo o (n + 1) k b := by
  obtain ⟨⟨hs0, hs5, hs9⟩, iX, iE, iB, iO, iW, iL, iC⟩ := id hI
  have hne : ne < 2 ^ 31 := Nat.lt_of_le_of_lt iE.1 (by decide)
  have hnb : nb < 2 ^ 31 := Nat.lt_of_le_of_lt iB.1 (by decide)
  have hno : no < 2 ^ 31 := Nat.lt_of_le_of_lt iO.1 (by decide)
  refine lr2 (Iff.rfl) (fun q => ⟨fun z => z.2, fun z => ⟨q, z⟩⟩) h1 h2 (fun q1 q2 hk hK hok => ?_) (fun hE t h0 hkt hbad => ?_)
  · obtain ⟨hb, hx⟩ := hok
    exact lr_ok hI hm ht ho hk hK hed1 (hb.trans z_col.symm) hx hed2 ⟨rfl, rfl, rfl⟩ (fun _ _ _ => rfl) (fun _ _ => rfl) rfl (krN_cg (krN_le hN (Nat.le_succ n)) (fun _ _ => rfl))
  · subst hkt
    exact lr_bad hI hm ht ho h0 hE hbad.2 hed2 hN
set_option maxHeartbeats 2000000 in
theorem kc_colourByBath {g : gG} {M M_ M2 : Mp} {x mo o n : Nat} {tg : Nat → Nat} {A : Nat → Nat → Nat} {pr br : Nat → Bool} {np : Nat → Nat} {hh : Nat → Nat → Nat} {ne nb no : Nat} {sc : Nat → Int32} {ar : Nat → Nat → Int32} {f0 : Nat → Int64} {ad : Nat → Nat} {k b : Int32} (hI : RI g M x tg A pr br np hh ne nb no sc ar) (hm : MI g M mo ad sc ar) (ht : krT tg mo o ad) (ho : M o = some (eL g 1 f0)) (hN : krN n ar) (hn : n ≤ 512) (hed1 : M_ (g.2.2.2 0) = none) (hed2 : M2 (g.2.2.2 0) = none) (p0 p1 : Int32) (h1 : krQ2 ((inx p0 no ∧ inx p1 2)) (¬ ar 13 p0.toNatClampNeg = 0) (krK g M x o tg (zcol ar p0.toNatClampNeg p1) (sc) (ar) M_) (M_ = M) k) (h2 : MQ2 ((inx p0 no) ∧ inx p1 2) (((inx p0 no) ∧ inx p1 2) ∧ ¬ ar 13 p0.toNatClampNeg = 0) (b = (zmcol ar p0.toNatClampNeg p1) ∧ MX g M_ M2 mo ad (us sc 23 0) (ar)) (fun t_ => b = 0 ∧ MX g M_ M2 mo ad (us sc 23 t_) ar)) : krR g M2 x mo o (n + 1) k b := by
  obtain ⟨⟨hs0, hs5, hs9⟩, iX, iE, iB, iO, iW, iL, iC⟩ := id hI
  have hne : ne < 2 ^ 31 := Nat.lt_of_le_of_lt iE.1 (by decide)
  have hnb : nb < 2 ^ 31 := Nat.lt_of_le_of_lt iB.1 (by decide)
  have hno : no < 2 ^ 31 := Nat.lt_of_le_of_lt iO.1 (by decide)
  refine lr2 (Iff.rfl) (fun q => ⟨fun z => z.2, fun z => ⟨q, z⟩⟩) h1 h2 (fun q1 q2 hk hK hok => ?_) (fun hE t h0 hkt hbad => ?_)
  · obtain ⟨hb, hx⟩ := hok
    exact lr_ok hI hm ht ho hk hK hed1 (hb.trans z_col.symm) hx hed2 ⟨rfl, rfl, rfl⟩ (fun _ _ _ => rfl) (fun _ _ => rfl) rfl (krN_cg (krN_le hN (Nat.le_succ n)) (fun _ _ => rfl))
  · subst hkt
    exact lr_bad hI hm ht ho h0 hE hbad.2 hed2 hN
set_option maxHeartbeats 2000000 in
theorem kc_blamed {g : gG} {M M_ M2 : Mp} {x mo o n : Nat} {tg : Nat → Nat} {A : Nat → Nat → Nat} {pr br : Nat → Bool} {np : Nat → Nat} {hh : Nat → Nat → Nat} {ne nb no : Nat} {sc : Nat → Int32} {ar : Nat → Nat → Int32} {f0 : Nat → Int64} {ad : Nat → Nat} {k b : Int32} (hI : RI g M x tg A pr br np hh ne nb no sc ar) (hm : MI g M mo ad sc ar) (ht : krT tg mo o ad) (ho : M o = some (eL g 1 f0)) (hN : krN n ar) (hn : n ≤ 512) (hed1 : M_ (g.2.2.2 0) = none) (hed2 : M2 (g.2.2.2 0) = none) (p0 p1 : Int32) (h1 : krQ2 (inx p0 3) (inr p1 0 2) (krK g M x o tg (ar 19 (3 * p0.toNatClampNeg + p1.toNatClampNeg)) (sc) (ar) M_) (M_ = M) k) (h2 : MQ2 (inx p0 3) (inr p1 0 2) (b = (ar 19 (3 * p0.toNatClampNeg + p1.toNatClampNeg)) ∧ MX g M_ M2 mo ad (us sc 23 0) (ar)) (fun t_ => b = 0 ∧ MX g M_ M2 mo ad (us sc 23 t_) ar)) : krR g M2 x mo o (n + 1) k b := by
  obtain ⟨⟨hs0, hs5, hs9⟩, iX, iE, iB, iO, iW, iL, iC⟩ := id hI
  have hne : ne < 2 ^ 31 := Nat.lt_of_le_of_lt iE.1 (by decide)
  have hnb : nb < 2 ^ 31 := Nat.lt_of_le_of_lt iB.1 (by decide)
  have hno : no < 2 ^ 31 := Nat.lt_of_le_of_lt iO.1 (by decide)
  refine lr2 (Iff.rfl) (fun _ => Iff.rfl) h1 h2 (fun q1 q2 hk hK hok => ?_) (fun hE t h0 hkt hbad => ?_)
  · obtain ⟨hb, hx⟩ := hok
    exact lr_ok hI hm ht ho hk hK hed1 (hb) hx hed2 ⟨rfl, rfl, rfl⟩ (fun _ _ _ => rfl) (fun _ _ => rfl) rfl (krN_cg (krN_le hN (Nat.le_succ n)) (fun _ _ => rfl))
  · subst hkt
    exact lr_bad hI hm ht ho h0 hE hbad.2 hed2 hN
set_option maxHeartbeats 2000000 in
theorem kc_shrinks {g : gG} {M M_ M2 : Mp} {x mo o n : Nat} {tg : Nat → Nat} {A : Nat → Nat → Nat} {pr br : Nat → Bool} {np : Nat → Nat} {hh : Nat → Nat → Nat} {ne nb no : Nat} {sc : Nat → Int32} {ar : Nat → Nat → Int32} {f0 : Nat → Int64} {ad : Nat → Nat} {k b : Int32} (hI : RI g M x tg A pr br np hh ne nb no sc ar) (hm : MI g M mo ad sc ar) (ht : krT tg mo o ad) (ho : M o = some (eL g 1 f0)) (hN : krN n ar) (hn : n ≤ 512) (hed1 : M_ (g.2.2.2 0) = none) (hed2 : M2 (g.2.2.2 0) = none) (p0 p1 : Int32) (h1 : krQ2 (inx p0 3) (inr p1 0 90) (krK g M x o tg (ar 20 p0.toNatClampNeg) (sc) (ua ar 20 (upd (ar 20) p0.toNatClampNeg p1)) M_) (M_ = M) k) (h2 : MQ2 (inx p0 3) (inr p1 0 90) (b = (ar 20 p0.toNatClampNeg) ∧ MX g M_ M2 mo ad (us sc 23 0) (ua ar 20 (upd (ar 20) p0.toNatClampNeg p1))) (fun t_ => b = 0 ∧ MX g M_ M2 mo ad (us sc 23 t_) ar)) : krR g M2 x mo o (n + 1) k b := by
  obtain ⟨⟨hs0, hs5, hs9⟩, iX, iE, iB, iO, iW, iL, iC⟩ := id hI
  have hne : ne < 2 ^ 31 := Nat.lt_of_le_of_lt iE.1 (by decide)
  have hnb : nb < 2 ^ 31 := Nat.lt_of_le_of_lt iB.1 (by decide)
  have hno : no < 2 ^ 31 := Nat.lt_of_le_of_lt iO.1 (by decide)
  refine lr2 (Iff.rfl) (fun _ => Iff.rfl) h1 h2 (fun q1 q2 hk hK hok => ?_) (fun hE t h0 hkt hbad => ?_)
  · obtain ⟨hb, hx⟩ := hok
    exact lr_ok hI hm ht ho hk hK hed1 (hb) hx hed2 ⟨rfl, rfl, rfl⟩ (fun _ _ _ => rfl) (fun _ _ => rfl) rfl (krN_cg (krN_le hN (Nat.le_succ n)) (fun _ _ => rfl))
  · subst hkt
    exact lr_bad hI hm ht ho h0 hE hbad.2 hed2 hN
set_option maxHeartbeats 2000000 in
theorem kc_give {g : gG} {M M_ M2 : Mp} {x mo o n : Nat} {tg : Nat → Nat} {A : Nat → Nat → Nat} {pr br : Nat → Bool} {np : Nat → Nat} {hh : Nat → Nat → Nat} {ne nb no : Nat} {sc : Nat → Int32} {ar : Nat → Nat → Int32} {f0 : Nat → Int64} {ad : Nat → Nat} {k b : Int32} (hI : RI g M x tg A pr br np hh ne nb no sc ar) (hm : MI g M mo ad sc ar) (ht : krT tg mo o ad) (ho : M o = some (eL g 1 f0)) (hN : krN n ar) (hn : n ≤ 512) (hed1 : M_ (g.2.2.2 0) = none) (hed2 : M2 (g.2.2.2 0) = none) (p0 p1 p2 p3 : Int32) (h1 : krQ3 (((inx p0 5 ∧ inx p1 5) ∧ inx p2 3)) ((¬ p0 = p1 ∧ inr p3 1 1000)) (ar 21 (25 * p2.toNatClampNeg + 5 * p1.toNatClampNeg + p0.toNatClampNeg) + zsh p3 (ar 20 p2.toNatClampNeg) ≤ 100000) (krK g M x o tg (ar 21 (25 * p2.toNatClampNeg + 5 * p1.toNatClampNeg + p0.toNatClampNeg) + zsh p3 (ar 20 p2.toNatClampNeg)) (sc) (ua ar 21 (upd (ar 21) (25 * p2.toNatClampNeg + 5 * p1.toNatClampNeg + p0.toNatClampNeg) (ar 21 (25 * p2.toNatClampNeg + 5 * p1.toNatClampNeg + p0.toNatClampNeg) + zsh p3 (ar 20 p2.toNatClampNeg)))) M_) (M_ = M) k) (h2 : MQ3 (((inx p0 5) ∧ inx p1 5) ∧ inx p2 3) (((((inx p0 5) ∧ inx p1 5) ∧ inx p2 3) ∧ ¬ p0 = p1) ∧ inr p3 1 1000) (ar 21 (25 * p2.toNatClampNeg + 5 * p1.toNatClampNeg + p0.toNatClampNeg) + zsh p3 (ar 20 p2.toNatClampNeg) ≤ 100000) (b = (ar 21 (25 * p2.toNatClampNeg + 5 * p1.toNatClampNeg + p0.toNatClampNeg) + zsh p3 (ar 20 p2.toNatClampNeg)) ∧ MX g M_ M2 mo ad (us sc 23 0) (ua ar 21 (upd (ar 21) (25 * p2.toNatClampNeg + 5 * p1.toNatClampNeg + p0.toNatClampNeg) (ar 21 (25 * p2.toNatClampNeg + 5 * p1.toNatClampNeg + p0.toNatClampNeg) + zsh p3 (ar 20 p2.toNatClampNeg))))) (fun t_ => b = 0 ∧ MX g M_ M2 mo ad (us sc 23 t_) ar)) : krR g M2 x mo o (n + 1) k b := by
  obtain ⟨⟨hs0, hs5, hs9⟩, iX, iE, iB, iO, iW, iL, iC⟩ := id hI
  have hne : ne < 2 ^ 31 := Nat.lt_of_le_of_lt iE.1 (by decide)
  have hnb : nb < 2 ^ 31 := Nat.lt_of_le_of_lt iB.1 (by decide)
  have hno : no < 2 ^ 31 := Nat.lt_of_le_of_lt iO.1 (by decide)
  refine lr3 (Iff.rfl) (fun q => ⟨fun z => ⟨z.1.2, z.2⟩, fun z => ⟨⟨q, z.1⟩, z.2⟩⟩) (fun _ _ => Iff.rfl) h1 h2 (fun q1 q2 q3 hk hK hok => ?_) (fun hE t h0 hkt hbad => ?_)
  · obtain ⟨hb, hx⟩ := hok
    have hc := inx_lt q1.2 (by decide)
    have hz := zsh_rng (rng_of (a := 1) (b := 1000) q2.2 (by decide) (by decide)) (iC.2 _ hc).2.1
    exact lr_ok hI hm ht ho hk hK hed1 (hb) hx hed2 ⟨rfl, rfl, rfl⟩ (fun _ _ _ => rfl) (fun _ _ => rfl) rfl (krN_give hN hn hc (inx_lt q1.1.2 (by decide)) (inx_lt q1.1.1 (by decide)) rfl hz.1 hz.2)
  · subst hkt
    exact lr_bad hI hm ht ho h0 hE hbad.2 hed2 hN
set_option maxHeartbeats 2000000 in
theorem kc_owes {g : gG} {M M_ M2 : Mp} {x mo o n : Nat} {tg : Nat → Nat} {A : Nat → Nat → Nat} {pr br : Nat → Bool} {np : Nat → Nat} {hh : Nat → Nat → Nat} {ne nb no : Nat} {sc : Nat → Int32} {ar : Nat → Nat → Int32} {f0 : Nat → Int64} {ad : Nat → Nat} {k b : Int32} (hI : RI g M x tg A pr br np hh ne nb no sc ar) (hm : MI g M mo ad sc ar) (ht : krT tg mo o ad) (ho : M o = some (eL g 1 f0)) (hN : krN n ar) (hn : n ≤ 512) (hed1 : M_ (g.2.2.2 0) = none) (hed2 : M2 (g.2.2.2 0) = none) (p0 p1 p2 : Int32) (h1 : krQ1 (((inx p0 5 ∧ inx p1 5) ∧ inx p2 3)) (krK g M x o tg (ar 21 (25 * p2.toNatClampNeg + 5 * p0.toNatClampNeg + p1.toNatClampNeg)) (sc) (ar) M_) (M_ = M) k) (h2 : MQ1 (((inx p0 5) ∧ inx p1 5) ∧ inx p2 3) (b = (ar 21 (25 * p2.toNatClampNeg + 5 * p0.toNatClampNeg + p1.toNatClampNeg)) ∧ MX g M_ M2 mo ad (us sc 23 0) (ar)) (fun t_ => b = 0 ∧ MX g M_ M2 mo ad (us sc 23 t_) ar)) : krR g M2 x mo o (n + 1) k b := by
  obtain ⟨⟨hs0, hs5, hs9⟩, iX, iE, iB, iO, iW, iL, iC⟩ := id hI
  have hne : ne < 2 ^ 31 := Nat.lt_of_le_of_lt iE.1 (by decide)
  have hnb : nb < 2 ^ 31 := Nat.lt_of_le_of_lt iB.1 (by decide)
  have hno : no < 2 ^ 31 := Nat.lt_of_le_of_lt iO.1 (by decide)
  refine lr1 (Iff.rfl) h1 h2 (fun q1 hk hK hok => ?_) (fun hE t h0 hkt hbad => ?_)
  · obtain ⟨hb, hx⟩ := hok
    exact lr_ok hI hm ht ho hk hK hed1 (hb) hx hed2 ⟨rfl, rfl, rfl⟩ (fun _ _ _ => rfl) (fun _ _ => rfl) rfl (krN_cg (krN_le hN (Nat.le_succ n)) (fun _ _ => rfl))
  · subst hkt
    exact lr_bad hI hm ht ho h0 hE hbad.2 hed2 hN
set_option maxHeartbeats 2000000 in
theorem kc_position {g : gG} {M M_ M2 : Mp} {x mo o n : Nat} {tg : Nat → Nat} {A : Nat → Nat → Nat} {pr br : Nat → Bool} {np : Nat → Nat} {hh : Nat → Nat → Nat} {ne nb no : Nat} {sc : Nat → Int32} {ar : Nat → Nat → Int32} {f0 : Nat → Int64} {ad : Nat → Nat} {k b : Int32} (hI : RI g M x tg A pr br np hh ne nb no sc ar) (hm : MI g M mo ad sc ar) (ht : krT tg mo o ad) (ho : M o = some (eL g 1 f0)) (hN : krN n ar) (hn : n ≤ 512) (hed1 : M_ (g.2.2.2 0) = none) (hed2 : M2 (g.2.2.2 0) = none) (p0 p1 : Int32) (h1 : krQ1 ((inx p0 5 ∧ inx p1 3)) (krK g M x o tg (zbal (zD ar p1.toNatClampNeg) p0.toNatClampNeg 5) (sc) (ar) M_) (M_ = M) k) (h2 : MQ1 ((inx p0 5) ∧ inx p1 3) (b = (zbal (zD ar p1.toNatClampNeg) p0.toNatClampNeg 5) ∧ MX g M_ M2 mo ad (us sc 23 0) (ar)) (fun t_ => b = 0 ∧ MX g M_ M2 mo ad (us sc 23 t_) ar)) : krR g M2 x mo o (n + 1) k b := by
  obtain ⟨⟨hs0, hs5, hs9⟩, iX, iE, iB, iO, iW, iL, iC⟩ := id hI
  have hne : ne < 2 ^ 31 := Nat.lt_of_le_of_lt iE.1 (by decide)
  have hnb : nb < 2 ^ 31 := Nat.lt_of_le_of_lt iB.1 (by decide)
  have hno : no < 2 ^ 31 := Nat.lt_of_le_of_lt iO.1 (by decide)
  refine lr1 (Iff.rfl) h1 h2 (fun q1 hk hK hok => ?_) (fun hE t h0 hkt hbad => ?_)
  · obtain ⟨hb, hx⟩ := hok
    exact lr_ok hI hm ht ho hk hK hed1 (hb) hx hed2 ⟨rfl, rfl, rfl⟩ (fun _ _ _ => rfl) (fun _ _ => rfl) rfl (krN_cg (krN_le hN (Nat.le_succ n)) (fun _ _ => rfl))
  · subst hkt
    exact lr_bad hI hm ht ho h0 hE hbad.2 hed2 hN
set_option maxHeartbeats 2000000 in
theorem kc_net {g : gG} {M M_ M2 : Mp} {x mo o n : Nat} {tg : Nat → Nat} {A : Nat → Nat → Nat} {pr br : Nat → Bool} {np : Nat → Nat} {hh : Nat → Nat → Nat} {ne nb no : Nat} {sc : Nat → Int32} {ar : Nat → Nat → Int32} {f0 : Nat → Int64} {ad : Nat → Nat} {k b : Int32} (hI : RI g M x tg A pr br np hh ne nb no sc ar) (hm : MI g M mo ad sc ar) (ht : krT tg mo o ad) (ho : M o = some (eL g 1 f0)) (hN : krN n ar) (hn : n ≤ 512) (hed1 : M_ (g.2.2.2 0) = none) (hed2 : M2 (g.2.2.2 0) = none) (p0 : Int32) (h1 : krQ1 (inx p0 3) (krK g M x o tg (nI (znet 5 ar p0.toNatClampNeg).1) (sc) (ua ar 21 (znetf ar p0.toNatClampNeg)) M_) (M_ = M) k) (h2 : MQ1 (inx p0 3) (b = nI (znet 5 ar p0.toNatClampNeg).1 ∧ ∃ U9 D9, MX g M_ M2 mo ad (us sc 23 0) (ua (ua ar 22 U9) 21 D9) ∧ (∀ i j, i < 5 → j < 5 → D9 (25 * p0.toNatClampNeg + 5 * i + j) = (znet 5 ar p0.toNatClampNeg).2.1 i j) ∧ ∀ t, t < 25 * p0.toNatClampNeg ∨ 25 * p0.toNatClampNeg + 25 ≤ t → D9 t = ar 21 t) (fun t_ => b = 0 ∧ MX g M_ M2 mo ad (us sc 23 t_) ar)) : krR g M2 x mo o (n + 1) k b := by
  obtain ⟨⟨hs0, hs5, hs9⟩, iX, iE, iB, iO, iW, iL, iC⟩ := id hI
  have hne : ne < 2 ^ 31 := Nat.lt_of_le_of_lt iE.1 (by decide)
  have hnb : nb < 2 ^ 31 := Nat.lt_of_le_of_lt iB.1 (by decide)
  have hno : no < 2 ^ 31 := Nat.lt_of_le_of_lt iO.1 (by decide)
  refine lr1 (Iff.rfl) h1 h2 (fun q1 hk hK hok => ?_) (fun hE t h0 hkt hbad => ?_)
  · obtain ⟨hb, hx⟩ := hok
    obtain ⟨U9, D9, hx, w1, w2⟩ := hx
    exact lr_ok hI hm ht ho hk hK hed1 (hb) hx hed2 ⟨rfl, rfl, rfl⟩ (fun k e1 e2 => by rw [ua_n e1, ua_n e2, ua_n e1]) (fun i _ => znetf_at w1 w2) rfl (krN_net 5 hN hn w1 w2)
  · subst hkt
    exact lr_bad hI hm ht ho h0 hE hbad.2 hed2 hN
