/-! UPDATES OF THE RING -/
def ua (ar : Nat → Nat → Int32) (k : Nat) (f : Nat → Int32) : Nat → Nat → Int32 := fun k' => if k' = k then f else ar k'
theorem ua_s {ar : Nat → Nat → Int32} {k : Nat} {f : Nat → Int32} : ua ar k f k = f := if_pos rfl
theorem ua_n {ar : Nat → Nat → Int32} {k k' : Nat} {f : Nat → Int32} (h : k' ≠ k) : ua ar k f k' = ar k' := if_neg h
theorem upd_s {f : Nat → Int32} {k : Nat} {x : Int32} : upd f k x k = x := if_pos rfl
theorem upd_n {f : Nat → Int32} {k j : Nat} {x : Int32} (h : j ≠ k) : upd f k x j = f j := if_neg h
def ub (p : Nat → Bool) (k : Nat) (x : Bool) : Nat → Bool := fun j => if j = k then x else p j
theorem ub_s {p : Nat → Bool} {k : Nat} {x : Bool} : ub p k x k = x := if_pos rfl
theorem ub_n {p : Nat → Bool} {k j : Nat} {x : Bool} (h : j ≠ k) : ub p k x j = p j := if_neg h
def un (p : Nat → Nat) (k : Nat) (x : Nat) : Nat → Nat := fun j => if j = k then x else p j
theorem un_s {p : Nat → Nat} {k x : Nat} : un p k x k = x := if_pos rfl
theorem un_n {p : Nat → Nat} {k j x : Nat} (h : j ≠ k) : un p k x j = p j := if_neg h
def us (sc : Nat → Int32) (k : Nat) (x : Int32) : Nat → Int32 := upd sc k x
def uA (A : Nat → Nat → Nat) (k i q : Nat) : Nat → Nat → Nat := fun k' i' => if k' = k ∧ i' = i then q else A k' i'
theorem uA_s {A : Nat → Nat → Nat} {k i q : Nat} : uA A k i q k i = q := if_pos ⟨rfl, rfl⟩
theorem uA_n {A : Nat → Nat → Nat} {k i q k' i' : Nat} (h : ¬ (k' = k ∧ i' = i)) : uA A k i q k' i' = A k' i' := if_neg h
def ut (tg : Nat → Nat) (q t : Nat) : Nat → Nat := fun b => if b = q then t else tg b
theorem ut_s {tg : Nat → Nat} {q t : Nat} : ut tg q t q = t := if_pos rfl
theorem ut_n {tg : Nat → Nat} {q t b : Nat} (h : b ≠ q) : ut tg q t b = tg b := if_neg h
theorem ed_no {g : gG} {s : State} {M : Mp} {H : Heap} (hE : gE g s) (hH : Hw g M H) : M (g.2.2.2 0) = none := by
  cases h : M (g.2.2.2 0) with
  | none => rfl
  | some e => exact absurd (hH.2 _ _ h) (gE_ed hE)
def RIx (g : gG) (M' M : Mp) (x : Nat) (tg : Nat → Nat) (sc : Nat → Int32) (ar : Nat → Nat → Int32) : Prop := ∃ tg' A' pr' br' np' hh' ne' nb' no', RI g M' x tg' A' pr' br' np' hh' ne' nb' no' sc ar ∧ ∀ b, M b ≠ none → 30000 ≤ tg b → M' b = M b ∧ tg' b = tg b
theorem RIx_of {g : gG} {M' M : Mp} {x : Nat} {tg tg' : Nat → Nat} {A A' : Nat → Nat → Nat} {pr br : Nat → Bool} {np : Nat → Nat} {hh : Nat → Nat → Nat} {ne nb no : Nat} {sc : Nat → Int32} {ar : Nat → Nat → Int32} {T : Nat → Prop} (hF : FR g M M' tg tg' A A' T) (hT : ∀ t, 30000 ≤ t → ¬ T t) (hI : RI g M' x tg' A' pr br np hh ne nb no sc ar) : RIx g M' M x tg sc ar := ⟨tg', A', pr, br, np, hh, ne, nb, no, hI, fun b hb ht => hF.1 b hb (hT _ ht)⟩
theorem FR_of {g : gG} {M M' : Mp} {tg : Nat → Nat} {A : Nat → Nat → Nat} {T : Nat → Prop} (h : ∀ b, M b ≠ none → ¬ T (tg b) → M' b = M b) (hed : M' (g.2.2.2 0) = none) : FR g M M' tg tg A A T := ⟨fun b hb ht => ⟨h b hb ht, rfl⟩, fun _ _ _ => rfl, hed⟩
theorem FR_mu {g : gG} {M : Mp} {tg : Nat → Nat} {A : Nat → Nat → Nat} {T : Nat → Prop} {a : Nat} {x e : va_E} (ha : M a = some x) (hT : T (tg a)) (hed : M (g.2.2.2 0) = none) : FR g M (mu M a e) tg tg A A T := FR_of (fun b _ ht => mu_n (fun z => ht (z ▸ hT))) ((mu_n (m_new hed ha).symm).trans hed)
theorem FR_tr {g : gG} {M M1 M2 : Mp} {tg tg1 tg2 : Nat → Nat} {A A1 A2 : Nat → Nat → Nat} {T : Nat → Prop} (h1 : FR g M M1 tg tg1 A A1 T) (h2 : FR g M1 M2 tg1 tg2 A1 A2 T) : FR g M M2 tg tg2 A A2 T := ⟨fun b hb ht => by
  obtain ⟨a, b1⟩ := h1.1 b hb ht
  obtain ⟨c, d⟩ := h2.1 b (by rw [a]; exact hb) (by rw [b1]; exact ht)
  exact ⟨c.trans a, d.trans b1⟩, fun k i ht => (h2.2.1 k i ht).trans (h1.2.1 k i ht), h2.2.2⟩
theorem FR_new {g : gG} {M : Mp} {tg : Nat → Nat} {A : Nat → Nat → Nat} {T : Nat → Prop} {q k i : Nat} {e : va_E} (hq : M q = none) (hg : g.1 ≤ q) (hT : T (1000 * k + i)) (hed : M (g.2.2.2 0) = none) (hx : ¬ g.1 ≤ g.2.2.2 0) : FR g M (mu M q e) tg (ut tg q (1000 * k + i)) A (uA A k i q) T := by
  refine ⟨fun b hb ht => ?_, fun k' i' ht => uA_n (fun z => ht (by rw [z.1, z.2]; exact hT)), (mu_n (fun z => hx (by rw [z]; exact hg))).trans hed⟩
  have hbq : b ≠ q := fun z => hb (z ▸ hq)
  exact ⟨mu_n hbq, ut_n hbq⟩
theorem FR_lt {g : gG} {M M' : Mp} {tg tg' : Nat → Nat} {A A' : Nat → Nat → Nat} {T T' : Nat → Prop} (h : FR g M M' tg tg' A A' T) (hT : ∀ t, T t → T' t) : FR g M M' tg tg' A A' T' := ⟨fun b hb ht => h.1 b hb (fun z => ht (hT _ z)), fun k i ht => h.2.1 k i (fun z => ht (hT _ z)), h.2.2⟩
theorem up_water {g : gG} {M : Mp} {x : Nat} {tg : Nat → Nat} {A : Nat → Nat → Nat} {pr br : Nat → Bool} {np : Nat → Nat} {hh : Nat → Nat → Nat} {ne nb no : Nat} {sc : Nat → Int32} {ar : Nat → Nat → Int32} {f : Nat → Int32} {i : Nat} {v : Int32} (hI : RI g M x tg A pr br np hh ne nb no sc ar) (hed : M (g.2.2.2 0) = none) (hc : cel M tg A 7 0 (eI g 3 f)) (hf : ∀ j, j < 3 → f j = ar 3 j ∧ rng (ar 3 j) (-10) 10) (hv : rng v (-10) 10) : RIx g (mu M (A 7 0) (eI g 3 (upd f i v))) M x tg (sc) (ua ar 3 (upd (ar 3) i v)) := by
  obtain ⟨h0, h1, h2, h3, h4, h5, h6, h7⟩ := id hI
  have n1 := h2.1
  have n2 := h3.1
  have n3 := h4.1
  have hF : FR g M (mu M (A 7 0) (eI g 3 (upd f i v))) tg tg A A (fun t => t = 7000) := FR_mu hc.1 hc.2 hed
  obtain ⟨-, ⟨f1, a1, b1⟩, f2, a2, b2⟩ := h5
  have q1 : ∀ j, j < 3 → upd f i v j = upd (ar 3) i v j ∧ rng (upd (ar 3) i v j) (-10) 10 := fun j hj => by
    by_cases e : j = i
    · rw [e, upd_s, upd_s]; exact ⟨rfl, hv⟩
    · rw [upd_n e, upd_n e]; exact hf j hj
  refine RIx_of (T := fun t => t = 7000) hF (fun t ht => by show ¬ (t = 7000); omega) ⟨h0, RX_keep h1 hF (by show ¬ (0 = 7000); omega) (fun _ _ => rfl), RE_keep h2 hF (fun t ht => by show ¬ (t = 7000); omega) (fun _ _ => rfl) (fun _ _ => rfl), RB_keep h3 hF (Nat.le_refl _) (Nat.le_refl _) (fun t ht => by show ¬ (t = 7000); omega) (fun j hj _ => hF.2.1 6 j (by show ¬ ((1000 * 6 + j) = 7000); omega)) (fun _ _ => ⟨rfl, rfl, fun _ _ => rfl⟩) (fun j _ q => ⟨rfl, rfl, rfl, q⟩) (fun _ _ => ⟨rfl, rfl, rfl⟩), RO_keep h4 hF (Nat.le_refl _) (Nat.le_refl _) (fun t ht => by show ¬ (t = 7000); omega) (fun _ _ => rfl) (fun _ _ => rfl) (fun _ _ => ⟨Nat.le_refl _, fun _ _ => rfl⟩) (fun k hk j hj => by rw [ua_n (by omega)]) (fun _ _ => rfl), ⟨⟨upd f i v, ⟨mu_s, hc.2⟩, fun j hj => by rw [ua_s]; exact q1 j hj⟩, ⟨f1, cel_keep a1 hF (by show ¬ (1000 * 7 + 1 = 7000); omega), b1⟩, f2, cel_keep a2 hF (by show ¬ (1000 * 7 + 2 = 7000); omega), b2⟩, RBl_keep h6 hF (fun t ht => by show ¬ (t = 7000); omega) (fun _ _ => rfl), RC_keep h7 hF (fun t ht => by show ¬ (t = 7000); omega) (fun _ _ => rfl) (fun _ _ => rfl)⟩
theorem up_yarn {g : gG} {M : Mp} {x : Nat} {tg : Nat → Nat} {A : Nat → Nat → Nat} {pr br : Nat → Bool} {np : Nat → Nat} {hh : Nat → Nat → Nat} {ne nb no : Nat} {sc : Nat → Int32} {ar : Nat → Nat → Int32} {f f2 : Nat → Int32} {i : Nat} {v w : Int32} (hI : RI g M x tg A pr br np hh ne nb no sc ar) (hed : M (g.2.2.2 0) = none) (hc : cel M tg A 7 1 (eI g 4 f)) (hf : ∀ j, j < 4 → f j = ar 4 (2 * j) ∧ rng (ar 4 (2 * j)) (-10) 10) (hc2 : cel M tg A 7 2 (eI g 4 f2)) (hf2 : ∀ j, j < 4 → f2 j = ar 4 (2 * j + 1) ∧ rng (ar 4 (2 * j + 1)) (-10) 10) (hv : rng v (-10) 10) (hw : rng w (-10) 10) : RIx g (mu (mu M (A 7 1) (eI g 4 (upd f i v))) (A 7 2) (eI g 4 (upd f2 i w))) M x tg (sc) (ua ar 4 (upd (upd (ar 4) (2 * i) v) (2 * i + 1) w)) := by
  obtain ⟨h0, h1, h2, h3, h4, h5, h6, h7⟩ := id hI
  have n1 := h2.1
  have n2 := h3.1
  have n3 := h4.1
  have n12 : A 7 2 ≠ A 7 1 := fun z => by have := hc.2; rw [← z, hc2.2] at this; omega
  have hF1 : FR g M (mu M (A 7 1) (eI g 4 (upd f i v))) tg tg A A (fun t => t = 7001 ∨ t = 7002) := FR_mu hc.1 (Or.inl hc.2) hed
  have hF : FR g M (mu (mu M (A 7 1) (eI g 4 (upd f i v))) (A 7 2) (eI g 4 (upd f2 i w))) tg tg A A (fun t => t = 7001 ∨ t = 7002) := FR_tr hF1 (FR_mu ((mu_n n12).trans hc2.1) (Or.inr hc2.2) hF1.2.2)
  obtain ⟨⟨f0, a0, b0⟩, -⟩ := h5
  have q1 : ∀ j, j < 4 → upd f i v j = upd (upd (ar 4) (2 * i) v) (2 * i + 1) w (2 * j) ∧ rng (upd (upd (ar 4) (2 * i) v) (2 * i + 1) w (2 * j)) (-10) 10 := fun j hj => by
    rw [upd_n (show 2 * j ≠ 2 * i + 1 by omega)]
    by_cases e : j = i
    · rw [e, upd_s, upd_s]; exact ⟨rfl, hv⟩
    · rw [upd_n e, upd_n (by omega)]; exact hf j hj
  have q2 : ∀ j, j < 4 → upd f2 i w j = upd (upd (ar 4) (2 * i) v) (2 * i + 1) w (2 * j + 1) ∧ rng (upd (upd (ar 4) (2 * i) v) (2 * i + 1) w (2 * j + 1)) (-10) 10 := fun j hj => by
    by_cases e : j = i
    · rw [e, upd_s, upd_s]; exact ⟨rfl, hw⟩
    · rw [upd_n e, upd_n (by omega), upd_n (by omega)]; exact hf2 j hj
  refine RIx_of (T := fun t => t = 7001 ∨ t = 7002) hF (fun t ht => by show ¬ (t = 7001 ∨ t = 7002); omega) ⟨h0, RX_keep h1 hF (by show ¬ (0 = 7001 ∨ 0 = 7002); omega) (fun _ _ => rfl), RE_keep h2 hF (fun t ht => by show ¬ (t = 7001 ∨ t = 7002); omega) (fun _ _ => rfl) (fun _ _ => rfl), RB_keep h3 hF (Nat.le_refl _) (Nat.le_refl _) (fun t ht => by show ¬ (t = 7001 ∨ t = 7002); omega) (fun j hj _ => hF.2.1 6 j (by show ¬ ((1000 * 6 + j) = 7001 ∨ (1000 * 6 + j) = 7002); omega)) (fun _ _ => ⟨rfl, rfl, fun _ _ => rfl⟩) (fun j _ q => ⟨rfl, rfl, rfl, q⟩) (fun _ _ => ⟨rfl, rfl, rfl⟩), RO_keep h4 hF (Nat.le_refl _) (Nat.le_refl _) (fun t ht => by show ¬ (t = 7001 ∨ t = 7002); omega) (fun _ _ => rfl) (fun _ _ => rfl) (fun _ _ => ⟨Nat.le_refl _, fun _ _ => rfl⟩) (fun k hk j hj => by rw [ua_n (by omega)]) (fun _ _ => rfl), ⟨⟨f0, cel_keep a0 hF (by show ¬ (1000 * 7 + 0 = 7001 ∨ 1000 * 7 + 0 = 7002); omega), b0⟩, ⟨upd f i v, ⟨(mu_n n12.symm).trans mu_s, hc.2⟩, fun j hj => by rw [ua_s]; exact q1 j hj⟩, upd f2 i w, ⟨mu_s, hc2.2⟩, fun j hj => by rw [ua_s]; exact q2 j hj⟩, RBl_keep h6 hF (fun t ht => by show ¬ (t = 7001 ∨ t = 7002); omega) (fun _ _ => rfl), RC_keep h7 hF (fun t ht => by show ¬ (t = 7001 ∨ t = 7002); omega) (fun _ _ => rfl) (fun _ _ => rfl)⟩
theorem up_shrinks {g : gG} {M : Mp} {x : Nat} {tg : Nat → Nat} {A : Nat → Nat → Nat} {pr br : Nat → Bool} {np : Nat → Nat} {hh : Nat → Nat → Nat} {ne nb no : Nat} {sc : Nat → Int32} {ar : Nat → Nat → Int32} {k : Nat} {v : Int32} {f20 : Int32} (hI : RI g M x tg A pr br np hh ne nb no sc ar) (hed : M (g.2.2.2 0) = none) (hk : k < 3) (hv : rng v 0 90) : RIx g (mu M (A 10 k) (eO 2 [.int v, .ref (A 8 (1 + k)), .ref (A 7 (6 + k))])) M x tg (sc) (ua ar 20 (upd (ar 20) k v)) := by
  obtain ⟨h0, h1, h2, h3, h4, h5, h6, h7⟩ := id hI
  have n1 := h2.1
  have n2 := h3.1
  have n3 := h4.1
  obtain ⟨⟨crow, cr1, cr2⟩, iCk⟩ := id h7
  obtain ⟨ck1, ck2, ⟨orow, or1, or2⟩, de0, U, un1⟩ := iCk k hk
  have hF : FR g M (mu M (A 10 k) (eO 2 [.int v, .ref (A 8 (1 + k)), .ref (A 7 (6 + k))])) tg tg A A (fun t => t = 10000 + k) := FR_mu ck1.1 (by show _ = _; rw [ck1.2]) hed
  have nt : ∀ t, ¬ t = 10000 + k → ¬ (fun t => t = 10000 + k) t := fun t h => h
  refine RIx_of (T := fun t => t = 10000 + k) hF (fun t ht => by show ¬ (t = 10000 + k); omega) ⟨h0, RX_keep h1 hF (by show ¬ (0 = 10000 + k); omega) (fun _ _ => rfl), RE_keep h2 hF (fun t ht => by show ¬ (t = 10000 + k); omega) (fun _ _ => rfl) (fun _ _ => rfl), RB_keep h3 hF (Nat.le_refl _) (Nat.le_refl _) (fun t ht => by show ¬ (t = 10000 + k); omega) (fun j hj _ => hF.2.1 6 j (by show ¬ ((1000 * 6 + j) = 10000 + k); omega)) (fun _ _ => ⟨rfl, rfl, fun _ _ => rfl⟩) (fun j _ q => ⟨rfl, rfl, rfl, q⟩) (fun _ _ => ⟨rfl, rfl, rfl⟩), RO_keep h4 hF (Nat.le_refl _) (Nat.le_refl _) (fun t ht => by show ¬ (t = 10000 + k); omega) (fun _ _ => rfl) (fun _ _ => rfl) (fun _ _ => ⟨Nat.le_refl _, fun _ _ => rfl⟩) (fun k hk j hj => by rw [ua_n (by omega)]) (fun _ _ => rfl), RW_keep h5 hF (fun t ht => by show ¬ (t = 10000 + k); omega) (fun _ _ => rfl) (fun _ _ => rfl), RBl_keep h6 hF (fun t ht => by show ¬ (t = 10000 + k); omega) (fun _ _ => rfl), ⟨crow, cel_keep cr1 hF (by show ¬ (1000 * 9 + 0 = 10000 + k); omega), cr2⟩, fun k2 hk2 => ?_⟩
  by_cases e : k2 = k
  · subst e
    refine ⟨?_, by rw [ua_s, upd_s]; exact hv, ⟨orow, cel_keep or1 hF (nt _ (by omega)), or2⟩, fun i hi => by obtain ⟨f, d1, d2⟩ := de0 i hi; exact ⟨f, cel_keep d1 hF (nt _ (by omega)), d2⟩, U, cel_keep un1 hF (nt _ (by omega))⟩
    rw [ua_s, upd_s]
    exact ⟨mu_s, ck1.2⟩
  · exact RC1_keep (iCk k2 hk2) hF (fun t ht => nt _ (by omega)) (by rw [ua_s, upd_n e]) (fun _ _ => rfl)
theorem up_give {g : gG} {M : Mp} {x : Nat} {tg : Nat → Nat} {A : Nat → Nat → Nat} {pr br : Nat → Bool} {np : Nat → Nat} {hh : Nat → Nat → Nat} {ne nb no : Nat} {sc : Nat → Int32} {ar : Nat → Nat → Int32} {k i j : Nat} {v : Int32} {f : Nat → Int32} (hI : RI g M x tg A pr br np hh ne nb no sc ar) (hed : M (g.2.2.2 0) = none) (hk : k < 3) (hi : i < 5) (hj : j < 5) (hc : cel M tg A 7 (10 + 5 * k + i) (eI g 5 f)) (hf : ∀ j, j < 5 → f j = ar 21 (25 * k + 5 * i + j)) : RIx g (mu M (A 7 (10 + 5 * k + i)) (eI g 5 (upd f j v))) M x tg (sc) (ua ar 21 (upd (ar 21) (25 * k + 5 * i + j) v)) := by
  obtain ⟨h0, h1, h2, h3, h4, h5, h6, h7⟩ := id hI
  have n1 := h2.1
  have n2 := h3.1
  have n3 := h4.1
  obtain ⟨⟨crow, cr1, cr2⟩, iCk⟩ := id h7
  obtain ⟨ck1, ck2, ⟨orow, or1, or2⟩, de0, U, un1⟩ := iCk k hk
  have hF : FR g M (mu M (A 7 (10 + 5 * k + i)) (eI g 5 (upd f j v))) tg tg A A (fun t => t = 7010 + 5 * k + i) := FR_mu hc.1 (by show _ = _; rw [hc.2]; omega) hed
  have nt : ∀ t, ¬ t = 7010 + 5 * k + i → ¬ (fun t => t = 7010 + 5 * k + i) t := fun t h => h
  refine RIx_of (T := fun t => t = 7010 + 5 * k + i) hF (fun t ht => by show ¬ (t = 7010 + 5 * k + i); omega) ⟨h0, RX_keep h1 hF (by show ¬ (0 = 7010 + 5 * k + i); omega) (fun _ _ => rfl), RE_keep h2 hF (fun t ht => by show ¬ (t = 7010 + 5 * k + i); omega) (fun _ _ => rfl) (fun _ _ => rfl), RB_keep h3 hF (Nat.le_refl _) (Nat.le_refl _) (fun t ht => by show ¬ (t = 7010 + 5 * k + i); omega) (fun j hj _ => hF.2.1 6 j (by show ¬ ((1000 * 6 + j) = 7010 + 5 * k + i); omega)) (fun _ _ => ⟨rfl, rfl, fun _ _ => rfl⟩) (fun j _ q => ⟨rfl, rfl, rfl, q⟩) (fun _ _ => ⟨rfl, rfl, rfl⟩), RO_keep h4 hF (Nat.le_refl _) (Nat.le_refl _) (fun t ht => by show ¬ (t = 7010 + 5 * k + i); omega) (fun _ _ => rfl) (fun _ _ => rfl) (fun _ _ => ⟨Nat.le_refl _, fun _ _ => rfl⟩) (fun k hk j hj => by rw [ua_n (by omega)]) (fun _ _ => rfl), RW_keep h5 hF (fun t ht => by show ¬ (t = 7010 + 5 * k + i); omega) (fun _ _ => rfl) (fun _ _ => rfl), RBl_keep h6 hF (fun t ht => by show ¬ (t = 7010 + 5 * k + i); omega) (fun _ _ => rfl), ⟨crow, cel_keep cr1 hF (nt _ (by omega)), cr2⟩, fun k2 hk2 => ?_⟩
  by_cases e : k2 = k
  · subst e
    refine ⟨cel_keep ck1 hF (nt _ (by omega)), ck2, ⟨orow, cel_keep or1 hF (nt _ (by omega)), or2⟩, fun i2 hi2 => ?_, U, cel_keep un1 hF (nt _ (by omega))⟩
    by_cases ei : i2 = i
    · subst ei
      refine ⟨upd f j v, ⟨mu_s, hc.2⟩, fun j2 hj2 => ?_⟩
      rw [ua_s]
      by_cases ej : j2 = j
      · rw [ej, upd_s, upd_s]
      · rw [upd_n ej, upd_n (by omega)]; exact hf j2 hj2
    · obtain ⟨f2, d1, d2⟩ := de0 i2 hi2
      exact ⟨f2, cel_keep d1 hF (nt _ (by omega)), fun j2 hj2 => by rw [ua_s, upd_n (by omega)]; exact d2 j2 hj2⟩
  · exact RC1_keep (iCk k2 hk2) hF (fun t ht => nt _ (by omega)) rfl (fun i2 hi2 => by rw [ua_s, upd_n (by omega)])
theorem up_net {g : gG} {M : Mp} {x : Nat} {tg : Nat → Nat} {A : Nat → Nat → Nat} {pr br : Nat → Bool} {np : Nat → Nat} {hh : Nat → Nat → Nat} {ne nb no : Nat} {sc : Nat → Int32} {ar : Nat → Nat → Int32} {k : Nat} {M' : Mp} {D U : Nat → Nat → Int32} {U1 : Nat → Int32} {f : Nat → Int32} (hI : RI g M x tg A pr br np hh ne nb no sc ar) (hed : M (g.2.2.2 0) = none) (hk : k < 3) (hu : M' (A 7 (6 + k)) = some (eI g 5 U1)) (hD : ∀ i, i < 5 → M' (A 7 (10 + 5 * k + i)) = some (eI g 5 (D i))) (hfr : ∀ b, b ≠ A 7 (6 + k) → (∀ i, i < 5 → b ≠ A 7 (10 + 5 * k + i)) → M' b = M b) (hf1 : ∀ i j, i < 5 → j < 5 → D i j = f (25 * k + 5 * i + j)) (hf2 : ∀ i, i < 25 * k ∨ 25 * k + 25 ≤ i → f i = ar 21 i) (hed' : M' (g.2.2.2 0) = none) : RIx g (M') M x tg (sc) (ua ar 21 f) := by
  obtain ⟨h0, h1, h2, h3, h4, h5, h6, h7⟩ := id hI
  have n1 := h2.1
  have n2 := h3.1
  have n3 := h4.1
  obtain ⟨⟨crow, cr1, cr2⟩, iCk⟩ := id h7
  obtain ⟨ck1, ck2, ⟨orow, or1, or2⟩, de0, U0, un1⟩ := iCk k hk
  have hF : FR g M M' tg tg A A (fun t => t = 7006 + k ∨ (7010 + 5 * k ≤ t ∧ t < 7015 + 5 * k)) := FR_of (fun b _ ht => hfr b (fun z => ht (Or.inl (by rw [z, un1.2]; omega))) (fun i hi z => ht (Or.inr (by obtain ⟨f0, d1, d2⟩ := de0 i hi; rw [z, d1.2]; omega)))) hed'
  have nt : ∀ t, ¬ (t = 7006 + k ∨ (7010 + 5 * k ≤ t ∧ t < 7015 + 5 * k)) → ¬ (fun t => t = 7006 + k ∨ (7010 + 5 * k ≤ t ∧ t < 7015 + 5 * k)) t := fun t h => h
  refine RIx_of (T := fun t => t = 7006 + k ∨ (7010 + 5 * k ≤ t ∧ t < 7015 + 5 * k)) hF (fun t ht => by show ¬ (t = 7006 + k ∨ (7010 + 5 * k ≤ t ∧ t < 7015 + 5 * k)); omega) ⟨h0, RX_keep h1 hF (by show ¬ (0 = 7006 + k ∨ (7010 + 5 * k ≤ 0 ∧ 0 < 7015 + 5 * k)); omega) (fun _ _ => rfl), RE_keep h2 hF (fun t ht => by show ¬ (t = 7006 + k ∨ (7010 + 5 * k ≤ t ∧ t < 7015 + 5 * k)); omega) (fun _ _ => rfl) (fun _ _ => rfl), RB_keep h3 hF (Nat.le_refl _) (Nat.le_refl _) (fun t ht => by show ¬ (t = 7006 + k ∨ (7010 + 5 * k ≤ t ∧ t < 7015 + 5 * k)); omega) (fun j hj _ => hF.2.1 6 j (by show ¬ ((1000 * 6 + j) = 7006 + k ∨ (7010 + 5 * k ≤ (1000 * 6 + j) ∧ (1000 * 6 + j) < 7015 + 5 * k)); omega)) (fun _ _ => ⟨rfl, rfl, fun _ _ => rfl⟩) (fun j _ q => ⟨rfl, rfl, rfl, q⟩) (fun _ _ => ⟨rfl, rfl, rfl⟩), RO_keep h4 hF (Nat.le_refl _) (Nat.le_refl _) (fun t ht => by show ¬ (t = 7006 + k ∨ (7010 + 5 * k ≤ t ∧ t < 7015 + 5 * k)); omega) (fun _ _ => rfl) (fun _ _ => rfl) (fun _ _ => ⟨Nat.le_refl _, fun _ _ => rfl⟩) (fun k hk j hj => by rw [ua_n (by omega)]) (fun _ _ => rfl), RW_keep h5 hF (fun t ht => by show ¬ (t = 7006 + k ∨ (7010 + 5 * k ≤ t ∧ t < 7015 + 5 * k)); omega) (fun _ _ => rfl) (fun _ _ => rfl), RBl_keep h6 hF (fun t ht => by show ¬ (t = 7006 + k ∨ (7010 + 5 * k ≤ t ∧ t < 7015 + 5 * k)); omega) (fun _ _ => rfl), ⟨crow, cel_keep cr1 hF (nt _ (by omega)), cr2⟩, fun k2 hk2 => ?_⟩
  by_cases e : k2 = k
  · subst e
    refine ⟨cel_keep ck1 hF (nt _ (by omega)), ck2, ⟨orow, cel_keep or1 hF (nt _ (by omega)), or2⟩, fun i hi => ?_, U1, hu, un1.2⟩
    obtain ⟨f0, d1, d2⟩ := de0 i hi
    exact ⟨D i, ⟨hD i hi, d1.2⟩, fun j hj => by rw [ua_s]; exact hf1 i j hi hj⟩
  · exact RC1_keep (iCk k2 hk2) hF (fun t ht => nt _ (by omega)) rfl (fun i2 hi2 => by rw [ua_s]; exact hf2 _ (by omega))
theorem up_freshen {g : gG} {M : Mp} {x : Nat} {tg : Nat → Nat} {A : Nat → Nat → Nat} {pr br : Nat → Bool} {np : Nat → Nat} {hh : Nat → Nat → Nat} {ne nb no : Nat} {sc : Nat → Int32} {ar : Nat → Nat → Int32} {b e : Nat} (hI : RI g M x tg A pr br np hh ne nb no sc ar) (hed : M (g.2.2.2 0) = none) (hb : b < nb) (he : e < ne) (h7e : ar 7 b = nI e) : RIx g (mu M (A 4 b) (eO 1 [.int (ar 6 b), .ref (A 3 e), .int 100, .int 1, .ref (A 1 (3 + b))])) M x tg (sc) (ua ar 8 (upd (ar 8) b 100)) := by
  obtain ⟨h0, h1, h2, h3, h4, h5, h6, h7⟩ := id hI
  have n1 := h2.1
  have n2 := h3.1
  have n3 := h4.1
  obtain ⟨hb0, hbl, hbc⟩ := id h3
  obtain ⟨⟨e0, he0, h70, c1⟩, c2, c3, c4, c5⟩ := hbc b hb
  have hF : FR g M (mu M (A 4 b) (eO 1 [.int (ar 6 b), .ref (A 3 e), .int 100, .int 1, .ref (A 1 (3 + b))])) tg tg A A (fun t => t = 4000 + b) := FR_mu c1.1 (by show _ = _; rw [c1.2]) hed
  have nt : ∀ t, ¬ t = 4000 + b → ¬ (fun t => t = 4000 + b) t := fun t h => h
  refine RIx_of (br := ub br b true) (T := fun t => t = 4000 + b) hF (fun t ht => by show ¬ (t = 4000 + b); omega) ⟨h0, RX_keep h1 hF (by show ¬ (0 = 4000 + b); omega) (fun _ _ => rfl), RE_keep h2 hF (fun t ht => by show ¬ (t = 4000 + b); omega) (fun _ _ => rfl) (fun _ _ => rfl), ?_, RO_keep h4 hF (Nat.le_refl _) (Nat.le_refl _) (fun t ht => by show ¬ (t = 4000 + b); omega) (fun _ _ => rfl) (fun _ _ => rfl) (fun _ _ => ⟨Nat.le_refl _, fun _ _ => rfl⟩) (fun k hk j hj => by rw [ua_n (by omega)]) (fun _ _ => rfl), RW_keep h5 hF (fun t ht => by show ¬ (t = 4000 + b); omega) (fun _ _ => rfl) (fun _ _ => rfl), RBl_keep h6 hF (fun t ht => by show ¬ (t = 4000 + b); omega) (fun _ _ => rfl), RC_keep h7 hF (fun t ht => by show ¬ (t = 4000 + b); omega) (fun _ _ => rfl) (fun _ _ => rfl)⟩
  refine ⟨hb0, lstc_keep hbl hF (nt _ (by omega)) (nt _ (by omega)) (fun _ _ => rfl), fun i hi => ?_⟩
  have cg : ∀ j, j < no → ¬ ar 13 j = 0 → pr j = pr j ∧ ua ar 8 (upd (ar 8) b 100) 11 j = ar 11 j ∧ ua ar 8 (upd (ar 8) b 100) 15 j = ar 15 j ∧ ¬ ua ar 8 (upd (ar 8) b 100) 13 j = 0 := fun j _ q => ⟨rfl, rfl, rfl, q⟩
  by_cases ei : i = b
  · subst ei
    rw [ua_n (show 6 ≠ 8 by decide), ua_n (show 7 ≠ 8 by decide), ua_s, upd_s, ub_s]
    refine ⟨⟨e, he, h7e, mu_s, c1.2⟩, c2, by unfold rng; decide, lstc_keep c4 hF (nt _ (by omega)) (nt _ (by omega)) (fun _ _ => rfl), ?_⟩
    obtain ⟨d1, d2, -⟩ := c5
    exact ⟨d1, d2, by rw [ua_s, upd_s, if_pos ub_s]⟩
  · obtain ⟨⟨e1, k1, k2, k3⟩, k4, k5, k6, k7⟩ := hbc i hi
    rw [ua_n (show 6 ≠ 8 by decide), ua_n (show 7 ≠ 8 by decide), ua_s, upd_n ei, ub_n ei]
    exact ⟨⟨e1, k1, k2, cel_keep k3 hF (nt _ (by omega))⟩, k4, k5, lstc_keep k6 hF (nt _ (by omega)) (nt _ (by omega)) (fun _ _ => rfl), RH_keep k7 (Nat.le_refl _) rfl (ub_n ei) (fun _ _ => rfl) cg (by rw [ua_s, upd_n ei])⟩
theorem up_claim {g : gG} {M : Mp} {x : Nat} {tg : Nat → Nat} {A : Nat → Nat → Nat} {pr br : Nat → Bool} {np : Nat → Nat} {hh : Nat → Nat → Nat} {ne nb no : Nat} {sc : Nat → Int32} {ar : Nat → Nat → Int32} {o e y d : Nat} {bl : Nat} {f : Nat → Int32} {v : Int32} (hI : RI g M x tg A pr br np hh ne nb no sc ar) (hed : M (g.2.2.2 0) = none) (ho : o < no) (he : e < ne) (h10e : ar 10 o = nI e) (hs : ar 13 o = 1) (hd : d < 3) (hbl : bl < 3) (hc : cel M tg A 7 (3 + d) (eI g 3 f)) (hf : ∀ j, j < 3 → f j = ar 19 (3 * d + j)) : RIx g (mu (mu M (A 5 o) (eO 4 [.int (nI o), .ref (A 3 e), .int (ar 11 o), .int (ar 12 o), .ref (A 6 o), .int 1])) (A 7 (3 + d)) (eI g 3 (upd f bl v))) M x tg (sc) (ua (ua ar 13 (upd (ar 13) o 2)) 19 (upd (ar 19) (3 * d + bl) v)) := by
  obtain ⟨h0, h1, h2, h3, h4, h5, h6, h7⟩ := id hI
  have n1 := h2.1
  have n2 := h3.1
  have n3 := h4.1
  obtain ⟨ho0, hol, hz, hoc⟩ := id h4
  obtain ⟨e0, y0, k1, k2, k3, k4, k5, k6, k7, k8⟩ := hoc o ho
  obtain ⟨⟨orow, a1, b1⟩, hrow⟩ := id h6
  have n12 : A 7 (3 + d) ≠ A 5 o := fun z => by have := hc.2; rw [z, k7.2] at this; omega
  have hF1 : FR g M (mu M (A 5 o) (eO 4 [.int (nI o), .ref (A 3 e), .int (ar 11 o), .int (ar 12 o), .ref (A 6 o), .int 1])) tg tg A A (fun t => t = 5000 + o ∨ t = 7003 + d) := FR_mu k7.1 (Or.inl (by rw [k7.2])) hed
  have hF : FR g M (mu (mu M (A 5 o) (eO 4 [.int (nI o), .ref (A 3 e), .int (ar 11 o), .int (ar 12 o), .ref (A 6 o), .int 1])) (A 7 (3 + d)) (eI g 3 (upd f bl v))) tg tg A A (fun t => t = 5000 + o ∨ t = 7003 + d) := FR_tr hF1 (FR_mu ((mu_n n12).trans hc.1) (Or.inr (by rw [hc.2]; omega)) hF1.2.2)
  have nt : ∀ t, ¬ (t = 5000 + o ∨ t = 7003 + d) → ¬ (fun t => t = 5000 + o ∨ t = 7003 + d) t := fun t h => h
  have s13 : ∀ j, j ≠ o → ua (ua ar 13 (upd (ar 13) o 2)) 19 (upd (ar 19) (3 * d + bl) v) 13 j = ar 13 j := fun j hj => by rw [ua_n (by decide), ua_s, upd_n hj]
  have s13o : ua (ua ar 13 (upd (ar 13) o 2)) 19 (upd (ar 19) (3 * d + bl) v) 13 o = 2 := by rw [ua_n (by decide), ua_s, upd_s]
  refine RIx_of (T := fun t => t = 5000 + o ∨ t = 7003 + d) hF (fun t ht => by show ¬ (t = 5000 + o ∨ t = 7003 + d); omega) ⟨h0, RX_keep h1 hF (by show ¬ (0 = 5000 + o ∨ 0 = 7003 + d); omega) (fun _ _ => rfl), RE_keep h2 hF (fun t ht => by show ¬ (t = 5000 + o ∨ t = 7003 + d); omega) (fun _ _ => rfl) (fun _ _ => rfl), RB_keep h3 hF (Nat.le_refl _) (Nat.le_refl _) (fun t ht => nt _ (by omega)) (fun j hj _ => hF.2.1 6 j (nt _ (by omega))) (fun _ _ => ⟨rfl, rfl, fun _ _ => rfl⟩) (fun j _ q => ⟨rfl, rfl, rfl, by by_cases ej : j = o <;> first | (rw [ej, s13o]; decide) | (rw [s13 j ej]; exact q)⟩) (fun _ _ => ⟨rfl, rfl, rfl⟩), ?_, RW_keep h5 hF (fun t ht => by show ¬ (t = 5000 + o ∨ t = 7003 + d); omega) (fun _ _ => rfl) (fun _ _ => rfl), ⟨⟨orow, cel_keep a1 hF (nt _ (by omega)), b1⟩, fun i hi => ?_⟩, RC_keep h7 hF (fun t ht => by show ¬ (t = 5000 + o ∨ t = 7003 + d); omega) (fun _ _ => rfl) (fun _ _ => rfl)⟩
  · refine ⟨ho0, lstc_keep hol hF (nt _ (by omega)) (nt _ (by omega)) (fun _ _ => rfl), fun j hj => by rw [s13 j (by omega)]; exact hz j hj, fun j hj => ?_⟩
    have r2 : ∀ k, 10 ≤ k → k ≤ 18 → k ≠ 13 → ua (ua ar 13 (upd (ar 13) o 2)) 19 (upd (ar 19) (3 * d + bl) v) k j = ar k j := fun k q1 q2 q3 => by rw [ua_n (by omega), ua_n q3]
    obtain ⟨e1, y1, m1, m2, m3, m4, m5, m6, m7, m8⟩ := hoc j hj
    have hP : ¬ ar 13 j = 0 → RP (mu (mu M (A 5 o) (eO 4 [.int (nI o), .ref (A 3 e), .int (ar 11 o), .int (ar 12 o), .ref (A 6 o), .int 1])) (A 7 (3 + d)) (eI g 3 (upd f bl v))) tg A pr np hh nb (ua (ua ar 13 (upd (ar 13) o 2)) 19 (upd (ar 19) (3 * d + bl) v)) j e1 := fun q => RP_keep (m8 q) hF (Nat.le_refl _) rfl (fun _ _ => rfl) (nt _ (by omega)) rfl (fun _ _ => ⟨Nat.le_refl _, fun _ _ => rfl⟩) ⟨r2 14 (by decide) (by decide) (by decide), r2 11 (by decide) (by decide) (by decide), r2 15 (by decide) (by decide) (by decide), r2 16 (by decide) (by decide) (by decide), r2 17 (by decide) (by decide) (by decide), r2 18 (by decide) (by decide) (by decide)⟩
    refine ⟨e1, y1, m1, ?_⟩
    rw [r2 10 (by decide) (by decide) (by decide), r2 11 (by decide) (by decide) (by decide), r2 12 (by decide) (by decide) (by decide)]
    by_cases ej : j = o
    · subst ej
      rw [s13o]
      obtain rfl : e1 = e := nI_inj (by omega) (by omega) (m2.symm.trans h10e)
      exact ⟨m2, m3, m4, m5, Or.inr (Or.inr rfl), ⟨(mu_n n12.symm).trans mu_s, m7.2⟩, fun _ => hP (by rw [hs]; decide)⟩
    · rw [s13 j ej]
      exact ⟨m2, m3, m4, m5, m6, cel_keep m7 hF (nt _ (by omega)), hP⟩
  · by_cases ei : i = d
    · subst ei
      refine ⟨upd f bl v, ⟨mu_s, hc.2⟩, fun j hj => ?_⟩
      rw [ua_s]
      by_cases ej : j = bl
      · rw [ej, upd_s, upd_s]
      · rw [upd_n ej, upd_n (by omega)]; exact hf j hj
    · obtain ⟨f0, d1, d2⟩ := hrow i hi
      exact ⟨f0, cel_keep d1 hF (nt _ (by omega)), fun j hj => by rw [ua_s, upd_n (by omega)]; exact d2 j hj⟩
theorem lstc_cg {g : gG} {M : Mp} {tg : Nat → Nat} {A : Nat → Nat → Nat} {j n : Nat} {f f' : Nat → Nat} (h : lstc g M tg A j n f) (hf : ∀ t, t < n → f' t = f t) : lstc g M tg A j n f' := by
  obtain ⟨⟨md, ha, hd⟩, t1, t2⟩ := h
  exact ⟨⟨md, ha, hd.imp id (fun ⟨m, row, d1, d2, d3, d4, d5⟩ => ⟨m, row, d1, d2, d3, d4, fun t ht => by rw [hf t ht]; exact d5 t ht⟩)⟩, t1, t2⟩
theorem lst_add {g : gG} {M1 M2 : Mp} {tg1 : Nat → Nat} {A1 : Nat → Nat → Nat} {j n q : Nat} {f : Nat → Nat} (hl : lstc g M1 tg1 A1 j n f) (h : ladd g M1 (A1 1 j) (A1 2 j) n q f M2) (hed : M2 (g.2.2.2 0) = none) : ∃ tg2 A2, FR g M1 M2 tg1 tg2 A1 A2 (fun t => t = 1000 + j ∨ t = 2000 + j) ∧ lstc g M2 tg2 A2 j (n + 1) (va_up f n q) ∧ ∀ k i, ¬ (k = 2 ∧ i = j) → A2 k i = A1 k i := by
  obtain ⟨⟨md, ha, hd⟩, t1, t2⟩ := hl
  obtain ⟨d', h1, h2, h3⟩ := h
  have hd' : M2 d' ≠ none := by
    obtain ⟨md', -, ⟨z, -⟩ | ⟨m, row, z, -⟩⟩ := h1
    · omega
    · rw [z]; exact fun z => by cases z
  rcases h3 with rfl | ⟨h3, h4⟩
  · have hdn : M1 (A1 2 j) ≠ none := by
      rcases hd with ⟨-, z, -⟩ | ⟨m, row, z, -⟩
      · rw [z] at hd'; exact absurd hed hd'
      · rw [z]; exact fun z => by cases z
    refine ⟨tg1, A1, FR_of (fun b hb ht => h2 b (fun z => ht (Or.inl (by rw [z]; exact t1))) (fun z => ht (Or.inr (by rw [z]; exact t2 hdn)))) hed, ⟨h1, t1, fun _ => t2 hdn⟩, fun _ _ _ => rfl⟩
  · have ha1 : A1 1 j ≠ d' := m_new h3 ha
    refine ⟨ut tg1 d' (2000 + j), uA A1 2 j d', ⟨fun b hb ht => ?_, fun k i ht => uA_n (fun z => ht (Or.inr (by rw [z.1, z.2]))), hed⟩, ⟨?_, ?_, ?_⟩, fun k i ht => uA_n ht⟩
    · have hbd : b ≠ d' := fun z => hb (z ▸ h3)
      exact ⟨h2 b (fun z => ht (Or.inl (by rw [z]; exact t1))) hbd, ut_n hbd⟩
    · rw [uA_n (by omega), uA_s]; exact h1
    · rw [uA_n (by omega), ut_n ha1]; exact t1
    · intro _; rw [uA_s, ut_s]
theorem up_entry {g : gG} {M : Mp} {x : Nat} {tg : Nat → Nat} {A : Nat → Nat → Nat} {pr br : Nat → Bool} {np : Nat → Nat} {hh : Nat → Nat → Nat} {ne nb no : Nat} {sc : Nat → Int32} {ar : Nat → Nat → Int32} {q : Nat} {p0 p1 p2 : Int32} {M' : Mp} (hI : RI g M x tg A pr br np hh ne nb no sc ar) (hed : M (g.2.2.2 0) = none) (hq : M q = none) (hg : g.1 ≤ q) (hx : ¬ g.1 ≤ g.2.2.2 0) (hadd : ladd g (mu M q (eO 3 [.int (nI ne), .int p0, .int p1, .int p2])) (A 1 0) (A 2 0) ne q (A 3) M') (hed' : M' (g.2.2.2 0) = none) (hn : ne < 12) (r0 : rng p0 0 60) (r1 : rng p1 0 60) (r2 : rng p2 0 20) : RIx g (M') M x tg (us sc 0 (nI (ne + 1))) (ua (ua ar 1 (upd (upd (ar 1) (2 * ne) p0) (2 * ne + 1) p1)) 2 (upd (ar 2) ne p2)) := by
  obtain ⟨h0, h1, h2, h3, h4, h5, h6, h7⟩ := id hI
  have n1 := h2.1
  have n2 := h3.1
  have n3 := h4.1
  have hF1 : FR g M (mu M q (eO 3 [.int (nI ne), .int p0, .int p1, .int p2])) tg (ut tg q (1000 * 3 + ne)) A (uA A 3 ne q) (fun t => t = 1000 * 3 + ne) := FR_new hq hg rfl hed hx
  have nt : ∀ t, ¬ (t = 1000 ∨ t = 2000 ∨ t = 3000 + ne) → ¬ (fun t => t = 1000 ∨ t = 2000 ∨ t = 3000 + ne) t := fun t h => h
  have hlE : lstc g (mu M q (eO 3 [.int (nI ne), .int p0, .int p1, .int p2])) (ut tg q (1000 * 3 + ne)) (uA A 3 ne q) 0 ne (A 3) := lstc_keep h2.2.1 hF1 (by show ¬ (_ = _); omega) (by show ¬ (_ = _); omega) (fun _ _ => rfl)
  obtain ⟨tg2, A2, hF2, hl2, hA2⟩ := lst_add hlE (by rw [uA_n (by omega), uA_n (by omega)]; exact hadd) hed'
  have hF : FR g M M' tg tg2 A A2 (fun t => t = 1000 ∨ t = 2000 ∨ t = 3000 + ne) := FR_tr (FR_lt hF1 (fun t ht => by have ht : t = 1000 * 3 + ne := ht; show t = 1000 ∨ t = 2000 ∨ t = 3000 + ne; omega)) (FR_lt hF2 (fun t ht => by have ht : t = 1000 + 0 ∨ t = 2000 + 0 := ht; show t = 1000 ∨ t = 2000 ∨ t = 3000 + ne; omega))
  have hA9 : ∀ i, A2 3 i = va_up (A 3) ne q i := fun i => by
    rw [hA2 _ _ (by omega)]
    unfold uA va_up
    by_cases e : i = ne
    · rw [if_pos ⟨rfl, e⟩, if_pos e]
    · rw [if_neg (fun z => e z.2), if_neg e]
  have hqq : cel M' tg2 A2 3 ne (eO 3 [.int (nI ne), .int p0, .int p1, .int p2]) := by
    have hq1 : A2 3 ne = q := by rw [hA9]; exact if_pos rfl
    have h9 := hF2.1 q (by rw [mu_s]; exact fun z => by cases z) (by rw [ut_s]; show ¬ (_ ∨ _); omega)
    exact ⟨by rw [hq1, h9.1]; exact mu_s, by rw [hq1, h9.2]; exact ut_s⟩
  refine RIx_of (T := fun t => t = 1000 ∨ t = 2000 ∨ t = 3000 + ne) hF (fun t ht => by show ¬ (t = 1000 ∨ t = 2000 ∨ t = 3000 + ne); omega) ⟨⟨upd_s, (upd_n (by decide)).trans h0.2.1, (upd_n (by decide)).trans h0.2.2⟩, RX_keep h1 hF (by show ¬ (0 = 1000 ∨ 0 = 2000 ∨ 0 = 3000 + ne); omega) (fun t ht => (hA2 _ _ (by omega)).trans (uA_n (by omega))), ⟨by omega, lstc_cg hl2 (fun i _ => hA9 i), fun i hi => ?_⟩, RB_keep h3 hF (by omega) (Nat.le_refl _) (fun t ht => nt _ (by omega)) (fun j hj _ => hF.2.1 6 j (nt _ (by omega))) (fun _ _ => ⟨rfl, rfl, fun _ _ => rfl⟩) (fun j _ q => ⟨rfl, rfl, rfl, q⟩) (fun _ _ => ⟨rfl, rfl, rfl⟩), RO_keep h4 hF (by omega) (Nat.le_refl _) (fun t ht => nt _ (by omega)) (fun b hb => hF.2.1 4 b (nt _ (by omega))) (fun _ _ => rfl) (fun _ _ => ⟨Nat.le_refl _, fun _ _ => rfl⟩) (fun k hk j hj => by rw [ua_n (by omega), ua_n (by omega)]) (fun _ _ => rfl), RW_keep h5 hF (fun t ht => by show ¬ (t = 1000 ∨ t = 2000 ∨ t = 3000 + ne); omega) (fun _ _ => rfl) (fun _ _ => rfl), RBl_keep h6 hF (fun t ht => by show ¬ (t = 1000 ∨ t = 2000 ∨ t = 3000 + ne); omega) (fun _ _ => rfl), RC_keep h7 hF (fun t ht => by show ¬ (t = 1000 ∨ t = 2000 ∨ t = 3000 + ne); omega) (fun _ _ => rfl) (fun _ _ => rfl)⟩
  rw [ua_n (show 1 ≠ 2 by decide), ua_s, ua_s]
  by_cases ei : i = ne
  · subst ei
    rw [upd_s, upd_s, upd_n (show 2 * i ≠ 2 * i + 1 by omega), upd_s]
    exact ⟨hqq, r0, r1, r2⟩
  · rw [upd_n ei, upd_n (show 2 * i ≠ 2 * ne + 1 by omega), upd_n (show 2 * i ≠ 2 * ne by omega), upd_n (show 2 * i + 1 ≠ 2 * ne + 1 by omega), upd_n (show 2 * i + 1 ≠ 2 * ne by omega)]
    obtain ⟨c1, c2⟩ := h2.2.2 i (by omega)
    exact ⟨cel_keep c1 hF (nt _ (by omega)), c2⟩
theorem up_order {g : gG} {M : Mp} {x : Nat} {tg : Nat → Nat} {A : Nat → Nat → Nat} {pr br : Nat → Bool} {np : Nat → Nat} {hh : Nat → Nat → Nat} {ne nb no : Nat} {sc : Nat → Int32} {ar : Nat → Nat → Int32} {q e y : Nat} {p0 p1 p2 : Int32} {M' : Mp} (hI : RI g M x tg A pr br np hh ne nb no sc ar) (hed : M (g.2.2.2 0) = none) (hq : M q = none) (hg : g.1 ≤ q) (hx : ¬ g.1 ≤ g.2.2.2 0) (hadd : ladd g (mu M q (eO 4 [.int (nI no), .ref (A 3 e), .int p1, .int p2, .null, .int 0])) (A 1 2) (A 2 2) no q (A 5) M') (hed' : M' (g.2.2.2 0) = none) (hn : no < 40) (he : e < ne) (r0 : p0 = nI e) (r1 : rng p1 1 40) (hy : y < 4) (r2 : p2 = nI y) : RIx g (M') M x tg (us sc 9 (nI (no + 1))) (ua (ua (ua ar 10 (upd (ar 10) no p0)) 11 (upd (ar 11) no p1)) 12 (upd (ar 12) no p2)) := by
  obtain ⟨h0, h1, h2, h3, h4, h5, h6, h7⟩ := id hI
  have n1 := h2.1
  have n2 := h3.1
  have n3 := h4.1
  have hF1 : FR g M (mu M q (eO 4 [.int (nI no), .ref (A 3 e), .int p1, .int p2, .null, .int 0])) tg (ut tg q (1000 * 5 + no)) A (uA A 5 no q) (fun t => t = 1000 * 5 + no) := FR_new hq hg rfl hed hx
  have nt : ∀ t, ¬ (t = 1002 ∨ t = 2002 ∨ t = 5000 + no) → ¬ (fun t => t = 1002 ∨ t = 2002 ∨ t = 5000 + no) t := fun t h => h
  have hlE : lstc g (mu M q (eO 4 [.int (nI no), .ref (A 3 e), .int p1, .int p2, .null, .int 0])) (ut tg q (1000 * 5 + no)) (uA A 5 no q) 2 no (A 5) := lstc_keep h4.2.1 hF1 (by show ¬ (_ = _); omega) (by show ¬ (_ = _); omega) (fun _ _ => rfl)
  obtain ⟨tg2, A2, hF2, hl2, hA2⟩ := lst_add hlE (by rw [uA_n (by omega), uA_n (by omega)]; exact hadd) hed'
  have hF : FR g M M' tg tg2 A A2 (fun t => t = 1002 ∨ t = 2002 ∨ t = 5000 + no) := FR_tr (FR_lt hF1 (fun t ht => by have ht : t = 1000 * 5 + no := ht; show t = 1002 ∨ t = 2002 ∨ t = 5000 + no; omega)) (FR_lt hF2 (fun t ht => by have ht : t = 1000 + 2 ∨ t = 2000 + 2 := ht; show t = 1002 ∨ t = 2002 ∨ t = 5000 + no; omega))
  have hA9 : ∀ i, A2 5 i = va_up (A 5) no q i := fun i => by
    rw [hA2 _ _ (by omega)]
    unfold uA va_up
    by_cases e : i = no
    · rw [if_pos ⟨rfl, e⟩, if_pos e]
    · rw [if_neg (fun z => e z.2), if_neg e]
  have hqq : cel M' tg2 A2 5 no (eO 4 [.int (nI no), .ref (A 3 e), .int p1, .int p2, .null, .int 0]) := by
    have hq1 : A2 5 no = q := by rw [hA9]; exact if_pos rfl
    have h9 := hF2.1 q (by rw [mu_s]; exact fun z => by cases z) (by rw [ut_s]; show ¬ (_ ∨ _); omega)
    exact ⟨by rw [hq1, h9.1]; exact mu_s, by rw [hq1, h9.2]; exact ut_s⟩
  have r9 : ∀ k, 13 ≤ k → k ≤ 18 → ua (ua (ua ar 10 (upd (ar 10) no p0)) 11 (upd (ar 11) no p1)) 12 (upd (ar 12) no p2) k = ar k := fun k q1 q2 => by rw [ua_n (by omega), ua_n (by omega), ua_n (by omega)]
  have r11 : ua (ua (ua ar 10 (upd (ar 10) no p0)) 11 (upd (ar 11) no p1)) 12 (upd (ar 12) no p2) 11 = upd (ar 11) no p1 := by rw [ua_n (by omega), ua_s]
  have r10 : ua (ua (ua ar 10 (upd (ar 10) no p0)) 11 (upd (ar 11) no p1)) 12 (upd (ar 12) no p2) 10 = upd (ar 10) no p0 := by rw [ua_n (by omega), ua_n (by omega), ua_s]
  refine RIx_of (T := fun t => t = 1002 ∨ t = 2002 ∨ t = 5000 + no) hF (fun t ht => by show ¬ (t = 1002 ∨ t = 2002 ∨ t = 5000 + no); omega) ⟨⟨(upd_n (by decide)).trans h0.1, (upd_n (by decide)).trans h0.2.1, upd_s⟩, RX_keep h1 hF (by show ¬ (0 = 1002 ∨ 0 = 2002 ∨ 0 = 5000 + no); omega) (fun t ht => (hA2 _ _ (by omega)).trans (uA_n (by omega))), RE_keep h2 hF (fun t ht => by show ¬ (t = 1002 ∨ t = 2002 ∨ t = 5000 + no); omega) (fun _ _ => rfl) (fun _ _ => rfl), RB_keep h3 hF (Nat.le_refl _) (Nat.le_succ _) (fun t ht => nt _ (by omega)) (fun j hj _ => hF.2.1 6 j (nt _ (by omega))) (fun _ _ => ⟨rfl, rfl, fun _ _ => rfl⟩) (fun j hj q => ⟨rfl, by rw [r11, upd_n (by omega)], rfl, q⟩) (fun _ _ => ⟨rfl, rfl, rfl⟩), ⟨by omega, lstc_cg hl2 (fun i _ => hA9 i), fun j hj => by rw [r9 13 (by decide) (by decide)]; exact h4.2.2.1 j (by omega), fun j hj => ?_⟩, RW_keep h5 hF (fun t ht => by show ¬ (t = 1002 ∨ t = 2002 ∨ t = 5000 + no); omega) (fun _ _ => rfl) (fun _ _ => rfl), RBl_keep h6 hF (fun t ht => by show ¬ (t = 1002 ∨ t = 2002 ∨ t = 5000 + no); omega) (fun _ _ => rfl), RC_keep h7 hF (fun t ht => by show ¬ (t = 1002 ∨ t = 2002 ∨ t = 5000 + no); omega) (fun _ _ => rfl) (fun _ _ => rfl)⟩
  rw [r9 13 (by decide) (by decide), r10, r11, ua_s]
  by_cases ej : j = no
  · subst ej
    rw [upd_s, upd_s, upd_s, h4.2.2.1 j (Nat.le_refl _)]
    refine ⟨e, y, he, r0, r1, hy, r2, Or.inl rfl, ?_, fun z => absurd rfl z⟩
    rw [hF.2.1 3 e (nt _ (by omega))]
    exact hqq
  · obtain ⟨e1, y1, m1, m2, m3, m4, m5, m6, m7, m8⟩ := h4.2.2.2 j (by omega)
    rw [upd_n ej, upd_n ej, upd_n ej, hF.2.1 6 j (nt _ (by omega))]
    refine ⟨e1, y1, m1, m2, m3, m4, m5, m6, ?_, fun z => RP_keep (m8 z) hF (Nat.le_refl _) (hF.2.1 3 e1 (nt _ (by omega))) (fun b hb => hF.2.1 4 b (nt _ (by omega))) (nt _ (by omega)) rfl (fun _ _ => ⟨Nat.le_refl _, fun _ _ => rfl⟩) ⟨by rw [r9 14 (by decide) (by decide)], by rw [r11, upd_n ej], by rw [r9 15 (by decide) (by decide)], by rw [r9 16 (by decide) (by decide)], by rw [r9 17 (by decide) (by decide)], by rw [r9 18 (by decide) (by decide)]⟩⟩
    rw [hF.2.1 3 e1 (nt _ (by omega))]
    exact cel_keep m7 hF (nt _ (by omega))
theorem up_bath {g : gG} {M : Mp} {x : Nat} {tg : Nat → Nat} {A : Nat → Nat → Nat} {pr br : Nat → Bool} {np : Nat → Nat} {hh : Nat → Nat → Nat} {ne nb no : Nat} {sc : Nat → Int32} {ar : Nat → Nat → Int32} {q q2 e y : Nat} {p0 p1 : Int32} {M' : Mp} (hI : RI g M x tg A pr br np hh ne nb no sc ar) (hed : M (g.2.2.2 0) = none) (hq : M q = none) (hg : g.1 ≤ q) (hq2 : M q2 = none) (hg2 : g.1 ≤ q2) (hqq2 : q ≠ q2) (hx : ¬ g.1 ≤ g.2.2.2 0) (hadd : ladd g (mu (mu M q2 (eO 0 [.int 0, .ref (g.2.2.2 0), .int 0])) q (eO 1 [.int p0, .ref (A 3 e), .int 100, .int 0, .ref q2])) (A 1 1) (A 2 1) nb q (A 4) M') (hed' : M' (g.2.2.2 0) = none) (hn : nb < 10) (he : e < ne) (hy : y < 3) (r0 : p0 = nI y) (r1 : p1 = nI e) : RIx g (M') M x tg (us sc 5 (nI (nb + 1))) (ua (ua (ua ar 6 (upd (ar 6) nb p0)) 7 (upd (ar 7) nb p1)) 8 (upd (ar 8) nb 100)) := by
  obtain ⟨h0, h1, h2, h3, h4, h5, h6, h7⟩ := id hI
  have n1 := h2.1
  have n2 := h3.1
  have n3 := h4.1
  have nt : ∀ t, ¬ (t = 1001 ∨ t = 2001 ∨ t = 4000 + nb ∨ t = 1003 + nb ∨ t = 2003 + nb) → ¬ (fun t => t = 1001 ∨ t = 2001 ∨ t = 4000 + nb ∨ t = 1003 + nb ∨ t = 2003 + nb) t := fun t h => h
  have hFa : FR g M (mu M q2 (eO 0 [.int 0, .ref (g.2.2.2 0), .int 0])) tg (ut tg q2 (1000 * 1 + (3 + nb))) A (uA A 1 (3 + nb) q2) (fun t => t = 1001 ∨ t = 2001 ∨ t = 4000 + nb ∨ t = 1003 + nb ∨ t = 2003 + nb) := FR_new hq2 hg2 (by show _ ∨ _; omega) hed hx
  have hFb : FR g (mu M q2 (eO 0 [.int 0, .ref (g.2.2.2 0), .int 0])) (mu M q2 (eO 0 [.int 0, .ref (g.2.2.2 0), .int 0])) (ut tg q2 (1000 * 1 + (3 + nb))) (ut tg q2 (1000 * 1 + (3 + nb))) (uA A 1 (3 + nb) q2) (uA (uA A 1 (3 + nb) q2) 2 (3 + nb) (g.2.2.2 0)) (fun t => t = 1001 ∨ t = 2001 ∨ t = 4000 + nb ∨ t = 1003 + nb ∨ t = 2003 + nb) := ⟨fun _ _ _ => ⟨rfl, rfl⟩, fun k i ht => uA_n (fun z => ht (by rw [z.1, z.2]; show _ ∨ _; omega)), hFa.2.2⟩
  have hFc : FR g (mu M q2 (eO 0 [.int 0, .ref (g.2.2.2 0), .int 0])) (mu (mu M q2 (eO 0 [.int 0, .ref (g.2.2.2 0), .int 0])) q (eO 1 [.int p0, .ref (A 3 e), .int 100, .int 0, .ref q2])) (ut tg q2 (1000 * 1 + (3 + nb))) (ut (ut tg q2 (1000 * 1 + (3 + nb))) q (1000 * 4 + nb)) (uA (uA A 1 (3 + nb) q2) 2 (3 + nb) (g.2.2.2 0)) (uA (uA (uA A 1 (3 + nb) q2) 2 (3 + nb) (g.2.2.2 0)) 4 nb q) (fun t => t = 1001 ∨ t = 2001 ∨ t = 4000 + nb ∨ t = 1003 + nb ∨ t = 2003 + nb) := FR_new ((mu_n hqq2).trans hq) hg (by show _ ∨ _; omega) hFa.2.2 hx
  have hF1 := FR_tr (FR_tr hFa hFb) hFc
  have hlE : lstc g (mu (mu M q2 (eO 0 [.int 0, .ref (g.2.2.2 0), .int 0])) q (eO 1 [.int p0, .ref (A 3 e), .int 100, .int 0, .ref q2])) (ut (ut tg q2 (1000 * 1 + (3 + nb))) q (1000 * 4 + nb)) (uA (uA (uA A 1 (3 + nb) q2) 2 (3 + nb) (g.2.2.2 0)) 4 nb q) 1 nb (A 4) := by
    have hFs : FR g M (mu (mu M q2 (eO 0 [.int 0, .ref (g.2.2.2 0), .int 0])) q (eO 1 [.int p0, .ref (A 3 e), .int 100, .int 0, .ref q2])) tg (ut (ut tg q2 (1000 * 1 + (3 + nb))) q (1000 * 4 + nb)) A (uA (uA (uA A 1 (3 + nb) q2) 2 (3 + nb) (g.2.2.2 0)) 4 nb q) (fun t => t = 4000 + nb ∨ t = 1003 + nb ∨ t = 2003 + nb) := FR_tr (FR_tr (FR_new hq2 hg2 (by show _ ∨ _; omega) hed hx) ⟨fun _ _ _ => ⟨rfl, rfl⟩, fun k i ht => uA_n (fun z => ht (by rw [z.1, z.2]; show _ ∨ _; omega)), hFa.2.2⟩) (FR_new ((mu_n hqq2).trans hq) hg (by show _ ∨ _; omega) hFa.2.2 hx)
    exact lstc_keep h3.2.1 hFs (by show ¬ (_ ∨ _); omega) (by show ¬ (_ ∨ _); omega) (fun _ _ => rfl)
  obtain ⟨tg2, A2, hF2, hl2, hA2⟩ := lst_add hlE (by rw [uA_n (by omega), uA_n (by omega), uA_n (by omega), uA_n (by omega), uA_n (by omega), uA_n (by omega)]; exact hadd) hed'
  have hF : FR g M M' tg tg2 A A2 (fun t => t = 1001 ∨ t = 2001 ∨ t = 4000 + nb ∨ t = 1003 + nb ∨ t = 2003 + nb) := FR_tr hF1 (FR_lt hF2 (fun t ht => by have ht : t = 1000 + 1 ∨ t = 2000 + 1 := ht; show t = 1001 ∨ t = 2001 ∨ t = 4000 + nb ∨ t = 1003 + nb ∨ t = 2003 + nb; omega))
  have hA9 : ∀ i, A2 4 i = va_up (A 4) nb q i := fun i => by
    rw [hA2 _ _ (by omega)]
    unfold va_up
    by_cases e : i = nb
    · rw [e, uA_s, if_pos rfl]
    · rw [uA_n (by omega), uA_n (by omega), uA_n (by omega), if_neg e]
  have hqq : A2 4 nb = q := by rw [hA9]; exact if_pos rfl
  have hc1 : A2 1 (3 + nb) = q2 := by rw [hA2 _ _ (by omega), uA_n (by omega), uA_n (by omega), uA_s]
  have hc2 : A2 2 (3 + nb) = g.2.2.2 0 := by rw [hA2 _ _ (by omega), uA_n (by omega), uA_s]
  have e3 : A2 3 e = A 3 e := hF.2.1 3 e (nt _ (by omega))
  have k1 := hF2.1 q (by rw [mu_s]; exact fun z => by cases z) (by rw [ut_s]; show ¬ (_ ∨ _); omega)
  have k2 := hF2.1 q2 (by rw [mu_n hqq2.symm, mu_s]; exact fun z => by cases z) (by rw [ut_n hqq2.symm, ut_s]; show ¬ (_ ∨ _); omega)
  rw [mu_s, ut_s] at k1
  rw [mu_n hqq2.symm, mu_s, ut_n hqq2.symm, ut_s] at k2
  have r9 : ∀ k, 9 ≤ k → ua (ua (ua ar 6 (upd (ar 6) nb p0)) 7 (upd (ar 7) nb p1)) 8 (upd (ar 8) nb 100) k = ar k := fun k q1 => by rw [ua_n (by omega), ua_n (by omega), ua_n (by omega)]
  refine RIx_of (br := ub br nb false) (np := un np nb 0) (T := (fun t => t = 1001 ∨ t = 2001 ∨ t = 4000 + nb ∨ t = 1003 + nb ∨ t = 2003 + nb)) hF (fun t ht => by show ¬ (t = 1001 ∨ t = 2001 ∨ t = 4000 + nb ∨ t = 1003 + nb ∨ t = 2003 + nb); omega) ⟨⟨(upd_n (by decide)).trans h0.1, upd_s, (upd_n (by decide)).trans h0.2.2⟩, RX_keep h1 hF (nt _ (by omega)) (fun t ht => ?_), RE_keep h2 hF (fun t ht => nt _ (by omega)) (fun _ _ => rfl) (fun _ _ => rfl), ⟨by omega, lstc_cg hl2 (fun i _ => hA9 i), fun i hi => ?_⟩, RO_keep h4 hF (Nat.le_refl _) (Nat.le_succ _) (fun t ht => nt _ (by omega)) (fun b hb => hF.2.1 4 b (nt _ (by omega))) (fun _ _ => rfl) (fun i hi => ⟨by rw [un_n (by omega)]; exact Nat.le_refl _, fun _ _ => rfl⟩) (fun k hk j hj => by rw [r9 k (by omega)]) (fun _ _ => rfl), RW_keep h5 hF (fun t ht => nt _ (by omega)) (fun _ _ => rfl) (fun _ _ => rfl), RBl_keep h6 hF (fun t ht => nt _ (by omega)) (fun _ _ => rfl), RC_keep h7 hF (fun t ht => nt _ (by omega)) (fun _ _ => rfl) (fun _ _ => rfl)⟩
  · rw [hA2 _ _ (by omega), uA_n (by omega), uA_n (by omega), uA_n (by omega)]
  rw [ua_n (show 6 ≠ 8 by decide), ua_n (show 6 ≠ 7 by decide), ua_s, ua_n (show 7 ≠ 8 by decide), ua_s, ua_s]
  by_cases ei : i = nb
  · subst ei
    rw [upd_s, upd_s, upd_s, ub_s, un_s, hc1]
    refine ⟨⟨e, he, r1, ⟨by rw [hqq, k1.1, e3]; rfl, by rw [hqq, k1.2]⟩⟩, ⟨y, hy, r0⟩, by unfold rng; decide, ⟨⟨0, by rw [hc1, hc2]; exact k2.1, Or.inl ⟨rfl, hc2, by rw [hc2]; exact hed'⟩⟩, by rw [hc1, k2.2], fun z => absurd (by rw [hc2]; exact hed') z⟩, ?_⟩
    unfold RH
    rw [un_s, ub_s, ua_s, upd_s]
    exact ⟨fun j hj => absurd hj (Nat.not_lt_zero j), fun j t hj => absurd hj (Nat.not_lt_zero j), rfl⟩
  · obtain ⟨⟨e1, m1, m2, m3⟩, m4, m5, m6, m7⟩ := h3.2.2 i (by omega)
    rw [upd_n ei, upd_n ei, upd_n ei, ub_n ei, un_n ei, hF.2.1 1 (3 + i) (nt _ (by omega))]
    refine ⟨⟨e1, m1, m2, ?_⟩, m4, m5, lstc_keep m6 hF (nt _ (by omega)) (nt _ (by omega)) (fun t ht => hF.2.1 6 _ (nt _ (by have := (m7.1 t ht).1; omega))), RH_keep m7 (Nat.le_refl _) (un_n ei) (ub_n ei) (fun _ _ => rfl) (fun j _ q => ⟨rfl, by rw [r9 11 (by decide)], by rw [r9 15 (by decide)], by rw [r9 13 (by decide)]; exact q⟩) (by rw [ua_s, upd_n ei])⟩
    rw [hF.2.1 3 e1 (nt _ (by omega))]
    exact cel_keep m3 hF (nt _ (by omega))
theorem rng_zw {k w : Int32} (h1 : rng k 0 100) (h2 : rng w 1 40) : rng (zw k w) 0 100 := by
  unfold rng zw at *
  have e : (k - w).toInt = k.toInt - w.toInt := by
    rw [Int32.toInt_sub, Int.bmod_eq_of_le (by omega) (by omega)]
  split
  · rename_i h
    rw [Int32.lt_iff_toInt_lt] at h
    have : (0 : Int32).toInt = 0 := by decide
    omega
  · exact ⟨by decide, by decide⟩
theorem up_dye {g : gG} {M : Mp} {x : Nat} {tg : Nat → Nat} {A : Nat → Nat → Nat} {pr br : Nat → Bool} {np : Nat → Nat} {hh : Nat → Nat → Nat} {ne nb no : Nat} {sc : Nat → Int32} {ar : Nat → Nat → Int32} {q o b e e2 y d : Nat} {w9 y8 y9 : Int32} {M1 M' : Mp} (hI : RI g M x tg A pr br np hh ne nb no sc ar) (hed : M (g.2.2.2 0) = none) (hq : M q = none) (hg : g.1 ≤ q) (hx : ¬ g.1 ≤ g.2.2.2 0) (ho : o < no) (hb : b < nb) (hs : ar 13 o = 0) (he : e < ne) (h10e : ar 10 o = nI e) (he2 : e2 < ne) (h7e : ar 7 b = nI e2) (hadd : ladd g (mu (mu M q (eO 5 [.int (nI o), .ref (A 3 e), .int (ar 11 o), .ref (A 4 b), .int (bI (br b)), .int (ar 8 b), .int w9, .int y8, .int y9])) (A 5 o) (eO 4 [.int (nI o), .ref (A 3 e), .int (ar 11 o), .int (ar 12 o), .ref q, .int 0])) (A 1 (3 + b)) (A 2 (3 + b)) (np b) q (fun j => A 6 (hh b j)) M1) (hM : M' = mu M1 (A 4 b) (eO 1 [.int (ar 6 b), .ref (A 3 e2), .int (zw (ar 8 b) (ar 11 o)), .int 0, .ref (A 1 (3 + b))])) (hed1 : M1 (g.2.2.2 0) = none) (rw9 : rng w9 (-10) 10) (ry8 : rng y8 (-10) 10) (ry9 : rng y9 (-10) 10) : RIx g M' M x tg sc (ua (ua (ua (ua (ua (ua (ua ar 13 (upd (ar 13) o 1)) 14 (upd (ar 14) o (nI b))) 15 (upd (ar 15) o (ar 8 b))) 16 (upd (ar 16) o w9)) 17 (upd (ar 17) o y8)) 18 (upd (ar 18) o y9)) 8 (upd (ar 8) b (zw (ar 8 b) (ar 11 o)))) := by
  obtain ⟨h0, h1, h2, h3, h4, h5, h6, h7⟩ := id hI
  have n1 := h2.1
  have n2 := h3.1
  have n3 := h4.1
  obtain ⟨e0, y0, k1, k2, k3, k4, k5, k6, k7, k8⟩ := h4.2.2.2 o ho
  obtain ⟨⟨f0, m1, m2, m3⟩, m4, m5, m6, m7⟩ := h3.2.2 b hb
  obtain rfl : e = e0 := nI_inj (by omega) (by omega) (h10e.symm.trans k2)
  obtain rfl : e2 = f0 := nI_inj (by omega) (by omega) (h7e.symm.trans m2)
  have nt : ∀ t, ¬ (t = 5000 + o ∨ t = 6000 + o ∨ t = 4000 + b ∨ t = 1003 + b ∨ t = 2003 + b) → ¬ (fun t => t = 5000 + o ∨ t = 6000 + o ∨ t = 4000 + b ∨ t = 1003 + b ∨ t = 2003 + b) t := fun t h => h
  have hF1 : FR g M (mu M q (eO 5 [.int (nI o), .ref (A 3 e), .int (ar 11 o), .ref (A 4 b), .int (bI (br b)), .int (ar 8 b), .int w9, .int y8, .int y9])) tg (ut tg q (1000 * 6 + o)) A (uA A 6 o q) (fun t => t = 1000 * 6 + o ∨ t = 5000 + o) := FR_new hq hg (Or.inl rfl) hed hx
  have hoc := cel_keep k7 (FR_new (T := fun t => t = 1000 * 6 + o) (k := 6) (i := o) (e := eO 5 [.int (nI o), .ref (A 3 e), .int (ar 11 o), .ref (A 4 b), .int (bI (br b)), .int (ar 8 b), .int w9, .int y8, .int y9]) hq hg rfl hed hx) (by show ¬ (_ = _); omega)
  rw [cel, uA_n (by omega)] at hoc
  have hF2 : FR g M (mu (mu M q (eO 5 [.int (nI o), .ref (A 3 e), .int (ar 11 o), .ref (A 4 b), .int (bI (br b)), .int (ar 8 b), .int w9, .int y8, .int y9])) (A 5 o) (eO 4 [.int (nI o), .ref (A 3 e), .int (ar 11 o), .int (ar 12 o), .ref q, .int 0])) tg (ut tg q (1000 * 6 + o)) A (uA A 6 o q) (fun t => t = 1000 * 6 + o ∨ t = 5000 + o) := FR_tr hF1 (FR_mu hoc.1 (Or.inr (by rw [hoc.2])) hF1.2.2)
  have hlE := lstc_keep m6 hF2 (by show ¬ (_ ∨ _); omega) (by show ¬ (_ ∨ _); omega) (fun _ _ => rfl)
  obtain ⟨tg2, A2, hF3, hl2, hA2⟩ := lst_add hlE (by rw [uA_n (by omega), uA_n (by omega)]; exact hadd) hed1
  have hF4 : FR g M M1 tg tg2 A A2 (fun t => t = 1000 * 6 + o ∨ t = 5000 + o ∨ t = 1003 + b ∨ t = 2003 + b) := FR_tr (FR_lt hF2 (fun t ht => by have ht : t = 1000 * 6 + o ∨ t = 5000 + o := ht; show t = 1000 * 6 + o ∨ t = 5000 + o ∨ t = 1003 + b ∨ t = 2003 + b; omega)) (FR_lt hF3 (fun t ht => by have ht : t = 1000 + (3 + b) ∨ t = 2000 + (3 + b) := ht; show t = 1000 * 6 + o ∨ t = 5000 + o ∨ t = 1003 + b ∨ t = 2003 + b; omega))
  have hbc := cel_keep m3 hF4 (by show ¬ (_ ∨ _); omega)
  have hA4 : A2 4 b = A 4 b := hF4.2.1 4 b (by show ¬ (_ ∨ _); omega)
  have hF5 : FR g M1 M' tg2 tg2 A2 A2 (fun t => t = 4000 + b) := by rw [hM, ← hA4]; exact FR_mu hbc.1 (by show _ = _; rw [hbc.2]) hed1
  have hF : FR g M M' tg tg2 A A2 (fun t => t = 5000 + o ∨ t = 6000 + o ∨ t = 4000 + b ∨ t = 1003 + b ∨ t = 2003 + b) := FR_tr (FR_lt hF4 (fun t ht => by have ht : t = 1000 * 6 + o ∨ t = 5000 + o ∨ t = 1003 + b ∨ t = 2003 + b := ht; show t = 5000 + o ∨ t = 6000 + o ∨ t = 4000 + b ∨ t = 1003 + b ∨ t = 2003 + b; omega)) (FR_lt hF5 (fun t ht => by have ht : t = 4000 + b := ht; show t = 5000 + o ∨ t = 6000 + o ∨ t = 4000 + b ∨ t = 1003 + b ∨ t = 2003 + b; omega))
  have hl3 := lstc_keep hl2 hF5 (by show ¬ (_ = _); omega) (by show ¬ (_ = _); omega) (fun _ _ => rfl)
  have hA6 : ∀ i, i ≠ o → A2 6 i = A 6 i := fun i hi => (hA2 _ _ (by omega)).trans (uA_n (by omega))
  have hA6o : A2 6 o = q := (hA2 _ _ (by omega)).trans uA_s
  have hA5o : A2 5 o = A 5 o := (hA2 _ _ (by omega)).trans (uA_n (by omega))
  have n5 : A 5 o ≠ q := m_new hq k7.1
  have n5 : A 5 o ≠ q := m_new hq k7.1
  have e3 : ∀ i, A2 3 i = A 3 i := fun i => (hA2 _ _ (by omega)).trans (uA_n (by omega))
  have e4 : ∀ i, A2 4 i = A 4 i := fun i => (hA2 _ _ (by omega)).trans (uA_n (by omega))
  have e5 : ∀ i, A2 5 i = A 5 i := fun i => (hA2 _ _ (by omega)).trans (uA_n (by omega))
  have e1 : ∀ i, A2 1 i = A 1 i := fun i => (hA2 _ _ (by omega)).trans (uA_n (by omega))
  have hF35 : FR g (mu (mu M q (eO 5 [.int (nI o), .ref (A 3 e), .int (ar 11 o), .ref (A 4 b), .int (bI (br b)), .int (ar 8 b), .int w9, .int y8, .int y9])) (A 5 o) (eO 4 [.int (nI o), .ref (A 3 e), .int (ar 11 o), .int (ar 12 o), .ref q, .int 0])) M' (ut tg q (1000 * 6 + o)) tg2 (uA A 6 o q) A2 (fun t => t = 1003 + b ∨ t = 2003 + b ∨ t = 4000 + b) := FR_tr (FR_lt hF3 (fun t ht => by have ht : t = 1000 + (3 + b) ∨ t = 2000 + (3 + b) := ht; show t = 1003 + b ∨ t = 2003 + b ∨ t = 4000 + b; omega)) (FR_lt hF5 (fun t ht => Or.inr (Or.inr ht)))
  have p1 := hF35.1 q (by rw [mu_n n5.symm, mu_s]; exact fun z => by cases z) (by rw [ut_s]; show ¬ (_ ∨ _); omega)
  have p2 := hF35.1 (A 5 o) (by rw [mu_s]; exact fun z => by cases z) (by rw [ut_n n5, k7.2]; show ¬ (_ ∨ _); omega)
  rw [mu_n n5.symm, mu_s, ut_s] at p1
  rw [mu_s, ut_n n5, k7.2] at p2
  have p3 : M' (A 4 b) = some (eO 1 [.int (ar 6 b), .ref (A 3 e2), .int (zw (ar 8 b) (ar 11 o)), .int 0, .ref (A 1 (3 + b))]) := by rw [hM]; exact mu_s
  obtain ⟨ar', har⟩ : ∃ z, z = ua (ua (ua (ua (ua (ua (ua ar 13 (upd (ar 13) o 1)) 14 (upd (ar 14) o (nI b))) 15 (upd (ar 15) o (ar 8 b))) 16 (upd (ar 16) o w9)) 17 (upd (ar 17) o y8)) 18 (upd (ar 18) o y9)) 8 (upd (ar 8) b (zw (ar 8 b) (ar 11 o))) := ⟨_, rfl⟩
  rw [← har]
  have r8 : ar' 8 = upd (ar 8) b (zw (ar 8 b) (ar 11 o)) := by rw [har]; exact ua_s
  have rr : ∀ k, k ≠ 8 → (k < 13 ∨ 18 < k) → ar' k = ar k := fun k q1 q2 => by rw [har, ua_n (by omega), ua_n (by omega), ua_n (by omega), ua_n (by omega), ua_n (by omega), ua_n (by omega), ua_n (by omega)]
  have r13 : ar' 13 = upd (ar 13) o 1 := by rw [har, ua_n (by decide), ua_n (by decide), ua_n (by decide), ua_n (by decide), ua_n (by decide), ua_n (by decide), ua_s]
  have r14 : ar' 14 = upd (ar 14) o (nI b) := by rw [har, ua_n (by decide), ua_n (by decide), ua_n (by decide), ua_n (by decide), ua_n (by decide), ua_s]
  have r15 : ar' 15 = upd (ar 15) o (ar 8 b) := by rw [har, ua_n (by decide), ua_n (by decide), ua_n (by decide), ua_n (by decide), ua_s]
  have r16 : ar' 16 = upd (ar 16) o w9 := by rw [har, ua_n (by decide), ua_n (by decide), ua_n (by decide), ua_s]
  have r17 : ar' 17 = upd (ar 17) o y8 := by rw [har, ua_n (by decide), ua_n (by decide), ua_s]
  have r18 : ar' 18 = upd (ar 18) o y9 := by rw [har, ua_n (by decide), ua_s]
  have ro : ∀ k j, 8 < k → j ≠ o → ar' k j = ar k j := fun k j q1 q2 => by
    rcases Nat.lt_or_ge k 13 with z | z
    · rw [rr k (by omega) (by omega)]
    rcases Nat.lt_or_ge 18 k with z2 | z2
    · rw [rr k (by omega) (by omega)]
    rcases (by omega : k = 13 ∨ k = 14 ∨ k = 15 ∨ k = 16 ∨ k = 17 ∨ k = 18) with rfl | rfl | rfl | rfl | rfl | rfl
    · rw [r13, upd_n q2]
    · rw [r14, upd_n q2]
    · rw [r15, upd_n q2]
    · rw [r16, upd_n q2]
    · rw [r17, upd_n q2]
    · rw [r18, upd_n q2]
  have hno9 : ∀ i j, i < nb → j < np i → hh i j ≠ o := fun i j hi hj z => (h3.2.2 i hi).2.2.2.2.1 j hj |>.2.1 (by rw [z]; exact hs)
  have hst9 : ∀ i j, i < nb → j < np i → ¬ (i = b ∧ j = np b) := fun i j _ hj z => by rw [z.1, z.2] at hj; omega
  refine RIx_of (pr := ub pr o (br b)) (br := ub br b false) (np := un np b (np b + 1)) (hh := uA hh b (np b) o) (T := (fun t => t = 5000 + o ∨ t = 6000 + o ∨ t = 4000 + b ∨ t = 1003 + b ∨ t = 2003 + b)) hF (fun t ht => by show ¬ (t = 5000 + o ∨ t = 6000 + o ∨ t = 4000 + b ∨ t = 1003 + b ∨ t = 2003 + b); omega) ⟨h0, RX_keep h1 hF (nt _ (by omega)) (fun t ht => (hA2 _ _ (by omega)).trans (uA_n (by omega))), RE_keep h2 hF (fun t ht => nt _ (by omega)) (fun i _ => by rw [rr 1 (by decide) (by decide)]) (fun i _ => by rw [rr 2 (by decide) (by decide)]), ⟨n2, lstc_keep h3.2.1 hF (nt _ (by omega)) (nt _ (by omega)) (fun t _ => e4 t), fun i hi => ?_⟩, ⟨n3, lstc_keep h4.2.1 hF (nt _ (by omega)) (nt _ (by omega)) (fun t _ => e5 t), fun j hj => by rw [ro 13 j (by decide) (by omega)]; exact h4.2.2.1 j hj, fun j hj => ?_⟩, RW_keep h5 hF (fun t ht => nt _ (by omega)) (fun i _ => by rw [rr 3 (by decide) (by decide)]) (fun i _ => by rw [rr 4 (by decide) (by decide)]), RBl_keep h6 hF (fun t ht => nt _ (by omega)) (fun i _ => by rw [rr 19 (by decide) (by decide)]), RC_keep h7 hF (fun t ht => nt _ (by omega)) (fun i _ => by rw [rr 20 (by decide) (by decide)]) (fun i _ => by rw [rr 21 (by decide) (by decide)])⟩
  · rw [rr 6 (by decide) (by decide), rr 7 (by decide) (by decide), r8, e1]
    by_cases ei : i = b
    · rw [ei, upd_s, ub_s, un_s]
      refine ⟨⟨e2, m1, m2, by rw [e4]; exact p3.trans (by rw [e3]; rfl), by rw [← hbc.2]⟩, m4, rng_zw m5 k3, lstc_cg hl3 (fun t ht => ?_), ?_⟩
      · show A2 6 (uA hh b (np b) o b t) = va_up _ _ _ _
        unfold va_up
        by_cases et : t = np b
        · rw [et, uA_s, if_pos rfl]; exact hA6o
        · rw [uA_n (by omega), if_neg et]; exact hA6 _ (hno9 b t hb (by omega))
      · have cg : ∀ t, t < np b → (fun t => pr (hh b t)) t = (fun t => ub pr o (br b) (uA hh b (np b) o b t)) t ∧ (fun t => ar 11 (hh b t)) t = (fun t => ar' 11 (uA hh b (np b) o b t)) t := fun t ht => by
          show pr (hh b t) = ub pr o (br b) (uA hh b (np b) o b t) ∧ ar 11 (hh b t) = ar' 11 (uA hh b (np b) o b t)
          rw [uA_n (by omega), ub_n (hno9 b t hb ht), rr 11 (by decide) (by decide)]
          exact ⟨rfl, rfl⟩
        have pn : (fun t => ub pr o (br b) (uA hh b (np b) o b t)) (np b) = br b := by
          show ub pr o (br b) (uA hh b (np b) o b (np b)) = br b
          rw [uA_s, ub_s]
        have un9 : (fun t => ar' 11 (uA hh b (np b) o b t)) (np b) = ar 11 o := by
          show ar' 11 (uA hh b (np b) o b (np b)) = ar 11 o
          rw [uA_s, rr 11 (by decide) (by decide)]
        obtain ⟨d1, d2, d3⟩ := m7
        unfold RH
        rw [un_s, ub_s, r8, upd_s]
        refine ⟨fun j hj => ?_, fun j t hj ht hq2 => ?_, ?_⟩
        · by_cases ej : j = np b
          · rw [ej, uA_s, r13, upd_s, r15, upd_s]
            refine ⟨ho, by decide, ?_⟩
            unfold zat
            rw [pn, ← zst_congr cg]
            exact d3
          · rw [uA_n (by omega), ro 13 _ (by decide) (hno9 b j hb (by omega)), ro 15 _ (by decide) (hno9 b j hb (by omega))]
            obtain ⟨z1, z2, z3⟩ := d1 j (by omega)
            exact ⟨z1, z2, z3.trans (zat_congr (fun t ht => cg t (by omega)))⟩
        · by_cases ej : j = np b <;> by_cases et : t = np b
          · omega
          · rw [ej, uA_s, uA_n (by omega)] at hq2
            exact absurd hq2.symm (hno9 b t hb (by omega))
          · rw [et, uA_s, uA_n (by omega)] at hq2
            exact absurd hq2 (hno9 b j hb (by omega))
          · rw [uA_n (by omega), uA_n (by omega)] at hq2
            exact d2 j t (by omega) (by omega) hq2
        · rw [if_neg (by decide)]
          show zw (ar 8 b) (ar 11 o) = zw (if (fun t => ub pr o (br b) (uA hh b (np b) o b t)) (np b) = true then 100 else zst (fun t => ub pr o (br b) (uA hh b (np b) o b t)) (fun t => ar' 11 (uA hh b (np b) o b t)) (np b)) ((fun t => ar' 11 (uA hh b (np b) o b t)) (np b))
          rw [pn, un9, ← zst_congr cg, ← d3]
    · obtain ⟨⟨e9, z1, z2, z3⟩, z4, z5, z6, z7⟩ := h3.2.2 i hi
      rw [upd_n ei, ub_n ei, un_n ei]
      refine ⟨⟨e9, z1, z2, ?_⟩, z4, z5, lstc_keep z6 hF (nt _ (by omega)) (nt _ (by omega)) (fun t ht => ?_), RH_keep z7 (Nat.le_refl _) (un_n ei) (ub_n ei) (fun j hj => uA_n (hst9 i j hi hj)) (fun j hj q => ?_) (by rw [r8, upd_n ei])⟩
      · rw [e3]
        exact cel_keep z3 hF (nt _ (by omega))
      · show A2 6 (uA hh b (np b) o i t) = A 6 (hh i t)
        rw [uA_n (hst9 i t hi ht), hA6 _ (hno9 i t hi ht)]
      · have hjo : j ≠ o := fun z => q (by rw [z]; exact hs)
        rw [ub_n hjo, ro 11 j (by decide) hjo, ro 15 j (by decide) hjo, ro 13 j (by decide) hjo]
        exact ⟨rfl, rfl, rfl, q⟩
  · by_cases ej : j = o
    · rw [ej, rr 10 (by decide) (by decide), rr 11 (by decide) (by decide), rr 12 (by decide) (by decide), r13, upd_s]
      refine ⟨e, y0, k1, k2, k3, k4, k5, Or.inr (Or.inl rfl), ⟨?_, ?_⟩, fun _ => ⟨b, np b, hb, by rw [r14, upd_s], by rw [un_s]; omega, uA_s, ⟨?_, ?_⟩, ?_⟩⟩
      · rw [e5, p2.1, e3, hA6o]; rfl
      · rw [e5, p2.2]
      · rw [hA6o, p1.1, e3, e4, rr 11 (by decide) (by decide), ub_s, r15, r16, r17, r18, upd_s, upd_s, upd_s, upd_s]
      · rw [hA6o, p1.2]
      · rw [r15, r16, r17, r18, upd_s, upd_s, upd_s, upd_s]
        exact ⟨m5, rw9, ry8, ry9⟩
    · obtain ⟨e9, y9', z1, z2, z3, z4, z5, z6, z7, z8⟩ := h4.2.2.2 j hj
      rw [ro 10 j (by decide) ej, ro 11 j (by decide) ej, ro 12 j (by decide) ej, ro 13 j (by decide) ej, hA6 j ej]
      refine ⟨e9, y9', z1, z2, z3, z4, z5, z6, ?_, fun z => RP_keep (z8 z) hF (Nat.le_refl _) (e3 e9) (fun i _ => e4 i) (nt _ (by omega)) (ub_n ej) (fun i hi => ⟨?_, fun t ht => uA_n (hst9 i t hi ht)⟩) ⟨ro 14 j (by decide) ej, ro 11 j (by decide) ej, ro 15 j (by decide) ej, ro 16 j (by decide) ej, ro 17 j (by decide) ej, ro 18 j (by decide) ej⟩⟩
      · rw [e3]
        exact cel_keep z7 hF (nt _ (by omega))
      · by_cases ei : i = b
        · rw [ei, un_s]; omega
        · rw [un_n ei]; exact Nat.le_refl _
