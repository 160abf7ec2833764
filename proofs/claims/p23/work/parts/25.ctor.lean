/-! CONSTRUCTORS -/
theorem muR_n {M : Mp} {n : Nat} {r : Nat → Nat} {e : va_E} {b : Nat} (h : ∀ i, i < n → b ≠ r i) : muR M n r e b = M b := by
  unfold muR
  rw [if_neg]
  intro z
  obtain ⟨i, hi, hb⟩ := List.mem_map.mp z
  exact h i (List.mem_range.mp hi) hb.symm
theorem muR_s {M : Mp} {n : Nat} {r : Nat → Nat} {e : va_E} {i : Nat} (h : i < n) : muR M n r e (r i) = some e := by
  unfold muR
  rw [if_pos]
  exact List.mem_map.mpr ⟨i, List.mem_range.mpr h, rfl⟩
abbrev rowc (n : Nat) (r : Nat → Nat) : Nat → Option Nat := fun i => if i < n then some (r i) else none
/-- what a new cloth is -/
def CP (g : gG) (M M' : Mp) (a d u : Nat) (r : Nat → Nat) : Prop := M' a = some (eO 2 [.int 0, .ref d, .ref u]) ∧ (M' d = some (eQ g 4 5 (rowc 5 r)) ∧ M d = none ∧ g.1 ≤ d) ∧ (M' u = some (eI g 5 (fun _ => 0)) ∧ M u = none ∧ g.1 ≤ u) ∧ (∀ i, i < 5 → M' (r i) = some (eI g 5 (fun _ => 0)) ∧ M (r i) = none ∧ g.1 ≤ r i ∧ r i ≠ d ∧ r i ≠ u) ∧ (∀ i j, i < 5 → j < 5 → r i = r j → i = j) ∧ d ≠ u ∧ ∀ b, M b ≠ none → b ≠ a → M' b = M b
theorem CP_of {g : gG} {M M1 M2 M3 M4 : Mp} {a d u : Nat} {r : Nat → Nat} {x x1 : va_E} (h0 : M a = some x) (nd : M d = none) (gd : g.1 ≤ d) (hr : ∀ i, i < 5 → M (r i) = none ∧ g.1 ≤ r i ∧ r i ≠ d) (hinj : ∀ i j, i < 5 → j < 5 → r i = r j → i = j) (h1 : M1 = muR (mu M d (eQ g 4 5 (rowc 5 r))) 5 r (eI g 5 (fun _ => 0))) (h2 : M2 = mu M1 a x1) (nu : M2 u = none) (gu : g.1 ≤ u) (h3 : M3 = mu M2 u (eI g 5 (fun _ => 0))) (h4 : M4 = mu M3 a (eO 2 [.int 0, .ref d, .ref u])) : CP g M M4 a d u r := by
  have had : a ≠ d := m_new nd h0
  have har : ∀ i, i < 5 → a ≠ r i := fun i hi => m_new (hr i hi).1 h0
  have hau : a ≠ u := fun z => by rw [h2, ← z, mu_s] at nu; cases nu
  have d1 : M1 d = some (eQ g 4 5 (rowc 5 r)) := by rw [h1, muR_n (fun i hi => (hr i hi).2.2.symm), mu_s]
  have d2 : M2 d = some (eQ g 4 5 (rowc 5 r)) := by rw [h2, mu_n had.symm]; exact d1
  have r2 : ∀ i, i < 5 → M2 (r i) = some (eI g 5 (fun _ => 0)) := fun i hi => by rw [h2, mu_n (har i hi).symm, h1]; exact muR_s hi
  have hdu : d ≠ u := m_new nu d2
  have hru : ∀ i, i < 5 → r i ≠ u := fun i hi => m_new nu (r2 i hi)
  have fr : ∀ b, M b ≠ none → b ≠ a → M2 b = M b := fun b hb hba => by
    rw [h2, mu_n hba, h1, muR_n (fun i hi z => hb (by rw [z]; exact (hr i hi).1)), mu_n (fun z => hb (by rw [z]; exact nd))]
  refine ⟨by rw [h4]; exact mu_s, ⟨by rw [h4, mu_n had.symm, h3, mu_n hdu]; exact d2, nd, gd⟩, ⟨by rw [h4, mu_n hau.symm, h3]; exact mu_s, ?_, gu⟩, fun i hi => ⟨by rw [h4, mu_n (har i hi).symm, h3, mu_n (hru i hi)]; exact r2 i hi, (hr i hi).1, (hr i hi).2.1, (hr i hi).2.2, hru i hi⟩, hinj, hdu, fun b hb hba => ?_⟩
  · cases hm : M u with
    | none => rfl
    | some e =>
      have h9 := fr u (by rw [hm]; exact fun z => by cases z) hau.symm
      rw [nu, hm] at h9
      cases h9
  · have h9 := fr b hb hba
    rw [h4, mu_n hba, h3, mu_n (fun z => hb (by rw [← h9, z]; exact nu))]
    exact h9
set_option maxHeartbeats 4000000 in
set_option maxRecDepth 100000 in
theorem c_Cl_init {l : Launch} {g : gG} {M : Mp} {a : Nat} (h0 : M a = some (eO 2 [.int 0, .null, .null])) : Met l yX1_init (WY yX1_init cX1_init 1 none) { frames := 1, cells := 7, slots := 35, locals := 12 } (Wc g M [.ref a]) (wrQ (S := Nat × Nat × (Nat → Nat)) g (fun u_ => none) (fun u_ M_ => CP g M M_ a u_.1 u_.2.1 u_.2.2)) 7 35 (gA g) := by
  refine ofM (by decide +kernel) (Nat.le_of_ble_eq_true rfl) (fun p e s m args below meth c ls C hr hlocks hin hE hH hl ea => ?_)
  have hin : meth.name = "<init>" := hin
  have hl : lv_has ls 1 [(0, .ref a)] := hl
  have hS : va_S (gA g) s.heap s.heap [] := va_S.rf
  refine lv_aload_n C.1 C.2.1 dX1_init_0 rfl (lv_at hl 0 rfl) ?_
  refine W.objInit C.1 C.2.1 C.2.2.2.1 (C.2.2.2.2 _ wm_77) (C.2.2.2.2 _ wm_41) (C.2.2.2.2 _ wm_42) rfl (by rw [C.2.2.1]; exact hl.1) rfl dX1_init_1 (Nat.le_of_ble_eq_true rfl) (Nat.le_of_ble_eq_true rfl) ?_
  refine W.eq (g2 := F0 m 4 ls []) rfl ?_
  refine lv_aload_n C.1 C.2.1 dX1_init_4 rfl (lv_at hl 0 rfl) ?_
  refine lv_iconst (v := 5) C.1 C.2.1 dX1_init_5 rfl ?_
  refine lv_iconst (v := 5) C.1 C.2.1 dX1_init_6 rfl ?_
  refine mmna (N := 5) (K := 5) C hE hH hS wm_78 wm_91 (by decide) (by decide) rfl rfl (by decide) (by decide) (by decide) (Nat.le_of_ble_eq_true rfl) (Nat.le_of_ble_eq_true rfl) dX1_init_7 (fun q1 r2 H hinjr2 nq1 gq1 hrr2 hH hS => ?_)
  obtain ⟨M3, hM3⟩ : ∃ z, z = muR (mu M q1 (eQ g 4 5 (fun i => if i < 5 then some (r2 i) else none))) 5 r2 (eI g 5 (fun _ => 0)) := ⟨_, rfl⟩
  have hH : Hw g M3 H := by rw [hM3]; exact hH
  have f4 : M3 a = some (eO 2 [.int 0, .null, .null]) := by rw [hM3, muR_n (fun i hi => m_new (hrr2 i hi).1 h0), mu_n (m_new nq1 h0)]; exact h0
  have f5 : M3 q1 = some (eQ g 4 5 (fun i => if i < 5 then some (r2 i) else none)) := by rw [hM3, muR_n (fun i hi => (hrr2 i hi).2.2.symm)]; exact mu_s
  refine mputF (fs' := [.int 0, .ref q1, .null]) C hE hH hS fp_81 f4 hin rfl rfl rfl (Nat.le_of_ble_eq_true rfl) dX1_init_11 (fun H locs hH hS => ?_)
  obtain ⟨M6, hM6⟩ : ∃ z, z = mu M3 a (eO 2 [.int 0, .ref q1, .null]) := ⟨_, rfl⟩
  have hH : Hw g M6 H := by rw [hM6]; exact hH
  have f7 : M6 a = some (eO 2 [.int 0, .ref q1, .null]) := by rw [hM6]; exact mu_s
  have f8 : M6 q1 = some (eQ g 4 5 (fun i => if i < 5 then some (r2 i) else none)) := by rw [hM6]; exact (mu_n (m_ne f5 f4 (by first | (intro z; cases z; done) | exact ne_IQ | exact ne_IQ.symm | exact ne_LI | exact ne_LI.symm | (intro z; cases z; omega) | (intro z; cases z; contradiction) | exact (fun z => by cases z)))).trans f5
  refine lv_aload_n C.1 C.2.1 dX1_init_14 rfl (lv_at hl 0 rfl) ?_
  refine lv_iconst (v := 5) C.1 C.2.1 dX1_init_15 rfl ?_
  refine mnewI (N := 5) C hE hH hS wm_91 (by decide) (by decide) (Nat.le_of_ble_eq_true rfl) (by decide) (by decide) dX1_init_16 (fun q9 H nq9 gq9 hH hS => ?_)
  obtain ⟨M10, hM10⟩ : ∃ z, z = mu M6 q9 (eI g 5 (fun _ => 0)) := ⟨_, rfl⟩
  have hH : Hw g M10 H := by rw [hM10]; exact hH
  have f11 : M10 q9 = some (eI g 5 (fun _ => 0)) := by rw [hM10]; exact mu_s
  have f12 : M10 q1 = some (eQ g 4 5 (fun i => if i < 5 then some (r2 i) else none)) := by rw [hM10]; exact (mu_n (m_new nq9 f8)).trans f8
  have f13 : M10 a = some (eO 2 [.int 0, .ref q1, .null]) := by rw [hM10]; exact (mu_n (m_new nq9 f7)).trans f7
  refine mputF (fs' := [.int 0, .ref q1, .ref q9]) C hE hH hS fp_83 f13 hin rfl rfl rfl (Nat.le_of_ble_eq_true rfl) dX1_init_18 (fun H locs hH hS => ?_)
  obtain ⟨M14, hM14⟩ : ∃ z, z = mu M10 a (eO 2 [.int 0, .ref q1, .ref q9]) := ⟨_, rfl⟩
  have hH : Hw g M14 H := by rw [hM14]; exact hH
  have f15 : M14 a = some (eO 2 [.int 0, .ref q1, .ref q9]) := by rw [hM14]; exact mu_s
  have f16 : M14 q1 = some (eQ g 4 5 (fun i => if i < 5 then some (r2 i) else none)) := by rw [hM14]; exact (mu_n (m_ne f12 f13 (by first | (intro z; cases z; done) | exact ne_IQ | exact ne_IQ.symm | exact ne_LI | exact ne_LI.symm | (intro z; cases z; omega) | (intro z; cases z; contradiction) | exact (fun z => by cases z)))).trans f12
  have f17 : M14 q9 = some (eI g 5 (fun _ => 0)) := by rw [hM14]; exact (mu_n ((m_new nq9 f7)).symm).trans f11
  exact wr_vret (q1, q9, r2) C hr hlocks hH hS rfl (CP_of h0 nq1 gq1 hrr2 hinjr2 hM3 hM6 nq9 gq9 hM10 hM14) (by decide) (by decide) dX1_init_21
def uc (c : Nat → va_E) (k : Nat) (e : va_E) : Nat → va_E := fun i => if i = k then e else c i
theorem uc_s {c : Nat → va_E} {k : Nat} {e : va_E} : uc c k e k = e := if_pos rfl
theorem uc_n {c : Nat → va_E} {k i : Nat} {e : va_E} (h : i ≠ k) : uc c k e i = c i := if_neg h
/-- n new cells Q 0 .. Q (n-1) with contents c; else only a changed -/
def FI (g : gG) (M0 M : Mp) (a n : Nat) (Q : Nat → Nat) (c : Nat → va_E) : Prop := (∀ i j, i < n → j < n → Q i = Q j → i = j) ∧ (∀ i, i < n → M (Q i) = some (c i) ∧ M0 (Q i) = none ∧ g.1 ≤ Q i) ∧ (∀ b, M0 b ≠ none → b ≠ a → M b = M0 b) ∧ M0 a ≠ none ∧ M a ≠ none
section FIS
variable {g : gG} {M0 M M' : Mp} {a n q j : Nat} {Q : Nat → Nat} {c : Nat → va_E} {e x : va_E}
theorem FI_0 (h : M a = some x) : FI g M M a 0 Q c := ⟨fun i j hi => absurd hi (Nat.not_lt_zero i), fun i hi => absurd hi (Nat.not_lt_zero i), fun _ _ _ => rfl, by rw [h]; exact fun z => (by cases z), by rw [h]; exact fun z => (by cases z)⟩
theorem FI_ne (h : FI g M0 M a n Q c) {i : Nat} (hi : i < n) : Q i ≠ a := fun z => h.2.2.2.1 (by rw [← z]; exact (h.2.1 i hi).2.1)
theorem FI_a (h : FI g M0 M a n Q c) : FI g M0 (mu M a e) a n Q c := ⟨h.1, fun i hi => ⟨(mu_n (FI_ne h hi)).trans (h.2.1 i hi).1, (h.2.1 i hi).2⟩, fun b hb hba => (mu_n hba).trans (h.2.2.1 b hb hba), h.2.2.2.1, by rw [mu_s]; exact fun z => (by cases z)⟩
theorem FI_fresh (h : FI g M0 M a n Q c) (hq : M q = none) : M0 q = none ∧ q ≠ a := by
  have hqa : q ≠ a := fun z => h.2.2.2.2 (by rw [← z]; exact hq)
  refine ⟨?_, hqa⟩
  cases hm : M0 q with
  | none => rfl
  | some y =>
    have h9 := h.2.2.1 q (by rw [hm]; exact fun z => (by cases z)) hqa
    rw [hq, hm] at h9
    cases h9
theorem FI_add (h : FI g M0 M a n Q c) (hne : ∀ i, i < n → Q i ≠ q) (hM : M q = some e) (h0 : M0 q = none) (hg : g.1 ≤ q) : FI g M0 M a (n + 1) (un Q n q) (uc c n e) := by
  refine ⟨fun i j hi hj he => ?_, fun i hi => ?_, h.2.2⟩
  · by_cases ei : i = n <;> by_cases ej : j = n
    · omega
    · rw [ei, un_s, un_n ej] at he
      exact absurd he.symm (hne j (by omega))
    · rw [ej, un_s, un_n ei] at he
      exact absurd he (hne i (by omega))
    · rw [un_n ei, un_n ej] at he
      exact h.1 i j (by omega) (by omega) he
  · by_cases ei : i = n
    · rw [ei, un_s, uc_s]; exact ⟨hM, h0, hg⟩
    · rw [un_n ei, uc_n ei]; exact h.2.1 i (by omega)
theorem FI_fr (h : FI g M0 M a n Q c) (hj : j < n) (hM : M' (Q j) = some e) (hfr : ∀ b, M b ≠ none → b ≠ Q j → M' b = M b) : FI g M0 M' a n Q (uc c j e) := by
  refine ⟨h.1, fun i hi => ?_, fun b hb hba => ?_, h.2.2.2.1, ?_⟩
  · by_cases ei : i = j
    · rw [ei, uc_s]; exact ⟨hM, (h.2.1 j hj).2⟩
    · rw [uc_n ei]
      obtain ⟨k1, k2⟩ := h.2.1 i hi
      exact ⟨(hfr _ (by rw [k1]; exact fun z => (by cases z)) (fun z => ei (h.1 i j hi hj z))).trans k1, k2⟩
  · have h9 := h.2.2.1 b hb hba
    exact (hfr b (by rw [h9]; exact hb) (fun z => hb (by rw [z]; exact (h.2.1 j hj).2.1))).trans h9
  · rw [hfr a h.2.2.2.2 (fun z => FI_ne h hj z.symm)]; exact h.2.2.2.2
theorem FI_set (h : FI g M0 M a n Q c) (hj : j < n) (hq : Q j = q) : FI g M0 (mu M q e) a n Q (uc c j e) := FI_fr h hj (by rw [hq]; exact mu_s) (fun b _ hb => mu_n (fun z => hb (by rw [hq]; exact z)))
theorem FI_mu (h : FI g M0 M a n Q c) (hq : M q = none) : FI g M0 (mu M q e) a n Q c := ⟨h.1, fun i hi => ⟨(mu_n (m_new hq (h.2.1 i hi).1)).trans (h.2.1 i hi).1, (h.2.1 i hi).2⟩, fun b hb hba => (mu_n (fun z => hb (by rw [← h.2.2.1 b hb hba, z]; exact hq))).trans (h.2.2.1 b hb hba), h.2.2.2.1, by rw [mu_n (FI_fresh h hq).2.symm]; exact h.2.2.2.2⟩
theorem FI_new (h : FI g M0 M a n Q c) (hq : M q = none) (hg : g.1 ≤ q) : FI g M0 (mu M q e) a (n + 1) (un Q n q) (uc c n e) := FI_add (FI_mu h hq) (fun i hi => m_new hq (h.2.1 i hi).1) mu_s (FI_fresh h hq).1 hg
theorem un_ne {d : Nat} (h : ∀ i, i < n → Q i ≠ q) (hd : d ≠ q) : ∀ i, i < n + 1 → un Q n d i ≠ q := fun i hi => by
  by_cases e : i = n
  · rw [e, un_s]; exact hd
  · rw [un_n e]; exact h i (by omega)
theorem FI_muR {N : Nat} {r : Nat → Nat} (h : FI g M0 M a n Q c) (hr : ∀ i, i < N → M (r i) = none) : FI g M0 (muR M N r e) a n Q c := ⟨h.1, fun i hi => ⟨(muR_n (fun t ht => m_new (hr t ht) (h.2.1 i hi).1)).trans (h.2.1 i hi).1, (h.2.1 i hi).2⟩, fun b hb hba => (muR_n (fun t ht z => hb (by rw [← h.2.2.1 b hb hba, z]; exact hr t ht))).trans (h.2.2.1 b hb hba), h.2.2.2.1, by rw [muR_n (fun t ht => (FI_fresh h (hr t ht)).2.symm)]; exact h.2.2.2.2⟩
/-- three new rows -/
theorem FI_rows3 {r : Nat → Nat} (h : FI g M0 M a n Q c) (hq : M q = none) (hg : g.1 ≤ q) (hr : ∀ i, i < 3 → M (r i) = none ∧ g.1 ≤ r i ∧ r i ≠ q) (hinj : ∀ i j, i < 3 → j < 3 → r i = r j → i = j) : FI g M0 (muR (mu M q x) 3 r e) a (n + 1 + 1 + 1 + 1) (un (un (un (un Q n q) (n + 1) (r 0)) (n + 1 + 1) (r 1)) (n + 1 + 1 + 1) (r 2)) (uc (uc (uc (uc c n x) (n + 1) e) (n + 1 + 1) e) (n + 1 + 1 + 1) e) := by
  have h1 := FI_new (e := x) h hq hg
  have hr2 : ∀ i, i < 3 → mu M q x (r i) = none := fun i hi => (mu_n (hr i hi).2.2).trans (hr i hi).1
  have h2 := FI_muR (e := e) h1 hr2
  have hne : ∀ k, k < 3 → ∀ i, i < n + 1 → un Q n q i ≠ r k := fun k hk i hi => m_new (hr2 k hk) (h1.2.1 i hi).1
  have f0 : ∀ k, k < 3 → M0 (r k) = none := fun k hk => (FI_fresh h (hr k hk).1).1
  have r01 : r 0 ≠ r 1 := fun z => absurd (hinj 0 1 (by decide) (by decide) z) (by decide)
  have r02 : r 0 ≠ r 2 := fun z => absurd (hinj 0 2 (by decide) (by decide) z) (by decide)
  have r12 : r 1 ≠ r 2 := fun z => absurd (hinj 1 2 (by decide) (by decide) z) (by decide)
  have h3 := FI_add h2 (hne 0 (by decide)) (muR_s (by decide)) (f0 0 (by decide)) (hr 0 (by decide)).2.1
  have h4 := FI_add h3 (un_ne (hne 1 (by decide)) r01) (muR_s (by decide)) (f0 1 (by decide)) (hr 1 (by decide)).2.1
  exact FI_add h4 (un_ne (un_ne (hne 2 (by decide)) r02) r12) (muR_s (by decide)) (f0 2 (by decide)) (hr 2 (by decide)).2.1
/-- a new cloth -/
theorem FI_cl {d u : Nat} {r : Nat → Nat} (h : FI g M0 M a n Q c) (hj : j < n) (hz : Q j = q) (hC : CP g M M' q d u r) : FI g M0 M' a (n + 1 + 1 + 1 + 1 + 1 + 1 + 1) (un (un (un (un (un (un (un Q n d) (n + 1) (r 0)) (n + 1 + 1) (r 1)) (n + 1 + 1 + 1) (r 2)) (n + 1 + 1 + 1 + 1) (r 3)) (n + 1 + 1 + 1 + 1 + 1) (r 4)) (n + 1 + 1 + 1 + 1 + 1 + 1) u)
    (uc (uc (uc (uc (uc (uc (uc (uc c j (eO 2 [.int 0, .ref d, .ref u])) n (eQ g 4 5 (rowc 5 r))) (n + 1) (eI g 5 (fun _ => 0))) (n + 1 + 1) (eI g 5 (fun _ => 0))) (n + 1 + 1 + 1) (eI g 5 (fun _ => 0))) (n + 1 + 1 + 1 + 1) (eI g 5 (fun _ => 0))) (n + 1 + 1 + 1 + 1 + 1) (eI g 5 (fun _ => 0))) (n + 1 + 1 + 1 + 1 + 1 + 1) (eI g 5 (fun _ => 0))) := by
  obtain ⟨c1, ⟨d1, d2, d3⟩, ⟨u1, u2, u3⟩, hr, hinj, hdu, hfr⟩ := hC
  subst hz
  have h2 := FI_fr h hj c1 hfr
  have nd : ∀ i, i < n → Q i ≠ d := fun i hi => m_new d2 (h.2.1 i hi).1
  have nu : ∀ i, i < n → Q i ≠ u := fun i hi => m_new u2 (h.2.1 i hi).1
  have nr : ∀ k, k < 5 → ∀ i, i < n → Q i ≠ r k := fun k hk i hi => m_new (hr k hk).2.1 (h.2.1 i hi).1
  have rr : ∀ i k, i < 5 → k < 5 → i ≠ k → r i ≠ r k := fun i k hi hk hik z => hik (hinj i k hi hk z)
  have dr : ∀ k, k < 5 → d ≠ r k := fun k hk => (hr k hk).2.2.2.1.symm
  have ad : ∀ k (hk : k < 5) {n9 : Nat} {Q9 : Nat → Nat} {c9 : Nat → va_E}, FI g M0 M' a n9 Q9 c9 → (∀ i, i < n9 → Q9 i ≠ r k) → FI g M0 M' a (n9 + 1) (un Q9 n9 (r k)) (uc c9 n9 (eI g 5 (fun _ => 0))) := fun k hk n9 Q9 c9 h9 hne => FI_add h9 hne (hr k hk).1 (FI_fresh h (hr k hk).2.1).1 (hr k hk).2.2.1
  have h3 := FI_add h2 nd d1 (FI_fresh h d2).1 d3
  have h4 := ad 0 (by decide) h3 (un_ne (nr 0 (by decide)) (dr 0 (by decide)))
  have h5 := ad 1 (by decide) h4 (un_ne (un_ne (nr 1 (by decide)) (dr 1 (by decide))) (rr 0 1 (by decide) (by decide) (by decide)))
  have h6 := ad 2 (by decide) h5 (un_ne (un_ne (un_ne (nr 2 (by decide)) (dr 2 (by decide))) (rr 0 2 (by decide) (by decide) (by decide))) (rr 1 2 (by decide) (by decide) (by decide)))
  have h7 := ad 3 (by decide) h6 (un_ne (un_ne (un_ne (un_ne (nr 3 (by decide)) (dr 3 (by decide))) (rr 0 3 (by decide) (by decide) (by decide))) (rr 1 3 (by decide) (by decide) (by decide))) (rr 2 3 (by decide) (by decide) (by decide)))
  have h8 := ad 4 (by decide) h7 (un_ne (un_ne (un_ne (un_ne (un_ne (nr 4 (by decide)) (dr 4 (by decide))) (rr 0 4 (by decide) (by decide) (by decide))) (rr 1 4 (by decide) (by decide) (by decide))) (rr 2 4 (by decide) (by decide) (by decide))) (rr 3 4 (by decide) (by decide) (by decide)))
  have ru : ∀ k, k < 5 → r k ≠ u := fun k hk => (hr k hk).2.2.2.2
  exact FI_add h8 (un_ne (un_ne (un_ne (un_ne (un_ne (un_ne nu hdu) (ru 0 (by decide))) (ru 1 (by decide))) (ru 2 (by decide))) (ru 3 (by decide))) (ru 4 (by decide))) u1 (FI_fresh h u2).1 u3
end FIS
