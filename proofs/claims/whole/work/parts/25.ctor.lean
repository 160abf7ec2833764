/-! CONSTRUCTORS -/
/-- n new int arrays Q 0 .. Q (n-1), all zero; else only a changed -/
def QI (g : gG) (M0 M : Mp) (a n : Nat) (Q len : Nat → Nat) : Prop := (∀ i j, i < n → j < n → Q i = Q j → i = j) ∧ (∀ i, i < n → M (Q i) = some (eI g (len i) (fun _ => 0)) ∧ M0 (Q i) = none ∧ g.1 ≤ Q i) ∧ (∀ b, M0 b ≠ none → b ≠ a → M b = M0 b) ∧ M0 a ≠ none
theorem QI_0 {g : gG} {M : Mp} {a : Nat} {x : va_E} {Q len : Nat → Nat} (h : M a = some x) : QI g M M a 0 Q len := ⟨fun i j hi => absurd hi (Nat.not_lt_zero i), fun i hi => absurd hi (Nat.not_lt_zero i), fun _ _ _ => rfl, by rw [h]; exact fun z => by cases z⟩
theorem QI_new {g : gG} {M0 M : Mp} {a n q N : Nat} {Q len : Nat → Nat} {ci : Nat} {fs fs' : List Value} (h : QI g M0 M a n Q len) (ha : M a = some (eO ci fs)) (hq : M q = none) (hg : g.1 ≤ q) (hN : len n = N) : QI g M0 (mu (mu M q (eI g N (fun _ => 0))) a (eO ci fs')) a (n + 1) (un Q n q) len := by
  obtain ⟨h1, h2, h3, h4⟩ := h
  have haq : a ≠ q := m_new hq ha
  have hQq : ∀ i, i < n → Q i ≠ q := fun i hi => m_new hq (h2 i hi).1
  refine ⟨fun i j hi hj he => ?_, fun i hi => ?_, fun b hb hba => ?_, h4⟩
  · by_cases ei : i = n <;> by_cases ej : j = n
    · omega
    · rw [ei, un_s, un_n ej] at he
      exact absurd he.symm (hQq j (by omega))
    · rw [ej, un_s, un_n ei] at he
      exact absurd he (hQq i (by omega))
    · rw [un_n ei, un_n ej] at he
      exact h1 i j (by omega) (by omega) he
  · by_cases ei : i = n
    · rw [ei, un_s, mu_n haq.symm, mu_s, hN]
      refine ⟨rfl, ?_, hg⟩
      cases hm : M0 q with
      | none => rfl
      | some e =>
        have h9 := h3 q (by rw [hm]; exact fun z => by cases z) haq.symm
        rw [hq, hm] at h9
        cases h9
    · rw [un_n ei]
      obtain ⟨k1, k2, k3⟩ := h2 i (by omega)
      exact ⟨by rw [mu_n (m_ne k1 ha (by intro z; cases z)), mu_n (hQq i (by omega))]; exact k1, k2, k3⟩
  · have h9 := h3 b hb hba
    rw [mu_n hba, mu_n (fun z => hb (by rw [← h9, z]; exact hq))]
    exact h9
def qpos (k : Nat) : Nat := [0, 0, 1, 2, 3, 0, 4, 5, 6, 0, 7, 8, 9, 10, 11, 12, 13, 14, 15, 16, 17, 18, 19, 0].getD k 0
def qlen (i : Nat) : Nat := [24, 12, 3, 8, 10, 10, 10, 40, 40, 40, 40, 40, 40, 40, 40, 40, 9, 3, 75, 5].getD i 0
set_option maxHeartbeats 4000000 in
set_option maxRecDepth 100000 in
theorem c_M_init {l : Launch} {g : gG} {M : Mp} {a : Nat} (h0 : M a = some (eO 7 [.int 0, .null, .null, .null, .null, .int 0, .null, .null, .null, .int 0, .null, .null, .null, .null, .null, .null, .null, .null, .null, .null, .null, .null, .null, .int 0])) : Met l yX6_init (WY yX6_init cX6_init 1 none) { frames := 1, cells := 20, slots := 529, locals := 12 } (Wc g M [.ref a]) (wrQ (S := Nat → Nat) g (fun u_ => none) (fun u_ M_ => QI g M M_ a 20 u_ qlen ∧ M_ a = some (eO 7 (mfs (fun k => u_ (qpos k)) (fun _ => 0))))) 20 529 (gA g) := by
  refine ofM (by decide +kernel) (Nat.le_of_ble_eq_true rfl) (fun p e s m args below meth c ls C hr hlocks hin hE hH hl ea => ?_)
  have hin : meth.name = "<init>" := hin
  have hl : lv_has ls 1 [(0, .ref a)] := hl
  have hS : va_S (gA g) s.heap s.heap [] := va_S.rf
  refine lv_aload_n C.1 C.2.1 dX6_init_0 rfl (lv_at hl 0 rfl) ?_
  refine W.objInit C.1 C.2.1 C.2.2.2.1 (C.2.2.2.2 _ wm_729) (C.2.2.2.2 _ wm_53) (C.2.2.2.2 _ wm_54) rfl (by rw [C.2.2.1]; exact hl.1) rfl dX6_init_1 (Nat.le_of_ble_eq_true rfl) (Nat.le_of_ble_eq_true rfl) ?_
  refine W.eq (g2 := F0 m 4 ls []) rfl ?_
  have Q0 := QI_0 (g := g) (Q := fun _ => 0) (len := qlen) h0
  refine lv_aload_n C.1 C.2.1 dX6_init_4 rfl (lv_at hl 0 rfl) ?_
  refine lv_bipush (v := 24) C.1 C.2.1 dX6_init_5 rfl ?_
  refine mnewI (N := 24) C hE hH hS wm_103 (by decide) (by decide) (Nat.le_of_ble_eq_true rfl) (by decide) (by decide) dX6_init_7 (fun q1 H nq1 gq1 hH hS => ?_)
  obtain ⟨M2, hM2⟩ : ∃ z, z = mu M q1 (eI g 24 (fun _ => 0)) := ⟨_, rfl⟩
  have hH : Hw g M2 H := by rw [hM2]; exact hH
  have f3 : M2 q1 = some (eI g 24 (fun _ => 0)) := by rw [hM2]; exact mu_s
  have f4 : M2 a = some (eO 7 [.int 0, .null, .null, .null, .null, .int 0, .null, .null, .null, .int 0, .null, .null, .null, .null, .null, .null, .null, .null, .null, .null, .null, .null, .null, .int 0]) := by rw [hM2]; exact (mu_n (m_new nq1 h0)).trans h0
  refine mputF (fs' := [.int 0, .ref q1, .null, .null, .null, .int 0, .null, .null, .null, .int 0, .null, .null, .null, .null, .null, .null, .null, .null, .null, .null, .null, .null, .null, .int 0]) C hE hH hS fp_731 f4 hin rfl rfl rfl (Nat.le_of_ble_eq_true rfl) dX6_init_9 (fun H locs hH hS => ?_)
  obtain ⟨M5, hM5⟩ : ∃ z, z = mu M2 a (eO 7 [.int 0, .ref q1, .null, .null, .null, .int 0, .null, .null, .null, .int 0, .null, .null, .null, .null, .null, .null, .null, .null, .null, .null, .null, .null, .null, .int 0]) := ⟨_, rfl⟩
  have hH : Hw g M5 H := by rw [hM5]; exact hH
  have f6 : M5 a = some (eO 7 [.int 0, .ref q1, .null, .null, .null, .int 0, .null, .null, .null, .int 0, .null, .null, .null, .null, .null, .null, .null, .null, .null, .null, .null, .null, .null, .int 0]) := by rw [hM5]; exact mu_s
  have f7 : M5 q1 = some (eI g 24 (fun _ => 0)) := by rw [hM5]; exact (mu_n ((m_new nq1 h0)).symm).trans f3
  have Q1 := QI_new (N := 24) (fs' := [.int 0, .ref q1, .null, .null, .null, .int 0, .null, .null, .null, .int 0, .null, .null, .null, .null, .null, .null, .null, .null, .null, .null, .null, .null, .null, .int 0]) (Q0) h0 nq1 gq1 rfl
  rw [← hM2, ← hM5] at Q1
  refine lv_aload_n C.1 C.2.1 dX6_init_12 rfl (lv_at hl 0 rfl) ?_
  refine lv_bipush (v := 12) C.1 C.2.1 dX6_init_13 rfl ?_
  refine mnewI (N := 12) C hE hH hS wm_103 (by decide) (by decide) (Nat.le_of_ble_eq_true rfl) (by decide) (by decide) dX6_init_15 (fun q8 H nq8 gq8 hH hS => ?_)
  obtain ⟨M9, hM9⟩ : ∃ z, z = mu M5 q8 (eI g 12 (fun _ => 0)) := ⟨_, rfl⟩
  have hH : Hw g M9 H := by rw [hM9]; exact hH
  have f10 : M9 q8 = some (eI g 12 (fun _ => 0)) := by rw [hM9]; exact mu_s
  have f11 : M9 a = some (eO 7 [.int 0, .ref q1, .null, .null, .null, .int 0, .null, .null, .null, .int 0, .null, .null, .null, .null, .null, .null, .null, .null, .null, .null, .null, .null, .null, .int 0]) := by rw [hM9]; exact (mu_n (m_new nq8 f6)).trans f6
  refine mputF (fs' := [.int 0, .ref q1, .ref q8, .null, .null, .int 0, .null, .null, .null, .int 0, .null, .null, .null, .null, .null, .null, .null, .null, .null, .null, .null, .null, .null, .int 0]) C hE hH hS fp_732 f11 hin rfl rfl rfl (Nat.le_of_ble_eq_true rfl) dX6_init_17 (fun H locs hH hS => ?_)
  obtain ⟨M12, hM12⟩ : ∃ z, z = mu M9 a (eO 7 [.int 0, .ref q1, .ref q8, .null, .null, .int 0, .null, .null, .null, .int 0, .null, .null, .null, .null, .null, .null, .null, .null, .null, .null, .null, .null, .null, .int 0]) := ⟨_, rfl⟩
  have hH : Hw g M12 H := by rw [hM12]; exact hH
  have f13 : M12 a = some (eO 7 [.int 0, .ref q1, .ref q8, .null, .null, .int 0, .null, .null, .null, .int 0, .null, .null, .null, .null, .null, .null, .null, .null, .null, .null, .null, .null, .null, .int 0]) := by rw [hM12]; exact mu_s
  have f14 : M12 q8 = some (eI g 12 (fun _ => 0)) := by rw [hM12]; exact (mu_n ((m_new nq8 f6)).symm).trans f10
  have Q2 := QI_new (N := 12) (fs' := [.int 0, .ref q1, .ref q8, .null, .null, .int 0, .null, .null, .null, .int 0, .null, .null, .null, .null, .null, .null, .null, .null, .null, .null, .null, .null, .null, .int 0]) (Q1) f6 nq8 gq8 rfl
  rw [← hM9, ← hM12] at Q2
  refine lv_aload_n C.1 C.2.1 dX6_init_20 rfl (lv_at hl 0 rfl) ?_
  refine lv_iconst (v := 3) C.1 C.2.1 dX6_init_21 rfl ?_
  refine mnewI (N := 3) C hE hH hS wm_103 (by decide) (by decide) (Nat.le_of_ble_eq_true rfl) (by decide) (by decide) dX6_init_22 (fun q15 H nq15 gq15 hH hS => ?_)
  obtain ⟨M16, hM16⟩ : ∃ z, z = mu M12 q15 (eI g 3 (fun _ => 0)) := ⟨_, rfl⟩
  have hH : Hw g M16 H := by rw [hM16]; exact hH
  have f17 : M16 q15 = some (eI g 3 (fun _ => 0)) := by rw [hM16]; exact mu_s
  have f18 : M16 a = some (eO 7 [.int 0, .ref q1, .ref q8, .null, .null, .int 0, .null, .null, .null, .int 0, .null, .null, .null, .null, .null, .null, .null, .null, .null, .null, .null, .null, .null, .int 0]) := by rw [hM16]; exact (mu_n (m_new nq15 f13)).trans f13
  refine mputF (fs' := [.int 0, .ref q1, .ref q8, .ref q15, .null, .int 0, .null, .null, .null, .int 0, .null, .null, .null, .null, .null, .null, .null, .null, .null, .null, .null, .null, .null, .int 0]) C hE hH hS fp_733 f18 hin rfl rfl rfl (Nat.le_of_ble_eq_true rfl) dX6_init_24 (fun H locs hH hS => ?_)
  obtain ⟨M19, hM19⟩ : ∃ z, z = mu M16 a (eO 7 [.int 0, .ref q1, .ref q8, .ref q15, .null, .int 0, .null, .null, .null, .int 0, .null, .null, .null, .null, .null, .null, .null, .null, .null, .null, .null, .null, .null, .int 0]) := ⟨_, rfl⟩
  have hH : Hw g M19 H := by rw [hM19]; exact hH
  have f20 : M19 a = some (eO 7 [.int 0, .ref q1, .ref q8, .ref q15, .null, .int 0, .null, .null, .null, .int 0, .null, .null, .null, .null, .null, .null, .null, .null, .null, .null, .null, .null, .null, .int 0]) := by rw [hM19]; exact mu_s
  have f21 : M19 q15 = some (eI g 3 (fun _ => 0)) := by rw [hM19]; exact (mu_n ((m_new nq15 f13)).symm).trans f17
  have Q3 := QI_new (N := 3) (fs' := [.int 0, .ref q1, .ref q8, .ref q15, .null, .int 0, .null, .null, .null, .int 0, .null, .null, .null, .null, .null, .null, .null, .null, .null, .null, .null, .null, .null, .int 0]) (Q2) f13 nq15 gq15 rfl
  rw [← hM16, ← hM19] at Q3
  refine lv_aload_n C.1 C.2.1 dX6_init_27 rfl (lv_at hl 0 rfl) ?_
  refine lv_bipush (v := 8) C.1 C.2.1 dX6_init_28 rfl ?_
  refine mnewI (N := 8) C hE hH hS wm_103 (by decide) (by decide) (Nat.le_of_ble_eq_true rfl) (by decide) (by decide) dX6_init_30 (fun q22 H nq22 gq22 hH hS => ?_)
  obtain ⟨M23, hM23⟩ : ∃ z, z = mu M19 q22 (eI g 8 (fun _ => 0)) := ⟨_, rfl⟩
  have hH : Hw g M23 H := by rw [hM23]; exact hH
  have f24 : M23 q22 = some (eI g 8 (fun _ => 0)) := by rw [hM23]; exact mu_s
  have f25 : M23 a = some (eO 7 [.int 0, .ref q1, .ref q8, .ref q15, .null, .int 0, .null, .null, .null, .int 0, .null, .null, .null, .null, .null, .null, .null, .null, .null, .null, .null, .null, .null, .int 0]) := by rw [hM23]; exact (mu_n (m_new nq22 f20)).trans f20
  refine mputF (fs' := [.int 0, .ref q1, .ref q8, .ref q15, .ref q22, .int 0, .null, .null, .null, .int 0, .null, .null, .null, .null, .null, .null, .null, .null, .null, .null, .null, .null, .null, .int 0]) C hE hH hS fp_734 f25 hin rfl rfl rfl (Nat.le_of_ble_eq_true rfl) dX6_init_32 (fun H locs hH hS => ?_)
  obtain ⟨M26, hM26⟩ : ∃ z, z = mu M23 a (eO 7 [.int 0, .ref q1, .ref q8, .ref q15, .ref q22, .int 0, .null, .null, .null, .int 0, .null, .null, .null, .null, .null, .null, .null, .null, .null, .null, .null, .null, .null, .int 0]) := ⟨_, rfl⟩
  have hH : Hw g M26 H := by rw [hM26]; exact hH
  have f27 : M26 a = some (eO 7 [.int 0, .ref q1, .ref q8, .ref q15, .ref q22, .int 0, .null, .null, .null, .int 0, .null, .null, .null, .null, .null, .null, .null, .null, .null, .null, .null, .null, .null, .int 0]) := by rw [hM26]; exact mu_s
  have f28 : M26 q22 = some (eI g 8 (fun _ => 0)) := by rw [hM26]; exact (mu_n ((m_new nq22 f20)).symm).trans f24
  have Q4 := QI_new (N := 8) (fs' := [.int 0, .ref q1, .ref q8, .ref q15, .ref q22, .int 0, .null, .null, .null, .int 0, .null, .null, .null, .null, .null, .null, .null, .null, .null, .null, .null, .null, .null, .int 0]) (Q3) f20 nq22 gq22 rfl
  rw [← hM23, ← hM26] at Q4
  refine lv_aload_n C.1 C.2.1 dX6_init_35 rfl (lv_at hl 0 rfl) ?_
  refine lv_bipush (v := 10) C.1 C.2.1 dX6_init_36 rfl ?_
  refine mnewI (N := 10) C hE hH hS wm_103 (by decide) (by decide) (Nat.le_of_ble_eq_true rfl) (by decide) (by decide) dX6_init_38 (fun q29 H nq29 gq29 hH hS => ?_)
  obtain ⟨M30, hM30⟩ : ∃ z, z = mu M26 q29 (eI g 10 (fun _ => 0)) := ⟨_, rfl⟩
  have hH : Hw g M30 H := by rw [hM30]; exact hH
  have f31 : M30 q29 = some (eI g 10 (fun _ => 0)) := by rw [hM30]; exact mu_s
  have f32 : M30 a = some (eO 7 [.int 0, .ref q1, .ref q8, .ref q15, .ref q22, .int 0, .null, .null, .null, .int 0, .null, .null, .null, .null, .null, .null, .null, .null, .null, .null, .null, .null, .null, .int 0]) := by rw [hM30]; exact (mu_n (m_new nq29 f27)).trans f27
  refine mputF (fs' := [.int 0, .ref q1, .ref q8, .ref q15, .ref q22, .int 0, .ref q29, .null, .null, .int 0, .null, .null, .null, .null, .null, .null, .null, .null, .null, .null, .null, .null, .null, .int 0]) C hE hH hS fp_736 f32 hin rfl rfl rfl (Nat.le_of_ble_eq_true rfl) dX6_init_40 (fun H locs hH hS => ?_)
  obtain ⟨M33, hM33⟩ : ∃ z, z = mu M30 a (eO 7 [.int 0, .ref q1, .ref q8, .ref q15, .ref q22, .int 0, .ref q29, .null, .null, .int 0, .null, .null, .null, .null, .null, .null, .null, .null, .null, .null, .null, .null, .null, .int 0]) := ⟨_, rfl⟩
  have hH : Hw g M33 H := by rw [hM33]; exact hH
  have f34 : M33 a = some (eO 7 [.int 0, .ref q1, .ref q8, .ref q15, .ref q22, .int 0, .ref q29, .null, .null, .int 0, .null, .null, .null, .null, .null, .null, .null, .null, .null, .null, .null, .null, .null, .int 0]) := by rw [hM33]; exact mu_s
  have f35 : M33 q29 = some (eI g 10 (fun _ => 0)) := by rw [hM33]; exact (mu_n ((m_new nq29 f27)).symm).trans f31
  have Q5 := QI_new (N := 10) (fs' := [.int 0, .ref q1, .ref q8, .ref q15, .ref q22, .int 0, .ref q29, .null, .null, .int 0, .null, .null, .null, .null, .null, .null, .null, .null, .null, .null, .null, .null, .null, .int 0]) (Q4) f27 nq29 gq29 rfl
  rw [← hM30, ← hM33] at Q5
  refine lv_aload_n C.1 C.2.1 dX6_init_43 rfl (lv_at hl 0 rfl) ?_
  refine lv_bipush (v := 10) C.1 C.2.1 dX6_init_44 rfl ?_
  refine mnewI (N := 10) C hE hH hS wm_103 (by decide) (by decide) (Nat.le_of_ble_eq_true rfl) (by decide) (by decide) dX6_init_46 (fun q36 H nq36 gq36 hH hS => ?_)
  obtain ⟨M37, hM37⟩ : ∃ z, z = mu M33 q36 (eI g 10 (fun _ => 0)) := ⟨_, rfl⟩
  have hH : Hw g M37 H := by rw [hM37]; exact hH
  have f38 : M37 q36 = some (eI g 10 (fun _ => 0)) := by rw [hM37]; exact mu_s
  have f39 : M37 a = some (eO 7 [.int 0, .ref q1, .ref q8, .ref q15, .ref q22, .int 0, .ref q29, .null, .null, .int 0, .null, .null, .null, .null, .null, .null, .null, .null, .null, .null, .null, .null, .null, .int 0]) := by rw [hM37]; exact (mu_n (m_new nq36 f34)).trans f34
  refine mputF (fs' := [.int 0, .ref q1, .ref q8, .ref q15, .ref q22, .int 0, .ref q29, .ref q36, .null, .int 0, .null, .null, .null, .null, .null, .null, .null, .null, .null, .null, .null, .null, .null, .int 0]) C hE hH hS fp_737 f39 hin rfl rfl rfl (Nat.le_of_ble_eq_true rfl) dX6_init_48 (fun H locs hH hS => ?_)
  obtain ⟨M40, hM40⟩ : ∃ z, z = mu M37 a (eO 7 [.int 0, .ref q1, .ref q8, .ref q15, .ref q22, .int 0, .ref q29, .ref q36, .null, .int 0, .null, .null, .null, .null, .null, .null, .null, .null, .null, .null, .null, .null, .null, .int 0]) := ⟨_, rfl⟩
  have hH : Hw g M40 H := by rw [hM40]; exact hH
  have f41 : M40 a = some (eO 7 [.int 0, .ref q1, .ref q8, .ref q15, .ref q22, .int 0, .ref q29, .ref q36, .null, .int 0, .null, .null, .null, .null, .null, .null, .null, .null, .null, .null, .null, .null, .null, .int 0]) := by rw [hM40]; exact mu_s
  have f42 : M40 q36 = some (eI g 10 (fun _ => 0)) := by rw [hM40]; exact (mu_n ((m_new nq36 f34)).symm).trans f38
  have Q6 := QI_new (N := 10) (fs' := [.int 0, .ref q1, .ref q8, .ref q15, .ref q22, .int 0, .ref q29, .ref q36, .null, .int 0, .null, .null, .null, .null, .null, .null, .null, .null, .null, .null, .null, .null, .null, .int 0]) (Q5) f34 nq36 gq36 rfl
  rw [← hM37, ← hM40] at Q6
  refine lv_aload_n C.1 C.2.1 dX6_init_51 rfl (lv_at hl 0 rfl) ?_
  refine lv_bipush (v := 10) C.1 C.2.1 dX6_init_52 rfl ?_
  refine mnewI (N := 10) C hE hH hS wm_103 (by decide) (by decide) (Nat.le_of_ble_eq_true rfl) (by decide) (by decide) dX6_init_54 (fun q43 H nq43 gq43 hH hS => ?_)
  obtain ⟨M44, hM44⟩ : ∃ z, z = mu M40 q43 (eI g 10 (fun _ => 0)) := ⟨_, rfl⟩
  have hH : Hw g M44 H := by rw [hM44]; exact hH
  have f45 : M44 q43 = some (eI g 10 (fun _ => 0)) := by rw [hM44]; exact mu_s
  have f46 : M44 a = some (eO 7 [.int 0, .ref q1, .ref q8, .ref q15, .ref q22, .int 0, .ref q29, .ref q36, .null, .int 0, .null, .null, .null, .null, .null, .null, .null, .null, .null, .null, .null, .null, .null, .int 0]) := by rw [hM44]; exact (mu_n (m_new nq43 f41)).trans f41
  refine mputF (fs' := [.int 0, .ref q1, .ref q8, .ref q15, .ref q22, .int 0, .ref q29, .ref q36, .ref q43, .int 0, .null, .null, .null, .null, .null, .null, .null, .null, .null, .null, .null, .null, .null, .int 0]) C hE hH hS fp_738 f46 hin rfl rfl rfl (Nat.le_of_ble_eq_true rfl) dX6_init_56 (fun H locs hH hS => ?_)
  obtain ⟨M47, hM47⟩ : ∃ z, z = mu M44 a (eO 7 [.int 0, .ref q1, .ref q8, .ref q15, .ref q22, .int 0, .ref q29, .ref q36, .ref q43, .int 0, .null, .null, .null, .null, .null, .null, .null, .null, .null, .null, .null, .null, .null, .int 0]) := ⟨_, rfl⟩
  have hH : Hw g M47 H := by rw [hM47]; exact hH
  have f48 : M47 a = some (eO 7 [.int 0, .ref q1, .ref q8, .ref q15, .ref q22, .int 0, .ref q29, .ref q36, .ref q43, .int 0, .null, .null, .null, .null, .null, .null, .null, .null, .null, .null, .null, .null, .null, .int 0]) := by rw [hM47]; exact mu_s
  have f49 : M47 q43 = some (eI g 10 (fun _ => 0)) := by rw [hM47]; exact (mu_n ((m_new nq43 f41)).symm).trans f45
  have Q7 := QI_new (N := 10) (fs' := [.int 0, .ref q1, .ref q8, .ref q15, .ref q22, .int 0, .ref q29, .ref q36, .ref q43, .int 0, .null, .null, .null, .null, .null, .null, .null, .null, .null, .null, .null, .null, .null, .int 0]) (Q6) f41 nq43 gq43 rfl
  rw [← hM44, ← hM47] at Q7
  refine lv_aload_n C.1 C.2.1 dX6_init_59 rfl (lv_at hl 0 rfl) ?_
  refine lv_bipush (v := 40) C.1 C.2.1 dX6_init_60 rfl ?_
  refine mnewI (N := 40) C hE hH hS wm_103 (by decide) (by decide) (Nat.le_of_ble_eq_true rfl) (by decide) (by decide) dX6_init_62 (fun q50 H nq50 gq50 hH hS => ?_)
  obtain ⟨M51, hM51⟩ : ∃ z, z = mu M47 q50 (eI g 40 (fun _ => 0)) := ⟨_, rfl⟩
  have hH : Hw g M51 H := by rw [hM51]; exact hH
  have f52 : M51 q50 = some (eI g 40 (fun _ => 0)) := by rw [hM51]; exact mu_s
  have f53 : M51 a = some (eO 7 [.int 0, .ref q1, .ref q8, .ref q15, .ref q22, .int 0, .ref q29, .ref q36, .ref q43, .int 0, .null, .null, .null, .null, .null, .null, .null, .null, .null, .null, .null, .null, .null, .int 0]) := by rw [hM51]; exact (mu_n (m_new nq50 f48)).trans f48
  refine mputF (fs' := [.int 0, .ref q1, .ref q8, .ref q15, .ref q22, .int 0, .ref q29, .ref q36, .ref q43, .int 0, .ref q50, .null, .null, .null, .null, .null, .null, .null, .null, .null, .null, .null, .null, .int 0]) C hE hH hS fp_740 f53 hin rfl rfl rfl (Nat.le_of_ble_eq_true rfl) dX6_init_64 (fun H locs hH hS => ?_)
  obtain ⟨M54, hM54⟩ : ∃ z, z = mu M51 a (eO 7 [.int 0, .ref q1, .ref q8, .ref q15, .ref q22, .int 0, .ref q29, .ref q36, .ref q43, .int 0, .ref q50, .null, .null, .null, .null, .null, .null, .null, .null, .null, .null, .null, .null, .int 0]) := ⟨_, rfl⟩
  have hH : Hw g M54 H := by rw [hM54]; exact hH
  have f55 : M54 a = some (eO 7 [.int 0, .ref q1, .ref q8, .ref q15, .ref q22, .int 0, .ref q29, .ref q36, .ref q43, .int 0, .ref q50, .null, .null, .null, .null, .null, .null, .null, .null, .null, .null, .null, .null, .int 0]) := by rw [hM54]; exact mu_s
  have f56 : M54 q50 = some (eI g 40 (fun _ => 0)) := by rw [hM54]; exact (mu_n ((m_new nq50 f48)).symm).trans f52
  have Q8 := QI_new (N := 40) (fs' := [.int 0, .ref q1, .ref q8, .ref q15, .ref q22, .int 0, .ref q29, .ref q36, .ref q43, .int 0, .ref q50, .null, .null, .null, .null, .null, .null, .null, .null, .null, .null, .null, .null, .int 0]) (Q7) f48 nq50 gq50 rfl
  rw [← hM51, ← hM54] at Q8
  refine lv_aload_n C.1 C.2.1 dX6_init_67 rfl (lv_at hl 0 rfl) ?_
  refine lv_bipush (v := 40) C.1 C.2.1 dX6_init_68 rfl ?_
  refine mnewI (N := 40) C hE hH hS wm_103 (by decide) (by decide) (Nat.le_of_ble_eq_true rfl) (by decide) (by decide) dX6_init_70 (fun q57 H nq57 gq57 hH hS => ?_)
  obtain ⟨M58, hM58⟩ : ∃ z, z = mu M54 q57 (eI g 40 (fun _ => 0)) := ⟨_, rfl⟩
  have hH : Hw g M58 H := by rw [hM58]; exact hH
  have f59 : M58 q57 = some (eI g 40 (fun _ => 0)) := by rw [hM58]; exact mu_s
  have f60 : M58 a = some (eO 7 [.int 0, .ref q1, .ref q8, .ref q15, .ref q22, .int 0, .ref q29, .ref q36, .ref q43, .int 0, .ref q50, .null, .null, .null, .null, .null, .null, .null, .null, .null, .null, .null, .null, .int 0]) := by rw [hM58]; exact (mu_n (m_new nq57 f55)).trans f55
  refine mputF (fs' := [.int 0, .ref q1, .ref q8, .ref q15, .ref q22, .int 0, .ref q29, .ref q36, .ref q43, .int 0, .ref q50, .ref q57, .null, .null, .null, .null, .null, .null, .null, .null, .null, .null, .null, .int 0]) C hE hH hS fp_741 f60 hin rfl rfl rfl (Nat.le_of_ble_eq_true rfl) dX6_init_72 (fun H locs hH hS => ?_)
  obtain ⟨M61, hM61⟩ : ∃ z, z = mu M58 a (eO 7 [.int 0, .ref q1, .ref q8, .ref q15, .ref q22, .int 0, .ref q29, .ref q36, .ref q43, .int 0, .ref q50, .ref q57, .null, .null, .null, .null, .null, .null, .null, .null, .null, .null, .null, .int 0]) := ⟨_, rfl⟩
  have hH : Hw g M61 H := by rw [hM61]; exact hH
  have f62 : M61 a = some (eO 7 [.int 0, .ref q1, .ref q8, .ref q15, .ref q22, .int 0, .ref q29, .ref q36, .ref q43, .int 0, .ref q50, .ref q57, .null, .null, .null, .null, .null, .null, .null, .null, .null, .null, .null, .int 0]) := by rw [hM61]; exact mu_s
  have f63 : M61 q57 = some (eI g 40 (fun _ => 0)) := by rw [hM61]; exact (mu_n ((m_new nq57 f55)).symm).trans f59
  have Q9 := QI_new (N := 40) (fs' := [.int 0, .ref q1, .ref q8, .ref q15, .ref q22, .int 0, .ref q29, .ref q36, .ref q43, .int 0, .ref q50, .ref q57, .null, .null, .null, .null, .null, .null, .null, .null, .null, .null, .null, .int 0]) (Q8) f55 nq57 gq57 rfl
  rw [← hM58, ← hM61] at Q9
  refine lv_aload_n C.1 C.2.1 dX6_init_75 rfl (lv_at hl 0 rfl) ?_
  refine lv_bipush (v := 40) C.1 C.2.1 dX6_init_76 rfl ?_
  refine mnewI (N := 40) C hE hH hS wm_103 (by decide) (by decide) (Nat.le_of_ble_eq_true rfl) (by decide) (by decide) dX6_init_78 (fun q64 H nq64 gq64 hH hS => ?_)
  obtain ⟨M65, hM65⟩ : ∃ z, z = mu M61 q64 (eI g 40 (fun _ => 0)) := ⟨_, rfl⟩
  have hH : Hw g M65 H := by rw [hM65]; exact hH
  have f66 : M65 q64 = some (eI g 40 (fun _ => 0)) := by rw [hM65]; exact mu_s
  have f67 : M65 a = some (eO 7 [.int 0, .ref q1, .ref q8, .ref q15, .ref q22, .int 0, .ref q29, .ref q36, .ref q43, .int 0, .ref q50, .ref q57, .null, .null, .null, .null, .null, .null, .null, .null, .null, .null, .null, .int 0]) := by rw [hM65]; exact (mu_n (m_new nq64 f62)).trans f62
  refine mputF (fs' := [.int 0, .ref q1, .ref q8, .ref q15, .ref q22, .int 0, .ref q29, .ref q36, .ref q43, .int 0, .ref q50, .ref q57, .ref q64, .null, .null, .null, .null, .null, .null, .null, .null, .null, .null, .int 0]) C hE hH hS fp_742 f67 hin rfl rfl rfl (Nat.le_of_ble_eq_true rfl) dX6_init_80 (fun H locs hH hS => ?_)
  obtain ⟨M68, hM68⟩ : ∃ z, z = mu M65 a (eO 7 [.int 0, .ref q1, .ref q8, .ref q15, .ref q22, .int 0, .ref q29, .ref q36, .ref q43, .int 0, .ref q50, .ref q57, .ref q64, .null, .null, .null, .null, .null, .null, .null, .null, .null, .null, .int 0]) := ⟨_, rfl⟩
  have hH : Hw g M68 H := by rw [hM68]; exact hH
  have f69 : M68 a = some (eO 7 [.int 0, .ref q1, .ref q8, .ref q15, .ref q22, .int 0, .ref q29, .ref q36, .ref q43, .int 0, .ref q50, .ref q57, .ref q64, .null, .null, .null, .null, .null, .null, .null, .null, .null, .null, .int 0]) := by rw [hM68]; exact mu_s
  have f70 : M68 q64 = some (eI g 40 (fun _ => 0)) := by rw [hM68]; exact (mu_n ((m_new nq64 f62)).symm).trans f66
  have Q10 := QI_new (N := 40) (fs' := [.int 0, .ref q1, .ref q8, .ref q15, .ref q22, .int 0, .ref q29, .ref q36, .ref q43, .int 0, .ref q50, .ref q57, .ref q64, .null, .null, .null, .null, .null, .null, .null, .null, .null, .null, .int 0]) (Q9) f62 nq64 gq64 rfl
  rw [← hM65, ← hM68] at Q10
  refine lv_aload_n C.1 C.2.1 dX6_init_83 rfl (lv_at hl 0 rfl) ?_
  refine lv_bipush (v := 40) C.1 C.2.1 dX6_init_84 rfl ?_
  refine mnewI (N := 40) C hE hH hS wm_103 (by decide) (by decide) (Nat.le_of_ble_eq_true rfl) (by decide) (by decide) dX6_init_86 (fun q71 H nq71 gq71 hH hS => ?_)
  obtain ⟨M72, hM72⟩ : ∃ z, z = mu M68 q71 (eI g 40 (fun _ => 0)) := ⟨_, rfl⟩
  have hH : Hw g M72 H := by rw [hM72]; exact hH
  have f73 : M72 q71 = some (eI g 40 (fun _ => 0)) := by rw [hM72]; exact mu_s
  have f74 : M72 a = some (eO 7 [.int 0, .ref q1, .ref q8, .ref q15, .ref q22, .int 0, .ref q29, .ref q36, .ref q43, .int 0, .ref q50, .ref q57, .ref q64, .null, .null, .null, .null, .null, .null, .null, .null, .null, .null, .int 0]) := by rw [hM72]; exact (mu_n (m_new nq71 f69)).trans f69
  refine mputF (fs' := [.int 0, .ref q1, .ref q8, .ref q15, .ref q22, .int 0, .ref q29, .ref q36, .ref q43, .int 0, .ref q50, .ref q57, .ref q64, .ref q71, .null, .null, .null, .null, .null, .null, .null, .null, .null, .int 0]) C hE hH hS fp_743 f74 hin rfl rfl rfl (Nat.le_of_ble_eq_true rfl) dX6_init_88 (fun H locs hH hS => ?_)
  obtain ⟨M75, hM75⟩ : ∃ z, z = mu M72 a (eO 7 [.int 0, .ref q1, .ref q8, .ref q15, .ref q22, .int 0, .ref q29, .ref q36, .ref q43, .int 0, .ref q50, .ref q57, .ref q64, .ref q71, .null, .null, .null, .null, .null, .null, .null, .null, .null, .int 0]) := ⟨_, rfl⟩
  have hH : Hw g M75 H := by rw [hM75]; exact hH
  have f76 : M75 a = some (eO 7 [.int 0, .ref q1, .ref q8, .ref q15, .ref q22, .int 0, .ref q29, .ref q36, .ref q43, .int 0, .ref q50, .ref q57, .ref q64, .ref q71, .null, .null, .null, .null, .null, .null, .null, .null, .null, .int 0]) := by rw [hM75]; exact mu_s
  have f77 : M75 q71 = some (eI g 40 (fun _ => 0)) := by rw [hM75]; exact (mu_n ((m_new nq71 f69)).symm).trans f73
  have Q11 := QI_new (N := 40) (fs' := [.int 0, .ref q1, .ref q8, .ref q15, .ref q22, .int 0, .ref q29, .ref q36, .ref q43, .int 0, .ref q50, .ref q57, .ref q64, .ref q71, .null, .null, .null, .null, .null, .null, .null, .null, .null, .int 0]) (Q10) f69 nq71 gq71 rfl
  rw [← hM72, ← hM75] at Q11
  refine lv_aload_n C.1 C.2.1 dX6_init_91 rfl (lv_at hl 0 rfl) ?_
  refine lv_bipush (v := 40) C.1 C.2.1 dX6_init_92 rfl ?_
  refine mnewI (N := 40) C hE hH hS wm_103 (by decide) (by decide) (Nat.le_of_ble_eq_true rfl) (by decide) (by decide) dX6_init_94 (fun q78 H nq78 gq78 hH hS => ?_)
  obtain ⟨M79, hM79⟩ : ∃ z, z = mu M75 q78 (eI g 40 (fun _ => 0)) := ⟨_, rfl⟩
  have hH : Hw g M79 H := by rw [hM79]; exact hH
  have f80 : M79 q78 = some (eI g 40 (fun _ => 0)) := by rw [hM79]; exact mu_s
  have f81 : M79 a = some (eO 7 [.int 0, .ref q1, .ref q8, .ref q15, .ref q22, .int 0, .ref q29, .ref q36, .ref q43, .int 0, .ref q50, .ref q57, .ref q64, .ref q71, .null, .null, .null, .null, .null, .null, .null, .null, .null, .int 0]) := by rw [hM79]; exact (mu_n (m_new nq78 f76)).trans f76
  refine mputF (fs' := [.int 0, .ref q1, .ref q8, .ref q15, .ref q22, .int 0, .ref q29, .ref q36, .ref q43, .int 0, .ref q50, .ref q57, .ref q64, .ref q71, .ref q78, .null, .null, .null, .null, .null, .null, .null, .null, .int 0]) C hE hH hS fp_744 f81 hin rfl rfl rfl (Nat.le_of_ble_eq_true rfl) dX6_init_96 (fun H locs hH hS => ?_)
  obtain ⟨M82, hM82⟩ : ∃ z, z = mu M79 a (eO 7 [.int 0, .ref q1, .ref q8, .ref q15, .ref q22, .int 0, .ref q29, .ref q36, .ref q43, .int 0, .ref q50, .ref q57, .ref q64, .ref q71, .ref q78, .null, .null, .null, .null, .null, .null, .null, .null, .int 0]) := ⟨_, rfl⟩
  have hH : Hw g M82 H := by rw [hM82]; exact hH
  have f83 : M82 a = some (eO 7 [.int 0, .ref q1, .ref q8, .ref q15, .ref q22, .int 0, .ref q29, .ref q36, .ref q43, .int 0, .ref q50, .ref q57, .ref q64, .ref q71, .ref q78, .null, .null, .null, .null, .null, .null, .null, .null, .int 0]) := by rw [hM82]; exact mu_s
  have f84 : M82 q78 = some (eI g 40 (fun _ => 0)) := by rw [hM82]; exact (mu_n ((m_new nq78 f76)).symm).trans f80
  have Q12 := QI_new (N := 40) (fs' := [.int 0, .ref q1, .ref q8, .ref q15, .ref q22, .int 0, .ref q29, .ref q36, .ref q43, .int 0, .ref q50, .ref q57, .ref q64, .ref q71, .ref q78, .null, .null, .null, .null, .null, .null, .null, .null, .int 0]) (Q11) f76 nq78 gq78 rfl
  rw [← hM79, ← hM82] at Q12
  refine lv_aload_n C.1 C.2.1 dX6_init_99 rfl (lv_at hl 0 rfl) ?_
  refine lv_bipush (v := 40) C.1 C.2.1 dX6_init_100 rfl ?_
  refine mnewI (N := 40) C hE hH hS wm_103 (by decide) (by decide) (Nat.le_of_ble_eq_true rfl) (by decide) (by decide) dX6_init_102 (fun q85 H nq85 gq85 hH hS => ?_)
  obtain ⟨M86, hM86⟩ : ∃ z, z = mu M82 q85 (eI g 40 (fun _ => 0)) := ⟨_, rfl⟩
  have hH : Hw g M86 H := by rw [hM86]; exact hH
  have f87 : M86 q85 = some (eI g 40 (fun _ => 0)) := by rw [hM86]; exact mu_s
  have f88 : M86 a = some (eO 7 [.int 0, .ref q1, .ref q8, .ref q15, .ref q22, .int 0, .ref q29, .ref q36, .ref q43, .int 0, .ref q50, .ref q57, .ref q64, .ref q71, .ref q78, .null, .null, .null, .null, .null, .null, .null, .null, .int 0]) := by rw [hM86]; exact (mu_n (m_new nq85 f83)).trans f83
  refine mputF (fs' := [.int 0, .ref q1, .ref q8, .ref q15, .ref q22, .int 0, .ref q29, .ref q36, .ref q43, .int 0, .ref q50, .ref q57, .ref q64, .ref q71, .ref q78, .ref q85, .null, .null, .null, .null, .null, .null, .null, .int 0]) C hE hH hS fp_745 f88 hin rfl rfl rfl (Nat.le_of_ble_eq_true rfl) dX6_init_104 (fun H locs hH hS => ?_)
  obtain ⟨M89, hM89⟩ : ∃ z, z = mu M86 a (eO 7 [.int 0, .ref q1, .ref q8, .ref q15, .ref q22, .int 0, .ref q29, .ref q36, .ref q43, .int 0, .ref q50, .ref q57, .ref q64, .ref q71, .ref q78, .ref q85, .null, .null, .null, .null, .null, .null, .null, .int 0]) := ⟨_, rfl⟩
  have hH : Hw g M89 H := by rw [hM89]; exact hH
  have f90 : M89 a = some (eO 7 [.int 0, .ref q1, .ref q8, .ref q15, .ref q22, .int 0, .ref q29, .ref q36, .ref q43, .int 0, .ref q50, .ref q57, .ref q64, .ref q71, .ref q78, .ref q85, .null, .null, .null, .null, .null, .null, .null, .int 0]) := by rw [hM89]; exact mu_s
  have f91 : M89 q85 = some (eI g 40 (fun _ => 0)) := by rw [hM89]; exact (mu_n ((m_new nq85 f83)).symm).trans f87
  have Q13 := QI_new (N := 40) (fs' := [.int 0, .ref q1, .ref q8, .ref q15, .ref q22, .int 0, .ref q29, .ref q36, .ref q43, .int 0, .ref q50, .ref q57, .ref q64, .ref q71, .ref q78, .ref q85, .null, .null, .null, .null, .null, .null, .null, .int 0]) (Q12) f83 nq85 gq85 rfl
  rw [← hM86, ← hM89] at Q13
  refine lv_aload_n C.1 C.2.1 dX6_init_107 rfl (lv_at hl 0 rfl) ?_
  refine lv_bipush (v := 40) C.1 C.2.1 dX6_init_108 rfl ?_
  refine mnewI (N := 40) C hE hH hS wm_103 (by decide) (by decide) (Nat.le_of_ble_eq_true rfl) (by decide) (by decide) dX6_init_110 (fun q92 H nq92 gq92 hH hS => ?_)
  obtain ⟨M93, hM93⟩ : ∃ z, z = mu M89 q92 (eI g 40 (fun _ => 0)) := ⟨_, rfl⟩
  have hH : Hw g M93 H := by rw [hM93]; exact hH
  have f94 : M93 q92 = some (eI g 40 (fun _ => 0)) := by rw [hM93]; exact mu_s
  have f95 : M93 a = some (eO 7 [.int 0, .ref q1, .ref q8, .ref q15, .ref q22, .int 0, .ref q29, .ref q36, .ref q43, .int 0, .ref q50, .ref q57, .ref q64, .ref q71, .ref q78, .ref q85, .null, .null, .null, .null, .null, .null, .null, .int 0]) := by rw [hM93]; exact (mu_n (m_new nq92 f90)).trans f90
  refine mputF (fs' := [.int 0, .ref q1, .ref q8, .ref q15, .ref q22, .int 0, .ref q29, .ref q36, .ref q43, .int 0, .ref q50, .ref q57, .ref q64, .ref q71, .ref q78, .ref q85, .ref q92, .null, .null, .null, .null, .null, .null, .int 0]) C hE hH hS fp_746 f95 hin rfl rfl rfl (Nat.le_of_ble_eq_true rfl) dX6_init_112 (fun H locs hH hS => ?_)
  obtain ⟨M96, hM96⟩ : ∃ z, z = mu M93 a (eO 7 [.int 0, .ref q1, .ref q8, .ref q15, .ref q22, .int 0, .ref q29, .ref q36, .ref q43, .int 0, .ref q50, .ref q57, .ref q64, .ref q71, .ref q78, .ref q85, .ref q92, .null, .null, .null, .null, .null, .null, .int 0]) := ⟨_, rfl⟩
  have hH : Hw g M96 H := by rw [hM96]; exact hH
  have f97 : M96 a = some (eO 7 [.int 0, .ref q1, .ref q8, .ref q15, .ref q22, .int 0, .ref q29, .ref q36, .ref q43, .int 0, .ref q50, .ref q57, .ref q64, .ref q71, .ref q78, .ref q85, .ref q92, .null, .null, .null, .null, .null, .null, .int 0]) := by rw [hM96]; exact mu_s
  have f98 : M96 q92 = some (eI g 40 (fun _ => 0)) := by rw [hM96]; exact (mu_n ((m_new nq92 f90)).symm).trans f94
  have Q14 := QI_new (N := 40) (fs' := [.int 0, .ref q1, .ref q8, .ref q15, .ref q22, .int 0, .ref q29, .ref q36, .ref q43, .int 0, .ref q50, .ref q57, .ref q64, .ref q71, .ref q78, .ref q85, .ref q92, .null, .null, .null, .null, .null, .null, .int 0]) (Q13) f90 nq92 gq92 rfl
  rw [← hM93, ← hM96] at Q14
  refine lv_aload_n C.1 C.2.1 dX6_init_115 rfl (lv_at hl 0 rfl) ?_
  refine lv_bipush (v := 40) C.1 C.2.1 dX6_init_116 rfl ?_
  refine mnewI (N := 40) C hE hH hS wm_103 (by decide) (by decide) (Nat.le_of_ble_eq_true rfl) (by decide) (by decide) dX6_init_118 (fun q99 H nq99 gq99 hH hS => ?_)
  obtain ⟨M100, hM100⟩ : ∃ z, z = mu M96 q99 (eI g 40 (fun _ => 0)) := ⟨_, rfl⟩
  have hH : Hw g M100 H := by rw [hM100]; exact hH
  have f101 : M100 q99 = some (eI g 40 (fun _ => 0)) := by rw [hM100]; exact mu_s
  have f102 : M100 a = some (eO 7 [.int 0, .ref q1, .ref q8, .ref q15, .ref q22, .int 0, .ref q29, .ref q36, .ref q43, .int 0, .ref q50, .ref q57, .ref q64, .ref q71, .ref q78, .ref q85, .ref q92, .null, .null, .null, .null, .null, .null, .int 0]) := by rw [hM100]; exact (mu_n (m_new nq99 f97)).trans f97
  refine mputF (fs' := [.int 0, .ref q1, .ref q8, .ref q15, .ref q22, .int 0, .ref q29, .ref q36, .ref q43, .int 0, .ref q50, .ref q57, .ref q64, .ref q71, .ref q78, .ref q85, .ref q92, .ref q99, .null, .null, .null, .null, .null, .int 0]) C hE hH hS fp_747 f102 hin rfl rfl rfl (Nat.le_of_ble_eq_true rfl) dX6_init_120 (fun H locs hH hS => ?_)
  obtain ⟨M103, hM103⟩ : ∃ z, z = mu M100 a (eO 7 [.int 0, .ref q1, .ref q8, .ref q15, .ref q22, .int 0, .ref q29, .ref q36, .ref q43, .int 0, .ref q50, .ref q57, .ref q64, .ref q71, .ref q78, .ref q85, .ref q92, .ref q99, .null, .null, .null, .null, .null, .int 0]) := ⟨_, rfl⟩
  have hH : Hw g M103 H := by rw [hM103]; exact hH
  have f104 : M103 a = some (eO 7 [.int 0, .ref q1, .ref q8, .ref q15, .ref q22, .int 0, .ref q29, .ref q36, .ref q43, .int 0, .ref q50, .ref q57, .ref q64, .ref q71, .ref q78, .ref q85, .ref q92, .ref q99, .null, .null, .null, .null, .null, .int 0]) := by rw [hM103]; exact mu_s
  have f105 : M103 q99 = some (eI g 40 (fun _ => 0)) := by rw [hM103]; exact (mu_n ((m_new nq99 f97)).symm).trans f101
  have Q15 := QI_new (N := 40) (fs' := [.int 0, .ref q1, .ref q8, .ref q15, .ref q22, .int 0, .ref q29, .ref q36, .ref q43, .int 0, .ref q50, .ref q57, .ref q64, .ref q71, .ref q78, .ref q85, .ref q92, .ref q99, .null, .null, .null, .null, .null, .int 0]) (Q14) f97 nq99 gq99 rfl
  rw [← hM100, ← hM103] at Q15
  refine lv_aload_n C.1 C.2.1 dX6_init_123 rfl (lv_at hl 0 rfl) ?_
  refine lv_bipush (v := 40) C.1 C.2.1 dX6_init_124 rfl ?_
  refine mnewI (N := 40) C hE hH hS wm_103 (by decide) (by decide) (Nat.le_of_ble_eq_true rfl) (by decide) (by decide) dX6_init_126 (fun q106 H nq106 gq106 hH hS => ?_)
  obtain ⟨M107, hM107⟩ : ∃ z, z = mu M103 q106 (eI g 40 (fun _ => 0)) := ⟨_, rfl⟩
  have hH : Hw g M107 H := by rw [hM107]; exact hH
  have f108 : M107 q106 = some (eI g 40 (fun _ => 0)) := by rw [hM107]; exact mu_s
  have f109 : M107 a = some (eO 7 [.int 0, .ref q1, .ref q8, .ref q15, .ref q22, .int 0, .ref q29, .ref q36, .ref q43, .int 0, .ref q50, .ref q57, .ref q64, .ref q71, .ref q78, .ref q85, .ref q92, .ref q99, .null, .null, .null, .null, .null, .int 0]) := by rw [hM107]; exact (mu_n (m_new nq106 f104)).trans f104
  refine mputF (fs' := [.int 0, .ref q1, .ref q8, .ref q15, .ref q22, .int 0, .ref q29, .ref q36, .ref q43, .int 0, .ref q50, .ref q57, .ref q64, .ref q71, .ref q78, .ref q85, .ref q92, .ref q99, .ref q106, .null, .null, .null, .null, .int 0]) C hE hH hS fp_748 f109 hin rfl rfl rfl (Nat.le_of_ble_eq_true rfl) dX6_init_128 (fun H locs hH hS => ?_)
  obtain ⟨M110, hM110⟩ : ∃ z, z = mu M107 a (eO 7 [.int 0, .ref q1, .ref q8, .ref q15, .ref q22, .int 0, .ref q29, .ref q36, .ref q43, .int 0, .ref q50, .ref q57, .ref q64, .ref q71, .ref q78, .ref q85, .ref q92, .ref q99, .ref q106, .null, .null, .null, .null, .int 0]) := ⟨_, rfl⟩
  have hH : Hw g M110 H := by rw [hM110]; exact hH
  have f111 : M110 a = some (eO 7 [.int 0, .ref q1, .ref q8, .ref q15, .ref q22, .int 0, .ref q29, .ref q36, .ref q43, .int 0, .ref q50, .ref q57, .ref q64, .ref q71, .ref q78, .ref q85, .ref q92, .ref q99, .ref q106, .null, .null, .null, .null, .int 0]) := by rw [hM110]; exact mu_s
  have f112 : M110 q106 = some (eI g 40 (fun _ => 0)) := by rw [hM110]; exact (mu_n ((m_new nq106 f104)).symm).trans f108
  have Q16 := QI_new (N := 40) (fs' := [.int 0, .ref q1, .ref q8, .ref q15, .ref q22, .int 0, .ref q29, .ref q36, .ref q43, .int 0, .ref q50, .ref q57, .ref q64, .ref q71, .ref q78, .ref q85, .ref q92, .ref q99, .ref q106, .null, .null, .null, .null, .int 0]) (Q15) f104 nq106 gq106 rfl
  rw [← hM107, ← hM110] at Q16
  refine lv_aload_n C.1 C.2.1 dX6_init_131 rfl (lv_at hl 0 rfl) ?_
  refine lv_bipush (v := 9) C.1 C.2.1 dX6_init_132 rfl ?_
  refine mnewI (N := 9) C hE hH hS wm_103 (by decide) (by decide) (Nat.le_of_ble_eq_true rfl) (by decide) (by decide) dX6_init_134 (fun q113 H nq113 gq113 hH hS => ?_)
  obtain ⟨M114, hM114⟩ : ∃ z, z = mu M110 q113 (eI g 9 (fun _ => 0)) := ⟨_, rfl⟩
  have hH : Hw g M114 H := by rw [hM114]; exact hH
  have f115 : M114 q113 = some (eI g 9 (fun _ => 0)) := by rw [hM114]; exact mu_s
  have f116 : M114 a = some (eO 7 [.int 0, .ref q1, .ref q8, .ref q15, .ref q22, .int 0, .ref q29, .ref q36, .ref q43, .int 0, .ref q50, .ref q57, .ref q64, .ref q71, .ref q78, .ref q85, .ref q92, .ref q99, .ref q106, .null, .null, .null, .null, .int 0]) := by rw [hM114]; exact (mu_n (m_new nq113 f111)).trans f111
  refine mputF (fs' := [.int 0, .ref q1, .ref q8, .ref q15, .ref q22, .int 0, .ref q29, .ref q36, .ref q43, .int 0, .ref q50, .ref q57, .ref q64, .ref q71, .ref q78, .ref q85, .ref q92, .ref q99, .ref q106, .ref q113, .null, .null, .null, .int 0]) C hE hH hS fp_749 f116 hin rfl rfl rfl (Nat.le_of_ble_eq_true rfl) dX6_init_136 (fun H locs hH hS => ?_)
  obtain ⟨M117, hM117⟩ : ∃ z, z = mu M114 a (eO 7 [.int 0, .ref q1, .ref q8, .ref q15, .ref q22, .int 0, .ref q29, .ref q36, .ref q43, .int 0, .ref q50, .ref q57, .ref q64, .ref q71, .ref q78, .ref q85, .ref q92, .ref q99, .ref q106, .ref q113, .null, .null, .null, .int 0]) := ⟨_, rfl⟩
  have hH : Hw g M117 H := by rw [hM117]; exact hH
  have f118 : M117 a = some (eO 7 [.int 0, .ref q1, .ref q8, .ref q15, .ref q22, .int 0, .ref q29, .ref q36, .ref q43, .int 0, .ref q50, .ref q57, .ref q64, .ref q71, .ref q78, .ref q85, .ref q92, .ref q99, .ref q106, .ref q113, .null, .null, .null, .int 0]) := by rw [hM117]; exact mu_s
  have f119 : M117 q113 = some (eI g 9 (fun _ => 0)) := by rw [hM117]; exact (mu_n ((m_new nq113 f111)).symm).trans f115
  have Q17 := QI_new (N := 9) (fs' := [.int 0, .ref q1, .ref q8, .ref q15, .ref q22, .int 0, .ref q29, .ref q36, .ref q43, .int 0, .ref q50, .ref q57, .ref q64, .ref q71, .ref q78, .ref q85, .ref q92, .ref q99, .ref q106, .ref q113, .null, .null, .null, .int 0]) (Q16) f111 nq113 gq113 rfl
  rw [← hM114, ← hM117] at Q17
  refine lv_aload_n C.1 C.2.1 dX6_init_139 rfl (lv_at hl 0 rfl) ?_
  refine lv_iconst (v := 3) C.1 C.2.1 dX6_init_140 rfl ?_
  refine mnewI (N := 3) C hE hH hS wm_103 (by decide) (by decide) (Nat.le_of_ble_eq_true rfl) (by decide) (by decide) dX6_init_141 (fun q120 H nq120 gq120 hH hS => ?_)
  obtain ⟨M121, hM121⟩ : ∃ z, z = mu M117 q120 (eI g 3 (fun _ => 0)) := ⟨_, rfl⟩
  have hH : Hw g M121 H := by rw [hM121]; exact hH
  have f122 : M121 q120 = some (eI g 3 (fun _ => 0)) := by rw [hM121]; exact mu_s
  have f123 : M121 a = some (eO 7 [.int 0, .ref q1, .ref q8, .ref q15, .ref q22, .int 0, .ref q29, .ref q36, .ref q43, .int 0, .ref q50, .ref q57, .ref q64, .ref q71, .ref q78, .ref q85, .ref q92, .ref q99, .ref q106, .ref q113, .null, .null, .null, .int 0]) := by rw [hM121]; exact (mu_n (m_new nq120 f118)).trans f118
  refine mputF (fs' := [.int 0, .ref q1, .ref q8, .ref q15, .ref q22, .int 0, .ref q29, .ref q36, .ref q43, .int 0, .ref q50, .ref q57, .ref q64, .ref q71, .ref q78, .ref q85, .ref q92, .ref q99, .ref q106, .ref q113, .ref q120, .null, .null, .int 0]) C hE hH hS fp_750 f123 hin rfl rfl rfl (Nat.le_of_ble_eq_true rfl) dX6_init_143 (fun H locs hH hS => ?_)
  obtain ⟨M124, hM124⟩ : ∃ z, z = mu M121 a (eO 7 [.int 0, .ref q1, .ref q8, .ref q15, .ref q22, .int 0, .ref q29, .ref q36, .ref q43, .int 0, .ref q50, .ref q57, .ref q64, .ref q71, .ref q78, .ref q85, .ref q92, .ref q99, .ref q106, .ref q113, .ref q120, .null, .null, .int 0]) := ⟨_, rfl⟩
  have hH : Hw g M124 H := by rw [hM124]; exact hH
  have f125 : M124 a = some (eO 7 [.int 0, .ref q1, .ref q8, .ref q15, .ref q22, .int 0, .ref q29, .ref q36, .ref q43, .int 0, .ref q50, .ref q57, .ref q64, .ref q71, .ref q78, .ref q85, .ref q92, .ref q99, .ref q106, .ref q113, .ref q120, .null, .null, .int 0]) := by rw [hM124]; exact mu_s
  have f126 : M124 q120 = some (eI g 3 (fun _ => 0)) := by rw [hM124]; exact (mu_n ((m_new nq120 f118)).symm).trans f122
  have Q18 := QI_new (N := 3) (fs' := [.int 0, .ref q1, .ref q8, .ref q15, .ref q22, .int 0, .ref q29, .ref q36, .ref q43, .int 0, .ref q50, .ref q57, .ref q64, .ref q71, .ref q78, .ref q85, .ref q92, .ref q99, .ref q106, .ref q113, .ref q120, .null, .null, .int 0]) (Q17) f118 nq120 gq120 rfl
  rw [← hM121, ← hM124] at Q18
  refine lv_aload_n C.1 C.2.1 dX6_init_146 rfl (lv_at hl 0 rfl) ?_
  refine lv_bipush (v := 75) C.1 C.2.1 dX6_init_147 rfl ?_
  refine mnewI (N := 75) C hE hH hS wm_103 (by decide) (by decide) (Nat.le_of_ble_eq_true rfl) (by decide) (by decide) dX6_init_149 (fun q127 H nq127 gq127 hH hS => ?_)
  obtain ⟨M128, hM128⟩ : ∃ z, z = mu M124 q127 (eI g 75 (fun _ => 0)) := ⟨_, rfl⟩
  have hH : Hw g M128 H := by rw [hM128]; exact hH
  have f129 : M128 q127 = some (eI g 75 (fun _ => 0)) := by rw [hM128]; exact mu_s
  have f130 : M128 a = some (eO 7 [.int 0, .ref q1, .ref q8, .ref q15, .ref q22, .int 0, .ref q29, .ref q36, .ref q43, .int 0, .ref q50, .ref q57, .ref q64, .ref q71, .ref q78, .ref q85, .ref q92, .ref q99, .ref q106, .ref q113, .ref q120, .null, .null, .int 0]) := by rw [hM128]; exact (mu_n (m_new nq127 f125)).trans f125
  refine mputF (fs' := [.int 0, .ref q1, .ref q8, .ref q15, .ref q22, .int 0, .ref q29, .ref q36, .ref q43, .int 0, .ref q50, .ref q57, .ref q64, .ref q71, .ref q78, .ref q85, .ref q92, .ref q99, .ref q106, .ref q113, .ref q120, .ref q127, .null, .int 0]) C hE hH hS fp_751 f130 hin rfl rfl rfl (Nat.le_of_ble_eq_true rfl) dX6_init_151 (fun H locs hH hS => ?_)
  obtain ⟨M131, hM131⟩ : ∃ z, z = mu M128 a (eO 7 [.int 0, .ref q1, .ref q8, .ref q15, .ref q22, .int 0, .ref q29, .ref q36, .ref q43, .int 0, .ref q50, .ref q57, .ref q64, .ref q71, .ref q78, .ref q85, .ref q92, .ref q99, .ref q106, .ref q113, .ref q120, .ref q127, .null, .int 0]) := ⟨_, rfl⟩
  have hH : Hw g M131 H := by rw [hM131]; exact hH
  have f132 : M131 a = some (eO 7 [.int 0, .ref q1, .ref q8, .ref q15, .ref q22, .int 0, .ref q29, .ref q36, .ref q43, .int 0, .ref q50, .ref q57, .ref q64, .ref q71, .ref q78, .ref q85, .ref q92, .ref q99, .ref q106, .ref q113, .ref q120, .ref q127, .null, .int 0]) := by rw [hM131]; exact mu_s
  have f133 : M131 q127 = some (eI g 75 (fun _ => 0)) := by rw [hM131]; exact (mu_n ((m_new nq127 f125)).symm).trans f129
  have Q19 := QI_new (N := 75) (fs' := [.int 0, .ref q1, .ref q8, .ref q15, .ref q22, .int 0, .ref q29, .ref q36, .ref q43, .int 0, .ref q50, .ref q57, .ref q64, .ref q71, .ref q78, .ref q85, .ref q92, .ref q99, .ref q106, .ref q113, .ref q120, .ref q127, .null, .int 0]) (Q18) f125 nq127 gq127 rfl
  rw [← hM128, ← hM131] at Q19
  refine lv_aload_n C.1 C.2.1 dX6_init_154 rfl (lv_at hl 0 rfl) ?_
  refine lv_iconst (v := 5) C.1 C.2.1 dX6_init_155 rfl ?_
  refine mnewI (N := 5) C hE hH hS wm_103 (by decide) (by decide) (Nat.le_of_ble_eq_true rfl) (by decide) (by decide) dX6_init_156 (fun q134 H nq134 gq134 hH hS => ?_)
  obtain ⟨M135, hM135⟩ : ∃ z, z = mu M131 q134 (eI g 5 (fun _ => 0)) := ⟨_, rfl⟩
  have hH : Hw g M135 H := by rw [hM135]; exact hH
  have f136 : M135 q134 = some (eI g 5 (fun _ => 0)) := by rw [hM135]; exact mu_s
  have f137 : M135 a = some (eO 7 [.int 0, .ref q1, .ref q8, .ref q15, .ref q22, .int 0, .ref q29, .ref q36, .ref q43, .int 0, .ref q50, .ref q57, .ref q64, .ref q71, .ref q78, .ref q85, .ref q92, .ref q99, .ref q106, .ref q113, .ref q120, .ref q127, .null, .int 0]) := by rw [hM135]; exact (mu_n (m_new nq134 f132)).trans f132
  refine mputF (fs' := [.int 0, .ref q1, .ref q8, .ref q15, .ref q22, .int 0, .ref q29, .ref q36, .ref q43, .int 0, .ref q50, .ref q57, .ref q64, .ref q71, .ref q78, .ref q85, .ref q92, .ref q99, .ref q106, .ref q113, .ref q120, .ref q127, .ref q134, .int 0]) C hE hH hS fp_752 f137 hin rfl rfl rfl (Nat.le_of_ble_eq_true rfl) dX6_init_158 (fun H locs hH hS => ?_)
  obtain ⟨M138, hM138⟩ : ∃ z, z = mu M135 a (eO 7 [.int 0, .ref q1, .ref q8, .ref q15, .ref q22, .int 0, .ref q29, .ref q36, .ref q43, .int 0, .ref q50, .ref q57, .ref q64, .ref q71, .ref q78, .ref q85, .ref q92, .ref q99, .ref q106, .ref q113, .ref q120, .ref q127, .ref q134, .int 0]) := ⟨_, rfl⟩
  have hH : Hw g M138 H := by rw [hM138]; exact hH
  have f139 : M138 a = some (eO 7 [.int 0, .ref q1, .ref q8, .ref q15, .ref q22, .int 0, .ref q29, .ref q36, .ref q43, .int 0, .ref q50, .ref q57, .ref q64, .ref q71, .ref q78, .ref q85, .ref q92, .ref q99, .ref q106, .ref q113, .ref q120, .ref q127, .ref q134, .int 0]) := by rw [hM138]; exact mu_s
  have f140 : M138 q134 = some (eI g 5 (fun _ => 0)) := by rw [hM138]; exact (mu_n ((m_new nq134 f132)).symm).trans f136
  have Q20 := QI_new (N := 5) (fs' := [.int 0, .ref q1, .ref q8, .ref q15, .ref q22, .int 0, .ref q29, .ref q36, .ref q43, .int 0, .ref q50, .ref q57, .ref q64, .ref q71, .ref q78, .ref q85, .ref q92, .ref q99, .ref q106, .ref q113, .ref q120, .ref q127, .ref q134, .int 0]) (Q19) f132 nq134 gq134 rfl
  rw [← hM135, ← hM138] at Q20
  exact wr_vret (un (un (un (un (un (un (un (un (un (un (un (un (un (un (un (un (un (un (un (un (fun _ => 0) 0 q1) 1 q8) 2 q15) 3 q22) 4 q29) 5 q36) 6 q43) 7 q50) 8 q57) 9 q64) 10 q71) 11 q78) 12 q85) 13 q92) 14 q99) 15 q106) 16 q113) 17 q120) 18 q127) 19 q134) C hr hlocks hH hS rfl (⟨Q20, f139⟩) (by decide) (by decide) dX6_init_161
theorem muR_n {M : Mp} {n : Nat} {r : Nat → Nat} {e : va_E} {b : Nat} (h : ∀ i, i < n → b ≠ r i) : muR M n r e b = M b := by
  unfold muR
  rw [if_neg]
  intro z
  obtain ⟨i, hi, hb⟩ := List.mem_map.mp z
  exact h i (List.mem_range.mp hi) hb.symm
theorem muR_s {M : Mp} {n : Nat} {r : Nat → Nat} {e : va_E} {i : Nat} (h : i < n) : muR M n r e (r i) = some e := by
  unfold muR
  rw [if_pos]
  exact List.mem_map.mpr ⟨i, List.mem_range.mpr h, rfl⟩
abbrev rowc (n : Nat) (r : Nat → Nat) : Nat → Option Nat := fun i => if i < n then some (r i) else none
/-- what a new cloth is -/
def CP (g : gG) (M M' : Mp) (a d u : Nat) (r : Nat → Nat) : Prop := M' a = some (eO 2 [.int 0, .ref d, .ref u]) ∧ (M' d = some (eQ g 4 5 (rowc 5 r)) ∧ M d = none ∧ g.1 ≤ d) ∧ (M' u = some (eI g 5 (fun _ => 0)) ∧ M u = none ∧ g.1 ≤ u) ∧ (∀ i, i < 5 → M' (r i) = some (eI g 5 (fun _ => 0)) ∧ M (r i) = none ∧ g.1 ≤ r i ∧ r i ≠ d ∧ r i ≠ u) ∧ (∀ i j, i < 5 → j < 5 → r i = r j → i = j) ∧ d ≠ u ∧ ∀ b, M b ≠ none → b ≠ a → M' b = M b
theorem CP_of {g : gG} {M M1 M2 M3 M4 : Mp} {a d u : Nat} {r : Nat → Nat} {x x1 : va_E} (h0 : M a = some x) (nd : M d = none) (gd : g.1 ≤ d) (hr : ∀ i, i < 5 → M (r i) = none ∧ g.1 ≤ r i ∧ r i ≠ d) (hinj : ∀ i j, i < 5 → j < 5 → r i = r j → i = j) (h1 : M1 = muR (mu M d (eQ g 4 5 (rowc 5 r))) 5 r (eI g 5 (fun _ => 0))) (h2 : M2 = mu M1 a x1) (nu : M2 u = none) (gu : g.1 ≤ u) (h3 : M3 = mu M2 u (eI g 5 (fun _ => 0))) (h4 : M4 = mu M3 a (eO 2 [.int 0, .ref d, .ref u])) : CP g M M4 a d u r := by
  have had : a ≠ d := m_new nd h0
  have har : ∀ i, i < 5 → a ≠ r i := fun i hi => m_new (hr i hi).1 h0
  have hau : a ≠ u := fun z => by rw [h2, ← z, mu_s] at nu; cases nu
  have d1 : M1 d = some (eQ g 4 5 (rowc 5 r)) := by rw [h1, muR_n (fun i hi => (hr i hi).2.2.symm), mu_s]
  have d2 : M2 d = some (eQ g 4 5 (rowc 5 r)) := by rw [h2, mu_n had.symm]; exact d1
  have r2 : ∀ i, i < 5 → M2 (r i) = some (eI g 5 (fun _ => 0)) := fun i hi => by rw [h2, mu_n (har i hi).symm, h1]; exact muR_s hi
  have hdu : d ≠ u := m_new nu d2
  have hru : ∀ i, i < 5 → r i ≠ u := fun i hi => m_new nu (r2 i hi)
  have fr : ∀ b, M b ≠ none → b ≠ a → M2 b = M b := fun b hb hba => by
    rw [h2, mu_n hba, h1, muR_n (fun i hi z => hb (by rw [z]; exact (hr i hi).1)), mu_n (fun z => hb (by rw [z]; exact nd))]
  refine ⟨by rw [h4]; exact mu_s, ⟨by rw [h4, mu_n had.symm, h3, mu_n hdu]; exact d2, nd, gd⟩, ⟨by rw [h4, mu_n hau.symm, h3]; exact mu_s, ?_, gu⟩, fun i hi => ⟨by rw [h4, mu_n (har i hi).symm, h3, mu_n (hru i hi)]; exact r2 i hi, (hr i hi).1, (hr i hi).2.1, (hr i hi).2.2, hru i hi⟩, hinj, hdu, fun b hb hba => ?_⟩
  · cases hm : M u with
    | none => rfl
    | some e =>
      have h9 := fr u (by rw [hm]; exact fun z => by cases z) hau.symm
      rw [nu, hm] at h9
      cases h9
  · have h9 := fr b hb hba
    rw [h4, mu_n hba, h3, mu_n (fun z => hb (by rw [← h9, z]; exact nu))]
    exact h9
set_option maxHeartbeats 4000000 in
set_option maxRecDepth 100000 in
theorem c_Cl_init {l : Launch} {g : gG} {M : Mp} {a : Nat} (h0 : M a = some (eO 2 [.int 0, .null, .null])) : Met l yX1_init (WY yX1_init cX1_init 1 none) { frames := 1, cells := 7, slots := 35, locals := 12 } (Wc g M [.ref a]) (wrQ (S := Nat × Nat × (Nat → Nat)) g (fun u_ => none) (fun u_ M_ => CP g M M_ a u_.1 u_.2.1 u_.2.2)) 7 35 (gA g) := by
  refine ofM (by decide +kernel) (Nat.le_of_ble_eq_true rfl) (fun p e s m args below meth c ls C hr hlocks hin hE hH hl ea => ?_)
  have hin : meth.name = "<init>" := hin
  have hl : lv_has ls 1 [(0, .ref a)] := hl
  have hS : va_S (gA g) s.heap s.heap [] := va_S.rf
  refine lv_aload_n C.1 C.2.1 dX1_init_0 rfl (lv_at hl 0 rfl) ?_
  refine W.objInit C.1 C.2.1 C.2.2.2.1 (C.2.2.2.2 _ wm_89) (C.2.2.2.2 _ wm_53) (C.2.2.2.2 _ wm_54) rfl (by rw [C.2.2.1]; exact hl.1) rfl dX1_init_1 (Nat.le_of_ble_eq_true rfl) (Nat.le_of_ble_eq_true rfl) ?_
  refine W.eq (g2 := F0 m 4 ls []) rfl ?_
  refine lv_aload_n C.1 C.2.1 dX1_init_4 rfl (lv_at hl 0 rfl) ?_
  refine lv_iconst (v := 5) C.1 C.2.1 dX1_init_5 rfl ?_
  refine lv_iconst (v := 5) C.1 C.2.1 dX1_init_6 rfl ?_
  refine mmna (N := 5) (K := 5) C hE hH hS wm_90 wm_103 (by decide) (by decide) rfl rfl (by decide) (by decide) (by decide) (Nat.le_of_ble_eq_true rfl) (Nat.le_of_ble_eq_true rfl) dX1_init_7 (fun q1 r2 H hinjr2 nq1 gq1 hrr2 hH hS => ?_)
  obtain ⟨M3, hM3⟩ : ∃ z, z = muR (mu M q1 (eQ g 4 5 (fun i => if i < 5 then some (r2 i) else none))) 5 r2 (eI g 5 (fun _ => 0)) := ⟨_, rfl⟩
  have hH : Hw g M3 H := by rw [hM3]; exact hH
  have f4 : M3 a = some (eO 2 [.int 0, .null, .null]) := by rw [hM3, muR_n (fun i hi => m_new (hrr2 i hi).1 h0), mu_n (m_new nq1 h0)]; exact h0
  have f5 : M3 q1 = some (eQ g 4 5 (fun i => if i < 5 then some (r2 i) else none)) := by rw [hM3, muR_n (fun i hi => (hrr2 i hi).2.2.symm)]; exact mu_s
  refine mputF (fs' := [.int 0, .ref q1, .null]) C hE hH hS fp_93 f4 hin rfl rfl rfl (Nat.le_of_ble_eq_true rfl) dX1_init_11 (fun H locs hH hS => ?_)
  obtain ⟨M6, hM6⟩ : ∃ z, z = mu M3 a (eO 2 [.int 0, .ref q1, .null]) := ⟨_, rfl⟩
  have hH : Hw g M6 H := by rw [hM6]; exact hH
  have f7 : M6 a = some (eO 2 [.int 0, .ref q1, .null]) := by rw [hM6]; exact mu_s
  have f8 : M6 q1 = some (eQ g 4 5 (fun i => if i < 5 then some (r2 i) else none)) := by rw [hM6]; exact (mu_n (m_ne f5 f4 (by first | (intro z; cases z; done) | exact ne_IQ | exact ne_IQ.symm | exact ne_LI | exact ne_LI.symm | (intro z; cases z; omega) | (intro z; cases z; contradiction) | exact (fun z => by cases z)))).trans f5
  refine lv_aload_n C.1 C.2.1 dX1_init_14 rfl (lv_at hl 0 rfl) ?_
  refine lv_iconst (v := 5) C.1 C.2.1 dX1_init_15 rfl ?_
  refine mnewI (N := 5) C hE hH hS wm_103 (by decide) (by decide) (Nat.le_of_ble_eq_true rfl) (by decide) (by decide) dX1_init_16 (fun q9 H nq9 gq9 hH hS => ?_)
  obtain ⟨M10, hM10⟩ : ∃ z, z = mu M6 q9 (eI g 5 (fun _ => 0)) := ⟨_, rfl⟩
  have hH : Hw g M10 H := by rw [hM10]; exact hH
  have f11 : M10 q9 = some (eI g 5 (fun _ => 0)) := by rw [hM10]; exact mu_s
  have f12 : M10 q1 = some (eQ g 4 5 (fun i => if i < 5 then some (r2 i) else none)) := by rw [hM10]; exact (mu_n (m_new nq9 f8)).trans f8
  have f13 : M10 a = some (eO 2 [.int 0, .ref q1, .null]) := by rw [hM10]; exact (mu_n (m_new nq9 f7)).trans f7
  refine mputF (fs' := [.int 0, .ref q1, .ref q9]) C hE hH hS fp_95 f13 hin rfl rfl rfl (Nat.le_of_ble_eq_true rfl) dX1_init_18 (fun H locs hH hS => ?_)
  obtain ⟨M14, hM14⟩ : ∃ z, z = mu M10 a (eO 2 [.int 0, .ref q1, .ref q9]) := ⟨_, rfl⟩
  have hH : Hw g M14 H := by rw [hM14]; exact hH
  have f15 : M14 a = some (eO 2 [.int 0, .ref q1, .ref q9]) := by rw [hM14]; exact mu_s
  have f16 : M14 q1 = some (eQ g 4 5 (fun i => if i < 5 then some (r2 i) else none)) := by rw [hM14]; exact (mu_n (m_ne f12 f13 (by first | (intro z; cases z; done) | exact ne_IQ | exact ne_IQ.symm | exact ne_LI | exact ne_LI.symm | (intro z; cases z; omega) | (intro z; cases z; contradiction) | exact (fun z => by cases z)))).trans f12
  have f17 : M14 q9 = some (eI g 5 (fun _ => 0)) := by rw [hM14]; exact (mu_n ((m_new nq9 f7)).symm).trans f11
  exact wr_vret (q1, q9, r2) C hr hlocks hH hS rfl (CP_of h0 nq1 gq1 hrr2 hinjr2 hM3 hM6 nq9 gq9 hM10 hM14) (by decide) (by decide) dX1_init_21
def uc (c : Nat → va_E) (k : Nat) (e : va_E) : Nat → va_E := fun i => if i = k then e else c i
theorem uc_s {c : Nat → va_E} {k : Nat} {e : va_E} : uc c k e k = e := if_pos rfl
theorem uc_n {c : Nat → va_E} {k i : Nat} {e : va_E} (h : i ≠ k) : uc c k e i = c i := if_neg h
/-- n new cells Q 0 .. Q (n-1) with contents c; else only a changed -/
def FI (g : gG) (M0 M : Mp) (a n : Nat) (Q : Nat → Nat) (c : Nat → va_E) : Prop := (∀ i j, i < n → j < n → Q i = Q j → i = j) ∧ (∀ i, i < n → M (Q i) = some (c i) ∧ M0 (Q i) = none ∧ g.1 ≤ Q i) ∧ (∀ b, M0 b ≠ none → b ≠ a → M b = M0 b) ∧ M0 a ≠ none ∧ M a ≠ none
section FIS
variable {g : gG} {M0 M M' : Mp} {a n q j : Nat} {Q : Nat → Nat} {c : Nat → va_E} {e x : va_E}
theorem FI_0 (h : M a = some x) : FI g M M a 0 Q c := ⟨fun i j hi => absurd hi (Nat.not_lt_zero i), fun i hi => absurd hi (Nat.not_lt_zero i), fun _ _ _ => rfl, by rw [h]; exact fun z => (by cases z), by rw [h]; exact fun z => (by cases z)⟩
theorem FI_ne (h : FI g M0 M a n Q c) {i : Nat} (hi : i < n) : Q i ≠ a := fun z => h.2.2.2.1 (by rw [← z]; exact (h.2.1 i hi).2.1)
theorem FI_a (h : FI g M0 M a n Q c) : FI g M0 (mu M a e) a n Q c := ⟨h.1, fun i hi => ⟨(mu_n (FI_ne h hi)).trans (h.2.1 i hi).1, (h.2.1 i hi).2⟩, fun b hb hba => (mu_n hba).trans (h.2.2.1 b hb hba), h.2.2.2.1, by rw [mu_s]; exact fun z => (by cases z)⟩
theorem FI_fresh (h : FI g M0 M a n Q c) (hq : M q = none) : M0 q = none ∧ q ≠ a := by
  have hqa : q ≠ a := fun z => h.2.2.2.2 (by rw [← z]; exact hq)
  refine ⟨?_, hqa⟩
  cases hm : M0 q with
  | none => rfl
  | some y =>
    have h9 := h.2.2.1 q (by rw [hm]; exact fun z => (by cases z)) hqa
    rw [hq, hm] at h9
    cases h9
theorem FI_add (h : FI g M0 M a n Q c) (hne : ∀ i, i < n → Q i ≠ q) (hM : M q = some e) (h0 : M0 q = none) (hg : g.1 ≤ q) : FI g M0 M a (n + 1) (un Q n q) (uc c n e) := by
  refine ⟨fun i j hi hj he => ?_, fun i hi => ?_, h.2.2⟩
  · by_cases ei : i = n <;> by_cases ej : j = n
    · omega
    · rw [ei, un_s, un_n ej] at he
      exact absurd he.symm (hne j (by omega))
    · rw [ej, un_s, un_n ei] at he
      exact absurd he (hne i (by omega))
    · rw [un_n ei, un_n ej] at he
      exact h.1 i j (by omega) (by omega) he
  · by_cases ei : i = n
    · rw [ei, un_s, uc_s]; exact ⟨hM, h0, hg⟩
    · rw [un_n ei, uc_n ei]; exact h.2.1 i (by omega)
theorem FI_fr (h : FI g M0 M a n Q c) (hj : j < n) (hM : M' (Q j) = some e) (hfr : ∀ b, M b ≠ none → b ≠ Q j → M' b = M b) : FI g M0 M' a n Q (uc c j e) := by
  refine ⟨h.1, fun i hi => ?_, fun b hb hba => ?_, h.2.2.2.1, ?_⟩
  · by_cases ei : i = j
    · rw [ei, uc_s]; exact ⟨hM, (h.2.1 j hj).2⟩
    · rw [uc_n ei]
      obtain ⟨k1, k2⟩ := h.2.1 i hi
      exact ⟨(hfr _ (by rw [k1]; exact fun z => (by cases z)) (fun z => ei (h.1 i j hi hj z))).trans k1, k2⟩
  · have h9 := h.2.2.1 b hb hba
    exact (hfr b (by rw [h9]; exact hb) (fun z => hb (by rw [z]; exact (h.2.1 j hj).2.1))).trans h9
  · rw [hfr a h.2.2.2.2 (fun z => FI_ne h hj z.symm)]; exact h.2.2.2.2
theorem FI_set (h : FI g M0 M a n Q c) (hj : j < n) (hq : Q j = q) : FI g M0 (mu M q e) a n Q (uc c j e) := FI_fr h hj (by rw [hq]; exact mu_s) (fun b _ hb => mu_n (fun z => hb (by rw [hq]; exact z)))
theorem FI_mu (h : FI g M0 M a n Q c) (hq : M q = none) : FI g M0 (mu M q e) a n Q c := ⟨h.1, fun i hi => ⟨(mu_n (m_new hq (h.2.1 i hi).1)).trans (h.2.1 i hi).1, (h.2.1 i hi).2⟩, fun b hb hba => (mu_n (fun z => hb (by rw [← h.2.2.1 b hb hba, z]; exact hq))).trans (h.2.2.1 b hb hba), h.2.2.2.1, by rw [mu_n (FI_fresh h hq).2.symm]; exact h.2.2.2.2⟩
theorem FI_new (h : FI g M0 M a n Q c) (hq : M q = none) (hg : g.1 ≤ q) : FI g M0 (mu M q e) a (n + 1) (un Q n q) (uc c n e) := FI_add (FI_mu h hq) (fun i hi => m_new hq (h.2.1 i hi).1) mu_s (FI_fresh h hq).1 hg
theorem un_ne {d : Nat} (h : ∀ i, i < n → Q i ≠ q) (hd : d ≠ q) : ∀ i, i < n + 1 → un Q n d i ≠ q := fun i hi => by
  by_cases e : i = n
  · rw [e, un_s]; exact hd
  · rw [un_n e]; exact h i (by omega)
theorem FI_muR {N : Nat} {r : Nat → Nat} (h : FI g M0 M a n Q c) (hr : ∀ i, i < N → M (r i) = none) : FI g M0 (muR M N r e) a n Q c := ⟨h.1, fun i hi => ⟨(muR_n (fun t ht => m_new (hr t ht) (h.2.1 i hi).1)).trans (h.2.1 i hi).1, (h.2.1 i hi).2⟩, fun b hb hba => (muR_n (fun t ht z => hb (by rw [← h.2.2.1 b hb hba, z]; exact hr t ht))).trans (h.2.2.1 b hb hba), h.2.2.2.1, by rw [muR_n (fun t ht => (FI_fresh h (hr t ht)).2.symm)]; exact h.2.2.2.2⟩
/-- three new rows -/
theorem FI_rows3 {r : Nat → Nat} (h : FI g M0 M a n Q c) (hq : M q = none) (hg : g.1 ≤ q) (hr : ∀ i, i < 3 → M (r i) = none ∧ g.1 ≤ r i ∧ r i ≠ q) (hinj : ∀ i j, i < 3 → j < 3 → r i = r j → i = j) : FI g M0 (muR (mu M q x) 3 r e) a (n + 1 + 1 + 1 + 1) (un (un (un (un Q n q) (n + 1) (r 0)) (n + 1 + 1) (r 1)) (n + 1 + 1 + 1) (r 2)) (uc (uc (uc (uc c n x) (n + 1) e) (n + 1 + 1) e) (n + 1 + 1 + 1) e) := by
  have h1 := FI_new (e := x) h hq hg
  have hr2 : ∀ i, i < 3 → mu M q x (r i) = none := fun i hi => (mu_n (hr i hi).2.2).trans (hr i hi).1
  have h2 := FI_muR (e := e) h1 hr2
  have hne : ∀ k, k < 3 → ∀ i, i < n + 1 → un Q n q i ≠ r k := fun k hk i hi => m_new (hr2 k hk) (h1.2.1 i hi).1
  have f0 : ∀ k, k < 3 → M0 (r k) = none := fun k hk => (FI_fresh h (hr k hk).1).1
  have r01 : r 0 ≠ r 1 := fun z => absurd (hinj 0 1 (by decide) (by decide) z) (by decide)
  have r02 : r 0 ≠ r 2 := fun z => absurd (hinj 0 2 (by decide) (by decide) z) (by decide)
  have r12 : r 1 ≠ r 2 := fun z => absurd (hinj 1 2 (by decide) (by decide) z) (by decide)
  have h3 := FI_add h2 (hne 0 (by decide)) (muR_s (by decide)) (f0 0 (by decide)) (hr 0 (by decide)).2.1
  have h4 := FI_add h3 (un_ne (hne 1 (by decide)) r01) (muR_s (by decide)) (f0 1 (by decide)) (hr 1 (by decide)).2.1
  exact FI_add h4 (un_ne (un_ne (hne 2 (by decide)) r02) r12) (muR_s (by decide)) (f0 2 (by decide)) (hr 2 (by decide)).2.1
/-- a new cloth -/
theorem FI_cl {d u : Nat} {r : Nat → Nat} (h : FI g M0 M a n Q c) (hj : j < n) (hz : Q j = q) (hC : CP g M M' q d u r) : FI g M0 M' a (n + 1 + 1 + 1 + 1 + 1 + 1 + 1) (un (un (un (un (un (un (un Q n d) (n + 1) (r 0)) (n + 1 + 1) (r 1)) (n + 1 + 1 + 1) (r 2)) (n + 1 + 1 + 1 + 1) (r 3)) (n + 1 + 1 + 1 + 1 + 1) (r 4)) (n + 1 + 1 + 1 + 1 + 1 + 1) u)
    (uc (uc (uc (uc (uc (uc (uc (uc c j (eO 2 [.int 0, .ref d, .ref u])) n (eQ g 4 5 (rowc 5 r))) (n + 1) (eI g 5 (fun _ => 0))) (n + 1 + 1) (eI g 5 (fun _ => 0))) (n + 1 + 1 + 1) (eI g 5 (fun _ => 0))) (n + 1 + 1 + 1 + 1) (eI g 5 (fun _ => 0))) (n + 1 + 1 + 1 + 1 + 1) (eI g 5 (fun _ => 0))) (n + 1 + 1 + 1 + 1 + 1 + 1) (eI g 5 (fun _ => 0))) := by
  obtain ⟨c1, ⟨d1, d2, d3⟩, ⟨u1, u2, u3⟩, hr, hinj, hdu, hfr⟩ := hC
  subst hz
  have h2 := FI_fr h hj c1 hfr
  have nd : ∀ i, i < n → Q i ≠ d := fun i hi => m_new d2 (h.2.1 i hi).1
  have nu : ∀ i, i < n → Q i ≠ u := fun i hi => m_new u2 (h.2.1 i hi).1
  have nr : ∀ k, k < 5 → ∀ i, i < n → Q i ≠ r k := fun k hk i hi => m_new (hr k hk).2.1 (h.2.1 i hi).1
  have rr : ∀ i k, i < 5 → k < 5 → i ≠ k → r i ≠ r k := fun i k hi hk hik z => hik (hinj i k hi hk z)
  have dr : ∀ k, k < 5 → d ≠ r k := fun k hk => (hr k hk).2.2.2.1.symm
  have ad : ∀ k (hk : k < 5) {n9 : Nat} {Q9 : Nat → Nat} {c9 : Nat → va_E}, FI g M0 M' a n9 Q9 c9 → (∀ i, i < n9 → Q9 i ≠ r k) → FI g M0 M' a (n9 + 1) (un Q9 n9 (r k)) (uc c9 n9 (eI g 5 (fun _ => 0))) := fun k hk n9 Q9 c9 h9 hne => FI_add h9 hne (hr k hk).1 (FI_fresh h (hr k hk).2.1).1 (hr k hk).2.2.1
  have h3 := FI_add h2 nd d1 (FI_fresh h d2).1 d3
  have h4 := ad 0 (by decide) h3 (un_ne (nr 0 (by decide)) (dr 0 (by decide)))
  have h5 := ad 1 (by decide) h4 (un_ne (un_ne (nr 1 (by decide)) (dr 1 (by decide))) (rr 0 1 (by decide) (by decide) (by decide)))
  have h6 := ad 2 (by decide) h5 (un_ne (un_ne (un_ne (nr 2 (by decide)) (dr 2 (by decide))) (rr 0 2 (by decide) (by decide) (by decide))) (rr 1 2 (by decide) (by decide) (by decide)))
  have h7 := ad 3 (by decide) h6 (un_ne (un_ne (un_ne (un_ne (nr 3 (by decide)) (dr 3 (by decide))) (rr 0 3 (by decide) (by decide) (by decide))) (rr 1 3 (by decide) (by decide) (by decide))) (rr 2 3 (by decide) (by decide) (by decide)))
  have h8 := ad 4 (by decide) h7 (un_ne (un_ne (un_ne (un_ne (un_ne (nr 4 (by decide)) (dr 4 (by decide))) (rr 0 4 (by decide) (by decide) (by decide))) (rr 1 4 (by decide) (by decide) (by decide))) (rr 2 4 (by decide) (by decide) (by decide))) (rr 3 4 (by decide) (by decide) (by decide)))
  have ru : ∀ k, k < 5 → r k ≠ u := fun k hk => (hr k hk).2.2.2.2
  exact FI_add h8 (un_ne (un_ne (un_ne (un_ne (un_ne (un_ne nu hdu) (ru 0 (by decide))) (ru 1 (by decide))) (ru 2 (by decide))) (ru 3 (by decide))) (ru 4 (by decide))) u1 (FI_fresh h u2).1 u3
end FIS
