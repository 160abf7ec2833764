/-! CONSTRUCTORS -/
/-- n new int arrays Q 0 .. Q (n-1), all zero; else only a changed -/
def QI (g : gG) (M0 M : Mp) (a n : Nat) (Q len : Nat → Nat) : Prop := (∀ i j, i < n → j < n → Q i = Q j → i = j) ∧ (∀ i, i < n → M (Q i) = some (eI g (len i) (fun _ => 0)) ∧ M0 (Q i) = none ∧ g.1 ≤ Q i) ∧ (∀ b, M0 b ≠ none → b ≠ a → M b = M0 b) ∧ M0 a ≠ none
theorem QI_0 {g : gG} {M : Mp} {a : Nat} {x : va_E} {Q len : Nat → Nat} (h : M a = some x) : QI g M M a 0 Q len := ⟨fun i j hi => absurd hi (Nat.not_lt_zero i), fun i hi => absurd hi (Nat.not_lt_zero i), fun _ _ _ => rfl, by rw [h]; exact fun z => by cases z⟩
theorem QI_new {g : gG} {M0 M : Mp} {a n q N : Nat} {Q len : Nat → Nat} {ci : Nat} {fs fs' : List Value} (h : QI g M0 M a n Q len) (ha : M a = some (eO ci fs)) (hq : M q = none) (hg : g.1 ≤ q) (hN : len n = N) : QI g M0 (mu (mu M q (eI g N (fun _ => 0))) a (eO ci fs')) a (n + 1) (un Q n q) len := by
  obtain ⟨h1, h2, h3, h4⟩ := h
  have haq : a ≠ q := m_new hq ha
  have hQq : ∀ i, i < n → Q i ≠ q := fun i hi => m_new hq (h2 i hi).1
  refine ⟨fun i j hi hj he => ?_, fun i hi => ?_, fun b hb hba => ?_, h4⟩
  · by_cases ei : i = n <;> by_cases ej : j = n
    · omega
    · rw [ei, un_s, un_n ej] at he
      exact absurd he.symm (hQq j (by omega))
    · rw [ej, un_s, un_n ei] at he
      exact absurd he (hQq i (by omega))
    · rw [un_n ei, un_n ej] at he
      exact h1 i j (by omega) (by omega) he
  · by_cases ei : i = n
    · rw [ei, un_s, mu_n haq.symm, mu_s, hN]
      refine ⟨rfl, ?_, hg⟩
      cases hm : M0 q with
      | none => rfl
      | some e =>
        have h9 := h3 q (by rw [hm]; exact fun z => by cases z) haq.symm
        rw [hq, hm] at h9
        cases h9
    · rw [un_n ei]
      obtain ⟨k1, k2, k3⟩ := h2 i (by omega)
      exact ⟨by rw [mu_n (m_ne k1 ha (by intro z; cases z)), mu_n (hQq i (by omega))]; exact k1, k2, k3⟩
  · have h9 := h3 b hb hba
    rw [mu_n hba, mu_n (fun z => hb (by rw [← h9, z]; exact hq))]
    exact h9
def qpos (k : Nat) : Nat := [0, 0, 1, 2, 3, 0, 4, 5, 6, 0, 7, 8, 9, 10, 11, 12, 13, 14, 15, 16, 17, 18, 19, 0].getD k 0
def qlen (i : Nat) : Nat := [24, 12, 3, 8, 10, 10, 10, 40, 40, 40, 40, 40, 40, 40, 40, 40, 9, 3, 75, 5].getD i 0
set_option maxHeartbeats 4000000 in
set_option maxRecDepth 100000 in
theorem c_M_init {l : Launch} {g : gG} {M : Mp} {a : Nat} (h0 : M a = some (eO 7 [.int 0, .null, .null, .null, .null, .int 0, .null, .null, .null, .int 0, .null, .null, .null, .null, .null, .null, .null, .null, .null, .null, .null, .null, .null, .int 0])) : Met l yX6_init (WY yX6_init cX6_init 1 none) { frames := 1, cells := 20, slots := 529, locals := 12 } (Wc g M [.ref a]) (wrQ (S := Nat → Nat) g (fun u_ => none) (fun u_ M_ => QI g M M_ a 20 u_ qlen ∧ M_ a = some (eO 7 (mfs (fun k => u_ (qpos k)) (fun _ => 0))))) 20 529 (gA g) := by
  refine ofM (by decide +kernel) (Nat.le_of_ble_eq_true rfl) (fun p e s m args below meth c ls C hr hlocks hin hE hH hl ea => ?_)
  have hin : meth.name = "<init>" := hin
  have hl : lv_has ls 1 [(0, .ref a)] := hl
  have hS : va_S (gA g) s.heap s.heap [] := va_S.rf
  refine lv_aload_n C.1 C.2.1 dX6_init_0 rfl (lv_at hl 0 rfl) ?_
  refine W.objInit C.1 C.2.1 C.2.2.2.1 (C.2.2.2.2 _ wm_729) (C.2.2.2.2 _ wm_53) (C.2.2.2.2 _ wm_54) rfl (by rw [C.2.2.1]; exact hl.1) rfl dX6_init_1 (Nat.le_of_ble_eq_true rfl) (Nat.le_of_ble_eq_true rfl) ?_
  refine W.eq (g2 := F0 m 4 ls []) rfl ?_
  have Q0 := QI_0 (g := g) (Q := fun _ => 0) (len := qlen) h0
  refine lv_aload_n C.1 C.2.1 dX6_init_4 rfl (lv_at hl 0 rfl) ?_
  refine lv_bipush (v := 24) C.1 C.2.1 dX6_init_5 rfl ?_
  refine mnewI (N := 24) C hE hH hS wm_103 (by decide) (by decide) (Nat.le_of_ble_eq_true rfl) (by decide) (by decide) dX6_init_7 (fun q1 H nq1 gq1 hH hS => ?_)
  obtain ⟨M2, hM2⟩ : ∃ z, z = mu M q1 (eI g 24 (fun _ => 0)) := ⟨_, rfl⟩
  have hH : Hw g M2 H := by rw [hM2]; exact hH
  have f3 : M2 q1 = some (eI g 24 (fun _ => 0)) := by rw [hM2]; exact mu_s
  have f4 : M2 a = some (eO 7 [.int 0, .null, .null, .null, .null, .int 0, .null, .null, .null, .int 0, .null, .null, .null, .null, .null, .null, .null, .null, .null, .null, .null, .null, .null, .int 0]) := by rw [hM2]; exact (mu_n (m_new nq1 h0)).trans h0
  refine mputF (fs' := [.int 0, .ref q1, .null, .null, .null, .int 0, .null, .null, .null, .int 0, .null, .null, .null, .null, .null, .null, .null, .null, .null, .null, .null, .null, .null, .int 0]) C hE hH hS fp_731 f4 hin rfl rfl rfl (Nat.le_of_ble_eq_true rfl) dX6_init_9 (fun H locs hH hS => ?_)
  obtain ⟨M5, hM5⟩ : ∃ z, z = mu M2 a (eO 7 [.int 0, .ref q1, .null, .null, .null, .int 0, .null, .null, .null, .int 0, .null, .null, .null, .null, .null, .null, .null, .null, .null, .null, .null, .null, .null, .int 0]) := ⟨_, rfl⟩
  have hH : Hw g M5 H := by rw [hM5]; exact hH
  have f6 : M5 a = some (eO 7 [.int 0, .ref q1, .null, .null, .null, .int 0, .null, .null, .null, .int 0, .null, .null, .null, .null, .null, .null, .null, .null, .null, .null, .null, .null, .null, .int 0]) := by rw [hM5]; exact mu_s
  have f7 : M5 q1 = some (eI g 24 (fun _ => 0)) := by rw [hM5]; exact (mu_n ((m_new nq1 h0)).symm).trans f3
  have Q1 := QI_new (N := 24) (fs' := [.int 0, .ref q1, .null, .null, .null, .int 0, .null, .null, .null, .int 0, .null, .null, .null, .null, .null, .null, .null, .null, .null, .null, .null, .null, .null, .int 0]) (Q0) h0 nq1 gq1 rfl
  rw [← hM2, ← hM5] at Q1
  refine lv_aload_n C.1 C.2.1 dX6_init_12 rfl (lv_at hl 0 rfl) ?_
  refine lv_bipush (v := 12) C.1 C.2.1 dX6_init_13 rfl ?_
  refine mnewI (N := 12) C hE hH hS wm_103 (by decide) (by decide) (Nat.le_of_ble_eq_true rfl) (by decide) (by decide) dX6_init_15 (fun q8 H nq8 gq8 hH hS => ?_)
  obtain ⟨M9, hM9⟩ : ∃ z, z = mu M5 q8 (eI g 12 (fun _ => 0)) := ⟨_, rfl⟩
  have hH : Hw g M9 H := by rw [hM9]; exact hH
  have f10 : M9 q8 = some (eI g 12 (fun _ => 0)) := by rw [hM9]; exact mu_s
  have f11 : M9 a = some (eO 7 [.int 0, .ref q1, .null, .null, .null, .int 0, .null, .null, .null, .int 0, .null, .null, .null, .null, .null, .null, .null, .null, .null, .null, .null, .null, .null, .int 0]) := by rw [hM9]; exact (mu_n (m_new nq8 f6)).trans f6
  refine mputF (fs' := [.int 0, .ref q1, .ref q8, .null, .null, .int 0, .null, .null, .null, .int 0, .null, .null, .null, .null, .null, .null, .null, .null, .null, .null, .null, .null, .null, .int 0]) C hE hH hS fp_732 f11 hin rfl rfl rfl (Nat.le_of_ble_eq_true rfl) dX6_init_17 (fun H locs hH hS => ?_)
  obtain ⟨M12, hM12⟩ : ∃ z, z = mu M9 a (eO 7 [.int 0, .ref q1, .ref q8, .null, .null, .int 0, .null, .null, .null, .int 0, .null, .null, .null, .null, .null, .null, .null, .null, .null, .null, .null, .null, .null, .int 0]) := ⟨_, rfl⟩
  have hH : Hw g M12 H := by rw [hM12]; exact hH
  have f13 : M12 a = some (eO 7 [.int 0, .ref q1, .ref q8, .null, .null, .int 0, .null, .null, .null, .int 0, .null, .null, .null, .null, .null, .null, .null, .null, .null, .null, .null, .null, .null, .int 0]) := by rw [hM12]; exact mu_s
  have f14 : M12 q8 = some (eI g 12 (fun _ => 0)) := by rw [hM12]; exact (mu_n ((m_new nq8 f6)).symm).trans f10
  have Q2 := QI_new (N := 12) (fs' := [.int 0, .ref q1, .ref q8, .null, .null, .int 0, .null, .null, .null, .int 0, .null, .null, .null, .null, .null, .null, .null, .null, .null, .null, .null, .null, .null, .int 0]) (Q1) f6 nq8 gq8 rfl
  rw [← hM9, ← hM12] at Q2
  refine lv_aload_n C.1 C.2.1 dX6_init_20 rfl (lv_at hl 0 rfl) ?_
  refine lv_iconst (v := 3) C.1 C.2.1 dX6_init_21 rfl ?_
  refine mnewI (N := 3) C hE hH hS wm_103 (by decide) (by decide) (Nat.le_of_ble_eq_true rfl) (by decide) (by decide) dX6_init_22 (fun q15 H nq15 gq15 hH hS => ?_)
  obtain ⟨M16, hM16⟩ : ∃ z, z = mu M12 q15 (eI g 3 (fun _ => 0)) := ⟨_, rfl⟩
  have hH : Hw g M16 H := by rw [hM16]; exact hH
  have f17 : M16 q15 = some (eI g 3 (fun _ => 0)) := by rw [hM16]; exact mu_s
  have f18 : M16 a = some (eO 7 [.int 0, .ref q1, .ref q8, .null, .null, .int 0, .null, .null, .null, .int 0, .null, .null, .null, .null, .null, .null, .null, .null, .null, .null, .null, .null, .null, .int 0]) := by rw [hM16]; exact (mu_n (m_new nq15 f13)).trans f13
  refine mputF (fs' := [.int 0, .ref q1, .ref q8, .ref q15, .null, .int 0, .null, .null, .null, .int 0, .null, .null, .null, .null, .null, .null, .null, .null, .null, .null, .null, .null, .null, .int 0]) C hE hH hS fp_733 f18 hin rfl rfl rfl (Nat.le_of_ble_eq_true rfl) dX6_init_24 (fun H locs hH hS => ?_)
  obtain ⟨M19, hM19⟩ : ∃ z, z = mu M16 a (eO 7 [.int 0, .ref q1, .ref q8, .ref q15, .null, .int 0, .null, .null, .null, .int 0, .null, .null, .null, .null, .null, .null, .null, .null, .null, .null, .null, .null, .null, .int 0]) := ⟨_, rfl⟩
  have hH : Hw g M19 H := by rw [hM19]; exact hH
  have f20 : M19 a = some (eO 7 [.int 0, .ref q1, .ref q8, .ref q15, .null, .int 0, .null, .null, .null, .int 0, .null, .null, .null, .null, .null, .null, .null, .null, .null, .null, .null, .null, .null, .int 0]) := by rw [hM19]; exact mu_s
  have f21 : M19 q15 = some (eI g 3 (fun _ => 0)) := by rw [hM19]; exact (mu_n ((m_new nq15 f13)).symm).trans f17
  have Q3 := QI_new (N := 3) (fs' := [.int 0, .ref q1, .ref q8, .ref q15, .null, .int 0, .null, .null, .null, .int 0, .null, .null, .null, .null, .null, .null, .null, .null, .null, .null, .null, .null, .null, .int 0]) (Q2) f13 nq15 gq15 rfl
  rw [← hM16, ← hM19] at Q3
  refine lv_aload_n C.1 C.2.1 dX6_init_27 rfl (lv_at hl 0 rfl) ?_
  refine lv_bipush (v := 8) C.1 C.2.1 dX6_init_28 rfl ?_
  refine mnewI (N := 8) C hE hH hS wm_103 (by decide) (by decide) (Nat.le_of_ble_eq_true rfl) (by decide) (by decide) dX6_init_30 (fun q22 H nq22 gq22 hH hS => ?_)
  obtain ⟨M23, hM23⟩ : ∃ z, z = mu M19 q22 (eI g 8 (fun _ => 0)) := ⟨_, rfl⟩
  have hH : Hw g M23 H := by rw [hM23]; exact hH
  have f24 : M23 q22 = some (eI g 8 (fun _ => 0)) := by rw [hM23]; exact mu_s
  have f25 : M23 a = some (eO 7 [.int 0, .ref q1, .ref q8, .ref q15, .null, .int 0, .null, .null, .null, .int 0, .null, .null, .null, .null, .null, .null, .null, .null, .null, .null, .null, .null, .null, .int 0]) := by rw [hM23]; exact (mu_n (m_new nq22 f20)).trans f20
  refine mputF (fs' := [.int 0, .ref q1, .ref q8, .ref q15, .ref q22, .int 0, .null, .null, .null, .int 0, .null, .null, .null, .null, .null, .null, .null, .null, .null, .null, .null, .null, .null, .int 0]) C hE hH hS fp_734 f25 hin rfl rfl rfl (Nat.le_of_ble_eq_true rfl) dX6_init_32 (fun H locs hH hS => ?_)
  obtain ⟨M26, hM26⟩ : ∃ z, z = mu M23 a (eO 7 [.int 0, .ref q1, .ref q8, .ref q15, .ref q22, .int 0, .null, .null, .null, .int 0, .null, .null, .null, .null, .null, .null, .null, .null, .null, .null, .null, .null, .null, .int 0]) := ⟨_, rfl⟩
  have hH : Hw g M26 H := by rw [hM26]; exact hH
  have f27 : M26 a = some (eO 7 [.int 0, .ref q1, .ref q8, .ref q15, .ref q22, .int 0, .null, .null, .null, .int 0, .null, .null, .null, .null, .null, .null, .null, .null, .null, .null, .null, .null, .null, .int 0]) := by rw [hM26]; exact mu_s
  have f28 : M26 q22 = some (eI g 8 (fun _ => 0)) := by rw [hM26]; exact (mu_n ((m_new nq22 f20)).symm).trans f24
  have Q4 := QI_new (N := 8) (fs' := [.int 0, .ref q1, .ref q8, .ref q15, .ref q22, .int 0, .null, .null, .null, .int 0, .null, .null, .null, .null, .null, .null, .null, .null, .null, .null, .null, .null, .null, .int 0]) (Q3) f20 nq22 gq22 rfl
  rw [← hM23, ← hM26] at Q4
  refine lv_aload_n C.1 C.2.1 dX6_init_35 rfl (lv_at hl 0 rfl) ?_
  refine lv_bipush (v := 10) C.1 C.2.1 dX6_init_36 rfl ?_
  refine mnewI (N := 10) C hE hH hS wm_103 (by decide) (by decide) (Nat.le_of_ble_eq_true rfl) (by decide) (by decide) dX6_init_38 (fun q29 H nq29 gq29 hH hS => ?_)
  obtain ⟨M30, hM30⟩ : ∃ z, z = mu M26 q29 (eI g 10 (fun _ => 0)) := ⟨_, rfl⟩
  have hH : Hw g M30 H := by rw [hM30]; exact hH
  have f31 : M30 q29 = some (eI g 10 (fun _ => 0)) := by rw [hM30]; exact mu_s
  have f32 : M30 a = some (eO 7 [.int 0, .ref q1, .ref q8, .ref q15, .ref q22, .int 0, .null, .null, .null, .int 0, .null, .null, .null, .null, .null, .null, .null, .null, .null, .null, .null, .null, .null, .int 0]) := by rw [hM30]; exact (mu_n (m_new nq29 f27)).trans f27
  refine mputF (fs' := [.int 0, .ref q1, .ref q8, .ref q15, .ref q22, .int 0, .ref q29, .null, .null, .int 0, .null, .null, .null, .null, .null, .null, .null, .null, .null, .null, .null, .null, .null, .int 0]) C hE hH hS fp_736 f32 hin rfl rfl rfl (Nat.le_of_ble_eq_true rfl) dX6_init_40 (fun H locs hH hS => ?_)
  obtain ⟨M33, hM33⟩ : ∃ z, z = mu M30 a (eO 7 [.int 0, .ref q1, .ref q8, .ref q15, .ref q22, .int 0, .ref q29, .null, .null, .int 0, .null, .null, .null, .null, .null, .null, .null, .null, .null, .null, .null, .null, .null, .int 0]) := ⟨_, rfl⟩
  have hH : Hw g M33 H := by rw [hM33]; exact hH
  have f34 : M33 a = some (eO 7 [.int 0, .ref q1, .ref q8, .ref q15, .ref q22, .int 0, .ref q29, .null, .null, .int 0, .null, .null, .null, .null, .null, .null, .null, .null, .null, .null, .null, .null, .null, .int 0]) := by rw [hM33]; exact mu_s
  have f35 : M33 q29 = some (eI g 10 (fun _ => 0)) := by rw [hM33]; exact (mu_n ((m_new nq29 f27)).symm).trans f31
  have Q5 := QI_new (N := 10) (fs' := [.int 0, .ref q1, .ref q8, .ref q15, .ref q22, .int 0, .ref q29, .null, .null, .int 0, .null, .null, .null, .null, .null, .null, .null, .null, .null, .null, .null, .null, .null, .int 0]) (Q4) f27 nq29 gq29 rfl
  rw [← hM30, ← hM33] at Q5
  refine lv_aload_n C.1 C.2.1 dX6_init_43 rfl (lv_at hl 0 rfl) ?_
  refine lv_bipush (v := 10) C.1 C.2.1 dX6_init_44 rfl ?_
  refine mnewI (N := 10) C hE hH hS wm_103 (by decide) (by decide) (Nat.le_of_ble_eq_true rfl) (by decide) (by decide) dX6_init_46 (fun q36 H nq36 gq36 hH hS => ?_)
  obtain ⟨M37, hM37⟩ : ∃ z, z = mu M33 q36 (eI g 10 (fun _ => 0)) := ⟨_, rfl⟩
  have hH : Hw g M37 H := by rw [hM37]; exact hH
  have f38 : M37 q36 = some (eI g 10 (fun _ => 0)) := by rw [hM37]; exact mu_s
  have f39 : M37 a = some (eO 7 [.int 0, .ref q1, .ref q8, .ref q15, .ref q22, .int 0, .ref q29, .null, .null, .int 0, .null, .null, .null, .null, .null, .null, .null, .null, .null, .null, .null, .null, .null, .int 0]) := by rw [hM37]; exact (mu_n (m_new nq36 f34)).trans f34
  refine mputF (fs' := [.int 0, .ref q1, .ref q8, .ref q15, .ref q22, .int 0, .ref q29, .ref q36, .null, .int 0, .null, .null, .null, .null, .null, .null, .null, .null, .null, .null, .null, .null, .null, .int 0]) C hE hH hS fp_737 f39 hin rfl rfl rfl (Nat.le_of_ble_eq_true rfl) dX6_init_48 (fun H locs hH hS => ?_)
  obtain ⟨M40, hM40⟩ : ∃ z, z = mu M37 a (eO 7 [.int 0, .ref q1, .ref q8, .ref q15, .ref q22, .int 0, .ref q29, .ref q36, .null, .int 0, .null, .null, .null, .null, .null, .null, .null, .null, .null, .null, .null, .null, .null, .int 0]) := ⟨_, rfl⟩
  have hH : Hw g M40 H := by rw [hM40]; exact hH
  have f41 : M40 a = some (eO 7 [.int 0, .ref q1, .ref q8, .ref q15, .ref q22, .int 0, .ref q29, .ref q36, .null, .int 0, .null, .null, .null, .null, .null, .null, .null, .null, .null, .null, .null, .null, .null, .int 0]) := by rw [hM40]; exact mu_s
  have f42 : M40 q36 = some (eI g 10 (fun _ => 0)) := by rw [hM40]; exact (mu_n ((m_new nq36 f34)).symm).trans f38
  have Q6 := QI_new (N := 10) (fs' := [.int 0, .ref q1, .ref q8, .ref q15, .ref q22, .int 0, .ref q29, .ref q36, .null, .int 0, .null, .null, .null, .null, .null, .null, .null, .null, .null, .null, .null, .null, .null, .int 0]) (Q5) f34 nq36 gq36 rfl
  rw [← hM37, ← hM40] at Q6
  refine lv_aload_n C.1 C.2.1 dX6_init_51 rfl (lv_at hl 0 rfl) ?_
  refine lv_bipush (v := 10) C.1 C.2.1 dX6_init_52 rfl ?_
  refine mnewI (N := 10) C hE hH hS wm_103 (by decide) (by decide) (Nat.le_of_ble_eq_true rfl) (by decide) (by decide) dX6_init_54 (fun q43 H nq43 gq43 hH hS => ?_)
  obtain ⟨M44, hM44⟩ : ∃ z, z = mu M40 q43 (eI g 10 (fun _ => 0)) := ⟨_, rfl⟩
  have hH : Hw g M44 H := by rw [hM44]; exact hH
  have f45 : M44 q43 = some (eI g 10 (fun _ => 0)) := by rw [hM44]; exact mu_s
  have f46 : M44 a = some (eO 7 [.int 0, .ref q1, .ref q8, .ref q15, .ref q22, .int 0, .ref q29, .ref q36, .null, .int 0, .null, .null, .null, .null, .null, .null, .null, .null, .null, .null, .null, .null, .null, .int 0]) := by rw [hM44]; exact (mu_n (m_new nq43 f41)).trans f41
  refine mputF (fs' := [.int 0, .ref q1, .ref q8, .ref q15, .ref q22, .int 0, .ref q29, .ref q36, .ref q43, .int 0, .null, .null, .null, .null, .null, .null, .null, .null, .null, .null, .null, .null, .null, .int 0]) C hE hH hS fp_738 f46 hin rfl rfl rfl (Nat.le_of_ble_eq_true rfl) dX6_init_56 (fun H locs hH hS => ?_)
  obtain ⟨M47, hM47⟩ : ∃ z, z = mu M44 a (eO 7 [.int 0, .ref q1, .ref q8, .ref q15, .ref q22, .int 0, .ref q29, .ref q36, .ref q43, .int 0, .null, .null, .null, .null, .null, .null, .null, .null, .null, .null, .null, .null, .null, .int 0]) := ⟨_, rfl⟩
  have hH : Hw g M47 H := by rw [hM47]; exact hH
  have f48 : M47 a = some (eO 7 [.int 0, .ref q1, .ref q8, .ref q15, .ref q22, .int 0, .ref q29, .ref q36, .ref q43, .int 0, .null, .null, .null, .null, .null, .null, .null, .null, .null, .null, .null, .null, .null, .int 0]) := by rw [hM47]; exact mu_s
  have f49 : M47 q43 = some (eI g 10 (fun _ => 0)) := by rw [hM47]; exact (mu_n ((m_new nq43 f41)).symm).trans f45
  have Q7 := QI_new (N := 10) (fs' := [.int 0, .ref q1, .ref q8, .ref q15, .ref q22, .int 0, .ref q29, .ref q36, .ref q43, .int 0, .null, .null, .null, .null, .null, .null, .null, .null, .null, .null, .null, .null, .null, .int 0]) (Q6) f41 nq43 gq43 rfl
  rw [← hM44, ← hM47] at Q7
  refine lv_aload_n C.1 C.2.1 dX6_init_59 rfl (lv_at hl 0 rfl) ?_
  refine lv_bipush (v := 40) C.1 C.2.1 dX6_init_60 rfl ?_
  refine mnewI (N := 40) C hE hH hS wm_103 (by decide) (by decide) (Nat.le_of_ble_eq_true rfl) (by decide) (by decide) dX6_init_62 (fun q50 H nq50 gq50 hH hS => ?_)
  obtain ⟨M51, hM51⟩ : ∃ z, z = mu M47 q50 (eI g 40 (fun _ => 0)) := ⟨_, rfl⟩
  have hH : Hw g M51 H := by rw [hM51]; exact hH
  have f52 : M51 q50 = some (eI g 40 (fun _ => 0)) := by rw [hM51]; exact mu_s
  have f53 : M51 a = some (eO 7 [.int 0, .ref q1, .ref q8, .ref q15, .ref q22, .int 0, .ref q29, .ref q36, .ref q43, .int 0, .null, .null, .null, .null, .null, .null, .null, .null, .null, .null, .null, .null, .null, .int 0]) := by rw [hM51]; exact (mu_n (m_new nq50 f48)).trans f48
  refine mputF (fs' := [.int 0, .ref q1, .ref q8, .ref q15, .ref q22, .int 0, .ref q29, .ref q36, .ref q43, .int 0, .ref q50, .null, .null, .null, .null, .null, .null, .null, .null, .null, .null, .null, .null, .int 0]) C hE hH hS fp_740 f53 hin rfl rfl rfl (Nat.le_of_ble_eq_true rfl) dX6_init_64 (fun H locs hH hS => ?_)
  obtain ⟨M54, hM54⟩ : ∃ z, z = mu M51 a (eO 7 [.int 0, .ref q1, .ref q8, .ref q15, .ref q22, .int 0, .ref q29, .ref q36, .ref q43, .int 0, .ref q50, .null, .null, .null, .null, .null, .null, .null, .null, .null, .null, .null, .null, .int 0]) := ⟨_, rfl⟩
  have hH : Hw g M54 H := by rw [hM54]; exact hH
  have f55 : M54 a = some (eO 7 [.int 0, .ref q1, .ref q8, .ref q15, .ref q22, .int 0, .ref q29, .ref q36, .ref q43, .int 0, .ref q50, .null, .null, .null, .null, .null, .null, .null, .null, .null, .null, .null, .null, .int 0]) := by rw [hM54]; exact mu_s
  have f56 : M54 q50 = some (eI g 40 (fun _ => 0)) := by rw [hM54]; exact (mu_n ((m_new nq50 f48)).symm).trans f52
  have Q8 := QI_new (N := 40) (fs' := [.int 0, .ref q1, .ref q8, .ref q15, .ref q22, .int 0, .ref q29, .ref q36, .ref q43, .int 0, .ref q50, .null, .null, .null, .null, .null, .null, .null, .null, .null, .null, .null, .null, .int 0]) (Q7) f48 nq50 gq50 rfl
  rw [← hM51, ← hM54] at Q8
  refine lv_aload_n C.1 C.2.1 dX6_init_67 rfl (lv_at hl 0 rfl) ?_
  refine lv_bipush (v := 40) C.1 C.2.1 dX6_init_68 rfl ?_
  refine mnewI (N := 40) C hE hH hS wm_103 (by decide) (by decide) (Nat.le_of_ble_eq_true rfl) (by decide) (by decide) dX6_init_70 (fun q57 H nq57 gq57 hH hS => ?_)
  obtain ⟨M58, hM58⟩ : ∃ z, z = mu M54 q57 (eI g 40 (fun _ => 0)) := ⟨_, rfl⟩
  have hH : Hw g M58 H := by rw [hM58]; exact hH
  have f59 : M58 q57 = some (eI g 40 (fun _ => 0)) := by rw [hM58]; exact mu_s
  have f60 : M58 a = some (eO 7 [.int 0, .ref q1, .ref q8, .ref q15, .ref q22, .int 0, .ref q29, .ref q36, .ref q43, .int 0, .ref q50, .null, .null, .null, .null, .null, .null, .null, .null, .null, .null, .null, .null, .int 0]) := by rw [hM58]; exact (mu_n (m_new nq57 f55)).trans f55
  refine mputF (fs' := [.int 0, .ref q1, .ref q8, .ref q15, .ref q22, .int 0, .ref q29, .ref q36, .ref q43, .int 0, .ref q50, .ref q57, .null, .null, .null, .null, .null, .null, .null, .null, .null, .null, .null, .int 0]) C hE hH hS fp_741 f60 hin rfl rfl rfl (Nat.le_of_ble_eq_true rfl) dX6_init_72 (fun H locs hH hS => ?_)
  obtain ⟨M61, hM61⟩ : ∃ z, z = mu M58 a (eO 7 [.int 0, .ref q1, .ref q8, .ref q15, .ref q22, .int 0, .ref q29, .ref q36, .ref q43, .int 0, .ref q50, .ref q57, .null, .null, .null, .null, .null, .null, .null, .null, .null, .null, .null, .int 0]) := ⟨_, rfl⟩
  have hH : Hw g M61 H := by rw [hM61]; exact hH
  have f62 : M61 a = some (eO 7 [.int 0, .ref q1, .ref q8, .ref q15, .ref q22, .int 0, .ref q29, .ref q36, .ref q43, .int 0, .ref q50, .ref q57, .null, .null, .null, .null, .null, .null, .null, .null, .null, .null, .null, .int 0]) := by rw [hM61]; exact mu_s
  have f63 : M61 q57 = some (eI g 40 (fun _ => 0)) := by rw [hM61]; exact (mu_n ((m_new nq57 f55)).symm).trans f59
  have Q9 := QI_new (N := 40) (fs' := [.int 0, .ref q1, .ref q8, .ref q15, .ref q22, .int 0, .ref q29, .ref q36, .ref q43, .int 0, .ref q50, .ref q57, .null, .null, .null, .null, .null, .null, .null, .null, .null, .null, .null, .int 0]) (Q8) f55 nq57 gq57 rfl
  rw [← hM58, ← hM61] at Q9
  refine lv_aload_n C.1 C.2.1 dX6_init_75 rfl (lv_at hl 0 rfl) ?_
  refine lv_bipush (v := 40) C.1 C.2.1 dX6_init_76 rfl ?_
  refine mnewI (N := 40) C hE hH hS wm_103 (by decide) (by decide) (Nat.le_of_ble_eq_true rfl) (by decide) (by decide) dX6_init_78 (fun q64 H nq64 gq64 hH hS => ?_)
  obtain ⟨M65, hM65⟩ : ∃ z, z = mu M61 q64 (eI g 40 (fun _ => 0)) := ⟨_, rfl⟩
  have hH : Hw g M65 H := by rw [hM65]; exact hH
  have f66 : M65 q64 = some (eI g 40 (fun _ => 0)) := by rw [hM65]; exact mu_s
  have f67 : M65 a = some (eO 7 [.int 0, .ref q1, .ref q8, .ref q15, .ref q22, .int 0, .ref q29, .ref q36, .ref q43, .int 0, .ref q50, .ref q57, .null, .null, .null, .null, .null, .null, .null, .null, .null, .null, .null, .int 0]) := by rw [hM65]; exact (mu_n (m_new nq64 f62)).trans f62
  refine mputF (fs' := [.int 0, .ref q1, .ref q8, .ref q15, .ref q22, .int 0, .ref q29, .ref q36, .ref q43, .int 0, .ref q50, .ref q57, .ref q64, .null, .null, .null, .null, .null, .null, .null, .null, .null, .null, .int 0]) C hE hH hS fp_742 f67 hin rfl rfl rfl (Nat.le_of_ble_eq_true rfl) dX6_init_80 (fun H locs hH hS => ?_)
  obtain ⟨M68, hM68⟩ : ∃ z, z = mu M65 a (eO 7 [.int 0, .ref q1, .ref q8, .ref q15, .ref q22, .int 0, .ref q29, .ref q36, .ref q43, .int 0, .ref q50, .ref q57, .ref q64, .null, .null, .null, .null, .null, .null, .null, .null, .null, .null, .int 0]) := ⟨_, rfl⟩
  have hH : Hw g M68 H := by rw [hM68]; exact hH
  have f69 : M68 a = some (eO 7 [.int 0, .ref q1, .ref q8, .ref q15, .ref q22, .int 0, .ref q29, .ref q36, .ref q43, .int 0, .ref q50, .ref q57, .ref q64, .null, .null, .null, .null, .null, .null, .null, .null, .null, .null, .int 0]) := by rw [hM68]; exact mu_s
  have f70 : M68 q64 = some (eI g 40 (fun _ => 0)) := by rw [hM68]; exact (mu_n ((m_new nq64 f62)).symm).trans f66
  have Q10 := QI_new (N := 40) (fs' := [.int 0, .ref q1, .ref q8, .ref q15, .ref q22, .int 0, .ref q29, .ref q36, .ref q43, .int 0, .ref q50, .ref q57, .ref q64, .null, .null, .null, .null, .null, .null, .null, .null, .null, .null, .int 0]) (Q9) f62 nq64 gq64 rfl
  rw [← hM65, ← hM68] at Q10
  refine lv_aload_n C.1 C.2.1 dX6_init_83 rfl (lv_at hl 0 rfl) ?_
  refine lv_bipush (v := 40) C.1 C.2.1 dX6_init_84 rfl ?_
  refine mnewI (N := 40) C hE hH hS wm_103 (by decide) (by decide) (Nat.le_of_ble_eq_true rfl) (by decide) (by decide) dX6_init_86 (fun q71 H nq71 gq71 hH hS => ?_)
  obtain ⟨M72, hM72⟩ : ∃ z, z = mu M68 q71 (eI g 40 (fun _ => 0)) := ⟨_, rfl⟩
  have hH : Hw g M72 H := by rw [hM72]; exact hH
  have f73 : M72 q71 = some (eI g 40 (fun _ => 0)) := by rw [hM72]; exact mu_s
  have f74 : M72 a = some (eO 7 [.int 0, .ref q1, .ref q8, .ref q15, .ref q22, .int 0, .ref q29, .ref q36, .ref q43, .int 0, .ref q50, .ref q57, .ref q64, .null, .null, .null, .null, .null, .null, .null, .null, .null, .null, .int 0]) := by rw [hM72]; exact (mu_n (m_new nq71 f69)).trans f69
  refine mputF (fs' := [.int 0, .ref q1, .ref q8, .ref q15, .ref q22, .int 0, .ref q29, .ref q36, .ref q43, .int 0, .ref q50, .ref q57, .ref q64, .ref q71, .null, .null, .null, .null, .null, .null, .null, .null, .null, .int 0]) C hE hH hS fp_743 f74 hin rfl rfl rfl (Nat.le_of_ble_eq_true rfl) dX6_init_88 (fun H locs hH hS => ?_)
  obtain ⟨M75, hM75⟩ : ∃ z, z = mu M72 a (eO 7 [.int 0, .ref q1, .ref q8, .ref q15, .ref q22, .int 0, .ref q29, .ref q36, .ref q43, .int 0, .ref q50, .ref q57, .ref q64, .ref q71, .null, .null, .null, .null, .null, .null, .null, .null, .null, .int 0]) := ⟨_, rfl⟩
  have hH : Hw g M75 H := by rw [hM75]; exact hH
  have f76 : M75 a = some (eO 7 [.int 0, .ref q1, .ref q8, .ref q15, .ref q22, .int 0, .ref q29, .ref q36, .ref q43, .int 0, .ref q50, .ref q57, .ref q64, .ref q71, .null, .null, .null, .null, .null, .null, .null, .null, .null, .int 0]) := by rw [hM75]; exact mu_s
  have f77 : M75 q71 = some (eI g 40 (fun _ => 0)) := by rw [hM75]; exact (mu_n ((m_new nq71 f69)).symm).trans f73
  have Q11 := QI_new (N := 40) (fs' := [.int 0, .ref q1, .ref q8, .ref q15, .ref q22, .int 0, .ref q29, .ref q36, .ref q43, .int 0, .ref q50, .ref q57, .ref q64, .ref q71, .null, .null, .null, .null, .null, .null, .null, .null, .null, .int 0]) (Q10) f69 nq71 gq71 rfl
  rw [← hM72, ← hM75] at Q11
  refine lv_aload_n C.1 C.2.1 dX6_init_91 rfl (lv_at hl 0 rfl) ?_
  refine lv_bipush (v := 40) C.1 C.2.1 dX6_init_92 rfl ?_
  refine mnewI (N := 40) C hE hH hS wm_103 (by decide) (by decide) (Nat.le_of_ble_eq_true rfl) (by decide) (by decide) dX6_init_94 (fun q78 H nq78 gq78 hH hS => ?_)
  obtain ⟨M79, hM79⟩ : ∃ z, z = mu M75 q78 (eI g 40 (fun _ => 0)) := ⟨_, rfl⟩
  have hH : Hw g M79 H := by rw [hM79]; exact hH
  have f80 : M79 q78 = some (eI g 40 (fun _ => 0)) := by rw [hM79]; exact mu_s
  have f81 : M79 a = some (eO 7 [.int 0, .ref q1, .ref q8, .ref q15, .ref q22, .int 0, .ref q29, .ref q36, .ref q43, .int 0, .ref q50, .ref q57, .ref q64, .ref q71, .null, .null, .null, .null, .null, .null, .null, .null, .null, .int 0]) := by rw [hM79]; exact (mu_n (m_new nq78 f76)).trans f76
  refine mputF (fs' := [.int 0, .ref q1, .ref q8, .ref q15, .ref q22, .int 0, .ref q29, .ref q36, .ref q43, .int 0, .ref q50, .ref q57, .ref q64, .ref q71, .ref q78, .null, .null, .null, .null, .null, .null, .null, .null, .int 0]) C hE hH hS fp_744 f81 hin rfl rfl rfl (Nat.le_of_ble_eq_true rfl) dX6_init_96 (fun H locs hH hS => ?_)
  obtain ⟨M82, hM82⟩ : ∃ z, z = mu M79 a (eO 7 [.int 0, .ref q1, .ref q8, .ref q15, .ref q22, .int 0, .ref q29, .ref q36, .ref q43, .int 0, .ref q50, .ref q57, .ref q64, .ref q71, .ref q78, .null, .null, .null, .null, .null, .null, .null, .null, .int 0]) := ⟨_, rfl⟩
  have hH : Hw g M82 H := by rw [hM82]; exact hH
  have f83 : M82 a = some (eO 7 [.int 0, .ref q1, .ref q8, .ref q15, .ref q22, .int 0, .ref q29, .ref q36, .ref q43, .int 0, .ref q50, .ref q57, .ref q64, .ref q71, .ref q78, .null, .null, .null, .null, .null, .null, .null, .null, .int 0]) := by rw [hM82]; exact mu_s
  have f84 : M82 q78 = some (eI g 40 (fun _ => 0)) := by rw [hM82]; exact (mu_n ((m_new nq78 f76)).symm).trans f80
  have Q12 := QI_new (N := 40) (fs' := [.int 0, .ref q1, .ref q8, .ref q15, .ref q22, .int 0, .ref q29, .ref q36, .ref q43, .int 0, .ref q50, .ref q57, .ref q64, .ref q71, .ref q78, .null, .null, .null, .null, .null, .null, .null, .null, .int 0]) (Q11) f76 nq78 gq78 rfl
  rw [← hM79, ← hM82] at Q12
  refine lv_aload_n C.1 C.2.1 dX6_init_99 rfl (lv_at hl 0 rfl) ?_
  refine lv_bipush (v := 40) C.1 C.2.1 dX6_init_100 rfl ?_
  refine mnewI (N := 40) C hE hH hS wm_103 (by decide) (by decide) (Nat.le_of_ble_eq_true rfl) (by decide) (by decide) dX6_init_102 (fun q85 H nq85 gq85 hH hS => ?_)
  obtain ⟨M86, hM86⟩ : ∃ z, z = mu M82 q85 (eI g 40 (fun _ => 0)) := ⟨_, rfl⟩
  have hH : Hw g M86 H := by rw [hM86]; exact hH
  have f87 : M86 q85 = some (eI g 40 (fun _ => 0)) := by rw [hM86]; exact mu_s
  have f88 : M86 a = some (eO 7 [.int 0, .ref q1, .ref q8, .ref q15, .ref q22, .int 0, .ref q29, .ref q36, .ref q43, .int 0, .ref q50, .ref q57, .ref q64, .ref q71, .ref q78, .null, .null, .null, .null, .null, .null, .null, .null, .int 0]) := by rw [hM86]; exact (mu_n (m_new nq85 f83)).trans f83
  refine mputF (fs' := [.int 0, .ref q1, .ref q8, .ref q15, .ref q22, .int 0, .ref q29, .ref q36, .ref q43, .int 0, .ref q50, .ref q57, .ref q64, .ref q71, .ref q78, .ref q85, .null, .null, .null, .null, .null, .null, .null, .int 0]) C hE hH hS fp_745 f88 hin rfl rfl rfl (Nat.le_of_ble_eq_true rfl) dX6_init_104 (fun H locs hH hS => ?_)
  obtain ⟨M89, hM89⟩ : ∃ z, z = mu M86 a (eO 7 [.int 0, .ref q1, .ref q8, .ref q15, .ref q22, .int 0, .ref q29, .ref q36, .ref q43, .int 0, .ref q50, .ref q57, .ref q64, .ref q71, .ref q78, .ref q85, .null, .null, .null, .null, .null, .null, .null, .int 0]) := ⟨_, rfl⟩
  have hH : Hw g M89 H := by rw [hM89]; exact hH
  have f90 : M89 a = some (eO 7 [.int 0, .ref q1, .ref q8, .ref q15, .ref q22, .int 0, .ref q29, .ref q36, .ref q43, .int 0, .ref q50, .ref q57, .ref q64, .ref q71, .ref q78, .ref q85, .null, .null, .null, .null, .null, .null, .null, .int 0]) := by rw [hM89]; exact mu_s
  have f91 : M89 q85 = some (eI g 40 (fun _ => 0)) := by rw [hM89]; exact (mu_n ((m_new nq85 f83)).symm).trans f87
  have Q13 := QI_new (N := 40) (fs' := [.int 0, .ref q1, .ref q8, .ref q15, .ref q22, .int 0, .ref q29, .ref q36, .ref q43, .int 0, .ref q50, .ref q57, .ref q64, .ref q71, .ref q78, .ref q85, .null, .null, .null, .null, .null, .null, .null, .int 0]) (Q12) f83 nq85 gq85 rfl
  rw [← hM86, ← hM89] at Q13
  refine lv_aload_n C.1 C.2.1 dX6_init_107 rfl (lv_at hl 0 rfl) ?_
  refine lv_bipush (v := 40) C.1 C.2.1 dX6_init_108 rfl ?_
  refine mnewI (N := 40) C hE hH hS wm_103 (by decide) (by decide) (Nat.le_of_ble_eq_true rfl) (by decide) (by decide) dX6_init_110 (fun q92 H nq92 gq92 hH hS => ?_)
  obtain ⟨M93, hM93⟩ : ∃ z, z = mu M89 q92 (eI g 40 (fun _ => 0)) := ⟨_, rfl⟩
  have hH : Hw g M93 H := by rw [hM93]; exact hH
  have f94 : M93 q92 = some (eI g 40 (fun _ => 0)) := by rw [hM93]; exact mu_s
  have f95 : M93 a = some (eO 7 [.int 0, .ref q1, .ref q8, .ref q15, .ref q22, .int 0, .ref q29, .ref q36, .ref q43, .int 0, .ref q50, .ref q57, .ref q64, .ref q71, .ref q78, .ref q85, .null, .null, .null, .null, .null, .null, .null, .int 0]) := by rw [hM93]; exact (mu_n (m_new nq92 f90)).trans f90
  refine mputF (fs' := [.int 0, .ref q1, .ref q8, .ref q15, .ref q22, .int 0, .ref q29, .ref q36, .ref q43, .int 0, .ref q50, .ref q57, .ref q64, .ref q71, .ref q78, .ref q85, .ref q92, .null, .null, .null, .null, .null, .null, .int 0]) C hE hH hS fp_746 f95 hin rfl rfl rfl (Nat.le_of_ble_eq_true rfl) dX6_init_112 (fun H locs hH hS => ?_)
  obtain ⟨M96, hM96⟩ : ∃ z, z = mu M93 a (eO 7 [.int 0, .ref q1, .ref q8, .ref q15, .ref q22, .int 0, .ref q29, .ref q36, .ref q43, .int 0, .ref q50, .ref q57, .ref q64, .ref q71, .ref q78, .ref q85, .ref q92, .null, .null, .null, .null, .null, .null, .int 0]) := ⟨_, rfl⟩
  have hH : Hw g M96 H := by rw [hM96]; exact hH
  have f97 : M96 a = some (eO 7 [.int 0, .ref q1, .ref q8, .ref q15, .ref q22, .int 0, .ref q29, .ref q36, .ref q43, .int 0, .ref q50, .ref q57, .ref q64, .ref q71, .ref q78, .ref q85, .ref q92, .null, .null, .null, .null, .null, .null, .int 0]) := by rw [hM96]; exact mu_s
  have f98 : M96 q92 = some (eI g 40 (fun _ => 0)) := by rw [hM96]; exact (mu_n ((m_new nq92 f90)).symm).trans f94
  have Q14 := QI_new (N := 40) (fs' := [.int 0, .ref q1, .ref q8, .ref q15, .ref q22, .int 0, .ref q29, .ref q36, .ref q43, .int 0, .ref q50, .ref q57, .ref q64, .ref q71, .ref q78, .ref q85, .ref q92, .null, .null, .null, .null, .null, .null, .int 0]) (Q13) f90 nq92 gq92 rfl
  rw [← hM93, ← hM96] at Q14
  refine lv_aload_n C.1 C.2.1 dX6_init_115 rfl (lv_at hl 0 rfl) ?_
  refine lv_bipush (v := 40) C.1 C.2.1 dX6_init_116 rfl ?_
  refine mnewI (N := 40) C hE hH hS wm_103 (by decide) (by decide) (Nat.le_of_ble_eq_true rfl) (by decide) (by decide) dX6_init_118 (fun q99 H nq99 gq99 hH hS => ?_)
  obtain ⟨M100, hM100⟩ : ∃ z, z = mu M96 q99 (eI g 40 (fun _ => 0)) := ⟨_, rfl⟩
  have hH : Hw g M100 H := by rw [hM100]; exact hH
  have f101 : M100 q99 = some (eI g 40 (fun _ => 0)) := by rw [hM100]; exact mu_s
  have f102 : M100 a = some (eO 7 [.int 0, .ref q1, .ref q8, .ref q15, .ref q22, .int 0, .ref q29, .ref q36, .ref q43, .int 0, .ref q50, .ref q57, .ref q64, .ref q71, .ref q78, .ref q85, .ref q92, .null, .null, .null, .null, .null, .null, .int 0]) := by rw [hM100]; exact (mu_n (m_new nq99 f97)).trans f97
  refine mputF (fs' := [.int 0, .ref q1, .ref q8, .ref q15, .ref q22, .int 0, .ref q29, .ref q36, .ref q43, .int 0, .ref q50, .ref q57, .ref q64, .ref q71, .ref q78, .ref q85, .ref q92, .ref q99, .null, .null, .null, .null, .null, .int 0]) C hE hH hS fp_747 f102 hin rfl rfl rfl (Nat.le_of_ble_eq_true rfl) dX6_init_120 (fun H locs hH hS => ?_)
  obtain ⟨M103, hM103⟩ : ∃ z, z = mu M100 a (eO 7 [.int 0, .ref q1, .ref q8, .ref q15, .ref q22, .int 0, .ref q29, .ref q36, .ref q43, .int 0, .ref q50, .ref q57, .ref q64, .ref q71, .ref q78, .ref q85, .ref q92, .ref q99, .null, .null, .null, .null, .null, .int 0]) := ⟨_, rfl⟩
  have hH : Hw g M103 H := by rw [hM103]; exact hH
  have f104 : M103 a = some (eO 7 [.int 0, .ref q1, .ref q8, .ref q15, .ref q22, .int 0, .ref q29, .ref q36, .ref q43, .int 0, .ref q50, .ref q57, .ref q64, .ref q71, .ref q78, .ref q85, .ref q92, .ref q99, .null, .null, .null, .null, .null, .int 0]) := by rw [hM103]; exact mu_s
  have f105 : M103 q99 = some (eI g 40 (fun _ => 0)) := by rw [hM103]; exact (mu_n ((m_new nq99 f97)).symm).trans f101
  have Q15 := QI_new (N := 40) (fs' := [.int 0, .ref q1, .ref q8, .ref q15, .ref q22, .int 0, .ref q29, .ref q36, .ref q43, .int 0, .ref q50, .ref q57, .ref q64, .ref q71, .ref q78, .ref q85, .ref q92, .ref q99, .null, .null, .null, .null, .null, .int 0]) (Q14) f97 nq99 gq99 rfl
  rw [← hM100, ← hM103] at Q15
  refine lv_aload_n C.1 C.2.1 dX6_init_123 rfl (lv_at hl 0 rfl) ?_
  refine lv_bipush (v := 40) C.1 C.2.1 dX6_init_124 rfl ?_
  refine mnewI (N := 40) C hE hH hS wm_103 (by decide) (by decide) (Nat.le_of_ble_eq_true rfl) (by decide) (by decide) dX6_init_126 (fun q106 H nq106 gq106 hH hS => ?_)
  obtain ⟨M107, hM107⟩ : ∃ z, z = mu M103 q106 (eI g 40 (fun _ => 0)) := ⟨_, rfl⟩
  have hH : Hw g M107 H := by rw [hM107]; exact hH
  have f108 : M107 q106 = some (eI g 40 (fun _ => 0)) := by rw [hM107]; exact mu_s
  have f109 : M107 a = some (eO 7 [.int 0, .ref q1, .ref q8, .ref q15, .ref q22, .int 0, .ref q29, .ref q36, .ref q43, .int 0, .ref q50, .ref q57, .ref q64, .ref q71, .ref q78, .ref q85, .ref q92, .ref q99, .null, .null, .null, .null, .null, .int 0]) := by rw [hM107]; exact (mu_n (m_new nq106 f104)).trans f104
  refine mputF (fs' := [.int 0, .ref q1, .ref q8, .ref q15, .ref q22, .int 0, .ref q29, .ref q36, .ref q43, .int 0, .ref q50, .ref q57, .ref q64, .ref q71, .ref q78, .ref q85, .ref q92, .ref q99, .ref q106, .null, .null, .null, .null, .int 0]) C hE hH hS fp_748 f109 hin rfl rfl rfl (Nat.le_of_ble_eq_true rfl) dX6_init_128 (fun H locs hH hS => ?_)
  obtain ⟨M110, hM110⟩ : ∃ z, z = mu M107 a (eO 7 [.int 0, .ref q1, .ref q8, .ref q15, .ref q22, .int 0, .ref q29, .ref q36, .ref q43, .int 0, .ref q50, .ref q57, .ref q64, .ref q71, .ref q78, .ref q85, .ref q92, .ref q99, .ref q106, .null, .null, .null, .null, .int 0]) := ⟨_, rfl⟩
  have hH : Hw g M110 H := by rw [hM110]; exact hH
  have f111 : M110 a = some (eO 7 [.int 0, .ref q1, .ref q8, .ref q15, .ref q22, .int 0, .ref q29, .ref q36, .ref q43, .int 0, .ref q50, .ref q57, .ref q64, .ref q71, .ref q78, .ref q85, .ref q92, .ref q99, .ref q106, .null, .null, .null, .null, .int 0]) := by rw [hM110]; exact mu_s
  have f112 : M110 q106 = some (eI g 40 (fun _ => 0)) := by rw [hM110]; exact (mu_n ((m_new nq106 f104)).symm).trans f108
  have Q16 := QI_new (N := 40) (fs' := [.int 0, .ref q1, .ref q8, .ref q15, .ref q22, .int 0, .ref q29, .ref q36, .ref q43, .int 0, .ref q50, .ref q57, .ref q64, .ref q71, .ref q78, .ref q85, .ref q92, .ref q99, .ref q106, .null, .null, .null, .null, .int 0]) (Q15) f104 nq106 gq106 rfl
  rw [← hM107, ← hM110] at Q16
  refine lv_aload_n C.1 C.2.1 dX6_init_131 rfl (lv_at hl 0 rfl) ?_
  refine lv_bipush (v := 9) C.1 C.2.1 dX6_init_132 rfl ?_
  refine mnewI (N := 9) C hE hH hS wm_103 (by decide) (by decide) (Nat.le_of_ble_eq_true rfl) (by decide) (by decide) dX6_init_134 (fun q113 H nq113 gq113 hH hS => ?_)
  obtain ⟨M114, hM114⟩ : ∃ z, z = mu M110 q113 (eI g 9 (fun _ => 0)) := ⟨_, rfl⟩
  have hH : Hw g M114 H := by rw [hM114]; exact hH
  have f115 : M114 q113 = some (eI g 9 (fun _ => 0)) := by rw [hM114]; exact mu_s
  have f116 : M114 a = some (eO 7 [.int 0, .ref q1, .ref q8, .ref q15, .ref q22, .int 0, .ref q29, .ref q36, .ref q43, .int 0, .ref q50, .ref q57, .ref q64, .ref q71, .ref q78, .ref q85, .ref q92, .ref q99, .ref q106, .null, .null, .null, .null, .int 0]) := by rw [hM114]; exact (mu_n (m_new nq113 f111)).trans f111
  refine mputF (fs' := [.int 0, .ref q1, .ref q8, .ref q15, .ref q22, .int 0, .ref q29, .ref q36, .ref q43, .int 0, .ref q50, .ref q57, .ref q64, .ref q71, .ref q78, .ref q85, .ref q92, .ref q99, .ref q106, .ref q113, .null, .null, .null, .int 0]) C hE hH hS fp_749 f116 hin rfl rfl rfl (Nat.le_of_ble_eq_true rfl) dX6_init_136 (fun H locs hH hS => ?_)
  obtain ⟨M117, hM117⟩ : ∃ z, z = mu M114 a (eO 7 [.int 0, .ref q1, .ref q8, .ref q15, .ref q22, .int 0, .ref q29, .ref q36, .ref q43, .int 0, .ref q50, .ref q57, .ref q64, .ref q71, .ref q78, .ref q85, .ref q92, .ref q99, .ref q106, .ref q113, .null, .null, .null, .int 0]) := ⟨_, rfl⟩
  have hH : Hw g M117 H := by rw [hM117]; exact hH
  have f118 : M117 a = some (eO 7 [.int 0, .ref q1, .ref q8, .ref q15, .ref q22, .int 0, .ref q29, .ref q36, .ref q43, .int 0, .ref q50, .ref q57, .ref q64, .ref q71, .ref q78, .ref q85, .ref q92, .ref q99, .ref q106, .ref q113, .null, .null, .null, .int 0]) := by rw [hM117]; exact mu_s
  have f119 : M117 q113 = some (eI g 9 (fun _ => 0)) := by rw [hM117]; exact (mu_n ((m_new nq113 f111)).symm).trans f115
  have Q17 := QI_new (N := 9) (fs' := [.int 0, .ref q1, .ref q8, .ref q15, .ref q22, .int 0, .ref q29, .ref q36, .ref q43, .int 0, .ref q50, .ref q57, .ref q64, .ref q71, .ref q78, .ref q85, .ref q92, .ref q99, .ref q106, .ref q113, .null, .null, .null, .int 0]) (Q16) f111 nq113 gq113 rfl
  rw [← hM114, ← hM117] at Q17
  refine lv_aload_n C.1 C.2.1 dX6_init_139 rfl (lv_at hl 0 rfl) ?_
  refine lv_iconst (v := 3) C.1 C.2.1 dX6_init_140 rfl ?_
  refine mnewI (N := 3) C hE hH hS wm_103 (by decide) (by decide) (Nat.le_of_ble_eq_true rfl) (by decide) (by decide) dX6_init_141 (fun q120 H nq120 gq120 hH hS => ?_)
  obtain ⟨M121, hM121⟩ : ∃ z, z = mu M117 q120 (eI g 3 (fun _ => 0)) := ⟨_, rfl⟩
  have hH : Hw g M121 H := by rw [hM121]; exact hH
  have f122 : M121 q120 = some (eI g 3 (fun _ => 0)) := by rw [hM121]; exact mu_s
  have f123 : M121 a = some (eO 7 [.int 0, .ref q1, .ref q8, .ref q15, .ref q22, .int 0, .ref q29, .ref q36, .ref q43, .int 0, .ref q50, .ref q57, .ref q64, .ref q71, .ref q78, .ref q85, .ref q92, .ref q99, .ref q106, .ref q113, .null, .null, .null, .int 0]) := by rw [hM121]; exact (mu_n (m_new nq120 f118)).trans f118
  refine mputF (fs' := [.int 0, .ref q1, .ref q8, .ref q15, .ref q22, .int 0, .ref q29, .ref q36, .ref q43, .int 0, .ref q50, .ref q57, .ref q64, .ref q71, .ref q78, .ref q85, .ref q92, .ref q99, .ref q106, .ref q113, .ref q120, .null, .null, .int 0]) C hE hH hS fp_750 f123 hin rfl rfl rfl (Nat.le_of_ble_eq_true rfl) dX6_init_143 (fun H locs hH hS => ?_)
  obtain ⟨M124, hM124⟩ : ∃ z, z = mu M121 a (eO 7 [.int 0, .ref q1, .ref q8, .ref q15, .ref q22, .int 0, .ref q29, .ref q36, .ref q43, .int 0, .ref q50, .ref q57, .ref q64, .ref q71, .ref q78, .ref q85, .ref q92, .ref q99, .ref q106, .ref q113, .ref q120, .null, .null, .int 0]) := ⟨_, rfl⟩
  have hH : Hw g M124 H := by rw [hM124]; exact hH
  have f125 : M124 a = some (eO 7 [.int 0, .ref q1, .ref q8, .ref q15, .ref q22, .int 0, .ref q29, .ref q36, .ref q43, .int 0, .ref q50, .ref q57, .ref q64, .ref q71, .ref q78, .ref q85, .ref q92, .ref q99, .ref q106, .ref q113, .ref q120, .null, .null, .int 0]) := by rw [hM124]; exact mu_s
  have f126 : M124 q120 = some (eI g 3 (fun _ => 0)) := by rw [hM124]; exact (mu_n ((m_new nq120 f118)).symm).trans f122
  have Q18 := QI_new (N := 3) (fs' := [.int 0, .ref q1, .ref q8, .ref q15, .ref q22, .int 0, .ref q29, .ref q36, .ref q43, .int 0, .ref q50, .ref q57, .ref q64, .ref q71, .ref q78, .ref q85, .ref q92, .ref q99, .ref q106, .ref q113, .ref q120, .null, .null, .int 0]) (Q17) f118 nq120 gq120 rfl
  rw [← hM121, ← hM124] at Q18
  refine lv_aload_n C.1 C.2.1 dX6_init_146 rfl (lv_at hl 0 rfl) ?_
  refine lv_bipush (v := 75) C.1 C.2.1 dX6_init_147 rfl ?_
  refine mnewI (N := 75) C hE hH hS wm_103 (by decide) (by decide) (Nat.le_of_ble_eq_true rfl) (by decide) (by decide) dX6_init_149 (fun q127 H nq127 gq127 hH hS => ?_)
  obtain ⟨M128, hM128⟩ : ∃ z, z = mu M124 q127 (eI g 75 (fun _ => 0)) := ⟨_, rfl⟩
  have hH : Hw g M128 H := by rw [hM128]; exact hH
  have f129 : M128 q127 = some (eI g 75 (fun _ => 0)) := by rw [hM128]; exact mu_s
  have f130 : M128 a = some (eO 7 [.int 0, .ref q1, .ref q8, .ref q15, .ref q22, .int 0, .ref q29, .ref q36, .ref q43, .int 0, .ref q50, .ref q57, .ref q64, .ref q71, .ref q78, .ref q85, .ref q92, .ref q99, .ref q106, .ref q113, .ref q120, .null, .null, .int 0]) := by rw [hM128]; exact (mu_n (m_new nq127 f125)).trans f125
  refine mputF (fs' := [.int 0, .ref q1, .ref q8, .ref q15, .ref q22, .int 0, .ref q29, .ref q36, .ref q43, .int 0, .ref q50, .ref q57, .ref q64, .ref q71, .ref q78, .ref q85, .ref q92, .ref q99, .ref q106, .ref q113, .ref q120, .ref q127, .null, .int 0]) C hE hH hS fp_751 f130 hin rfl rfl rfl (Nat.le_of_ble_eq_true rfl) dX6_init_151 (fun H locs hH hS => ?_)
  obtain ⟨M131, hM131⟩ : ∃ z, z = mu M128 a (eO 7 [.int 0, .ref q1, .ref q8, .ref q15, .ref q22, .int 0, .ref q29, .ref q36, .ref q43, .int 0, .ref q50, .ref q57, .ref q64, .ref q71, .ref q78, .ref q85, .ref q92, .ref q99, .ref q106, .ref q113, .ref q120, .ref q127, .null, .int 0]) := ⟨_, rfl⟩
  have hH : Hw g M131 H := by rw [hM131]; exact hH
  have f132 : M131 a = some (eO 7 [.int 0, .ref q1, .ref q8, .ref q15, .ref q22, .int 0, .ref q29, .ref q36, .ref q43, .int 0, .ref q50, .ref q57, .ref q64, .ref q71, .ref q78, .ref q85, .ref q92, .ref q99, .ref q106, .ref q113, .ref q120, .ref q127, .null, .int 0]) := by rw [hM131]; exact mu_s
  have f133 : M131 q127 = some (eI g 75 (fun _ => 0)) := by rw [hM131]; exact (mu_n ((m_new nq127 f125)).symm).trans f129
  have Q19 := QI_new (N := 75) (fs' := [.int 0, .ref q1, .ref q8, .ref q15, .ref q22, .int 0, .ref q29, .ref q36, .ref q43, .int 0, .ref q50, .ref q57, .ref q64, .ref q71, .ref q78, .ref q85, .ref q92, .ref q99, .ref q106, .ref q113, .ref q120, .ref q127, .null, .int 0]) (Q18) f125 nq127 gq127 rfl
  rw [← hM128, ← hM131] at Q19
  refine lv_aload_n C.1 C.2.1 dX6_init_154 rfl (lv_at hl 0 rfl) ?_
  refine lv_iconst (v := 5) C.1 C.2.1 dX6_init_155 rfl ?_
  refine mnewI (N := 5) C hE hH hS wm_103 (by decide) (by decide) (Nat.le_of_ble_eq_true rfl) (by decide) (by decide) dX6_init_156 (fun q134 H nq134 gq134 hH hS => ?_)
  obtain ⟨M135, hM135⟩ : ∃ z, z = mu M131 q134 (eI g 5 (fun _ => 0)) := ⟨_, rfl⟩
  have hH : Hw g M135 H := by rw [hM135]; exact hH
  have f136 : M135 q134 = some (eI g 5 (fun _ => 0)) := by rw [hM135]; exact mu_s
  have f137 : M135 a = some (eO 7 [.int 0, .ref q1, .ref q8, .ref q15, .ref q22, .int 0, .ref q29, .ref q36, .ref q43, .int 0, .ref q50, .ref q57, .ref q64, .ref q71, .ref q78, .ref q85, .ref q92, .ref q99, .ref q106, .ref q113, .ref q120, .ref q127, .null, .int 0]) := by rw [hM135]; exact (mu_n (m_new nq134 f132)).trans f132
  refine mputF (fs' := [.int 0, .ref q1, .ref q8, .ref q15, .ref q22, .int 0, .ref q29, .ref q36, .ref q43, .int 0, .ref q50, .ref q57, .ref q64, .ref q71, .ref q78, .ref q85, .ref q92, .ref q99, .ref q106, .ref q113, .ref q120, .ref q127, .ref q134, .int 0]) C hE hH hS fp_752 f137 hin rfl rfl rfl (Nat.le_of_ble_eq_true rfl) dX6_init_158 (fun H locs hH hS => ?_)
  obtain ⟨M138, hM138⟩ : ∃ z, z = mu M135 a (eO 7 [.int 0, .ref q1, .ref q8, .ref q15, .ref q22, .int 0, .ref q29, .ref q36, .ref q43, .int 0, .ref q50, .ref q57, .ref q64, .ref q71, .ref q78, .ref q85, .ref q92, .ref q99, .ref q106, .ref q113, .ref q120, .ref q127, .ref q134, .int 0]) := ⟨_, rfl⟩
  have hH : Hw g M138 H := by rw [hM138]; exact hH
  have f139 : M138 a = some (eO 7 [.int 0, .ref q1, .ref q8, .ref q15, .ref q22, .int 0, .ref q29, .ref q36, .ref q43, .int 0, .ref q50, .ref q57, .ref q64, .ref q71, .ref q78, .ref q85, .ref q92, .ref q99, .ref q106, .ref q113, .ref q120, .ref q127, .ref q134, .int 0]) := by rw [hM138]; exact mu_s
  have f140 : M138 q134 = some (eI g 5 (fun _ => 0)) := by rw [hM138]; exact (mu_n ((m_new nq134 f132)).symm).trans f136
  have Q20 := QI_new (N := 5) (fs' := [.int 0, .ref q1, .ref q8, .ref q15, .ref q22, .int 0, .ref q29, .ref q36, .ref q43, .int 0, .ref q50, .ref q57, .ref q64, .ref q71, .ref q78, .ref q85, .ref q92, .ref q99, .ref q106, .ref q113, .ref q120, .ref q127, .ref q134, .int 0]) (Q19) f132 nq134 gq134 rfl
  rw [← hM135, ← hM138] at Q20
  exact wr_vret (un (un (un (un (un (un (un (un (un (un (un (un (un (un (un (un (un (un (un (un (fun _ => 0) 0 q1) 1 q8) 2 q15) 3 q22) 4 q29) 5 q36) 6 q43) 7 q50) 8 q57) 9 q64) 10 q71) 11 q78) 12 q85) 13 q92) 14 q99) 15 q106) 16 q113) 17 q120) 18 q127) 19 q134) C hr hlocks hH hS rfl (⟨Q20, f139⟩) (by decide) (by decide) dX6_init_161
