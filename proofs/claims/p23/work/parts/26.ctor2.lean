/-! THE RING'S CONSTRUCTOR -/
/-- what a new ring is -/
def RD (g : gG) (M M' : Mp) (a : Nat) : Prop := ∃ Q c, FI g M M' a 35 Q c ∧ M' a = some (eO 6 [.ref (Q 0), .ref (Q 1), .ref (Q 2), .ref (Q 3), .ref (Q 4), .ref (Q 5), .ref (Q 6), .ref (Q 10)]) ∧ (c 0 = eO 0 [.int 0, .ref (g.2.2.2 0), .int 0] ∧ c 1 = eO 0 [.int 0, .ref (g.2.2.2 0), .int 0] ∧ c 2 = eO 0 [.int 0, .ref (g.2.2.2 0), .int 0]) ∧ (c 3 = eI g 3 (fun _ => 0) ∧ c 4 = eI g 4 (fun _ => 0) ∧ c 5 = eI g 4 (fun _ => 0)) ∧ (∃ orow, c 6 = eQ g 4 3 orow ∧ ∀ i, i < 3 → orow i = some (Q (7 + i))) ∧ (∀ i, i < 3 → c (7 + i) = eI g 3 (fun _ => 0)) ∧ (∃ crow, c 10 = eQ g 3 3 crow ∧ ∀ k, k < 3 → crow k = some (Q (11 + 8 * k))) ∧ ∀ k, k < 3 → c (11 + 8 * k) = eO 2 [.int 0, .ref (Q (12 + 8 * k)), .ref (Q (18 + 8 * k))] ∧ (∃ orow, c (12 + 8 * k) = eQ g 4 5 orow ∧ ∀ i, i < 5 → orow i = some (Q (13 + 8 * k + i))) ∧ (∀ i, i < 5 → c (13 + 8 * k + i) = eI g 5 (fun _ => 0)) ∧ c (18 + 8 * k) = eI g 5 (fun _ => 0)
theorem lt3 {P : Nat → Prop} (h0 : P 0) (h1 : P 1) (h2 : P 2) : ∀ i, i < 3 → P i := fun i hi => by
  rcases (by omega : i = 0 ∨ i = 1 ∨ i = 2) with rfl | rfl | rfl
  · exact h0
  · exact h1
  · exact h2
theorem lt5 {P : Nat → Prop} (h0 : P 0) (h1 : P 1) (h2 : P 2) (h3 : P 3) (h4 : P 4) : ∀ i, i < 5 → P i := fun i hi => by
  rcases (by omega : i = 0 ∨ i = 1 ∨ i = 2 ∨ i = 3 ∨ i = 4) with rfl | rfl | rfl | rfl | rfl
  · exact h0
  · exact h1
  · exact h2
  · exact h3
  · exact h4
set_option maxHeartbeats 4000000 in
set_option maxRecDepth 100000 in
theorem c_R_init {l : Launch} {g : gG} {M : Mp} {a : Nat} (h0 : M a = some (eO 6 [.null, .null, .null, .null, .null, .null, .null, .null])) : Met l yX5_init (WY yX5_init cX5_init 2 none) { frames := 4, cells := 35, slots := 149, locals := 72 } (Wc g M [.ref a]) (wrQ (S := Unit) g (fun u_ => none) (fun u_ M_ => RD g M M_ a)) 35 149 (gA g) := by
  refine ofM (by decide +kernel) (Nat.le_of_ble_eq_true rfl) (fun p e s m args below meth c ls C hr hlocks hin hE hH hl ea => ?_)
  have hin : meth.name = "<init>" := hin
  have hl : lv_has ls 2 [(0, .ref a)] := hl
  have hS : va_S (gA g) s.heap s.heap [] := va_S.rf
  refine lv_aload_n C.1 C.2.1 dX5_init_0 rfl (lv_at hl 0 rfl) ?_
  refine W.objInit C.1 C.2.1 C.2.2.2.1 (C.2.2.2.2 _ wm_40) (C.2.2.2.2 _ wm_41) (C.2.2.2.2 _ wm_42) rfl (by rw [C.2.2.1]; exact hl.1) rfl dX5_init_1 (Nat.le_of_ble_eq_true rfl) (Nat.le_of_ble_eq_true rfl) ?_
  refine W.eq (g2 := F0 m 4 ls []) rfl ?_
  have F0 := FI_0 (g := g) (Q := fun _ => 0) (c := fun _ => eO 0 [.int 0, .ref (g.2.2.2 0), .int 0]) h0
  refine lv_aload_n C.1 C.2.1 dX5_init_4 rfl (lv_at hl 0 rfl) ?_
  refine mnew (C := C) (hE := hE) (hH := hH) (hS := hS) (F := cb_RJx4a65c) (h1 := wm_43) (h2 := wm_44) (h3 := wm_16) (by decide) (by decide) dX5_init_5 (fun q1 H nq1 gq1 hH hS => ?_)
  obtain ⟨M2, hM2⟩ : ∃ z, z = mu M q1 (eO 0 [.int 0, .null, .int 0]) := ⟨_, rfl⟩
  have hH : Hw g M2 H := by rw [hM2]; exact hH
  have f3 : M2 q1 = some (eO 0 [.int 0, .null, .int 0]) := by rw [hM2]; exact mu_s
  have f4 : M2 a = some (eO 6 [.null, .null, .null, .null, .null, .null, .null, .null]) := by rw [hM2]; exact (mu_n (m_new nq1 h0)).trans h0
  refine lv_dup C.1 C.2.1 dX5_init_8 rfl ?_
  refine wr_go0 (runI C hE hH hS (c_L_init f3) mv_Jx4a65c_init_da8c8 wm_45 hl.1 dX5_init_9 rfl rfl ⟨rfl, rfl⟩ ⟨Nat.le_of_ble_eq_true rfl, Nat.le_of_ble_eq_true rfl⟩ (Nat.le_of_ble_eq_true rfl) ⟨Nat.le_of_ble_eq_true rfl, Nat.le_of_ble_eq_true rfl⟩) hS (fun u5 M6 H locs hM6 hH hS => ?_)
  have f7 : M6 q1 = some (eO 0 [.int 0, .ref (g.2.2.2 0), .int 0]) := by rw [hM6]; exact mu_s
  have f8 : M6 a = some (eO 6 [.null, .null, .null, .null, .null, .null, .null, .null]) := by rw [hM6]; exact (mu_n (m_new nq1 h0)).trans f4
  refine mputF (fs' := [.ref q1, .null, .null, .null, .null, .null, .null, .null]) C hE hH hS fp_92 f8 hin rfl rfl rfl (Nat.le_of_ble_eq_true rfl) dX5_init_12 (fun H locs hH hS => ?_)
  obtain ⟨M9, hM9⟩ : ∃ z, z = mu M6 a (eO 6 [.ref q1, .null, .null, .null, .null, .null, .null, .null]) := ⟨_, rfl⟩
  have hH : Hw g M9 H := by rw [hM9]; exact hH
  have f10 : M9 a = some (eO 6 [.ref q1, .null, .null, .null, .null, .null, .null, .null]) := by rw [hM9]; exact mu_s
  have f11 : M9 q1 = some (eO 0 [.int 0, .ref (g.2.2.2 0), .int 0]) := by rw [hM9]; exact (mu_n ((m_new nq1 h0)).symm).trans f7
  have F1 := FI_new (e := eO 0 [.int 0, .null, .int 0]) F0 nq1 gq1
  rw [← hM2] at F1
  have F2 := FI_set (e := eO 0 [.int 0, .ref (g.2.2.2 0), .int 0]) F1 (by omega) un_s
  rw [← hM6] at F2
  have F3 := FI_a (e := eO 6 [.ref q1, .null, .null, .null, .null, .null, .null, .null]) F2
  rw [← hM9] at F3
  refine lv_aload_n C.1 C.2.1 dX5_init_15 rfl (lv_at hl 0 rfl) ?_
  refine mnew (C := C) (hE := hE) (hH := hH) (hS := hS) (F := cb_RJx4a65c) (h1 := wm_43) (h2 := wm_44) (h3 := wm_16) (by decide) (by decide) dX5_init_16 (fun q12 H nq12 gq12 hH hS => ?_)
  obtain ⟨M13, hM13⟩ : ∃ z, z = mu M9 q12 (eO 0 [.int 0, .null, .int 0]) := ⟨_, rfl⟩
  have hH : Hw g M13 H := by rw [hM13]; exact hH
  have f14 : M13 q12 = some (eO 0 [.int 0, .null, .int 0]) := by rw [hM13]; exact mu_s
  have f15 : M13 a = some (eO 6 [.ref q1, .null, .null, .null, .null, .null, .null, .null]) := by rw [hM13]; exact (mu_n (m_new nq12 f10)).trans f10
  refine lv_dup C.1 C.2.1 dX5_init_19 rfl ?_
  refine wr_go0 (runI C hE hH hS (c_L_init f14) mv_Jx4a65c_init_da8c8 wm_45 hl.1 dX5_init_20 rfl rfl ⟨rfl, rfl⟩ ⟨Nat.le_of_ble_eq_true rfl, Nat.le_of_ble_eq_true rfl⟩ (Nat.le_of_ble_eq_true rfl) ⟨Nat.le_of_ble_eq_true rfl, Nat.le_of_ble_eq_true rfl⟩) hS (fun u16 M17 H locs hM17 hH hS => ?_)
  have f18 : M17 q12 = some (eO 0 [.int 0, .ref (g.2.2.2 0), .int 0]) := by rw [hM17]; exact mu_s
  have f19 : M17 a = some (eO 6 [.ref q1, .null, .null, .null, .null, .null, .null, .null]) := by rw [hM17]; exact (mu_n (m_new nq12 f10)).trans f15
  refine mputF (fs' := [.ref q1, .ref q12, .null, .null, .null, .null, .null, .null]) C hE hH hS fp_93 f19 hin rfl rfl rfl (Nat.le_of_ble_eq_true rfl) dX5_init_23 (fun H locs hH hS => ?_)
  obtain ⟨M20, hM20⟩ : ∃ z, z = mu M17 a (eO 6 [.ref q1, .ref q12, .null, .null, .null, .null, .null, .null]) := ⟨_, rfl⟩
  have hH : Hw g M20 H := by rw [hM20]; exact hH
  have f21 : M20 a = some (eO 6 [.ref q1, .ref q12, .null, .null, .null, .null, .null, .null]) := by rw [hM20]; exact mu_s
  have f22 : M20 q12 = some (eO 0 [.int 0, .ref (g.2.2.2 0), .int 0]) := by rw [hM20]; exact (mu_n ((m_new nq12 f10)).symm).trans f18
  have F4 := FI_new (e := eO 0 [.int 0, .null, .int 0]) F3 nq12 gq12
  rw [← hM13] at F4
  have F5 := FI_set (e := eO 0 [.int 0, .ref (g.2.2.2 0), .int 0]) F4 (by omega) un_s
  rw [← hM17] at F5
  have F6 := FI_a (e := eO 6 [.ref q1, .ref q12, .null, .null, .null, .null, .null, .null]) F5
  rw [← hM20] at F6
  refine lv_aload_n C.1 C.2.1 dX5_init_26 rfl (lv_at hl 0 rfl) ?_
  refine mnew (C := C) (hE := hE) (hH := hH) (hS := hS) (F := cb_RJx4a65c) (h1 := wm_43) (h2 := wm_44) (h3 := wm_16) (by decide) (by decide) dX5_init_27 (fun q23 H nq23 gq23 hH hS => ?_)
  obtain ⟨M24, hM24⟩ : ∃ z, z = mu M20 q23 (eO 0 [.int 0, .null, .int 0]) := ⟨_, rfl⟩
  have hH : Hw g M24 H := by rw [hM24]; exact hH
  have f25 : M24 q23 = some (eO 0 [.int 0, .null, .int 0]) := by rw [hM24]; exact mu_s
  have f26 : M24 a = some (eO 6 [.ref q1, .ref q12, .null, .null, .null, .null, .null, .null]) := by rw [hM24]; exact (mu_n (m_new nq23 f21)).trans f21
  refine lv_dup C.1 C.2.1 dX5_init_30 rfl ?_
  refine wr_go0 (runI C hE hH hS (c_L_init f25) mv_Jx4a65c_init_da8c8 wm_45 hl.1 dX5_init_31 rfl rfl ⟨rfl, rfl⟩ ⟨Nat.le_of_ble_eq_true rfl, Nat.le_of_ble_eq_true rfl⟩ (Nat.le_of_ble_eq_true rfl) ⟨Nat.le_of_ble_eq_true rfl, Nat.le_of_ble_eq_true rfl⟩) hS (fun u27 M28 H locs hM28 hH hS => ?_)
  have f29 : M28 q23 = some (eO 0 [.int 0, .ref (g.2.2.2 0), .int 0]) := by rw [hM28]; exact mu_s
  have f30 : M28 a = some (eO 6 [.ref q1, .ref q12, .null, .null, .null, .null, .null, .null]) := by rw [hM28]; exact (mu_n (m_new nq23 f21)).trans f26
  refine mputF (fs' := [.ref q1, .ref q12, .ref q23, .null, .null, .null, .null, .null]) C hE hH hS fp_94 f30 hin rfl rfl rfl (Nat.le_of_ble_eq_true rfl) dX5_init_34 (fun H locs hH hS => ?_)
  obtain ⟨M31, hM31⟩ : ∃ z, z = mu M28 a (eO 6 [.ref q1, .ref q12, .ref q23, .null, .null, .null, .null, .null]) := ⟨_, rfl⟩
  have hH : Hw g M31 H := by rw [hM31]; exact hH
  have f32 : M31 a = some (eO 6 [.ref q1, .ref q12, .ref q23, .null, .null, .null, .null, .null]) := by rw [hM31]; exact mu_s
  have f33 : M31 q23 = some (eO 0 [.int 0, .ref (g.2.2.2 0), .int 0]) := by rw [hM31]; exact (mu_n ((m_new nq23 f21)).symm).trans f29
  have F7 := FI_new (e := eO 0 [.int 0, .null, .int 0]) F6 nq23 gq23
  rw [← hM24] at F7
  have F8 := FI_set (e := eO 0 [.int 0, .ref (g.2.2.2 0), .int 0]) F7 (by omega) un_s
  rw [← hM28] at F8
  have F9 := FI_a (e := eO 6 [.ref q1, .ref q12, .ref q23, .null, .null, .null, .null, .null]) F8
  rw [← hM31] at F9
  refine lv_aload_n C.1 C.2.1 dX5_init_37 rfl (lv_at hl 0 rfl) ?_
  refine lv_iconst (v := 3) C.1 C.2.1 dX5_init_38 rfl ?_
  refine mnewI (N := 3) C hE hH hS wm_91 (by decide) (by decide) (Nat.le_of_ble_eq_true rfl) (by decide) (by decide) dX5_init_39 (fun q34 H nq34 gq34 hH hS => ?_)
  obtain ⟨M35, hM35⟩ : ∃ z, z = mu M31 q34 (eI g 3 (fun _ => 0)) := ⟨_, rfl⟩
  have hH : Hw g M35 H := by rw [hM35]; exact hH
  have f36 : M35 q34 = some (eI g 3 (fun _ => 0)) := by rw [hM35]; exact mu_s
  have f37 : M35 a = some (eO 6 [.ref q1, .ref q12, .ref q23, .null, .null, .null, .null, .null]) := by rw [hM35]; exact (mu_n (m_new nq34 f32)).trans f32
  refine mputF (fs' := [.ref q1, .ref q12, .ref q23, .ref q34, .null, .null, .null, .null]) C hE hH hS fp_95 f37 hin rfl rfl rfl (Nat.le_of_ble_eq_true rfl) dX5_init_41 (fun H locs hH hS => ?_)
  obtain ⟨M38, hM38⟩ : ∃ z, z = mu M35 a (eO 6 [.ref q1, .ref q12, .ref q23, .ref q34, .null, .null, .null, .null]) := ⟨_, rfl⟩
  have hH : Hw g M38 H := by rw [hM38]; exact hH
  have f39 : M38 a = some (eO 6 [.ref q1, .ref q12, .ref q23, .ref q34, .null, .null, .null, .null]) := by rw [hM38]; exact mu_s
  have f40 : M38 q34 = some (eI g 3 (fun _ => 0)) := by rw [hM38]; exact (mu_n ((m_new nq34 f32)).symm).trans f36
  have F10 := FI_new (e := eI g 3 (fun _ => 0)) F9 nq34 gq34
  rw [← hM35] at F10
  have F11 := FI_a (e := eO 6 [.ref q1, .ref q12, .ref q23, .ref q34, .null, .null, .null, .null]) F10
  rw [← hM38] at F11
  refine lv_aload_n C.1 C.2.1 dX5_init_44 rfl (lv_at hl 0 rfl) ?_
  refine lv_iconst (v := 4) C.1 C.2.1 dX5_init_45 rfl ?_
  refine mnewI (N := 4) C hE hH hS wm_91 (by decide) (by decide) (Nat.le_of_ble_eq_true rfl) (by decide) (by decide) dX5_init_46 (fun q41 H nq41 gq41 hH hS => ?_)
  obtain ⟨M42, hM42⟩ : ∃ z, z = mu M38 q41 (eI g 4 (fun _ => 0)) := ⟨_, rfl⟩
  have hH : Hw g M42 H := by rw [hM42]; exact hH
  have f43 : M42 q41 = some (eI g 4 (fun _ => 0)) := by rw [hM42]; exact mu_s
  have f44 : M42 a = some (eO 6 [.ref q1, .ref q12, .ref q23, .ref q34, .null, .null, .null, .null]) := by rw [hM42]; exact (mu_n (m_new nq41 f39)).trans f39
  refine mputF (fs' := [.ref q1, .ref q12, .ref q23, .ref q34, .ref q41, .null, .null, .null]) C hE hH hS fp_96 f44 hin rfl rfl rfl (Nat.le_of_ble_eq_true rfl) dX5_init_48 (fun H locs hH hS => ?_)
  obtain ⟨M45, hM45⟩ : ∃ z, z = mu M42 a (eO 6 [.ref q1, .ref q12, .ref q23, .ref q34, .ref q41, .null, .null, .null]) := ⟨_, rfl⟩
  have hH : Hw g M45 H := by rw [hM45]; exact hH
  have f46 : M45 a = some (eO 6 [.ref q1, .ref q12, .ref q23, .ref q34, .ref q41, .null, .null, .null]) := by rw [hM45]; exact mu_s
  have f47 : M45 q41 = some (eI g 4 (fun _ => 0)) := by rw [hM45]; exact (mu_n ((m_new nq41 f39)).symm).trans f43
  have F12 := FI_new (e := eI g 4 (fun _ => 0)) F11 nq41 gq41
  rw [← hM42] at F12
  have F13 := FI_a (e := eO 6 [.ref q1, .ref q12, .ref q23, .ref q34, .ref q41, .null, .null, .null]) F12
  rw [← hM45] at F13
  refine lv_aload_n C.1 C.2.1 dX5_init_51 rfl (lv_at hl 0 rfl) ?_
  refine lv_iconst (v := 4) C.1 C.2.1 dX5_init_52 rfl ?_
  refine mnewI (N := 4) C hE hH hS wm_91 (by decide) (by decide) (Nat.le_of_ble_eq_true rfl) (by decide) (by decide) dX5_init_53 (fun q48 H nq48 gq48 hH hS => ?_)
  obtain ⟨M49, hM49⟩ : ∃ z, z = mu M45 q48 (eI g 4 (fun _ => 0)) := ⟨_, rfl⟩
  have hH : Hw g M49 H := by rw [hM49]; exact hH
  have f50 : M49 q48 = some (eI g 4 (fun _ => 0)) := by rw [hM49]; exact mu_s
  have f51 : M49 a = some (eO 6 [.ref q1, .ref q12, .ref q23, .ref q34, .ref q41, .null, .null, .null]) := by rw [hM49]; exact (mu_n (m_new nq48 f46)).trans f46
  refine mputF (fs' := [.ref q1, .ref q12, .ref q23, .ref q34, .ref q41, .ref q48, .null, .null]) C hE hH hS fp_97 f51 hin rfl rfl rfl (Nat.le_of_ble_eq_true rfl) dX5_init_55 (fun H locs hH hS => ?_)
  obtain ⟨M52, hM52⟩ : ∃ z, z = mu M49 a (eO 6 [.ref q1, .ref q12, .ref q23, .ref q34, .ref q41, .ref q48, .null, .null]) := ⟨_, rfl⟩
  have hH : Hw g M52 H := by rw [hM52]; exact hH
  have f53 : M52 a = some (eO 6 [.ref q1, .ref q12, .ref q23, .ref q34, .ref q41, .ref q48, .null, .null]) := by rw [hM52]; exact mu_s
  have f54 : M52 q48 = some (eI g 4 (fun _ => 0)) := by rw [hM52]; exact (mu_n ((m_new nq48 f46)).symm).trans f50
  have F14 := FI_new (e := eI g 4 (fun _ => 0)) F13 nq48 gq48
  rw [← hM49] at F14
  have F15 := FI_a (e := eO 6 [.ref q1, .ref q12, .ref q23, .ref q34, .ref q41, .ref q48, .null, .null]) F14
  rw [← hM52] at F15
  refine lv_aload_n C.1 C.2.1 dX5_init_58 rfl (lv_at hl 0 rfl) ?_
  refine lv_iconst (v := 3) C.1 C.2.1 dX5_init_59 rfl ?_
  refine lv_iconst (v := 3) C.1 C.2.1 dX5_init_60 rfl ?_
  refine mmna (N := 3) (K := 3) C hE hH hS wm_69 wm_91 (by decide) (by decide) rfl rfl (by decide) (by decide) (by decide) (Nat.le_of_ble_eq_true rfl) (Nat.le_of_ble_eq_true rfl) dX5_init_61 (fun q55 r56 H hinjr56 nq55 gq55 hrr56 hH hS => ?_)
  obtain ⟨M57, hM57⟩ : ∃ z, z = muR (mu M52 q55 (eQ g 4 3 (fun i => if i < 3 then some (r56 i) else none))) 3 r56 (eI g 3 (fun _ => 0)) := ⟨_, rfl⟩
  have hH : Hw g M57 H := by rw [hM57]; exact hH
  have f58 : M57 a = some (eO 6 [.ref q1, .ref q12, .ref q23, .ref q34, .ref q41, .ref q48, .null, .null]) := by rw [hM57, muR_n (fun i hi => m_new (hrr56 i hi).1 f53), mu_n (m_new nq55 f53)]; exact f53
  have f59 : M57 q55 = some (eQ g 4 3 (fun i => if i < 3 then some (r56 i) else none)) := by rw [hM57, muR_n (fun i hi => (hrr56 i hi).2.2.symm)]; exact mu_s
  refine mputF (fs' := [.ref q1, .ref q12, .ref q23, .ref q34, .ref q41, .ref q48, .ref q55, .null]) C hE hH hS fp_98 f58 hin rfl rfl rfl (Nat.le_of_ble_eq_true rfl) dX5_init_65 (fun H locs hH hS => ?_)
  obtain ⟨M60, hM60⟩ : ∃ z, z = mu M57 a (eO 6 [.ref q1, .ref q12, .ref q23, .ref q34, .ref q41, .ref q48, .ref q55, .null]) := ⟨_, rfl⟩
  have hH : Hw g M60 H := by rw [hM60]; exact hH
  have f61 : M60 a = some (eO 6 [.ref q1, .ref q12, .ref q23, .ref q34, .ref q41, .ref q48, .ref q55, .null]) := by rw [hM60]; exact mu_s
  have f62 : M60 q55 = some (eQ g 4 3 (fun i => if i < 3 then some (r56 i) else none)) := by rw [hM60]; exact (mu_n (m_ne f59 f58 (by first | (intro z; cases z; done) | exact ne_IQ | exact ne_IQ.symm | exact ne_LI | exact ne_LI.symm | (intro z; cases z; omega) | (intro z; cases z; contradiction) | exact (fun z => by cases z)))).trans f59
  have F16 := FI_rows3 (x := eQ g 4 3 (fun i => if i < 3 then some (r56 i) else none)) (e := eI g 3 (fun _ => 0)) F15 nq55 gq55 hrr56 hinjr56
  rw [← hM57] at F16
  have F17 := FI_a (e := eO 6 [.ref q1, .ref q12, .ref q23, .ref q34, .ref q41, .ref q48, .ref q55, .null]) F16
  rw [← hM60] at F17
  refine lv_aload_n C.1 C.2.1 dX5_init_68 rfl (lv_at hl 0 rfl) ?_
  refine lv_iconst (v := 3) C.1 C.2.1 dX5_init_69 rfl ?_
  refine mnewQ (k := 3) (N := 3) C hE hH hS wm_71 hE.2.2.2.2.2.2.2.2.2.1.2.1 rfl (by decide) rfl (by decide) (by decide) (by decide) dX5_init_70 (fun q63 H nq63 gq63 hH hS => ?_)
  refine W.widen (k := 11) (n := 35) (by omega) (by omega) ?_
  obtain ⟨M64, hM64⟩ : ∃ z, z = mu M60 q63 (eQ g 3 3 (fun _ => none)) := ⟨_, rfl⟩
  have hH : Hw g M64 H := by rw [hM64]; exact hH
  have f65 : M64 q63 = some (eQ g 3 3 (fun _ => none)) := by rw [hM64]; exact mu_s
  have f66 : M64 a = some (eO 6 [.ref q1, .ref q12, .ref q23, .ref q34, .ref q41, .ref q48, .ref q55, .null]) := by rw [hM64]; exact (mu_n (m_new nq63 f61)).trans f61
  refine mputF (fs' := [.ref q1, .ref q12, .ref q23, .ref q34, .ref q41, .ref q48, .ref q55, .ref q63]) C hE hH hS fp_99 f66 hin rfl rfl rfl (Nat.le_of_ble_eq_true rfl) dX5_init_73 (fun H locs hH hS => ?_)
  obtain ⟨M67, hM67⟩ : ∃ z, z = mu M64 a (eO 6 [.ref q1, .ref q12, .ref q23, .ref q34, .ref q41, .ref q48, .ref q55, .ref q63]) := ⟨_, rfl⟩
  have hH : Hw g M67 H := by rw [hM67]; exact hH
  have f68 : M67 a = some (eO 6 [.ref q1, .ref q12, .ref q23, .ref q34, .ref q41, .ref q48, .ref q55, .ref q63]) := by rw [hM67]; exact mu_s
  have f69 : M67 q63 = some (eQ g 3 3 (fun _ => none)) := by rw [hM67]; exact (mu_n ((m_new nq63 f61)).symm).trans f65
  have F18 := FI_new (e := eQ g 3 3 (fun _ => none)) F17 nq63 gq63
  rw [← hM64] at F18
  have F19 := FI_a (e := eO 6 [.ref q1, .ref q12, .ref q23, .ref q34, .ref q41, .ref q48, .ref q55, .ref q63]) F18
  rw [← hM67] at F19
  refine lv_iconst (v := 0) C.1 C.2.1 dX5_init_76 rfl ?_
  refine lv_istore_n (lv' := [(1, .int 0), (0, .ref a)]) C.1 C.2.1 dX5_init_77 rfl hl (by decide) rfl (fun ls hl => ?_)
  refine lv_iload_n C.1 C.2.1 dX5_init_78 rfl (lv_at hl 0 rfl) ?_
  refine lv_iconst (v := 3) C.1 C.2.1 dX5_init_79 rfl ?_
  refine lv_icmp_ge (tgt := 102) C.1 C.2.1 dX5_init_80 (by decide) (fun c80 => ?_) (fun c80 => ?_)
  · exact absurd c80 (by decide)
  · refine lv_aload_n C.1 C.2.1 dX5_init_83 rfl (lv_at hl 1 rfl) ?_
    refine mget C hE hH fl_99 f68 rfl dX5_init_84 ?_
    refine lv_iload_n C.1 C.2.1 dX5_init_87 rfl (lv_at hl 0 rfl) ?_
    refine mnew (C := C) (hE := hE) (hH := hH) (hS := hS) (F := cb_RX1) (h1 := wm_71) (h2 := wm_73) (h3 := wm_17) (by decide) (by decide) dX5_init_88 (fun q70 H nq70 gq70 hH hS => ?_)
    obtain ⟨M71, hM71⟩ : ∃ z, z = mu M67 q70 (eO 2 [.int 0, .null, .null]) := ⟨_, rfl⟩
    have hH : Hw g M71 H := by rw [hM71]; exact hH
    have f72 : M71 q70 = some (eO 2 [.int 0, .null, .null]) := by rw [hM71]; exact mu_s
    have f73 : M71 q63 = some (eQ g 3 3 (fun _ => none)) := by rw [hM71]; exact (mu_n (m_new nq70 f69)).trans f69
    have f74 : M71 a = some (eO 6 [.ref q1, .ref q12, .ref q23, .ref q34, .ref q41, .ref q48, .ref q55, .ref q63]) := by rw [hM71]; exact (mu_n (m_new nq70 f68)).trans f68
    refine lv_dup C.1 C.2.1 dX5_init_91 rfl ?_
    refine wr_go0 (runIN C hE hH hS (c_Cl_init f72) mv_X1_init hE.2.2.2.2.2.2.2.2.1.1 hl.1 dX5_init_92 rfl rfl ⟨rfl, rfl⟩ ⟨Nat.le_of_ble_eq_true rfl, Nat.le_of_ble_eq_true rfl⟩ (Nat.le_of_ble_eq_true rfl) ⟨Nat.le_of_ble_eq_true rfl, Nat.le_of_ble_eq_true rfl⟩) hS (fun u75 M76 H locs hM76 hH hS => ?_)
    have f77 : M76 a = some (eO 6 [.ref q1, .ref q12, .ref q23, .ref q34, .ref q41, .ref q48, .ref q55, .ref q63]) := (hM76.2.2.2.2.2.2 a (by rw [f74]; exact fun z => by cases z) (m_new nq70 f68)).trans f74
    have f78 : M76 q63 = some (eQ g 3 3 (fun _ => none)) := (hM76.2.2.2.2.2.2 q63 (by rw [f73]; exact fun z => by cases z) (m_new nq70 f69)).trans f73
    refine mastq (k := 3) C hE hH hS f78 rfl (Or.inr rfl) hM76.1 rfl (vp_in_nI (show 0 < 3 by omega) (by decide)) dX5_init_95 (fun H locs hH hS => ?_)
    skip
    obtain ⟨M79, hM79⟩ : ∃ z, z = mu M76 q63 (eQ g 3 3 (va_up (fun _ => none) 0 (some q70))) := ⟨_, rfl⟩
    have hH : Hw g M79 H := by rw [hM79]; exact hH
    have f80 : M79 q63 = some (eQ g 3 3 (va_up (fun _ => none) 0 (some q70))) := by rw [hM79]; exact mu_s
    have f81 : M79 a = some (eO 6 [.ref q1, .ref q12, .ref q23, .ref q34, .ref q41, .ref q48, .ref q55, .ref q63]) := by rw [hM79]; exact (mu_n (m_new nq63 f61)).trans f77
    have f82 : M79 q70 = some (eO 2 [.int 0, .ref u75.1, .ref u75.2.1]) := by rw [hM79]; exact (mu_n ((m_new nq70 f69)).symm).trans hM76.1
    have F20 := FI_new (e := eO 2 [.int 0, .null, .null]) F19 nq70 gq70
    rw [← hM71] at F20
    have F21 := FI_cl F20 (by omega) un_s hM76
    have F22 := FI_set (j := 10) (q := q63) (e := eQ g 3 3 (va_up (fun _ => none) 0 (some q70))) F21 (by omega) rfl
    rw [← hM79] at F22
    refine lv_iinc (v := 1) (lv' := [(1, .int 1), (0, .ref a)]) C.1 C.2.1 dX5_init_96 hl (k := 0) rfl (by decide) (by decide) rfl (fun ls hl => ?_)
    refine lv_goto (tgt := 78) C.1 C.2.1 dX5_init_99 (by decide) ?_
    refine lv_iload_n C.1 C.2.1 dX5_init_78 rfl (lv_at hl 0 rfl) ?_
    refine lv_iconst (v := 3) C.1 C.2.1 dX5_init_79 rfl ?_
    refine lv_icmp_ge (tgt := 102) C.1 C.2.1 dX5_init_80 (by decide) (fun c80_83 => ?_) (fun c80_83 => ?_)
    · exact absurd c80_83 (by decide)
    · refine lv_aload_n C.1 C.2.1 dX5_init_83 rfl (lv_at hl 1 rfl) ?_
      refine mget C hE hH fl_99 f81 rfl dX5_init_84 ?_
      refine lv_iload_n C.1 C.2.1 dX5_init_87 rfl (lv_at hl 0 rfl) ?_
      refine mnew (C := C) (hE := hE) (hH := hH) (hS := hS) (F := cb_RX1) (h1 := wm_71) (h2 := wm_73) (h3 := wm_17) (by decide) (by decide) dX5_init_88 (fun q84 H nq84 gq84 hH hS => ?_)
      obtain ⟨M85, hM85⟩ : ∃ z, z = mu M79 q84 (eO 2 [.int 0, .null, .null]) := ⟨_, rfl⟩
      have hH : Hw g M85 H := by rw [hM85]; exact hH
      have f86 : M85 q84 = some (eO 2 [.int 0, .null, .null]) := by rw [hM85]; exact mu_s
      have f87 : M85 a = some (eO 6 [.ref q1, .ref q12, .ref q23, .ref q34, .ref q41, .ref q48, .ref q55, .ref q63]) := by rw [hM85]; exact (mu_n (m_new nq84 f81)).trans f81
      have f88 : M85 q63 = some (eQ g 3 3 (va_up (fun _ => none) 0 (some q70))) := by rw [hM85]; exact (mu_n (m_new nq84 f80)).trans f80
      refine lv_dup C.1 C.2.1 dX5_init_91 rfl ?_
      refine wr_go0 (runIN C hE hH hS (c_Cl_init f86) mv_X1_init hE.2.2.2.2.2.2.2.2.1.1 hl.1 dX5_init_92 rfl rfl ⟨rfl, rfl⟩ ⟨Nat.le_of_ble_eq_true rfl, Nat.le_of_ble_eq_true rfl⟩ (Nat.le_of_ble_eq_true rfl) ⟨Nat.le_of_ble_eq_true rfl, Nat.le_of_ble_eq_true rfl⟩) hS (fun u89 M90 H locs hM90 hH hS => ?_)
      have f91 : M90 a = some (eO 6 [.ref q1, .ref q12, .ref q23, .ref q34, .ref q41, .ref q48, .ref q55, .ref q63]) := (hM90.2.2.2.2.2.2 a (by rw [f87]; exact fun z => by cases z) (m_new nq84 f81)).trans f87
      have f92 : M90 q63 = some (eQ g 3 3 (va_up (fun _ => none) 0 (some q70))) := (hM90.2.2.2.2.2.2 q63 (by rw [f88]; exact fun z => by cases z) (m_new nq84 f80)).trans f88
      refine mastq (k := 3) C hE hH hS f92 rfl (Or.inr rfl) hM90.1 rfl (vp_in_nI (show 1 < 3 by omega) (by decide)) dX5_init_95 (fun H locs hH hS => ?_)
      skip
      obtain ⟨M93, hM93⟩ : ∃ z, z = mu M90 q63 (eQ g 3 3 (va_up (va_up (fun _ => none) 0 (some q70)) 1 (some q84))) := ⟨_, rfl⟩
      have hH : Hw g M93 H := by rw [hM93]; exact hH
      have f94 : M93 q63 = some (eQ g 3 3 (va_up (va_up (fun _ => none) 0 (some q70)) 1 (some q84))) := by rw [hM93]; exact mu_s
      have f95 : M93 a = some (eO 6 [.ref q1, .ref q12, .ref q23, .ref q34, .ref q41, .ref q48, .ref q55, .ref q63]) := by rw [hM93]; exact (mu_n (m_new nq63 f61)).trans f91
      have f96 : M93 q84 = some (eO 2 [.int 0, .ref u89.1, .ref u89.2.1]) := by rw [hM93]; exact (mu_n ((m_new nq84 f80)).symm).trans hM90.1
      have F23 := FI_new (e := eO 2 [.int 0, .null, .null]) F22 nq84 gq84
      rw [← hM85] at F23
      have F24 := FI_cl F23 (by omega) un_s hM90
      have F25 := FI_set (j := 10) (q := q63) (e := eQ g 3 3 (va_up (va_up (fun _ => none) 0 (some q70)) 1 (some q84))) F24 (by omega) rfl
      rw [← hM93] at F25
      refine lv_iinc (v := 2) (lv' := [(1, .int 2), (0, .ref a)]) C.1 C.2.1 dX5_init_96 hl (k := 0) rfl (by decide) (by decide) rfl (fun ls hl => ?_)
      refine lv_goto (tgt := 78) C.1 C.2.1 dX5_init_99 (by decide) ?_
      refine lv_iload_n C.1 C.2.1 dX5_init_78 rfl (lv_at hl 0 rfl) ?_
      refine lv_iconst (v := 3) C.1 C.2.1 dX5_init_79 rfl ?_
      refine lv_icmp_ge (tgt := 102) C.1 C.2.1 dX5_init_80 (by decide) (fun c80_97 => ?_) (fun c80_97 => ?_)
      · exact absurd c80_97 (by decide)
      · refine lv_aload_n C.1 C.2.1 dX5_init_83 rfl (lv_at hl 1 rfl) ?_
        refine mget C hE hH fl_99 f95 rfl dX5_init_84 ?_
        refine lv_iload_n C.1 C.2.1 dX5_init_87 rfl (lv_at hl 0 rfl) ?_
        refine mnew (C := C) (hE := hE) (hH := hH) (hS := hS) (F := cb_RX1) (h1 := wm_71) (h2 := wm_73) (h3 := wm_17) (by decide) (by decide) dX5_init_88 (fun q98 H nq98 gq98 hH hS => ?_)
        obtain ⟨M99, hM99⟩ : ∃ z, z = mu M93 q98 (eO 2 [.int 0, .null, .null]) := ⟨_, rfl⟩
        have hH : Hw g M99 H := by rw [hM99]; exact hH
        have f100 : M99 q98 = some (eO 2 [.int 0, .null, .null]) := by rw [hM99]; exact mu_s
        have f101 : M99 a = some (eO 6 [.ref q1, .ref q12, .ref q23, .ref q34, .ref q41, .ref q48, .ref q55, .ref q63]) := by rw [hM99]; exact (mu_n (m_new nq98 f95)).trans f95
        have f102 : M99 q63 = some (eQ g 3 3 (va_up (va_up (fun _ => none) 0 (some q70)) 1 (some q84))) := by rw [hM99]; exact (mu_n (m_new nq98 f94)).trans f94
        refine lv_dup C.1 C.2.1 dX5_init_91 rfl ?_
        refine wr_go0 (runIN C hE hH hS (c_Cl_init f100) mv_X1_init hE.2.2.2.2.2.2.2.2.1.1 hl.1 dX5_init_92 rfl rfl ⟨rfl, rfl⟩ ⟨Nat.le_of_ble_eq_true rfl, Nat.le_of_ble_eq_true rfl⟩ (Nat.le_of_ble_eq_true rfl) ⟨Nat.le_of_ble_eq_true rfl, Nat.le_of_ble_eq_true rfl⟩) hS (fun u103 M104 H locs hM104 hH hS => ?_)
        have f105 : M104 a = some (eO 6 [.ref q1, .ref q12, .ref q23, .ref q34, .ref q41, .ref q48, .ref q55, .ref q63]) := (hM104.2.2.2.2.2.2 a (by rw [f101]; exact fun z => by cases z) (m_new nq98 f95)).trans f101
        have f106 : M104 q63 = some (eQ g 3 3 (va_up (va_up (fun _ => none) 0 (some q70)) 1 (some q84))) := (hM104.2.2.2.2.2.2 q63 (by rw [f102]; exact fun z => by cases z) (m_new nq98 f94)).trans f102
        refine mastq (k := 3) C hE hH hS f106 rfl (Or.inr rfl) hM104.1 rfl (vp_in_nI (show 2 < 3 by omega) (by decide)) dX5_init_95 (fun H locs hH hS => ?_)
        skip
        obtain ⟨M107, hM107⟩ : ∃ z, z = mu M104 q63 (eQ g 3 3 (va_up (va_up (va_up (fun _ => none) 0 (some q70)) 1 (some q84)) 2 (some q98))) := ⟨_, rfl⟩
        have hH : Hw g M107 H := by rw [hM107]; exact hH
        have f108 : M107 q63 = some (eQ g 3 3 (va_up (va_up (va_up (fun _ => none) 0 (some q70)) 1 (some q84)) 2 (some q98))) := by rw [hM107]; exact mu_s
        have f109 : M107 a = some (eO 6 [.ref q1, .ref q12, .ref q23, .ref q34, .ref q41, .ref q48, .ref q55, .ref q63]) := by rw [hM107]; exact (mu_n (m_new nq63 f61)).trans f105
        have f110 : M107 q98 = some (eO 2 [.int 0, .ref u103.1, .ref u103.2.1]) := by rw [hM107]; exact (mu_n ((m_new nq98 f94)).symm).trans hM104.1
        have F26 := FI_new (e := eO 2 [.int 0, .null, .null]) F25 nq98 gq98
        rw [← hM99] at F26
        have F27 := FI_cl F26 (by omega) un_s hM104
        have F28 := FI_set (j := 10) (q := q63) (e := eQ g 3 3 (va_up (va_up (va_up (fun _ => none) 0 (some q70)) 1 (some q84)) 2 (some q98))) F27 (by omega) rfl
        rw [← hM107] at F28
        refine lv_iinc (v := 3) (lv' := [(1, .int 3), (0, .ref a)]) C.1 C.2.1 dX5_init_96 hl (k := 0) rfl (by decide) (by decide) rfl (fun ls hl => ?_)
        refine lv_goto (tgt := 78) C.1 C.2.1 dX5_init_99 (by decide) ?_
        refine lv_iload_n C.1 C.2.1 dX5_init_78 rfl (lv_at hl 0 rfl) ?_
        refine lv_iconst (v := 3) C.1 C.2.1 dX5_init_79 rfl ?_
        refine lv_icmp_ge (tgt := 102) C.1 C.2.1 dX5_init_80 (by decide) (fun c80_111 => ?_) (fun c80_111 => ?_)
        · exact wr_vret () C hr hlocks hH hS rfl (⟨_, _, F28, f109, ⟨rfl, rfl, rfl⟩, ⟨rfl, rfl, rfl⟩, ⟨_, rfl, lt3 rfl rfl rfl⟩, lt3 rfl rfl rfl, ⟨_, rfl, lt3 rfl rfl rfl⟩, lt3 ⟨rfl, ⟨_, rfl, lt5 rfl rfl rfl rfl rfl⟩, lt5 rfl rfl rfl rfl rfl, rfl⟩ ⟨rfl, ⟨_, rfl, lt5 rfl rfl rfl rfl rfl⟩, lt5 rfl rfl rfl rfl rfl, rfl⟩ ⟨rfl, ⟨_, rfl, lt5 rfl rfl rfl rfl rfl⟩, lt5 rfl rfl rfl rfl rfl, rfl⟩⟩) (by decide) (by decide) dX5_init_102
        · exact absurd c80_111 (by decide)
