/-! THE RING'S PUBLIC METHODS THAT WRITE -/
theorem rng_of {x lo hi : Int32} {a b : Int} (h : ¬ x < lo ∧ x ≤ hi) (ha : lo.toInt = a) (hb : hi.toInt = b) : rng x a b := by
  obtain ⟨h1, h2⟩ := h
  rw [Int32.lt_iff_toInt_lt] at h1
  rw [Int32.le_iff_toInt_le] at h2
  unfold rng
  omega
set_option maxHeartbeats 4000000 in
set_option maxRecDepth 100000 in
theorem w_water {l : Launch} {g : gG} {M : Mp} {x : Nat} {tg : Nat → Nat} {A : Nat → Nat → Nat} {pr br : Nat → Bool} {np : Nat → Nat} {hh : Nat → Nat → Nat} {ne nb no : Nat} {sc : Nat → Int32} {ar : Nat → Nat → Int32} (hlx : l.stackTraces = false) (hI : RI g M x tg A pr br np hh ne nb no sc ar) (p0 p1 : Int32) : vx_Met l yX5_water (WY yX5_water cX5_water 4 (some .int)) { frames := 7, cells := 2, slots := 12, locals := 104 } (Wc g M [.ref x, .int p0, .int p1]) (wrQ (S := Unit) g (fun u_ => (some (.int (ar 3 p0.toNatClampNeg)))) (fun u_ M_ => (inx p0 3 ∧ inr p1 (-10) 10) ∧ RIx g M_ M x tg (sc) (ua ar 3 (upd (ar 3) p0.toNatClampNeg p1)))) (xQ (fun E_ => E_ = xIO ∧ ¬ inx p0 3 ∨ E_ = xIA ∧ inx p0 3 ∧ ¬ inr p1 (-10) 10)) 2 12 (gA g) := by
  refine ofX (by decide +kernel) (Nat.le_of_ble_eq_true rfl) (fun p e s m args below meth c ls C hr hlocks hout hE hH hl ea => ?_)
  have hl : lv_has ls 4 [(0, .ref x), (1, .int p0), (2, .int p1)] := hl
  have hS : va_S (gA g) s.heap s.heap [] := va_S.rf
  obtain ⟨-, iX, iE, iB, iO, iW, iL, iC⟩ := id hI
  have hne : ne < 2 ^ 31 := Nat.lt_of_le_of_lt iE.1 (by decide)
  have hnb : nb < 2 ^ 31 := Nat.lt_of_le_of_lt iB.1 (by decide)
  have hno : no < 2 ^ 31 := Nat.lt_of_le_of_lt iO.1 (by decide)
  have hed := ed_no hE hH
  refine lv_iload_n C.1 C.2.1 dX5_water_0 rfl (lv_at hl 1 rfl) ?_
  refine lv_iconst (v := 3) C.1 C.2.1 dX5_water_1 rfl ?_
  refine xr_go0 (xrunS C hE hH hS (c_reqIndex hlx p0 3) mv_X5_requireIndex wm_321 hl.1 dX5_water_2 rfl rfl ⟨rfl, rfl⟩ ⟨Nat.le_of_ble_eq_true rfl, Nat.le_of_ble_eq_true rfl⟩ (Nat.le_of_ble_eq_true rfl) ⟨Nat.le_of_ble_eq_true rfl, Nat.le_of_ble_eq_true rfl⟩) (fun E ce q9 H1 hx9 hz9 ho9 hce hcv hcl => ?_) (fun hp2 => ?_)
  · exact x_pass hout hlocks (Or.inl ⟨hx9.1, hx9.2⟩) hz9 ho9 hce hcv hcl (by decide) (by decide)
  refine lv_iload_n C.1 C.2.1 dX5_water_5 rfl (lv_at hl 2 rfl) ?_
  refine lv_bipush (v := -10) C.1 C.2.1 dX5_water_6 rfl ?_
  refine lv_bipush (v := 10) C.1 C.2.1 dX5_water_8 rfl ?_
  refine xr_go0 (xrunS C hE hH hS (c_reqRange hlx p1 (-10) 10) mv_X5_requireRange wm_136 hl.1 dX5_water_10 rfl rfl ⟨rfl, rfl⟩ ⟨Nat.le_of_ble_eq_true rfl, Nat.le_of_ble_eq_true rfl⟩ (Nat.le_of_ble_eq_true rfl) ⟨Nat.le_of_ble_eq_true rfl, Nat.le_of_ble_eq_true rfl⟩) (fun E ce q9 H1 hx9 hz9 ho9 hce hcv hcl => ?_) (fun hp10 => ?_)
  · exact x_pass hout hlocks (Or.inr ⟨hx9.1, hp2, hx9.2⟩) hz9 ho9 hce hcv hcl (by decide) (by decide)
  obtain ⟨⟨f, a1, b1⟩, -⟩ := id iW
  have hi := inx_lt (n := 3) hp2 (by decide)
  refine lv_aload_n C.1 C.2.1 dX5_water_13 rfl (lv_at hl 0 rfl) ?_
  refine mget C hE hH fl_95 iX.1 rfl dX5_water_14 ?_
  refine lv_iload_n C.1 C.2.1 dX5_water_17 rfl (lv_at hl 1 rfl) ?_
  refine mald C hE hH a1.1 (inx_in (n := 3) hp2 (by decide)) dX5_water_18 ?_
  refine lv_topi (fun x1 ex1 => ?_)
  refine lv_istore_n (lv' := [(3, .int x1), (0, .ref x), (1, .int p0), (2, .int p1)]) C.1 C.2.1 dX5_water_19 rfl hl (by decide) rfl (fun ls hl => ?_)
  refine lv_aload_n C.1 C.2.1 dX5_water_20 rfl (lv_at hl 1 rfl) ?_
  refine mget C hE hH fl_95 iX.1 rfl dX5_water_21 ?_
  refine lv_iload_n C.1 C.2.1 dX5_water_24 rfl (lv_at hl 2 rfl) ?_
  refine lv_iload_n C.1 C.2.1 dX5_water_25 rfl (lv_at hl 3 rfl) ?_
  refine mast C hE hH hS a1.1 (inx_in (n := 3) hp2 (by decide)) dX5_water_26 (fun H locs hH hS => ?_)
  obtain ⟨M2, hM2⟩ : ∃ z, z = mu M (A 7 0) (eI g 3 (upd f p0.toNatClampNeg p1)) := ⟨_, rfl⟩
  have hH : Hw g M2 H := by rw [hM2]; exact hH
  have f3 : M2 (A 7 0) = some (eI g 3 (upd f p0.toNatClampNeg p1)) := by rw [hM2]; exact mu_s
  have f4 : M2 x = some (eO 6 [.ref (A 1 0), .ref (A 1 1), .ref (A 1 2), .ref (A 7 0), .ref (A 7 1), .ref (A 7 2), .ref (A 8 0), .ref (A 9 0)]) := by rw [hM2]; exact (mu_n (m_ne iX.1 a1.1 (by first | (intro z; cases z; done) | exact ne_IQ | exact ne_IQ.symm | exact ne_LI | exact ne_LI.symm | (intro z; cases z; omega) | (intro z; cases z; contradiction) | exact (fun z => by cases z)))).trans iX.1
  refine lv_iload_n C.1 C.2.1 dX5_water_27 rfl (lv_at hl 0 rfl) ?_
  exact vx_ret (wr_iret () C hr hlocks hH hS (congrArg (fun z => some (Value.int z)) ((ex1.trans (b1 _ hi).1).symm)) (⟨⟨hp2, hp10⟩, by rw [hM2]; exact up_water hI hed a1 b1 (rng_of (a := -10) (b := 10) hp10 (by decide) (by decide))⟩) (by decide) (by decide) dX5_water_28)
set_option maxHeartbeats 4000000 in
set_option maxRecDepth 100000 in
theorem w_yarn {l : Launch} {g : gG} {M : Mp} {x : Nat} {tg : Nat → Nat} {A : Nat → Nat → Nat} {pr br : Nat → Bool} {np : Nat → Nat} {hh : Nat → Nat → Nat} {ne nb no : Nat} {sc : Nat → Int32} {ar : Nat → Nat → Int32} (hlx : l.stackTraces = false) (hI : RI g M x tg A pr br np hh ne nb no sc ar) (p0 p1 p2 : Int32) : vx_Met l yX5_yarn (WY yX5_yarn cX5_yarn 5 (some .int)) { frames := 7, cells := 3, slots := 18, locals := 104 } (Wc g M [.ref x, .int p0, .int p1, .int p2]) (wrQ (S := Unit) g (fun u_ => (some (.int (ar 4 (2 * p0.toNatClampNeg))))) (fun u_ M_ => (inx p0 4 ∧ inr p1 (-10) 10 ∧ inr p2 (-10) 10) ∧ RIx g M_ M x tg (sc) (ua ar 4 (upd (upd (ar 4) (2 * p0.toNatClampNeg) p1) (2 * p0.toNatClampNeg + 1) p2)))) (xQ (fun E_ => E_ = xIO ∧ ¬ inx p0 4 ∨ E_ = xIA ∧ inx p0 4 ∧ ¬ (inr p1 (-10) 10 ∧ inr p2 (-10) 10))) 3 18 (gA g) := by
  refine ofX (by decide +kernel) (Nat.le_of_ble_eq_true rfl) (fun p e s m args below meth c ls C hr hlocks hout hE hH hl ea => ?_)
  have hl : lv_has ls 5 [(0, .ref x), (1, .int p0), (2, .int p1), (3, .int p2)] := hl
  have hS : va_S (gA g) s.heap s.heap [] := va_S.rf
  obtain ⟨-, iX, iE, iB, iO, iW, iL, iC⟩ := id hI
  have hne : ne < 2 ^ 31 := Nat.lt_of_le_of_lt iE.1 (by decide)
  have hnb : nb < 2 ^ 31 := Nat.lt_of_le_of_lt iB.1 (by decide)
  have hno : no < 2 ^ 31 := Nat.lt_of_le_of_lt iO.1 (by decide)
  have hed := ed_no hE hH
  refine lv_iload_n C.1 C.2.1 dX5_yarn_0 rfl (lv_at hl 1 rfl) ?_
  refine lv_iconst (v := 4) C.1 C.2.1 dX5_yarn_1 rfl ?_
  refine xr_go0 (xrunS C hE hH hS (c_reqIndex hlx p0 4) mv_X5_requireIndex wm_321 hl.1 dX5_yarn_2 rfl rfl ⟨rfl, rfl⟩ ⟨Nat.le_of_ble_eq_true rfl, Nat.le_of_ble_eq_true rfl⟩ (Nat.le_of_ble_eq_true rfl) ⟨Nat.le_of_ble_eq_true rfl, Nat.le_of_ble_eq_true rfl⟩) (fun E ce q9 H1 hx9 hz9 ho9 hce hcv hcl => ?_) (fun hp2 => ?_)
  · exact x_pass hout hlocks (Or.inl ⟨hx9.1, hx9.2⟩) hz9 ho9 hce hcv hcl (by decide) (by decide)
  refine lv_iload_n C.1 C.2.1 dX5_yarn_5 rfl (lv_at hl 2 rfl) ?_
  refine lv_bipush (v := -10) C.1 C.2.1 dX5_yarn_6 rfl ?_
  refine lv_bipush (v := 10) C.1 C.2.1 dX5_yarn_8 rfl ?_
  refine xr_go0 (xrunS C hE hH hS (c_reqRange hlx p1 (-10) 10) mv_X5_requireRange wm_136 hl.1 dX5_yarn_10 rfl rfl ⟨rfl, rfl⟩ ⟨Nat.le_of_ble_eq_true rfl, Nat.le_of_ble_eq_true rfl⟩ (Nat.le_of_ble_eq_true rfl) ⟨Nat.le_of_ble_eq_true rfl, Nat.le_of_ble_eq_true rfl⟩) (fun E ce q9 H1 hx9 hz9 ho9 hce hcv hcl => ?_) (fun hp10 => ?_)
  · exact x_pass hout hlocks (Or.inr ⟨hx9.1, hp2, fun z => hx9.2 z.1⟩) hz9 ho9 hce hcv hcl (by decide) (by decide)
  refine lv_iload_n C.1 C.2.1 dX5_yarn_13 rfl (lv_at hl 3 rfl) ?_
  refine lv_bipush (v := -10) C.1 C.2.1 dX5_yarn_14 rfl ?_
  refine lv_bipush (v := 10) C.1 C.2.1 dX5_yarn_16 rfl ?_
  refine xr_go0 (xrunS C hE hH hS (c_reqRange hlx p2 (-10) 10) mv_X5_requireRange wm_136 hl.1 dX5_yarn_18 rfl rfl ⟨rfl, rfl⟩ ⟨Nat.le_of_ble_eq_true rfl, Nat.le_of_ble_eq_true rfl⟩ (Nat.le_of_ble_eq_true rfl) ⟨Nat.le_of_ble_eq_true rfl, Nat.le_of_ble_eq_true rfl⟩) (fun E ce q9 H1 hx9 hz9 ho9 hce hcv hcl => ?_) (fun hp18 => ?_)
  · exact x_pass hout hlocks (Or.inr ⟨hx9.1, hp2, fun z => hx9.2 z.2⟩) hz9 ho9 hce hcv hcl (by decide) (by decide)
  obtain ⟨-, ⟨f, a1, b1⟩, f2, a2, b2⟩ := id iW
  have hi := inx_lt (n := 4) hp2 (by decide)
  have n12 : A 7 2 ≠ A 7 1 := fun z => by have := a1.2; rw [← z, a2.2] at this; omega
  refine lv_aload_n C.1 C.2.1 dX5_yarn_21 rfl (lv_at hl 0 rfl) ?_
  refine mget C hE hH fl_96 iX.1 rfl dX5_yarn_22 ?_
  refine lv_iload_n C.1 C.2.1 dX5_yarn_25 rfl (lv_at hl 1 rfl) ?_
  refine mald C hE hH a1.1 (inx_in (n := 4) hp2 (by decide)) dX5_yarn_26 ?_
  refine lv_topi (fun x1 ex1 => ?_)
  refine lv_istore (lv' := [(4, .int x1), (0, .ref x), (1, .int p0), (2, .int p1), (3, .int p2)]) C.1 C.2.1 dX5_yarn_27 hl (by decide) rfl (fun ls hl => ?_)
  refine lv_aload_n C.1 C.2.1 dX5_yarn_29 rfl (lv_at hl 1 rfl) ?_
  refine mget C hE hH fl_96 iX.1 rfl dX5_yarn_30 ?_
  refine lv_iload_n C.1 C.2.1 dX5_yarn_33 rfl (lv_at hl 2 rfl) ?_
  refine lv_iload_n C.1 C.2.1 dX5_yarn_34 rfl (lv_at hl 3 rfl) ?_
  refine mast C hE hH hS a1.1 (inx_in (n := 4) hp2 (by decide)) dX5_yarn_35 (fun H locs hH hS => ?_)
  obtain ⟨M2, hM2⟩ : ∃ z, z = mu M (A 7 1) (eI g 4 (upd f p0.toNatClampNeg p1)) := ⟨_, rfl⟩
  have hH : Hw g M2 H := by rw [hM2]; exact hH
  have f3 : M2 (A 7 1) = some (eI g 4 (upd f p0.toNatClampNeg p1)) := by rw [hM2]; exact mu_s
  have f4 : M2 x = some (eO 6 [.ref (A 1 0), .ref (A 1 1), .ref (A 1 2), .ref (A 7 0), .ref (A 7 1), .ref (A 7 2), .ref (A 8 0), .ref (A 9 0)]) := by rw [hM2]; exact (mu_n (m_ne iX.1 a1.1 (by first | (intro z; cases z; done) | exact ne_IQ | exact ne_IQ.symm | exact ne_LI | exact ne_LI.symm | (intro z; cases z; omega) | (intro z; cases z; contradiction) | exact (fun z => by cases z)))).trans iX.1
  have f5 : M2 (A 7 2) = some (eI g 4 f2) := by rw [hM2]; exact (mu_n n12).trans a2.1
  refine lv_aload_n C.1 C.2.1 dX5_yarn_36 rfl (lv_at hl 1 rfl) ?_
  refine mget C hE hH fl_97 f4 rfl dX5_yarn_37 ?_
  refine lv_iload_n C.1 C.2.1 dX5_yarn_40 rfl (lv_at hl 2 rfl) ?_
  refine lv_iload_n C.1 C.2.1 dX5_yarn_41 rfl (lv_at hl 4 rfl) ?_
  refine mast C hE hH hS f5 (inx_in (n := 4) hp2 (by decide)) dX5_yarn_42 (fun H locs hH hS => ?_)
  obtain ⟨M6, hM6⟩ : ∃ z, z = mu M2 (A 7 2) (eI g 4 (upd f2 p0.toNatClampNeg p2)) := ⟨_, rfl⟩
  have hH : Hw g M6 H := by rw [hM6]; exact hH
  have f7 : M6 (A 7 2) = some (eI g 4 (upd f2 p0.toNatClampNeg p2)) := by rw [hM6]; exact mu_s
  have f8 : M6 x = some (eO 6 [.ref (A 1 0), .ref (A 1 1), .ref (A 1 2), .ref (A 7 0), .ref (A 7 1), .ref (A 7 2), .ref (A 8 0), .ref (A 9 0)]) := by rw [hM6]; exact (mu_n (m_ne f4 f5 (by first | (intro z; cases z; done) | exact ne_IQ | exact ne_IQ.symm | exact ne_LI | exact ne_LI.symm | (intro z; cases z; omega) | (intro z; cases z; contradiction) | exact (fun z => by cases z)))).trans f4
  have f9 : M6 (A 7 1) = some (eI g 4 (upd f p0.toNatClampNeg p1)) := by rw [hM6]; exact (mu_n n12.symm).trans f3
  refine lv_iload C.1 C.2.1 dX5_yarn_43 (lv_at hl 0 rfl) ?_
  exact vx_ret (wr_iret () C hr hlocks hH hS (congrArg (fun z => some (Value.int z)) ((ex1.trans (b1 _ hi).1).symm)) (⟨⟨hp2, hp10, hp18⟩, by rw [hM6, hM2]; exact up_yarn hI hed a1 b1 a2 b2 (rng_of (a := -10) (b := 10) hp10 (by decide) (by decide)) (rng_of (a := -10) (b := 10) hp18 (by decide) (by decide))⟩) (by decide) (by decide) dX5_yarn_45)
set_option maxHeartbeats 4000000 in
set_option maxRecDepth 100000 in
theorem w_shrinks {l : Launch} {g : gG} {M : Mp} {x : Nat} {tg : Nat → Nat} {A : Nat → Nat → Nat} {pr br : Nat → Bool} {np : Nat → Nat} {hh : Nat → Nat → Nat} {ne nb no : Nat} {sc : Nat → Int32} {ar : Nat → Nat → Int32} (hlx : l.stackTraces = false) (hI : RI g M x tg A pr br np hh ne nb no sc ar) (p0 p1 : Int32) : vx_Met l yX5_shrinks (WY yX5_shrinks cX5_shrinks 4 (some .int)) { frames := 7, cells := 2, slots := 12, locals := 104 } (Wc g M [.ref x, .int p0, .int p1]) (wrQ (S := Unit) g (fun u_ => (some (.int (ar 20 p0.toNatClampNeg)))) (fun u_ M_ => (inx p0 3 ∧ inr p1 0 90) ∧ RIx g M_ M x tg (sc) (ua ar 20 (upd (ar 20) p0.toNatClampNeg p1)))) (xQ (fun E_ => E_ = xIO ∧ ¬ inx p0 3 ∨ E_ = xIA ∧ inx p0 3 ∧ ¬ inr p1 0 90)) 2 12 (gA g) := by
  refine ofX (by decide +kernel) (Nat.le_of_ble_eq_true rfl) (fun p e s m args below meth c ls C hr hlocks hout hE hH hl ea => ?_)
  have hl : lv_has ls 4 [(0, .ref x), (1, .int p0), (2, .int p1)] := hl
  have hS : va_S (gA g) s.heap s.heap [] := va_S.rf
  obtain ⟨-, iX, iE, iB, iO, iW, iL, iC⟩ := id hI
  have hne : ne < 2 ^ 31 := Nat.lt_of_le_of_lt iE.1 (by decide)
  have hnb : nb < 2 ^ 31 := Nat.lt_of_le_of_lt iB.1 (by decide)
  have hno : no < 2 ^ 31 := Nat.lt_of_le_of_lt iO.1 (by decide)
  have hed := ed_no hE hH
  refine lv_iload_n C.1 C.2.1 dX5_shrinks_0 rfl (lv_at hl 1 rfl) ?_
  refine lv_iconst (v := 3) C.1 C.2.1 dX5_shrinks_1 rfl ?_
  refine xr_go0 (xrunS C hE hH hS (c_reqIndex hlx p0 3) mv_X5_requireIndex wm_321 hl.1 dX5_shrinks_2 rfl rfl ⟨rfl, rfl⟩ ⟨Nat.le_of_ble_eq_true rfl, Nat.le_of_ble_eq_true rfl⟩ (Nat.le_of_ble_eq_true rfl) ⟨Nat.le_of_ble_eq_true rfl, Nat.le_of_ble_eq_true rfl⟩) (fun E ce q9 H1 hx9 hz9 ho9 hce hcv hcl => ?_) (fun hp2 => ?_)
  · exact x_pass hout hlocks (Or.inl ⟨hx9.1, hx9.2⟩) hz9 ho9 hce hcv hcl (by decide) (by decide)
  refine lv_iload_n C.1 C.2.1 dX5_shrinks_5 rfl (lv_at hl 2 rfl) ?_
  refine lv_iconst (v := 0) C.1 C.2.1 dX5_shrinks_6 rfl ?_
  refine lv_bipush (v := 90) C.1 C.2.1 dX5_shrinks_7 rfl ?_
  refine xr_go0 (xrunS C hE hH hS (c_reqRange hlx p1 0 90) mv_X5_requireRange wm_136 hl.1 dX5_shrinks_9 rfl rfl ⟨rfl, rfl⟩ ⟨Nat.le_of_ble_eq_true rfl, Nat.le_of_ble_eq_true rfl⟩ (Nat.le_of_ble_eq_true rfl) ⟨Nat.le_of_ble_eq_true rfl, Nat.le_of_ble_eq_true rfl⟩) (fun E ce q9 H1 hx9 hz9 ho9 hce hcv hcl => ?_) (fun hp9 => ?_)
  · exact x_pass hout hlocks (Or.inr ⟨hx9.1, hp2, hx9.2⟩) hz9 ho9 hce hcv hcl (by decide) (by decide)
  obtain ⟨⟨crow, cr1, cr2⟩, iCk⟩ := id iC
  obtain ⟨k, ek⟩ : ∃ z : Nat, z = p0.toNatClampNeg := ⟨_, rfl⟩
  have hk : k < 3 := by rw [ek]; exact inx_lt (n := 3) hp2 (by decide)
  obtain ⟨ck1, ck2, ⟨orow, or1, or2⟩, de0, U, un1⟩ := iCk k hk
  obtain ⟨D, de⟩ := ch5 de0
  refine lv_aload_n C.1 C.2.1 dX5_shrinks_12 rfl (lv_at hl 0 rfl) ?_
  refine mget C hE hH fl_99 iX.1 rfl dX5_shrinks_13 ?_
  refine lv_iload_n C.1 C.2.1 dX5_shrinks_16 rfl (lv_at hl 1 rfl) ?_
  refine maldq (k := 3) (y := (A 10 k)) C hE hH cr1.1 rfl rfl (inx_in (n := 3) hp2 (by decide)) (by rw [← ek]; exact cr2 _ hk) dX5_shrinks_17 ?_
  refine mget C hE hH fl_80 ck1.1 rfl dX5_shrinks_18 ?_
  refine lv_topi (fun x1 ex1 => ?_)
  refine lv_istore_n (lv' := [(3, .int x1), (0, .ref x), (1, .int p0), (2, .int p1)]) C.1 C.2.1 dX5_shrinks_21 rfl hl (by decide) rfl (fun ls hl => ?_)
  refine lv_aload_n C.1 C.2.1 dX5_shrinks_22 rfl (lv_at hl 1 rfl) ?_
  refine mget C hE hH fl_99 iX.1 rfl dX5_shrinks_23 ?_
  refine lv_iload_n C.1 C.2.1 dX5_shrinks_26 rfl (lv_at hl 2 rfl) ?_
  refine maldq (k := 3) (y := (A 10 k)) C hE hH cr1.1 rfl rfl (inx_in (n := 3) hp2 (by decide)) (by rw [← ek]; exact cr2 _ hk) dX5_shrinks_27 ?_
  refine lv_iload_n C.1 C.2.1 dX5_shrinks_28 rfl (lv_at hl 3 rfl) ?_
  refine mput (fs' := [.int p1, .ref (A 8 (1 + k)), .ref (A 7 (6 + k))]) C hE hH hS fl_80 ck1.1 rfl rfl rfl (Nat.le_of_ble_eq_true rfl) dX5_shrinks_29 (fun H locs hH hS => ?_)
  obtain ⟨M2, hM2⟩ : ∃ z, z = mu M (A 10 k) (eO 2 [.int p1, .ref (A 8 (1 + k)), .ref (A 7 (6 + k))]) := ⟨_, rfl⟩
  have hH : Hw g M2 H := by rw [hM2]; exact hH
  have f3 : M2 (A 10 k) = some (eO 2 [.int p1, .ref (A 8 (1 + k)), .ref (A 7 (6 + k))]) := by rw [hM2]; exact mu_s
  have f4 : M2 x = some (eO 6 [.ref (A 1 0), .ref (A 1 1), .ref (A 1 2), .ref (A 7 0), .ref (A 7 1), .ref (A 7 2), .ref (A 8 0), .ref (A 9 0)]) := by rw [hM2]; exact (mu_n (m_ne iX.1 ck1.1 (by first | (intro z; cases z; done) | exact ne_IQ | exact ne_IQ.symm | exact ne_LI | exact ne_LI.symm | (intro z; cases z; omega) | (intro z; cases z; contradiction) | exact (fun z => by cases z)))).trans iX.1
  have f5 : M2 (A 9 0) = some (eQ g 3 3 crow) := by rw [hM2]; exact (mu_n (m_ne cr1.1 ck1.1 (by first | (intro z; cases z; done) | exact ne_IQ | exact ne_IQ.symm | exact ne_LI | exact ne_LI.symm | (intro z; cases z; omega) | (intro z; cases z; contradiction) | exact (fun z => by cases z)))).trans cr1.1
  have f6 : M2 (A 8 (1 + k)) = some (eQ g 4 5 orow) := by rw [hM2]; exact (mu_n (m_ne or1.1 ck1.1 (by first | (intro z; cases z; done) | exact ne_IQ | exact ne_IQ.symm | exact ne_LI | exact ne_LI.symm | (intro z; cases z; omega) | (intro z; cases z; contradiction) | exact (fun z => by cases z)))).trans or1.1
  have f7 : M2 (A 7 (6 + k)) = some (eI g 5 U) := by rw [hM2]; exact (mu_n (m_ne un1.1 ck1.1 (by first | (intro z; cases z; done) | exact ne_IQ | exact ne_IQ.symm | exact ne_LI | exact ne_LI.symm | (intro z; cases z; omega) | (intro z; cases z; contradiction) | exact (fun z => by cases z)))).trans un1.1
  refine lv_iload_n C.1 C.2.1 dX5_shrinks_32 rfl (lv_at hl 0 rfl) ?_
  exact vx_ret (wr_iret () C hr hlocks hH hS (congrArg (fun z => some (Value.int z)) (by rw [← ek]; exact ex1.symm)) (⟨⟨hp2, hp9⟩, by rw [hM2, ← ek]; exact up_shrinks (f20 := 0) hI hed hk (rng_of (a := 0) (b := 90) hp9 (by decide) (by decide))⟩) (by decide) (by decide) dX5_shrinks_33)
set_option maxHeartbeats 4000000 in
set_option maxRecDepth 100000 in
theorem w_give {l : Launch} {g : gG} {M : Mp} {x : Nat} {tg : Nat → Nat} {A : Nat → Nat → Nat} {pr br : Nat → Bool} {np : Nat → Nat} {hh : Nat → Nat → Nat} {ne nb no : Nat} {sc : Nat → Int32} {ar : Nat → Nat → Int32} (hlx : l.stackTraces = false) (hI : RI g M x tg A pr br np hh ne nb no sc ar) (p0 p1 p2 p3 : Int32) : vx_Met l yX5_give (WY yX5_give cX5_give 7 (some .int)) { frames := 7, cells := 5, slots := 30, locals := 104 } (Wc g M [.ref x, .int p0, .int p1, .int p2, .int p3]) (wrQ (S := Unit) g (fun u_ => (some (.int (ar 21 (25 * p2.toNatClampNeg + 5 * p1.toNatClampNeg + p0.toNatClampNeg) + zsh p3 (ar 20 p2.toNatClampNeg))))) (fun u_ M_ => (((inx p0 5 ∧ inx p1 5) ∧ inx p2 3) ∧ (¬ p0 = p1 ∧ inr p3 1 1000) ∧ ar 21 (25 * p2.toNatClampNeg + 5 * p1.toNatClampNeg + p0.toNatClampNeg) + zsh p3 (ar 20 p2.toNatClampNeg) ≤ 100000) ∧ RIx g M_ M x tg (sc) (ua ar 21 (upd (ar 21) (25 * p2.toNatClampNeg + 5 * p1.toNatClampNeg + p0.toNatClampNeg) (ar 21 (25 * p2.toNatClampNeg + 5 * p1.toNatClampNeg + p0.toNatClampNeg) + zsh p3 (ar 20 p2.toNatClampNeg)))))) (xQ (fun E_ => E_ = xIO ∧ ¬ ((inx p0 5 ∧ inx p1 5) ∧ inx p2 3) ∨ E_ = xIA ∧ ((inx p0 5 ∧ inx p1 5) ∧ inx p2 3) ∧ ¬ (¬ p0 = p1 ∧ inr p3 1 1000) ∨ E_ = xIS ∧ ((inx p0 5 ∧ inx p1 5) ∧ inx p2 3) ∧ (¬ p0 = p1 ∧ inr p3 1 1000) ∧ ¬ ar 21 (25 * p2.toNatClampNeg + 5 * p1.toNatClampNeg + p0.toNatClampNeg) + zsh p3 (ar 20 p2.toNatClampNeg) ≤ 100000)) 5 30 (gA g) := by
  refine ofX (by decide +kernel) (Nat.le_of_ble_eq_true rfl) (fun p e s m args below meth c ls C hr hlocks hout hE hH hl ea => ?_)
  have hl : lv_has ls 7 [(0, .ref x), (1, .int p0), (2, .int p1), (3, .int p2), (4, .int p3)] := hl
  have hS : va_S (gA g) s.heap s.heap [] := va_S.rf
  obtain ⟨-, iX, iE, iB, iO, iW, iL, iC⟩ := id hI
  have hne : ne < 2 ^ 31 := Nat.lt_of_le_of_lt iE.1 (by decide)
  have hnb : nb < 2 ^ 31 := Nat.lt_of_le_of_lt iB.1 (by decide)
  have hno : no < 2 ^ 31 := Nat.lt_of_le_of_lt iO.1 (by decide)
  have hed := ed_no hE hH
  refine lv_iload_n C.1 C.2.1 dX5_give_0 rfl (lv_at hl 1 rfl) ?_
  refine lv_iconst (v := 5) C.1 C.2.1 dX5_give_1 rfl ?_
  refine xr_go0 (xrunS C hE hH hS (c_reqIndex hlx p0 5) mv_X5_requireIndex wm_321 hl.1 dX5_give_2 rfl rfl ⟨rfl, rfl⟩ ⟨Nat.le_of_ble_eq_true rfl, Nat.le_of_ble_eq_true rfl⟩ (Nat.le_of_ble_eq_true rfl) ⟨Nat.le_of_ble_eq_true rfl, Nat.le_of_ble_eq_true rfl⟩) (fun E ce q9 H1 hx9 hz9 ho9 hce hcv hcl => ?_) (fun hp2 => ?_)
  · exact x_pass hout hlocks (Or.inl ⟨hx9.1, fun z => hx9.2 z.1.1⟩) hz9 ho9 hce hcv hcl (by decide) (by decide)
  refine lv_iload_n C.1 C.2.1 dX5_give_5 rfl (lv_at hl 2 rfl) ?_
  refine lv_iconst (v := 5) C.1 C.2.1 dX5_give_6 rfl ?_
  refine xr_go0 (xrunS C hE hH hS (c_reqIndex hlx p1 5) mv_X5_requireIndex wm_321 hl.1 dX5_give_7 rfl rfl ⟨rfl, rfl⟩ ⟨Nat.le_of_ble_eq_true rfl, Nat.le_of_ble_eq_true rfl⟩ (Nat.le_of_ble_eq_true rfl) ⟨Nat.le_of_ble_eq_true rfl, Nat.le_of_ble_eq_true rfl⟩) (fun E ce q9 H1 hx9 hz9 ho9 hce hcv hcl => ?_) (fun hp7 => ?_)
  · exact x_pass hout hlocks (Or.inl ⟨hx9.1, fun z => hx9.2 z.1.2⟩) hz9 ho9 hce hcv hcl (by decide) (by decide)
  refine lv_iload_n C.1 C.2.1 dX5_give_10 rfl (lv_at hl 3 rfl) ?_
  refine lv_iconst (v := 3) C.1 C.2.1 dX5_give_11 rfl ?_
  refine xr_go0 (xrunS C hE hH hS (c_reqIndex hlx p2 3) mv_X5_requireIndex wm_321 hl.1 dX5_give_12 rfl rfl ⟨rfl, rfl⟩ ⟨Nat.le_of_ble_eq_true rfl, Nat.le_of_ble_eq_true rfl⟩ (Nat.le_of_ble_eq_true rfl) ⟨Nat.le_of_ble_eq_true rfl, Nat.le_of_ble_eq_true rfl⟩) (fun E ce q9 H1 hx9 hz9 ho9 hce hcv hcl => ?_) (fun hp12 => ?_)
  · exact x_pass hout hlocks (Or.inl ⟨hx9.1, fun z => hx9.2 z.2⟩) hz9 ho9 hce hcv hcl (by decide) (by decide)
  refine lv_iload_n C.1 C.2.1 dX5_give_15 rfl (lv_at hl 1 rfl) ?_
  refine lv_iload_n C.1 C.2.1 dX5_give_16 rfl (lv_at hl 2 rfl) ?_
  refine lv_icmp_ne (tgt := 30) C.1 C.2.1 dX5_give_17 (by decide) (fun c17 => ?_) (fun c17 => ?_)
  · refine lv_iload C.1 C.2.1 dX5_give_30 (lv_at hl 4 rfl) ?_
    refine lv_iconst (v := 1) C.1 C.2.1 dX5_give_32 rfl ?_
    refine lv_sipush (v := 1000) C.1 C.2.1 dX5_give_33 rfl ?_
    refine xr_go0 (xrunS C hE hH hS (c_reqRange hlx p3 1 1000) mv_X5_requireRange wm_136 hl.1 dX5_give_36 rfl rfl ⟨rfl, rfl⟩ ⟨Nat.le_of_ble_eq_true rfl, Nat.le_of_ble_eq_true rfl⟩ (Nat.le_of_ble_eq_true rfl) ⟨Nat.le_of_ble_eq_true rfl, Nat.le_of_ble_eq_true rfl⟩) (fun E ce q9 H1 hx9 hz9 ho9 hce hcv hcl => ?_) (fun hp36 => ?_)
    · exact x_pass hout hlocks (Or.inr (Or.inl ⟨hx9.1, ⟨⟨hp2, hp7⟩, hp12⟩, fun z => hx9.2 z.2⟩)) hz9 ho9 hce hcv hcl (by decide) (by decide)
    obtain ⟨⟨crow, cr1, cr2⟩, iCk⟩ := id iC
    obtain ⟨k, ek⟩ : ∃ z : Nat, z = p2.toNatClampNeg := ⟨_, rfl⟩
    have hk : k < 3 := by rw [ek]; exact inx_lt (n := 3) hp12 (by decide)
    obtain ⟨ck1, ck2, ⟨orow, or1, or2⟩, de0, U, un1⟩ := iCk k hk
    obtain ⟨D, de⟩ := ch5 de0
    have hi := inx_lt (n := 5) hp7 (by decide)
    have hj := inx_lt (n := 5) hp2 (by decide)
    obtain ⟨f, d1, d2⟩ := de0 _ hi
    have hdv : ar 21 (25 * p2.toNatClampNeg + 5 * p1.toNatClampNeg + p0.toNatClampNeg) + zsh p3 (ar 20 p2.toNatClampNeg) = f p0.toNatClampNeg + zsh p3 (ar 20 k) := by rw [← ek, d2 _ hj]
    refine lv_aload_n C.1 C.2.1 dX5_give_39 rfl (lv_at hl 0 rfl) ?_
    refine mget C hE hH fl_99 iX.1 rfl dX5_give_40 ?_
    refine lv_iload_n C.1 C.2.1 dX5_give_43 rfl (lv_at hl 3 rfl) ?_
    refine maldq (k := 3) (y := (A 10 k)) C hE hH cr1.1 rfl rfl (inx_in (n := 3) hp12 (by decide)) (by rw [← ek]; exact cr2 _ hk) dX5_give_44 ?_
    refine lv_astore (lv' := [(5, .ref (A 10 k)), (0, .ref x), (1, .int p0), (2, .int p1), (3, .int p2), (4, .int p3)]) C.1 C.2.1 dX5_give_45 hl (by decide) rfl (fun ls hl => ?_)
    refine lv_aload C.1 C.2.1 dX5_give_47 (lv_at hl 0 rfl) ?_
    refine mget C hE hH fl_82 ck1.1 rfl dX5_give_49 ?_
    refine lv_iload_n C.1 C.2.1 dX5_give_52 rfl (lv_at hl 3 rfl) ?_
    refine maldq (k := 4) (y := (A 7 (10 + 5 * k + p1.toNatClampNeg))) C hE hH or1.1 rfl rfl (inx_in (n := 5) hp7 (by decide)) (or2 _ hi) dX5_give_53 ?_
    refine lv_iload_n C.1 C.2.1 dX5_give_54 rfl (lv_at hl 2 rfl) ?_
    refine mald C hE hH d1.1 (inx_in (n := 5) hp2 (by decide)) dX5_give_55 ?_
    refine lv_aload C.1 C.2.1 dX5_give_56 (lv_at hl 0 rfl) ?_
    refine lv_iload C.1 C.2.1 dX5_give_58 (lv_at hl 5 rfl) ?_
    refine rd_go1 (runV C hE hH hS (c_C_shrunk ck1.1 p3) mv_X1_shrunk wm_688 ck1.1 rfl rfl hl.1 dX5_give_60 rfl rfl ⟨rfl, rfl⟩ ⟨Nat.le_of_ble_eq_true rfl, Nat.le_of_ble_eq_true rfl⟩ (Nat.le_of_ble_eq_true rfl) ⟨Nat.le_of_ble_eq_true rfl, Nat.le_of_ble_eq_true rfl⟩) ?_
    refine lv_iadd C.1 C.2.1 dX5_give_63 ?_
    refine lv_topi (fun x1 ex1 => ?_)
    refine lv_istore (lv' := [(6, .int x1), (5, .ref (A 10 k)), (0, .ref x), (1, .int p0), (2, .int p1), (3, .int p2), (4, .int p3)]) C.1 C.2.1 dX5_give_64 hl (by decide) rfl (fun ls hl => ?_)
    refine lv_iload C.1 C.2.1 dX5_give_66 (lv_at hl 0 rfl) ?_
    refine lv_ldc (v := 100000) C.1 C.2.1 C.2.2.2.1 (C.2.2.2.2 _ wm_692) dX5_give_68 ?_
    refine lv_icmp_le (tgt := 83) C.1 C.2.1 dX5_give_70 (by decide) (fun c70 => ?_) (fun c70 => ?_)
    · refine lv_aload C.1 C.2.1 dX5_give_83 (lv_at hl 1 rfl) ?_
      refine mget C hE hH fl_82 ck1.1 rfl dX5_give_85 ?_
      refine lv_iload_n C.1 C.2.1 dX5_give_88 rfl (lv_at hl 4 rfl) ?_
      refine maldq (k := 4) (y := (A 7 (10 + 5 * k + p1.toNatClampNeg))) C hE hH or1.1 rfl rfl (inx_in (n := 5) hp7 (by decide)) (or2 _ hi) dX5_give_89 ?_
      refine lv_iload_n C.1 C.2.1 dX5_give_90 rfl (lv_at hl 3 rfl) ?_
      refine lv_iload C.1 C.2.1 dX5_give_91 (lv_at hl 0 rfl) ?_
      refine mast C hE hH hS d1.1 (inx_in (n := 5) hp2 (by decide)) dX5_give_93 (fun H locs hH hS => ?_)
      obtain ⟨M2, hM2⟩ : ∃ z, z = mu M (A 7 (10 + 5 * k + p1.toNatClampNeg)) (eI g 5 (upd f p0.toNatClampNeg x1)) := ⟨_, rfl⟩
      have hH : Hw g M2 H := by rw [hM2]; exact hH
      have f3 : M2 (A 7 (10 + 5 * k + p1.toNatClampNeg)) = some (eI g 5 (upd f p0.toNatClampNeg x1)) := by rw [hM2]; exact mu_s
      have f4 : M2 x = some (eO 6 [.ref (A 1 0), .ref (A 1 1), .ref (A 1 2), .ref (A 7 0), .ref (A 7 1), .ref (A 7 2), .ref (A 8 0), .ref (A 9 0)]) := by rw [hM2]; exact (mu_n (m_ne iX.1 d1.1 (by first | (intro z; cases z; done) | exact ne_IQ | exact ne_IQ.symm | exact ne_LI | exact ne_LI.symm | (intro z; cases z; omega) | (intro z; cases z; contradiction) | exact (fun z => by cases z)))).trans iX.1
      have f5 : M2 (A 9 0) = some (eQ g 3 3 crow) := by rw [hM2]; exact (mu_n (m_ne cr1.1 d1.1 (by first | (intro z; cases z; done) | exact ne_IQ | exact ne_IQ.symm | exact ne_LI | exact ne_LI.symm | (intro z; cases z; omega) | (intro z; cases z; contradiction) | exact (fun z => by cases z)))).trans cr1.1
      have f6 : M2 (A 10 k) = some (eO 2 [.int (ar 20 k), .ref (A 8 (1 + k)), .ref (A 7 (6 + k))]) := by rw [hM2]; exact (mu_n (m_ne ck1.1 d1.1 (by first | (intro z; cases z; done) | exact ne_IQ | exact ne_IQ.symm | exact ne_LI | exact ne_LI.symm | (intro z; cases z; omega) | (intro z; cases z; contradiction) | exact (fun z => by cases z)))).trans ck1.1
      have f7 : M2 (A 8 (1 + k)) = some (eQ g 4 5 orow) := by rw [hM2]; exact (mu_n (m_ne or1.1 d1.1 (by first | (intro z; cases z; done) | exact ne_IQ | exact ne_IQ.symm | exact ne_LI | exact ne_LI.symm | (intro z; cases z; omega) | (intro z; cases z; contradiction) | exact (fun z => by cases z)))).trans or1.1
      have f8 : M2 (A 7 (6 + k)) = some (eI g 5 U) := by rw [hM2]; exact (mu_n (fun z => by have := un1.2; rw [z, d1.2] at this; omega)).trans un1.1
      refine lv_iload C.1 C.2.1 dX5_give_94 (lv_at hl 0 rfl) ?_
      exact vx_ret (wr_iret () C hr hlocks hH hS (congrArg (fun z => some (Value.int z)) (hdv.trans ex1.symm)) (⟨⟨⟨⟨hp2, hp7⟩, hp12⟩, ⟨c17, hp36⟩, by rw [hdv, ← ex1]; exact c70⟩, by rw [hM2, hdv, ← ex1, ← ek]; exact up_give hI hed hk hi hj d1 d2⟩) (by decide) (by decide) dX5_give_96)
    · exact x_throw C hlx hout hlocks hE tw_156_197_160 hl.1 (Or.inr (Or.inr ⟨rfl, ⟨⟨hp2, hp7⟩, hp12⟩, ⟨c17, hp36⟩, fun z => c70 (by rw [ex1]; first | exact z | (rw [hdv] at z; exact z))⟩)) dX5_give_73 dX5_give_76 dX5_give_77 dX5_give_79 dX5_give_82 (by decide) (Nat.le_of_ble_eq_true rfl) (by decide) (by decide) (by decide) (by decide)
  · exact x_throw C hlx hout hlocks hE tw_134_188_138 hl.1 (Or.inr (Or.inl ⟨rfl, ⟨⟨hp2, hp7⟩, hp12⟩, fun z => z.1 (by simpa using c17)⟩)) dX5_give_20 dX5_give_23 dX5_give_24 dX5_give_26 dX5_give_29 (by decide) (Nat.le_of_ble_eq_true rfl) (by decide) (by decide) (by decide) (by decide)
set_option maxHeartbeats 4000000 in
set_option maxRecDepth 100000 in
theorem w_freshen {l : Launch} {g : gG} {M : Mp} {x : Nat} {tg : Nat → Nat} {A : Nat → Nat → Nat} {pr br : Nat → Bool} {np : Nat → Nat} {hh : Nat → Nat → Nat} {ne nb no : Nat} {sc : Nat → Int32} {ar : Nat → Nat → Int32} (hlx : l.stackTraces = false) (hI : RI g M x tg A pr br np hh ne nb no sc ar) (p0 : Int32) : vx_Met l yX5_freshen (WY yX5_freshen cX5_freshen 2 (some .int)) { frames := 8, cells := 1, slots := 6, locals := 124 } (Wc g M [.ref x, .int p0]) (wrQ (S := Unit) g (fun u_ => (some (.int (ar 8 p0.toNatClampNeg)))) (fun u_ M_ => (inx p0 nb) ∧ RIx g M_ M x tg (sc) (ua ar 8 (upd (ar 8) p0.toNatClampNeg 100)))) (xQ (fun E_ => E_ = xIO ∧ ¬ inx p0 nb)) 1 6 (gA g) := by
  refine ofX (by decide +kernel) (Nat.le_of_ble_eq_true rfl) (fun p e s m args below meth c ls C hr hlocks hout hE hH hl ea => ?_)
  have hl : lv_has ls 2 [(0, .ref x), (1, .int p0)] := hl
  have hS : va_S (gA g) s.heap s.heap [] := va_S.rf
  obtain ⟨-, iX, iE, iB, iO, iW, iL, iC⟩ := id hI
  have hne : ne < 2 ^ 31 := Nat.lt_of_le_of_lt iE.1 (by decide)
  have hnb : nb < 2 ^ 31 := Nat.lt_of_le_of_lt iB.1 (by decide)
  have hno : no < 2 ^ 31 := Nat.lt_of_le_of_lt iO.1 (by decide)
  have hed := ed_no hE hH
  refine lv_aload_n C.1 C.2.1 dX5_freshen_0 rfl (lv_at hl 0 rfl) ?_
  refine lv_iload_n C.1 C.2.1 dX5_freshen_1 rfl (lv_at hl 1 rfl) ?_
  refine xr_go1 (xrunV C hE hH hS (c_findBath hlx iX.1 (iB.2.1.1) (hnb) (fun j hj => by obtain ⟨⟨e, -, -, c1⟩, -⟩ := iB.2.2 j hj; exact ⟨_, c1.1⟩) p0) mv_X5_findBath wm_400 iX.1 rfl rfl hl.1 dX5_freshen_2 rfl rfl ⟨rfl, rfl⟩ ⟨Nat.le_of_ble_eq_true rfl, Nat.le_of_ble_eq_true rfl⟩ (Nat.le_of_ble_eq_true rfl) ⟨Nat.le_of_ble_eq_true rfl, Nat.le_of_ble_eq_true rfl⟩) (fun E ce q9 H1 hx9 hz9 ho9 hce hcv hcl => ?_) (fun hp2 => ?_)
  · exact x_pass hout hlocks (hx9) hz9 ho9 hce hcv hcl (by decide) (by decide)
  obtain ⟨j, ej⟩ : ∃ z : Nat, z = p0.toNatClampNeg := ⟨_, rfl⟩
  have hj : j < nb := by rw [ej]; exact inx_lt hp2 hnb
  rw [← ej]
  obtain ⟨⟨ej9, hej9, h7j, cj⟩, ⟨ybj, hybj, e6j⟩, hr8j, hlj, hHj⟩ := iB.2.2 j hj
  refine wr_go1 (runV C hE hH hS (c_B_renew cj.1) mv_X0_renew wm_515 cj.1 rfl rfl hl.1 dX5_freshen_5 rfl rfl ⟨rfl, rfl⟩ ⟨Nat.le_of_ble_eq_true rfl, Nat.le_of_ble_eq_true rfl⟩ (Nat.le_of_ble_eq_true rfl) ⟨Nat.le_of_ble_eq_true rfl, Nat.le_of_ble_eq_true rfl⟩) hS (fun u1 M2 H locs hM2 hH hS => ?_)
  exact vx_ret (wr_iret () C hr hlocks hH hS rfl (⟨hp2, by rw [hM2]; exact up_freshen hI hed hj hej9 h7j⟩) (by decide) (by decide) dX5_freshen_8)
theorem zblame_3 {a b c : Int32} : ∃ bl, bl < 3 ∧ zblame a b c = nI bl := by
  unfold zblame
  split
  · exact ⟨0, by decide, rfl⟩
  split
  · exact ⟨1, by decide, rfl⟩
  · exact ⟨2, by decide, rfl⟩
def zbl (ar : Nat → Nat → Int32) (o : Nat) : Int32 := zblame (zdst ar o 100 (ar 16 o) (ar 17 o) (ar 18 o)) (zdst ar o (ar 15 o) 0 (ar 17 o) (ar 18 o)) (zdst ar o (ar 15 o) (ar 16 o) 0 0)
def zbix (ar : Nat → Nat → Int32) (o : Nat) : Nat := 3 * (ar 6 (ar 14 o).toNatClampNeg).toNatClampNeg + (zbl ar o).toNatClampNeg
set_option maxHeartbeats 4000000 in
set_option maxRecDepth 100000 in
theorem w_claim {l : Launch} {g : gG} {M : Mp} {x : Nat} {tg : Nat → Nat} {A : Nat → Nat → Nat} {pr br : Nat → Bool} {np : Nat → Nat} {hh : Nat → Nat → Nat} {ne nb no : Nat} {sc : Nat → Int32} {ar : Nat → Nat → Int32} (hlx : l.stackTraces = false) (hI : RI g M x tg A pr br np hh ne nb no sc ar) (p0 : Int32) : vx_Met l yX5_claim (WY yX5_claim cX5_claim 5 (some .int)) { frames := 8, cells := 3, slots := 18, locals := 124 } (Wc g M [.ref x, .int p0]) (wrQ (S := Unit) g (fun u_ => (some (.int (zbl ar p0.toNatClampNeg)))) (fun u_ M_ => (inx p0 no ∧ ar 13 p0.toNatClampNeg = 1 ∧ ¬ zdst ar p0.toNatClampNeg (ar 15 p0.toNatClampNeg) (ar 16 p0.toNatClampNeg) (ar 17 p0.toNatClampNeg) (ar 18 p0.toNatClampNeg) ≤ ar 2 (zE ar p0.toNatClampNeg)) ∧ RIx g M_ M x tg (sc) (ua (ua ar 13 (upd (ar 13) p0.toNatClampNeg 2)) 19 (upd (ar 19) (zbix ar p0.toNatClampNeg) (ar 19 (zbix ar p0.toNatClampNeg) + 1))))) (xQ (fun E_ => E_ = xIO ∧ ¬ inx p0 no ∨ E_ = xIS ∧ inx p0 no ∧ ¬ (ar 13 p0.toNatClampNeg = 1 ∧ ¬ zdst ar p0.toNatClampNeg (ar 15 p0.toNatClampNeg) (ar 16 p0.toNatClampNeg) (ar 17 p0.toNatClampNeg) (ar 18 p0.toNatClampNeg) ≤ ar 2 (zE ar p0.toNatClampNeg)))) 3 18 (gA g) := by
  refine ofX (by decide +kernel) (Nat.le_of_ble_eq_true rfl) (fun p e s m args below meth c ls C hr hlocks hout hE hH hl ea => ?_)
  have hl : lv_has ls 5 [(0, .ref x), (1, .int p0)] := hl
  have hS : va_S (gA g) s.heap s.heap [] := va_S.rf
  obtain ⟨-, iX, iE, iB, iO, iW, iL, iC⟩ := id hI
  have hne : ne < 2 ^ 31 := Nat.lt_of_le_of_lt iE.1 (by decide)
  have hnb : nb < 2 ^ 31 := Nat.lt_of_le_of_lt iB.1 (by decide)
  have hno : no < 2 ^ 31 := Nat.lt_of_le_of_lt iO.1 (by decide)
  have hed := ed_no hE hH
  refine lv_aload_n C.1 C.2.1 dX5_claim_0 rfl (lv_at hl 0 rfl) ?_
  refine lv_iload_n C.1 C.2.1 dX5_claim_1 rfl (lv_at hl 1 rfl) ?_
  refine xr_go1 (xrunV C hE hH hS (c_findOrder hlx iX.1 (iO.2.1.1) (hno) (fun j hj => by obtain ⟨e, y, -, -, -, -, -, -, c1, -⟩ := iO.2.2.2 j hj; exact ⟨_, c1.1⟩) p0) mv_X5_findOrder wm_395 iX.1 rfl rfl hl.1 dX5_claim_2 rfl rfl ⟨rfl, rfl⟩ ⟨Nat.le_of_ble_eq_true rfl, Nat.le_of_ble_eq_true rfl⟩ (Nat.le_of_ble_eq_true rfl) ⟨Nat.le_of_ble_eq_true rfl, Nat.le_of_ble_eq_true rfl⟩) (fun E ce q9 H1 hx9 hz9 ho9 hce hcv hcl => ?_) (fun hp2 => ?_)
  · exact x_pass hout hlocks (Or.inl hx9) hz9 ho9 hce hcv hcl (by decide) (by decide)
  obtain ⟨j, ej⟩ : ∃ z : Nat, z = p0.toNatClampNeg := ⟨_, rfl⟩
  have hj : j < no := by rw [ej]; exact inx_lt hp2 hno
  rw [← ej]
  obtain ⟨ej9, yj9, hej9, h10j, hr11j, hyj9, h12j, h13j, cj, hPj⟩ := iO.2.2.2 j hj
  refine lv_astore_n (lv' := [(2, .ref (A 5 j)), (0, .ref x), (1, .int p0)]) C.1 C.2.1 dX5_claim_5 rfl hl (by decide) rfl (fun ls hl => ?_)
  refine lv_aload_n C.1 C.2.1 dX5_claim_6 rfl (lv_at hl 0 rfl) ?_
  refine xr_go1 (xrunS C hE hH hS (c_pieceOf hlx cj.1) mv_X5_pieceOf wm_642 hl.1 dX5_claim_7 rfl rfl ⟨rfl, rfl⟩ ⟨Nat.le_of_ble_eq_true rfl, Nat.le_of_ble_eq_true rfl⟩ (Nat.le_of_ble_eq_true rfl) ⟨Nat.le_of_ble_eq_true rfl, Nat.le_of_ble_eq_true rfl⟩) (fun E ce q9 H1 hx9 hz9 ho9 hce hcv hcl => ?_) (fun hp7 => ?_)
  · exact x_pass hout hlocks (Or.inr ⟨hx9.1, hp2, fun z => by rw [ite_no hx9.2] at z; exact absurd z.1 (by decide)⟩) hz9 ho9 hce hcv hcl (by decide) (by decide)
  have hsj : ¬ ar 13 j = 0 := fun z => hp7 (if_pos z)
  rw [if_neg hsj]
  obtain ⟨bj9, tj9, hbj9, h14j, htj9, hhj9, cpj, hqj⟩ := hPj hsj
  obtain ⟨⟨eb9, heb9, -, cbj⟩, ⟨yd, hyd, e6d⟩, -, -, -⟩ := iB.2.2 bj9 hbj9
  obtain ⟨⟨orow, a1, b1⟩, h2⟩ := id iL
  obtain ⟨f, d1, d2⟩ := h2 _ hyd
  have cj2 := cj.1
  rw [if_neg hsj] at cj2
  have hzE : zE ar j = ej9 := zE_at h10j (by omega)
  have hzd : ∀ k w y1 y2, zdst ar j k w y1 y2 = zod (ar 1 (2 * ej9)) (ar 1 (2 * ej9 + 1)) k w y1 y2 := fun k w y1 y2 => by unfold zdst; rw [hzE]
  refine lv_astore_n (lv' := [(3, .ref (A 6 j)), (2, .ref (A 5 j)), (0, .ref x), (1, .int p0)]) C.1 C.2.1 dX5_claim_10 rfl hl (by decide) rfl (fun ls hl => ?_)
  refine lv_aload_n C.1 C.2.1 dX5_claim_11 rfl (lv_at hl 1 rfl) ?_
  refine mget C hE hH fl_576 cj2 rfl dX5_claim_12 ?_
  refine lv_if_ne (tgt := 25) C.1 C.2.1 dX5_claim_15 (by decide) (fun c15 => ?_) (fun c15 => ?_)
  · exact x_throw C hlx hout hlocks hE tw_156_158_160 hl.1 (Or.inr ⟨rfl, hp2, fun z => absurd (z.1.symm.trans (bI_nz c15)) (by decide)⟩) dX5_claim_25 dX5_claim_28 dX5_claim_29 dX5_claim_31 dX5_claim_34 (by decide) (Nat.le_of_ble_eq_true rfl) (by decide) (by decide) (by decide) (by decide)
  · refine lv_aload_n C.1 C.2.1 dX5_claim_18 rfl (lv_at hl 0 rfl) ?_
    refine rd_go1 (runV C hE hH hS (c_P_isOff cpj.1 (iE.2.2 ej9 hej9).1.1) mv_X4_isOff wm_646 cpj.1 rfl rfl hl.1 dX5_claim_19 rfl rfl ⟨rfl, rfl⟩ ⟨Nat.le_of_ble_eq_true rfl, Nat.le_of_ble_eq_true rfl⟩ (Nat.le_of_ble_eq_true rfl) ⟨Nat.le_of_ble_eq_true rfl, Nat.le_of_ble_eq_true rfl⟩) ?_
    refine lv_if_ne (tgt := 35) C.1 C.2.1 dX5_claim_22 (by decide) (fun c22 => ?_) (fun c22 => ?_)
    · refine lv_aload_n C.1 C.2.1 dX5_claim_35 rfl (lv_at hl 0 rfl) ?_
      refine rd_go1 (runV C hE hH hS (c_P_toBlame cpj.1 (iE.2.2 ej9 hej9).1.1) mv_X4_toBlame wm_652 cpj.1 rfl rfl hl.1 dX5_claim_36 rfl rfl ⟨rfl, rfl⟩ ⟨Nat.le_of_ble_eq_true rfl, Nat.le_of_ble_eq_true rfl⟩ (Nat.le_of_ble_eq_true rfl) ⟨Nat.le_of_ble_eq_true rfl, Nat.le_of_ble_eq_true rfl⟩) ?_
      refine lv_topi (fun x1 ex1 => ?_)
      refine lv_istore (lv' := [(4, .int x1), (3, .ref (A 6 j)), (2, .ref (A 5 j)), (0, .ref x), (1, .int p0)]) C.1 C.2.1 dX5_claim_39 hl (by decide) rfl (fun ls hl => ?_)
      have hzb : zbl ar j = x1 := by unfold zbl; rw [hzd, hzd, hzd]; exact ex1.symm
      obtain ⟨bl, hbl, ebl⟩ : ∃ bl, bl < 3 ∧ x1 = nI bl := by rw [ex1]; exact zblame_3
      have hx1n : x1.toNatClampNeg = bl := by rw [ebl, nI_clamp (by omega)]
      have hix : zbix ar j = 3 * yd + bl := by unfold zbix; rw [hzb, hx1n, h14j, nI_clamp (by omega), e6d, nI_clamp (by omega)]
      have hs1 : ar 13 j = 1 := (h13j.resolve_left hsj).resolve_right (bI_z.mp c15)
      refine lv_aload_n C.1 C.2.1 dX5_claim_41 rfl (lv_at hl 2 rfl) ?_
      refine lv_iconst (v := 1) C.1 C.2.1 dX5_claim_42 rfl ?_
      refine mput (fs' := [.int (nI j), .ref (A 3 ej9), .int (ar 11 j), .int (ar 12 j), .ref (A 6 j), .int 1]) C hE hH hS fl_576 cj2 rfl rfl rfl (Nat.le_of_ble_eq_true rfl) dX5_claim_43 (fun H locs hH hS => ?_)
      obtain ⟨M2, hM2⟩ : ∃ z, z = mu M (A 5 j) (eO 4 [.int (nI j), .ref (A 3 ej9), .int (ar 11 j), .int (ar 12 j), .ref (A 6 j), .int 1]) := ⟨_, rfl⟩
      have hH : Hw g M2 H := by rw [hM2]; exact hH
      have f3 : M2 (A 5 j) = some (eO 4 [.int (nI j), .ref (A 3 ej9), .int (ar 11 j), .int (ar 12 j), .ref (A 6 j), .int 1]) := by rw [hM2]; exact mu_s
      have f4 : M2 x = some (eO 6 [.ref (A 1 0), .ref (A 1 1), .ref (A 1 2), .ref (A 7 0), .ref (A 7 1), .ref (A 7 2), .ref (A 8 0), .ref (A 9 0)]) := by rw [hM2]; exact (mu_n (m_ne iX.1 cj2 (by first | (intro z; cases z; done) | exact ne_IQ | exact ne_IQ.symm | exact ne_LI | exact ne_LI.symm | (intro z; cases z; omega) | (intro z; cases z; contradiction) | exact (fun z => by cases z)))).trans iX.1
      have f5 : M2 (A 3 ej9) = some (eO 3 [.int (nI ej9), .int (ar 1 (2 * ej9)), .int (ar 1 (2 * ej9 + 1)), .int (ar 2 ej9)]) := by rw [hM2]; exact (mu_n (m_ne (iE.2.2 ej9 hej9).1.1 cj2 (by first | (intro z; cases z; done) | exact ne_IQ | exact ne_IQ.symm | exact ne_LI | exact ne_LI.symm | (intro z; cases z; omega) | (intro z; cases z; contradiction) | exact (fun z => by cases z)))).trans (iE.2.2 ej9 hej9).1.1
      have f6 : M2 (A 6 j) = some (eO 5 [.int (nI j), .ref (A 3 ej9), .int (ar 11 j), .ref (A 4 bj9), .int (bI (pr j)), .int (ar 15 j), .int (ar 16 j), .int (ar 17 j), .int (ar 18 j)]) := by rw [hM2]; exact (mu_n (m_ne cpj.1 cj2 (by first | (intro z; cases z; done) | exact ne_IQ | exact ne_IQ.symm | exact ne_LI | exact ne_LI.symm | (intro z; cases z; omega) | (intro z; cases z; contradiction) | exact (fun z => by cases z)))).trans cpj.1
      have f7 : M2 (A 4 bj9) = some (eO 1 [.int (ar 6 bj9), .ref (A 3 eb9), .int (ar 8 bj9), .int (bI (br bj9)), .ref (A 1 (3 + bj9))]) := by rw [hM2]; exact (mu_n (m_ne cbj.1 cj2 (by first | (intro z; cases z; done) | exact ne_IQ | exact ne_IQ.symm | exact ne_LI | exact ne_LI.symm | (intro z; cases z; omega) | (intro z; cases z; contradiction) | exact (fun z => by cases z)))).trans cbj.1
      have f8 : M2 (A 8 0) = some (eQ g 4 3 orow) := by rw [hM2]; exact (mu_n (m_ne a1.1 cj2 (by first | (intro z; cases z; done) | exact ne_IQ | exact ne_IQ.symm | exact ne_LI | exact ne_LI.symm | (intro z; cases z; omega) | (intro z; cases z; contradiction) | exact (fun z => by cases z)))).trans a1.1
      have f9 : M2 (A 7 (3 + yd)) = some (eI g 3 f) := by rw [hM2]; exact (mu_n (m_ne d1.1 cj2 (by first | (intro z; cases z; done) | exact ne_IQ | exact ne_IQ.symm | exact ne_LI | exact ne_LI.symm | (intro z; cases z; omega) | (intro z; cases z; contradiction) | exact (fun z => by cases z)))).trans d1.1
      refine lv_aload_n C.1 C.2.1 dX5_claim_46 rfl (lv_at hl 3 rfl) ?_
      refine mget C hE hH fl_98 f4 rfl dX5_claim_47 ?_
      refine lv_aload_n C.1 C.2.1 dX5_claim_50 rfl (lv_at hl 1 rfl) ?_
      refine mget C hE hH fl_429 f6 rfl dX5_claim_51 ?_
      refine mget C hE hH fl_371 f7 rfl dX5_claim_54 ?_
      refine maldq (k := 4) (y := (A 7 (3 + yd))) C hE hH f8 rfl rfl (by rw [e6d]; exact vp_in_nI hyd (by decide)) (by rw [e6d, nI_clamp (by omega)]; exact b1 _ hyd) dX5_claim_57 ?_
      refine lv_iload C.1 C.2.1 dX5_claim_58 (lv_at hl 0 rfl) ?_
      refine lv_dup2_11 C.1 C.2.1 dX5_claim_60 rfl rfl ?_
      refine mald C hE hH f9 (by rw [ebl]; exact vp_in_nI hbl (by decide)) dX5_claim_61 ?_
      rw [hx1n]
      refine lv_iconst (v := 1) C.1 C.2.1 dX5_claim_62 rfl ?_
      refine lv_iadd C.1 C.2.1 dX5_claim_63 ?_
      refine mast C hE hH hS f9 (by rw [ebl]; exact vp_in_nI hbl (by decide)) dX5_claim_64 (fun H locs hH hS => ?_)
      rw [hx1n] at hH
      obtain ⟨M10, hM10⟩ : ∃ z, z = mu M2 (A 7 (3 + yd)) (eI g 3 (upd f bl ((f bl) + 1))) := ⟨_, rfl⟩
      have hH : Hw g M10 H := by rw [hM10]; exact hH
      have f11 : M10 (A 7 (3 + yd)) = some (eI g 3 (upd f bl ((f bl) + 1))) := by rw [hM10]; exact mu_s
      have f12 : M10 x = some (eO 6 [.ref (A 1 0), .ref (A 1 1), .ref (A 1 2), .ref (A 7 0), .ref (A 7 1), .ref (A 7 2), .ref (A 8 0), .ref (A 9 0)]) := by rw [hM10]; exact (mu_n (m_ne f4 f9 (by first | (intro z; cases z; done) | exact ne_IQ | exact ne_IQ.symm | exact ne_LI | exact ne_LI.symm | (intro z; cases z; omega) | (intro z; cases z; contradiction) | exact (fun z => by cases z)))).trans f4
      have f13 : M10 (A 3 ej9) = some (eO 3 [.int (nI ej9), .int (ar 1 (2 * ej9)), .int (ar 1 (2 * ej9 + 1)), .int (ar 2 ej9)]) := by rw [hM10]; exact (mu_n (m_ne f5 f9 (by first | (intro z; cases z; done) | exact ne_IQ | exact ne_IQ.symm | exact ne_LI | exact ne_LI.symm | (intro z; cases z; omega) | (intro z; cases z; contradiction) | exact (fun z => by cases z)))).trans f5
      have f14 : M10 (A 6 j) = some (eO 5 [.int (nI j), .ref (A 3 ej9), .int (ar 11 j), .ref (A 4 bj9), .int (bI (pr j)), .int (ar 15 j), .int (ar 16 j), .int (ar 17 j), .int (ar 18 j)]) := by rw [hM10]; exact (mu_n (m_ne f6 f9 (by first | (intro z; cases z; done) | exact ne_IQ | exact ne_IQ.symm | exact ne_LI | exact ne_LI.symm | (intro z; cases z; omega) | (intro z; cases z; contradiction) | exact (fun z => by cases z)))).trans f6
      have f15 : M10 (A 4 bj9) = some (eO 1 [.int (ar 6 bj9), .ref (A 3 eb9), .int (ar 8 bj9), .int (bI (br bj9)), .ref (A 1 (3 + bj9))]) := by rw [hM10]; exact (mu_n (m_ne f7 f9 (by first | (intro z; cases z; done) | exact ne_IQ | exact ne_IQ.symm | exact ne_LI | exact ne_LI.symm | (intro z; cases z; omega) | (intro z; cases z; contradiction) | exact (fun z => by cases z)))).trans f7
      have f16 : M10 (A 8 0) = some (eQ g 4 3 orow) := by rw [hM10]; exact (mu_n (m_ne f8 f9 (by first | (intro z; cases z; done) | exact ne_IQ | exact ne_IQ.symm | exact ne_LI | exact ne_LI.symm | (intro z; cases z; omega) | (intro z; cases z; contradiction) | exact (fun z => by cases z)))).trans f8
      have f17 : M10 (A 5 j) = some (eO 4 [.int (nI j), .ref (A 3 ej9), .int (ar 11 j), .int (ar 12 j), .ref (A 6 j), .int 1]) := by rw [hM10]; exact (mu_n (m_ne f3 f9 (by first | (intro z; cases z; done) | exact ne_IQ | exact ne_IQ.symm | exact ne_LI | exact ne_LI.symm | (intro z; cases z; omega) | (intro z; cases z; contradiction) | exact (fun z => by cases z)))).trans f3
      refine lv_iload C.1 C.2.1 dX5_claim_65 (lv_at hl 0 rfl) ?_
      exact vx_ret (wr_iret () C hr hlocks hH hS (congrArg (fun z => some (Value.int z)) (hzb)) (⟨⟨hp2, hs1, by rw [hzd, hzE]; exact bI_nz c22⟩, by rw [hM10, hM2, hix, d2 bl hbl]; exact up_claim (y := 0) hI hed hj hej9 h10j hs1 hyd hbl d1 d2⟩) (by decide) (by decide) dX5_claim_67)
    · exact x_throw C hlx hout hlocks hE tw_156_158_160 hl.1 (Or.inr ⟨rfl, hp2, fun z => bI_z.mp c22 (by have z2 := z.2; rw [hzd, hzE] at z2; exact z2)⟩) dX5_claim_25 dX5_claim_28 dX5_claim_29 dX5_claim_31 dX5_claim_34 (by decide) (Nat.le_of_ble_eq_true rfl) (by decide) (by decide) (by decide) (by decide)
theorem Lst_new2 {g : gG} {M M2 : Mp} {a d k q : Nat} {f : Nat → Nat} {e1 e2 : va_E} (h : Lst g M a d k f) (hq : M q = none) (hg : g.1 ≤ q) (hed : ¬ g.1 ≤ g.2.2.2 0) (hM : M2 = mu M q e2) : Lst g M2 a d k f := by rw [hM]; exact Lst_new h hq hg hed
set_option maxHeartbeats 4000000 in
set_option maxRecDepth 100000 in
theorem w_entry {l : Launch} {g : gG} {M : Mp} {x : Nat} {tg : Nat → Nat} {A : Nat → Nat → Nat} {pr br : Nat → Bool} {np : Nat → Nat} {hh : Nat → Nat → Nat} {ne nb no : Nat} {sc : Nat → Int32} {ar : Nat → Nat → Int32} (hlx : l.stackTraces = false) (hI : RI g M x tg A pr br np hh ne nb no sc ar) (p0 p1 p2 : Int32) : vx_Met l yX5_entry (WY yX5_entry cX5_entry 5 (some .int)) { frames := 7, cells := 6, slots := 228, locals := 191 } (Wc g M [.ref x, .int p0, .int p1, .int p2]) (wrQ (S := Unit) g (fun u_ => (some (.int (sc 0)))) (fun u_ M_ => (((inr p0 0 60 ∧ inr p1 0 60) ∧ inr p2 0 20) ∧ sc 0 < 12) ∧ RIx g M_ M x tg (us sc 0 (sc 0 + 1)) (ua (ua ar 1 (upd (upd (ar 1) (2 * (sc 0).toNatClampNeg) p0) (2 * (sc 0).toNatClampNeg + 1) p1)) 2 (upd (ar 2) (sc 0).toNatClampNeg p2)))) (xQ (fun E_ => E_ = xIA ∧ ¬ ((inr p0 0 60 ∧ inr p1 0 60) ∧ inr p2 0 20) ∨ E_ = xIS ∧ ((inr p0 0 60 ∧ inr p1 0 60) ∧ inr p2 0 20) ∧ ¬ sc 0 < 12)) 6 228 (gA g) := by
  refine ofX (by decide +kernel) (Nat.le_of_ble_eq_true rfl) (fun p e s m args below meth c ls C hr hlocks hout hE hH hl ea => ?_)
  have hl : lv_has ls 5 [(0, .ref x), (1, .int p0), (2, .int p1), (3, .int p2)] := hl
  have hS : va_S (gA g) s.heap s.heap [] := va_S.rf
  obtain ⟨-, iX, iE, iB, iO, iW, iL, iC⟩ := id hI
  have hne : ne < 2 ^ 31 := Nat.lt_of_le_of_lt iE.1 (by decide)
  have hnb : nb < 2 ^ 31 := Nat.lt_of_le_of_lt iB.1 (by decide)
  have hno : no < 2 ^ 31 := Nat.lt_of_le_of_lt iO.1 (by decide)
  have hed := ed_no hE hH
  refine lv_iload_n C.1 C.2.1 dX5_entry_0 rfl (lv_at hl 1 rfl) ?_
  refine lv_iconst (v := 0) C.1 C.2.1 dX5_entry_1 rfl ?_
  refine lv_bipush (v := 60) C.1 C.2.1 dX5_entry_2 rfl ?_
  refine xr_go0 (xrunS C hE hH hS (c_reqRange hlx p0 0 60) mv_X5_requireRange wm_136 hl.1 dX5_entry_4 rfl rfl ⟨rfl, rfl⟩ ⟨Nat.le_of_ble_eq_true rfl, Nat.le_of_ble_eq_true rfl⟩ (Nat.le_of_ble_eq_true rfl) ⟨Nat.le_of_ble_eq_true rfl, Nat.le_of_ble_eq_true rfl⟩) (fun E ce q9 H1 hx9 hz9 ho9 hce hcv hcl => ?_) (fun hp4 => ?_)
  · exact x_pass hout hlocks (Or.inl ⟨hx9.1, fun z => hx9.2 z.1.1⟩) hz9 ho9 hce hcv hcl (by decide) (by decide)
  refine lv_iload_n C.1 C.2.1 dX5_entry_7 rfl (lv_at hl 2 rfl) ?_
  refine lv_iconst (v := 0) C.1 C.2.1 dX5_entry_8 rfl ?_
  refine lv_bipush (v := 60) C.1 C.2.1 dX5_entry_9 rfl ?_
  refine xr_go0 (xrunS C hE hH hS (c_reqRange hlx p1 0 60) mv_X5_requireRange wm_136 hl.1 dX5_entry_11 rfl rfl ⟨rfl, rfl⟩ ⟨Nat.le_of_ble_eq_true rfl, Nat.le_of_ble_eq_true rfl⟩ (Nat.le_of_ble_eq_true rfl) ⟨Nat.le_of_ble_eq_true rfl, Nat.le_of_ble_eq_true rfl⟩) (fun E ce q9 H1 hx9 hz9 ho9 hce hcv hcl => ?_) (fun hp11 => ?_)
  · exact x_pass hout hlocks (Or.inl ⟨hx9.1, fun z => hx9.2 z.1.2⟩) hz9 ho9 hce hcv hcl (by decide) (by decide)
  refine lv_iload_n C.1 C.2.1 dX5_entry_14 rfl (lv_at hl 3 rfl) ?_
  refine lv_iconst (v := 0) C.1 C.2.1 dX5_entry_15 rfl ?_
  refine lv_bipush (v := 20) C.1 C.2.1 dX5_entry_16 rfl ?_
  refine xr_go0 (xrunS C hE hH hS (c_reqRange hlx p2 0 20) mv_X5_requireRange wm_136 hl.1 dX5_entry_18 rfl rfl ⟨rfl, rfl⟩ ⟨Nat.le_of_ble_eq_true rfl, Nat.le_of_ble_eq_true rfl⟩ (Nat.le_of_ble_eq_true rfl) ⟨Nat.le_of_ble_eq_true rfl, Nat.le_of_ble_eq_true rfl⟩) (fun E ce q9 H1 hx9 hz9 ho9 hce hcv hcl => ?_) (fun hp18 => ?_)
  · exact x_pass hout hlocks (Or.inl ⟨hx9.1, fun z => hx9.2 z.2⟩) hz9 ho9 hce hcv hcl (by decide) (by decide)
  obtain ⟨md9, hL0, -⟩ := id iE.2.1.1
  refine lv_aload_n C.1 C.2.1 dX5_entry_21 rfl (lv_at hl 0 rfl) ?_
  refine mget C hE hH fl_92 iX.1 rfl dX5_entry_22 ?_
  refine rd_go1 (runV C hE hH hS (c_L_size hL0) mv_Jx4a65c_size_8abf5 wm_208 hL0 rfl rfl hl.1 dX5_entry_25 rfl rfl ⟨rfl, rfl⟩ ⟨Nat.le_of_ble_eq_true rfl, Nat.le_of_ble_eq_true rfl⟩ (Nat.le_of_ble_eq_true rfl) ⟨Nat.le_of_ble_eq_true rfl, Nat.le_of_ble_eq_true rfl⟩) ?_
  refine lv_istore (lv' := [(4, .int (nI ne)), (0, .ref x), (1, .int p0), (2, .int p1), (3, .int p2)]) C.1 C.2.1 dX5_entry_28 hl (by decide) rfl (fun ls hl => ?_)
  refine lv_iload C.1 C.2.1 dX5_entry_30 (lv_at hl 0 rfl) ?_
  refine lv_bipush (v := 12) C.1 C.2.1 dX5_entry_32 rfl ?_
  refine xr_go0 (xrunS C hE hH hS (c_reqRoom hlx (nI ne) 12) mv_X5_requireRoom wm_212 hl.1 dX5_entry_34 rfl rfl ⟨rfl, rfl⟩ ⟨Nat.le_of_ble_eq_true rfl, Nat.le_of_ble_eq_true rfl⟩ (Nat.le_of_ble_eq_true rfl) ⟨Nat.le_of_ble_eq_true rfl, Nat.le_of_ble_eq_true rfl⟩) (fun E ce q9 H1 hx9 hz9 ho9 hce hcv hcl => ?_) (fun hp34 => ?_)
  · exact x_pass hout hlocks (Or.inr ⟨hx9.1, ⟨⟨hp4, hp11⟩, hp18⟩, fun z => hx9.2 (by rw [← hI.1.1]; exact z)⟩) hz9 ho9 hce hcv hcl (by decide) (by decide)
  have hn9 : ne < 12 := (nI_ltI hne (by decide)).mp hp34
  refine lv_aload_n C.1 C.2.1 dX5_entry_37 rfl (lv_at hl 1 rfl) ?_
  refine mget C hE hH fl_92 iX.1 rfl dX5_entry_38 ?_
  refine mnew (C := C) (hE := hE) (hH := hH) (hS := hS) (F := cb_RX2) (h1 := wm_231) (h2 := wm_232) (h3 := wm_23) (by decide) (by decide) dX5_entry_41 (fun q1 H nq1 gq1 hH hS => ?_)
  obtain ⟨M2, hM2⟩ : ∃ z, z = mu M q1 (eO 3 [.int 0, .int 0, .int 0, .int 0]) := ⟨_, rfl⟩
  have hH : Hw g M2 H := by rw [hM2]; exact hH
  have f3 : M2 q1 = some (eO 3 [.int 0, .int 0, .int 0, .int 0]) := by rw [hM2]; exact mu_s
  have f4 : M2 x = some (eO 6 [.ref (A 1 0), .ref (A 1 1), .ref (A 1 2), .ref (A 7 0), .ref (A 7 1), .ref (A 7 2), .ref (A 8 0), .ref (A 9 0)]) := by rw [hM2]; exact (mu_n (m_new nq1 iX.1)).trans iX.1
  have f5 : M2 (A 1 0) = some (eO 0 [.int md9, .ref (A 2 0), .int (nI ne)]) := by rw [hM2]; exact (mu_n (m_new nq1 hL0)).trans hL0
  refine lv_dup C.1 C.2.1 dX5_entry_44 rfl ?_
  refine lv_iload C.1 C.2.1 dX5_entry_45 (lv_at hl 0 rfl) ?_
  refine lv_iload_n C.1 C.2.1 dX5_entry_47 rfl (lv_at hl 2 rfl) ?_
  refine lv_iload_n C.1 C.2.1 dX5_entry_48 rfl (lv_at hl 3 rfl) ?_
  refine lv_iload_n C.1 C.2.1 dX5_entry_49 rfl (lv_at hl 4 rfl) ?_
  refine wr_go0 (runI C hE hH hS (c_E_init f3 (nI ne) p0 p1 p2) mv_X2_init wm_233 hl.1 dX5_entry_50 rfl rfl ⟨rfl, rfl⟩ ⟨Nat.le_of_ble_eq_true rfl, Nat.le_of_ble_eq_true rfl⟩ (Nat.le_of_ble_eq_true rfl) ⟨Nat.le_of_ble_eq_true rfl, Nat.le_of_ble_eq_true rfl⟩) hS (fun u6 M7 H locs hM7 hH hS => ?_)
  have f8 : M7 q1 = some (eO 3 [.int (nI ne), .int p0, .int p1, .int p2]) := by rw [hM7]; exact mu_s
  have f9 : M7 x = some (eO 6 [.ref (A 1 0), .ref (A 1 1), .ref (A 1 2), .ref (A 7 0), .ref (A 7 1), .ref (A 7 2), .ref (A 8 0), .ref (A 9 0)]) := by rw [hM7]; exact (mu_n (m_new nq1 iX.1)).trans f4
  have f10 : M7 (A 1 0) = some (eO 0 [.int md9, .ref (A 2 0), .int (nI ne)]) := by rw [hM7]; exact (mu_n (m_new nq1 hL0)).trans f5
  have hM5 : M7 = mu M q1 (eO 3 [.int (nI ne), .int p0, .int p1, .int p2]) := by rw [hM7, hM2, mu_mu]
  have hL5 := Lst_new2 (e1 := eO 0 []) iE.2.1.1 nq1 gq1 (gE_ed hE) hM5
  have hel0 : ∀ j, j < ne → ∃ vs, M (A 3 j) = some (eO 3 vs) := (fun j hj => ⟨_, (iE.2.2 j hj).1.1⟩)
  have hel5 : ∀ j, j < ne → ∃ vs, M7 (A 3 j) = some (eO 3 vs) := fun j hj => by obtain ⟨vs, hv⟩ := hel0 j hj; exact ⟨vs, by rw [hM5, mu_n (m_new nq1 hv)]; exact hv⟩
  refine wr_go1 (runV C hE hH hS (c_add (r := (RX2, TX2, 4)) hL5 (by omega) f8 rfl (gE_cas (x := "DyeRing$Entry") (by decide)) (by decide) hel5) mv_Jx4a65c_add_9ea2d wm_255 f10 rfl rfl hl.1 dX5_entry_53 rfl rfl ⟨rfl, rfl⟩ ⟨Nat.le_of_ble_eq_true rfl, Nat.le_of_ble_eq_true rfl⟩ (Nat.le_of_ble_eq_true rfl) ⟨Nat.le_of_ble_eq_true rfl, Nat.le_of_ble_eq_true rfl⟩) hS (fun u11 M12 H locs hM12 hH hS => ?_)
  have f13 : M12 x = some (eO 6 [.ref (A 1 0), .ref (A 1 1), .ref (A 1 2), .ref (A 7 0), .ref (A 7 1), .ref (A 7 2), .ref (A 8 0), .ref (A 9 0)]) := ladd_keep hL5 hM12 f9 (by intro fs z; cases z) (by intro n r z; cases z)
  have f14 : M12 q1 = some (eO 3 [.int (nI ne), .int p0, .int p1, .int p2]) := ladd_keep hL5 hM12 f8 (by intro fs z; cases z) (by intro n r z; cases z)
  refine lv_pop C.1 C.2.1 dX5_entry_56 rfl ?_
  refine lv_iload C.1 C.2.1 dX5_entry_57 (lv_at hl 0 rfl) ?_
  exact vx_ret (wr_iret () C hr hlocks hH hS (congrArg (fun z => some (Value.int z)) (hI.1.1)) (⟨⟨⟨⟨hp4, hp11⟩, hp18⟩, by rw [hI.1.1]; exact hp34⟩, by have h9 := hM12; rw [hM5] at h9; rw [hI.1.1, nI_1, nI_clamp hne]; exact up_entry hI hed nq1 gq1 (gE_ed hE) h9 (ed_no hE hH) hn9 (rng_of (a := 0) (b := 60) hp4 (by decide) (by decide)) (rng_of (a := 0) (b := 60) hp11 (by decide) (by decide)) (rng_of (a := 0) (b := 20) hp18 (by decide) (by decide))⟩) (by decide) (by decide) dX5_entry_59)
set_option maxHeartbeats 4000000 in
set_option maxRecDepth 100000 in
theorem w_order {l : Launch} {g : gG} {M : Mp} {x : Nat} {tg : Nat → Nat} {A : Nat → Nat → Nat} {pr br : Nat → Bool} {np : Nat → Nat} {hh : Nat → Nat → Nat} {ne nb no : Nat} {sc : Nat → Int32} {ar : Nat → Nat → Int32} (hlx : l.stackTraces = false) (hI : RI g M x tg A pr br np hh ne nb no sc ar) (p0 p1 p2 : Int32) : vx_Met l yX5_order (WY yX5_order cX5_order 6 (some .int)) { frames := 8, cells := 6, slots := 230, locals := 191 } (Wc g M [.ref x, .int p0, .int p1, .int p2]) (wrQ (S := Unit) g (fun u_ => (some (.int (sc 9)))) (fun u_ M_ => (((inx p0 ne ∧ inx p2 4) ∧ inr p1 1 40) ∧ sc 9 < 40) ∧ RIx g M_ M x tg (us sc 9 (sc 9 + 1)) (ua (ua (ua ar 10 (upd (ar 10) (sc 9).toNatClampNeg p0)) 11 (upd (ar 11) (sc 9).toNatClampNeg p1)) 12 (upd (ar 12) (sc 9).toNatClampNeg p2)))) (xQ (fun E_ => E_ = xIO ∧ ¬ (inx p0 ne ∧ inx p2 4) ∨ E_ = xIA ∧ (inx p0 ne ∧ inx p2 4) ∧ ¬ inr p1 1 40 ∨ E_ = xIS ∧ (inx p0 ne ∧ inx p2 4) ∧ inr p1 1 40 ∧ ¬ sc 9 < 40)) 6 230 (gA g) := by
  refine ofX (by decide +kernel) (Nat.le_of_ble_eq_true rfl) (fun p e s m args below meth c ls C hr hlocks hout hE hH hl ea => ?_)
  have hl : lv_has ls 6 [(0, .ref x), (1, .int p0), (2, .int p1), (3, .int p2)] := hl
  have hS : va_S (gA g) s.heap s.heap [] := va_S.rf
  obtain ⟨-, iX, iE, iB, iO, iW, iL, iC⟩ := id hI
  have hne : ne < 2 ^ 31 := Nat.lt_of_le_of_lt iE.1 (by decide)
  have hnb : nb < 2 ^ 31 := Nat.lt_of_le_of_lt iB.1 (by decide)
  have hno : no < 2 ^ 31 := Nat.lt_of_le_of_lt iO.1 (by decide)
  have hed := ed_no hE hH
  refine lv_aload_n C.1 C.2.1 dX5_order_0 rfl (lv_at hl 0 rfl) ?_
  refine lv_iload_n C.1 C.2.1 dX5_order_1 rfl (lv_at hl 1 rfl) ?_
  refine xr_go1 (xrunV C hE hH hS (c_findEntry hlx iX.1 (iE.2.1.1) (hne) (fun j hj => ⟨_, (iE.2.2 j hj).1.1⟩) p0) mv_X5_findEntry wm_344 iX.1 rfl rfl hl.1 dX5_order_2 rfl rfl ⟨rfl, rfl⟩ ⟨Nat.le_of_ble_eq_true rfl, Nat.le_of_ble_eq_true rfl⟩ (Nat.le_of_ble_eq_true rfl) ⟨Nat.le_of_ble_eq_true rfl, Nat.le_of_ble_eq_true rfl⟩) (fun E ce q9 H1 hx9 hz9 ho9 hce hcv hcl => ?_) (fun hp2 => ?_)
  · exact x_pass hout hlocks (Or.inl ⟨hx9.1, fun z => hx9.2 z.1⟩) hz9 ho9 hce hcv hcl (by decide) (by decide)
  obtain ⟨u, eu⟩ : ∃ z : Nat, z = p0.toNatClampNeg := ⟨_, rfl⟩
  have hu : u < ne := by rw [eu]; exact inx_lt hp2 hne
  rw [← eu]
  refine lv_astore (lv' := [(4, .ref (A 3 u)), (0, .ref x), (1, .int p0), (2, .int p1), (3, .int p2)]) C.1 C.2.1 dX5_order_5 hl (by decide) rfl (fun ls hl => ?_)
  refine lv_iload_n C.1 C.2.1 dX5_order_7 rfl (lv_at hl 4 rfl) ?_
  refine lv_iconst (v := 4) C.1 C.2.1 dX5_order_8 rfl ?_
  refine xr_go0 (xrunS C hE hH hS (c_reqIndex hlx p2 4) mv_X5_requireIndex wm_321 hl.1 dX5_order_9 rfl rfl ⟨rfl, rfl⟩ ⟨Nat.le_of_ble_eq_true rfl, Nat.le_of_ble_eq_true rfl⟩ (Nat.le_of_ble_eq_true rfl) ⟨Nat.le_of_ble_eq_true rfl, Nat.le_of_ble_eq_true rfl⟩) (fun E ce q9 H1 hx9 hz9 ho9 hce hcv hcl => ?_) (fun hp9 => ?_)
  · exact x_pass hout hlocks (Or.inl ⟨hx9.1, fun z => hx9.2 z.2⟩) hz9 ho9 hce hcv hcl (by decide) (by decide)
  refine lv_iload_n C.1 C.2.1 dX5_order_12 rfl (lv_at hl 3 rfl) ?_
  refine lv_iconst (v := 1) C.1 C.2.1 dX5_order_13 rfl ?_
  refine lv_bipush (v := 40) C.1 C.2.1 dX5_order_14 rfl ?_
  refine xr_go0 (xrunS C hE hH hS (c_reqRange hlx p1 1 40) mv_X5_requireRange wm_136 hl.1 dX5_order_16 rfl rfl ⟨rfl, rfl⟩ ⟨Nat.le_of_ble_eq_true rfl, Nat.le_of_ble_eq_true rfl⟩ (Nat.le_of_ble_eq_true rfl) ⟨Nat.le_of_ble_eq_true rfl, Nat.le_of_ble_eq_true rfl⟩) (fun E ce q9 H1 hx9 hz9 ho9 hce hcv hcl => ?_) (fun hp16 => ?_)
  · exact x_pass hout hlocks (Or.inr (Or.inl ⟨hx9.1, ⟨hp2, hp9⟩, hx9.2⟩)) hz9 ho9 hce hcv hcl (by decide) (by decide)
  obtain ⟨md9, hL0, -⟩ := id iO.2.1.1
  have ep0 : p0 = nI u := by rw [eu]; exact (inx_nI hp2 hne).2
  have hy2 := inx_nI (n := 4) hp9 (by decide)
  refine lv_aload_n C.1 C.2.1 dX5_order_19 rfl (lv_at hl 1 rfl) ?_
  refine mget C hE hH fl_94 iX.1 rfl dX5_order_20 ?_
  refine rd_go1 (runV C hE hH hS (c_L_size hL0) mv_Jx4a65c_size_8abf5 wm_208 hL0 rfl rfl hl.1 dX5_order_23 rfl rfl ⟨rfl, rfl⟩ ⟨Nat.le_of_ble_eq_true rfl, Nat.le_of_ble_eq_true rfl⟩ (Nat.le_of_ble_eq_true rfl) ⟨Nat.le_of_ble_eq_true rfl, Nat.le_of_ble_eq_true rfl⟩) ?_
  refine lv_istore (lv' := [(5, .int (nI no)), (4, .ref (A 3 u)), (0, .ref x), (1, .int p0), (2, .int p1), (3, .int p2)]) C.1 C.2.1 dX5_order_26 hl (by decide) rfl (fun ls hl => ?_)
  refine lv_iload C.1 C.2.1 dX5_order_28 (lv_at hl 0 rfl) ?_
  refine lv_bipush (v := 40) C.1 C.2.1 dX5_order_30 rfl ?_
  refine xr_go0 (xrunS C hE hH hS (c_reqRoom hlx (nI no) 40) mv_X5_requireRoom wm_212 hl.1 dX5_order_32 rfl rfl ⟨rfl, rfl⟩ ⟨Nat.le_of_ble_eq_true rfl, Nat.le_of_ble_eq_true rfl⟩ (Nat.le_of_ble_eq_true rfl) ⟨Nat.le_of_ble_eq_true rfl, Nat.le_of_ble_eq_true rfl⟩) (fun E ce q9 H1 hx9 hz9 ho9 hce hcv hcl => ?_) (fun hp32 => ?_)
  · exact x_pass hout hlocks (Or.inr (Or.inr ⟨hx9.1, ⟨hp2, hp9⟩, hp16, fun z => hx9.2 (by rw [← hI.1.2.2]; exact z)⟩)) hz9 ho9 hce hcv hcl (by decide) (by decide)
  have hn9 : no < 40 := (nI_ltI hno (by decide)).mp hp32
  refine lv_aload_n C.1 C.2.1 dX5_order_35 rfl (lv_at hl 2 rfl) ?_
  refine mget C hE hH fl_94 iX.1 rfl dX5_order_36 ?_
  refine mnew (C := C) (hE := hE) (hH := hH) (hS := hS) (F := cb_RX3) (h1 := wm_399) (h2 := wm_561) (h3 := wm_33) (by decide) (by decide) dX5_order_39 (fun q1 H nq1 gq1 hH hS => ?_)
  obtain ⟨M2, hM2⟩ : ∃ z, z = mu M q1 (eO 4 [.int 0, .null, .int 0, .int 0, .null, .int 0]) := ⟨_, rfl⟩
  have hH : Hw g M2 H := by rw [hM2]; exact hH
  have f3 : M2 q1 = some (eO 4 [.int 0, .null, .int 0, .int 0, .null, .int 0]) := by rw [hM2]; exact mu_s
  have f4 : M2 x = some (eO 6 [.ref (A 1 0), .ref (A 1 1), .ref (A 1 2), .ref (A 7 0), .ref (A 7 1), .ref (A 7 2), .ref (A 8 0), .ref (A 9 0)]) := by rw [hM2]; exact (mu_n (m_new nq1 iX.1)).trans iX.1
  have f5 : M2 (A 3 u) = some (eO 3 [.int (nI u), .int (ar 1 (2 * u)), .int (ar 1 (2 * u + 1)), .int (ar 2 u)]) := by rw [hM2]; exact (mu_n (m_new nq1 (iE.2.2 u hu).1.1)).trans (iE.2.2 u hu).1.1
  have f6 : M2 (A 1 2) = some (eO 0 [.int md9, .ref (A 2 2), .int (nI no)]) := by rw [hM2]; exact (mu_n (m_new nq1 hL0)).trans hL0
  refine lv_dup C.1 C.2.1 dX5_order_42 rfl ?_
  refine lv_iload C.1 C.2.1 dX5_order_43 (lv_at hl 0 rfl) ?_
  refine lv_aload C.1 C.2.1 dX5_order_45 (lv_at hl 1 rfl) ?_
  refine lv_iload_n C.1 C.2.1 dX5_order_47 rfl (lv_at hl 4 rfl) ?_
  refine lv_iload_n C.1 C.2.1 dX5_order_48 rfl (lv_at hl 5 rfl) ?_
  refine wr_go0 (runI C hE hH hS (c_O_init f3 (nI no) (A 3 u) p1 p2) mv_X3_init wm_562 hl.1 dX5_order_49 rfl rfl ⟨rfl, rfl⟩ ⟨Nat.le_of_ble_eq_true rfl, Nat.le_of_ble_eq_true rfl⟩ (Nat.le_of_ble_eq_true rfl) ⟨Nat.le_of_ble_eq_true rfl, Nat.le_of_ble_eq_true rfl⟩) hS (fun u7 M8 H locs hM8 hH hS => ?_)
  have f9 : M8 q1 = some (eO 4 [.int (nI no), .ref (A 3 u), .int p1, .int p2, .null, .int 0]) := by rw [hM8]; exact mu_s
  have f10 : M8 x = some (eO 6 [.ref (A 1 0), .ref (A 1 1), .ref (A 1 2), .ref (A 7 0), .ref (A 7 1), .ref (A 7 2), .ref (A 8 0), .ref (A 9 0)]) := by rw [hM8]; exact (mu_n (m_new nq1 iX.1)).trans f4
  have f11 : M8 (A 3 u) = some (eO 3 [.int (nI u), .int (ar 1 (2 * u)), .int (ar 1 (2 * u + 1)), .int (ar 2 u)]) := by rw [hM8]; exact (mu_n (m_new nq1 (iE.2.2 u hu).1.1)).trans f5
  have f12 : M8 (A 1 2) = some (eO 0 [.int md9, .ref (A 2 2), .int (nI no)]) := by rw [hM8]; exact (mu_n (m_new nq1 hL0)).trans f6
  have hM5 : M8 = mu M q1 (eO 4 [.int (nI no), .ref (A 3 u), .int p1, .int p2, .null, .int 0]) := by rw [hM8, hM2, mu_mu]
  have hL5 := Lst_new2 (e1 := eO 0 []) iO.2.1.1 nq1 gq1 (gE_ed hE) hM5
  have hel0 : ∀ j, j < no → ∃ vs, M (A 5 j) = some (eO 4 vs) := (fun j hj => by obtain ⟨e9, y9, -, -, -, -, -, -, c1, -⟩ := iO.2.2.2 j hj; exact ⟨_, c1.1⟩)
  have hel5 : ∀ j, j < no → ∃ vs, M8 (A 5 j) = some (eO 4 vs) := fun j hj => by obtain ⟨vs, hv⟩ := hel0 j hj; exact ⟨vs, by rw [hM5, mu_n (m_new nq1 hv)]; exact hv⟩
  refine wr_go1 (runV C hE hH hS (c_add (r := (RX3, TX3, 6)) hL5 (by omega) f9 rfl (gE_cas (x := "DyeRing$Order") (by decide)) (by decide) hel5) mv_Jx4a65c_add_9ea2d wm_255 f12 rfl rfl hl.1 dX5_order_52 rfl rfl ⟨rfl, rfl⟩ ⟨Nat.le_of_ble_eq_true rfl, Nat.le_of_ble_eq_true rfl⟩ (Nat.le_of_ble_eq_true rfl) ⟨Nat.le_of_ble_eq_true rfl, Nat.le_of_ble_eq_true rfl⟩) hS (fun u13 M14 H locs hM14 hH hS => ?_)
  have f15 : M14 x = some (eO 6 [.ref (A 1 0), .ref (A 1 1), .ref (A 1 2), .ref (A 7 0), .ref (A 7 1), .ref (A 7 2), .ref (A 8 0), .ref (A 9 0)]) := ladd_keep hL5 hM14 f10 (by intro fs z; cases z) (by intro n r z; cases z)
  have f16 : M14 (A 3 u) = some (eO 3 [.int (nI u), .int (ar 1 (2 * u)), .int (ar 1 (2 * u + 1)), .int (ar 2 u)]) := ladd_keep hL5 hM14 f11 (by intro fs z; cases z) (by intro n r z; cases z)
  have f17 : M14 q1 = some (eO 4 [.int (nI no), .ref (A 3 u), .int p1, .int p2, .null, .int 0]) := ladd_keep hL5 hM14 f9 (by intro fs z; cases z) (by intro n r z; cases z)
  refine lv_pop C.1 C.2.1 dX5_order_55 rfl ?_
  refine lv_iload C.1 C.2.1 dX5_order_56 (lv_at hl 0 rfl) ?_
  exact vx_ret (wr_iret () C hr hlocks hH hS (congrArg (fun z => some (Value.int z)) (hI.1.2.2)) (⟨⟨⟨⟨hp2, hp9⟩, hp16⟩, by rw [hI.1.2.2]; exact hp32⟩, by have h9 := hM14; rw [hM5] at h9; rw [hI.1.2.2, nI_1, nI_clamp hno]; exact up_order hI hed nq1 gq1 (gE_ed hE) h9 (ed_no hE hH) hn9 hu ep0 (rng_of (a := 1) (b := 40) hp16 (by decide) (by decide)) hy2.1 hy2.2⟩) (by decide) (by decide) dX5_order_58)
theorem mu_cm {M : Mp} {a q : Nat} {x y : va_E} (h : a ≠ q) : mu (mu M a x) q y = mu (mu M q y) a x := funext fun b => by
  unfold mu
  by_cases h1 : b = q
  · subst h1; rw [if_pos rfl, if_neg h.symm, if_pos rfl]
  · rw [if_neg h1]
    by_cases h2 : b = a
    · rw [if_pos h2, if_pos h2]
    · rw [if_neg h2, if_neg h2, if_neg h1]
set_option maxHeartbeats 4000000 in
set_option maxRecDepth 100000 in
theorem c_B_init {l : Launch} {g : gG} {M : Mp} {a : Nat} (h0 : M a = some (eO 1 [.int 0, .null, .int 0, .int 0, .null])) (x1 : Int32) (x2 : Nat) : Met l yX0_init (WY yX0_init cX0_init 3 none) { frames := 4, cells := 1, slots := 3, locals := 72 } (Wc g M [.ref a, .int x1, .ref x2]) (wrQ (S := Nat) g (fun u_ => none) (fun u_ M_ => M u_ = none ∧ g.1 ≤ u_ ∧ M_ = mu (mu M u_ (eO 0 [.int 0, .ref (g.2.2.2 0), .int 0])) a (eO 1 [.int x1, .ref x2, .int 100, .int 0, .ref u_]))) 1 3 (gA g) := by
  refine ofM (by decide +kernel) (Nat.le_of_ble_eq_true rfl) (fun p e s m args below meth c ls C hr hlocks hin hE hH hl ea => ?_)
  have hin : meth.name = "<init>" := hin
  have hl : lv_has ls 3 [(0, .ref a), (1, .int x1), (2, .ref x2)] := hl
  have hS : va_S (gA g) s.heap s.heap [] := va_S.rf
  refine lv_aload_n C.1 C.2.1 dX0_init_0 rfl (lv_at hl 0 rfl) ?_
  refine W.objInit C.1 C.2.1 C.2.2.2.1 (C.2.2.2.2 _ wm_367) (C.2.2.2.2 _ wm_41) (C.2.2.2.2 _ wm_42) rfl (by rw [C.2.2.1]; exact hl.1) rfl dX0_init_1 (Nat.le_of_ble_eq_true rfl) (Nat.le_of_ble_eq_true rfl) ?_
  refine W.eq (g2 := F0 m 4 ls []) rfl ?_
  refine lv_aload_n C.1 C.2.1 dX0_init_4 rfl (lv_at hl 0 rfl) ?_
  refine lv_bipush (v := 100) C.1 C.2.1 dX0_init_5 rfl ?_
  refine mput (fs' := [.int 0, .null, .int 100, .int 0, .null]) C hE hH hS fl_374 h0 rfl rfl rfl (Nat.le_of_ble_eq_true rfl) dX0_init_7 (fun H locs hH hS => ?_)
  obtain ⟨M1, hM1⟩ : ∃ z, z = mu M a (eO 1 [.int 0, .null, .int 100, .int 0, .null]) := ⟨_, rfl⟩
  have hH : Hw g M1 H := by rw [hM1]; exact hH
  have f2 : M1 a = some (eO 1 [.int 0, .null, .int 100, .int 0, .null]) := by rw [hM1]; exact mu_s
  refine lv_aload_n C.1 C.2.1 dX0_init_10 rfl (lv_at hl 0 rfl) ?_
  refine mnew (C := C) (hE := hE) (hH := hH) (hS := hS) (F := cb_RJx4a65c) (h1 := wm_368) (h2 := wm_44) (h3 := wm_16) (by decide) (by decide) dX0_init_11 (fun q3 H nq3 gq3 hH hS => ?_)
  obtain ⟨M4, hM4⟩ : ∃ z, z = mu M1 q3 (eO 0 [.int 0, .null, .int 0]) := ⟨_, rfl⟩
  have hH : Hw g M4 H := by rw [hM4]; exact hH
  have f5 : M4 q3 = some (eO 0 [.int 0, .null, .int 0]) := by rw [hM4]; exact mu_s
  have f6 : M4 a = some (eO 1 [.int 0, .null, .int 100, .int 0, .null]) := by rw [hM4]; exact (mu_n (m_new nq3 f2)).trans f2
  have hqa : a ≠ q3 := m_new nq3 (by rw [hM1]; exact mu_s)
  have hq0 : M q3 = none := by have h9 := nq3; rw [hM1, mu_n hqa.symm] at h9; exact h9
  refine lv_dup C.1 C.2.1 dX0_init_14 rfl ?_
  refine wr_go0 (runI C hE hH hS (c_L_init f5) mv_Jx4a65c_init_da8c8 wm_369 hl.1 dX0_init_15 rfl rfl ⟨rfl, rfl⟩ ⟨Nat.le_of_ble_eq_true rfl, Nat.le_of_ble_eq_true rfl⟩ (Nat.le_of_ble_eq_true rfl) ⟨Nat.le_of_ble_eq_true rfl, Nat.le_of_ble_eq_true rfl⟩) hS (fun u7 M8 H locs hM8 hH hS => ?_)
  have f9 : M8 q3 = some (eO 0 [.int 0, .ref (g.2.2.2 0), .int 0]) := by rw [hM8]; exact mu_s
  have f10 : M8 a = some (eO 1 [.int 0, .null, .int 100, .int 0, .null]) := by rw [hM8]; exact (mu_n (m_new nq3 f2)).trans f6
  refine mputF (fs' := [.int 0, .null, .int 100, .int 0, .ref q3]) C hE hH hS fp_379 f10 hin rfl rfl rfl (Nat.le_of_ble_eq_true rfl) dX0_init_18 (fun H locs hH hS => ?_)
  obtain ⟨M11, hM11⟩ : ∃ z, z = mu M8 a (eO 1 [.int 0, .null, .int 100, .int 0, .ref q3]) := ⟨_, rfl⟩
  have hH : Hw g M11 H := by rw [hM11]; exact hH
  have f12 : M11 a = some (eO 1 [.int 0, .null, .int 100, .int 0, .ref q3]) := by rw [hM11]; exact mu_s
  have f13 : M11 q3 = some (eO 0 [.int 0, .ref (g.2.2.2 0), .int 0]) := by rw [hM11]; exact (mu_n ((m_new nq3 f2)).symm).trans f9
  refine lv_aload_n C.1 C.2.1 dX0_init_21 rfl (lv_at hl 0 rfl) ?_
  refine lv_iload_n C.1 C.2.1 dX0_init_22 rfl (lv_at hl 1 rfl) ?_
  refine mputF (fs' := [.int x1, .null, .int 100, .int 0, .ref q3]) C hE hH hS fp_370 f12 hin rfl rfl rfl (Nat.le_of_ble_eq_true rfl) dX0_init_23 (fun H locs hH hS => ?_)
  obtain ⟨M14, hM14⟩ : ∃ z, z = mu M11 a (eO 1 [.int x1, .null, .int 100, .int 0, .ref q3]) := ⟨_, rfl⟩
  have hH : Hw g M14 H := by rw [hM14]; exact hH
  have f15 : M14 a = some (eO 1 [.int x1, .null, .int 100, .int 0, .ref q3]) := by rw [hM14]; exact mu_s
  have f16 : M14 q3 = some (eO 0 [.int 0, .ref (g.2.2.2 0), .int 0]) := by rw [hM14]; exact (mu_n ((m_new nq3 f2)).symm).trans f13
  refine lv_aload_n C.1 C.2.1 dX0_init_26 rfl (lv_at hl 0 rfl) ?_
  refine lv_aload_n C.1 C.2.1 dX0_init_27 rfl (lv_at hl 2 rfl) ?_
  refine mputF (fs' := [.int x1, .ref x2, .int 100, .int 0, .ref q3]) C hE hH hS fp_372 f15 hin rfl rfl rfl (Nat.le_of_ble_eq_true rfl) dX0_init_28 (fun H locs hH hS => ?_)
  obtain ⟨M17, hM17⟩ : ∃ z, z = mu M14 a (eO 1 [.int x1, .ref x2, .int 100, .int 0, .ref q3]) := ⟨_, rfl⟩
  have hH : Hw g M17 H := by rw [hM17]; exact hH
  have f18 : M17 a = some (eO 1 [.int x1, .ref x2, .int 100, .int 0, .ref q3]) := by rw [hM17]; exact mu_s
  have f19 : M17 q3 = some (eO 0 [.int 0, .ref (g.2.2.2 0), .int 0]) := by rw [hM17]; exact (mu_n ((m_new nq3 f2)).symm).trans f16
  exact wr_vret q3 C hr hlocks hH hS rfl (⟨hq0, gq3, by (rw [hM17, hM14, hM11, hM8, hM4, hM1]); simp only [mu_mu]; rw [mu_cm hqa, mu_mu]⟩) (by decide) (by decide) dX0_init_31
set_option maxHeartbeats 4000000 in
set_option maxRecDepth 100000 in
theorem w_bath {l : Launch} {g : gG} {M : Mp} {x : Nat} {tg : Nat → Nat} {A : Nat → Nat → Nat} {pr br : Nat → Bool} {np : Nat → Nat} {hh : Nat → Nat → Nat} {ne nb no : Nat} {sc : Nat → Int32} {ar : Nat → Nat → Int32} (hlx : l.stackTraces = false) (hI : RI g M x tg A pr br np hh ne nb no sc ar) (p0 p1 : Int32) : vx_Met l yX5_bath (WY yX5_bath cX5_bath 5 (some .int)) { frames := 8, cells := 6, slots := 226, locals := 191 } (Wc g M [.ref x, .int p0, .int p1]) (wrQ (S := Unit) g (fun u_ => (some (.int (sc 5)))) (fun u_ M_ => ((inx p0 3 ∧ inx p1 ne) ∧ sc 5 < 10) ∧ RIx g M_ M x tg (us sc 5 (sc 5 + 1)) (ua (ua (ua ar 6 (upd (ar 6) (sc 5).toNatClampNeg p0)) 7 (upd (ar 7) (sc 5).toNatClampNeg p1)) 8 (upd (ar 8) (sc 5).toNatClampNeg 100)))) (xQ (fun E_ => E_ = xIO ∧ ¬ (inx p0 3 ∧ inx p1 ne) ∨ E_ = xIS ∧ (inx p0 3 ∧ inx p1 ne) ∧ ¬ sc 5 < 10)) 6 226 (gA g) := by
  refine ofX (by decide +kernel) (Nat.le_of_ble_eq_true rfl) (fun p e s m args below meth c ls C hr hlocks hout hE hH hl ea => ?_)
  have hl : lv_has ls 5 [(0, .ref x), (1, .int p0), (2, .int p1)] := hl
  have hS : va_S (gA g) s.heap s.heap [] := va_S.rf
  obtain ⟨-, iX, iE, iB, iO, iW, iL, iC⟩ := id hI
  have hne : ne < 2 ^ 31 := Nat.lt_of_le_of_lt iE.1 (by decide)
  have hnb : nb < 2 ^ 31 := Nat.lt_of_le_of_lt iB.1 (by decide)
  have hno : no < 2 ^ 31 := Nat.lt_of_le_of_lt iO.1 (by decide)
  have hed := ed_no hE hH
  refine lv_iload_n C.1 C.2.1 dX5_bath_0 rfl (lv_at hl 1 rfl) ?_
  refine lv_iconst (v := 3) C.1 C.2.1 dX5_bath_1 rfl ?_
  refine xr_go0 (xrunS C hE hH hS (c_reqIndex hlx p0 3) mv_X5_requireIndex wm_321 hl.1 dX5_bath_2 rfl rfl ⟨rfl, rfl⟩ ⟨Nat.le_of_ble_eq_true rfl, Nat.le_of_ble_eq_true rfl⟩ (Nat.le_of_ble_eq_true rfl) ⟨Nat.le_of_ble_eq_true rfl, Nat.le_of_ble_eq_true rfl⟩) (fun E ce q9 H1 hx9 hz9 ho9 hce hcv hcl => ?_) (fun hp2 => ?_)
  · exact x_pass hout hlocks (Or.inl ⟨hx9.1, fun z => hx9.2 z.1⟩) hz9 ho9 hce hcv hcl (by decide) (by decide)
  refine lv_aload_n C.1 C.2.1 dX5_bath_5 rfl (lv_at hl 0 rfl) ?_
  refine lv_iload_n C.1 C.2.1 dX5_bath_6 rfl (lv_at hl 2 rfl) ?_
  refine xr_go1 (xrunV C hE hH hS (c_findEntry hlx iX.1 (iE.2.1.1) (hne) (fun j hj => ⟨_, (iE.2.2 j hj).1.1⟩) p1) mv_X5_findEntry wm_344 iX.1 rfl rfl hl.1 dX5_bath_7 rfl rfl ⟨rfl, rfl⟩ ⟨Nat.le_of_ble_eq_true rfl, Nat.le_of_ble_eq_true rfl⟩ (Nat.le_of_ble_eq_true rfl) ⟨Nat.le_of_ble_eq_true rfl, Nat.le_of_ble_eq_true rfl⟩) (fun E ce q9 H1 hx9 hz9 ho9 hce hcv hcl => ?_) (fun hp7 => ?_)
  · exact x_pass hout hlocks (Or.inl ⟨hx9.1, fun z => hx9.2 z.2⟩) hz9 ho9 hce hcv hcl (by decide) (by decide)
  obtain ⟨u, eu⟩ : ∃ z : Nat, z = p1.toNatClampNeg := ⟨_, rfl⟩
  have hu : u < ne := by rw [eu]; exact inx_lt hp7 hne
  rw [← eu]
  refine lv_astore_n (lv' := [(3, .ref (A 3 u)), (0, .ref x), (1, .int p0), (2, .int p1)]) C.1 C.2.1 dX5_bath_10 rfl hl (by decide) rfl (fun ls hl => ?_)
  obtain ⟨md9, hL0, -⟩ := id iB.2.1.1
  have ep1 : p1 = nI u := by rw [eu]; exact (inx_nI hp7 hne).2
  have hy2 := inx_nI (n := 3) hp2 (by decide)
  refine lv_aload_n C.1 C.2.1 dX5_bath_11 rfl (lv_at hl 1 rfl) ?_
  refine mget C hE hH fl_93 iX.1 rfl dX5_bath_12 ?_
  refine rd_go1 (runV C hE hH hS (c_L_size hL0) mv_Jx4a65c_size_8abf5 wm_208 hL0 rfl rfl hl.1 dX5_bath_15 rfl rfl ⟨rfl, rfl⟩ ⟨Nat.le_of_ble_eq_true rfl, Nat.le_of_ble_eq_true rfl⟩ (Nat.le_of_ble_eq_true rfl) ⟨Nat.le_of_ble_eq_true rfl, Nat.le_of_ble_eq_true rfl⟩) ?_
  refine lv_istore (lv' := [(4, .int (nI nb)), (3, .ref (A 3 u)), (0, .ref x), (1, .int p0), (2, .int p1)]) C.1 C.2.1 dX5_bath_18 hl (by decide) rfl (fun ls hl => ?_)
  refine lv_iload C.1 C.2.1 dX5_bath_20 (lv_at hl 0 rfl) ?_
  refine lv_bipush (v := 10) C.1 C.2.1 dX5_bath_22 rfl ?_
  refine xr_go0 (xrunS C hE hH hS (c_reqRoom hlx (nI nb) 10) mv_X5_requireRoom wm_212 hl.1 dX5_bath_24 rfl rfl ⟨rfl, rfl⟩ ⟨Nat.le_of_ble_eq_true rfl, Nat.le_of_ble_eq_true rfl⟩ (Nat.le_of_ble_eq_true rfl) ⟨Nat.le_of_ble_eq_true rfl, Nat.le_of_ble_eq_true rfl⟩) (fun E ce q9 H1 hx9 hz9 ho9 hce hcv hcl => ?_) (fun hp24 => ?_)
  · exact x_pass hout hlocks (Or.inr ⟨hx9.1, ⟨hp2, hp7⟩, fun z => hx9.2 (by rw [← hI.1.2.1]; exact z)⟩) hz9 ho9 hce hcv hcl (by decide) (by decide)
  have hn9 : nb < 10 := (nI_ltI hnb (by decide)).mp hp24
  refine lv_aload_n C.1 C.2.1 dX5_bath_27 rfl (lv_at hl 2 rfl) ?_
  refine mget C hE hH fl_93 iX.1 rfl dX5_bath_28 ?_
  refine mnew (C := C) (hE := hE) (hH := hH) (hS := hS) (F := cb_RX0) (h1 := wm_362) (h2 := wm_363) (h3 := wm_31) (by decide) (by decide) dX5_bath_31 (fun q1 H nq1 gq1 hH hS => ?_)
  obtain ⟨M2, hM2⟩ : ∃ z, z = mu M q1 (eO 1 [.int 0, .null, .int 0, .int 0, .null]) := ⟨_, rfl⟩
  have hH : Hw g M2 H := by rw [hM2]; exact hH
  have f3 : M2 q1 = some (eO 1 [.int 0, .null, .int 0, .int 0, .null]) := by rw [hM2]; exact mu_s
  have f4 : M2 x = some (eO 6 [.ref (A 1 0), .ref (A 1 1), .ref (A 1 2), .ref (A 7 0), .ref (A 7 1), .ref (A 7 2), .ref (A 8 0), .ref (A 9 0)]) := by rw [hM2]; exact (mu_n (m_new nq1 iX.1)).trans iX.1
  have f5 : M2 (A 3 u) = some (eO 3 [.int (nI u), .int (ar 1 (2 * u)), .int (ar 1 (2 * u + 1)), .int (ar 2 u)]) := by rw [hM2]; exact (mu_n (m_new nq1 (iE.2.2 u hu).1.1)).trans (iE.2.2 u hu).1.1
  have f6 : M2 (A 1 1) = some (eO 0 [.int md9, .ref (A 2 1), .int (nI nb)]) := by rw [hM2]; exact (mu_n (m_new nq1 hL0)).trans hL0
  refine lv_dup C.1 C.2.1 dX5_bath_34 rfl ?_
  refine lv_iload_n C.1 C.2.1 dX5_bath_35 rfl (lv_at hl 3 rfl) ?_
  refine lv_aload_n C.1 C.2.1 dX5_bath_36 rfl (lv_at hl 1 rfl) ?_
  refine wr_go0 (runI C hE hH hS (c_B_init f3 p0 (A 3 u)) mv_X0_init wm_364 hl.1 dX5_bath_37 rfl rfl ⟨rfl, rfl⟩ ⟨Nat.le_of_ble_eq_true rfl, Nat.le_of_ble_eq_true rfl⟩ (Nat.le_of_ble_eq_true rfl) ⟨Nat.le_of_ble_eq_true rfl, Nat.le_of_ble_eq_true rfl⟩) hS (fun u7 M8 H locs hM8 hH hS => ?_)
  obtain ⟨nu, gu, hMu⟩ := hM8
  have hquq : q1 ≠ u7 := fun z => by rw [hM2, z, mu_s] at nu; cases nu
  have hu0 : M u7 = none := by have h9 := nu; rw [hM2, mu_n hquq.symm] at h9; exact h9
  have hM5 : M8 = mu (mu M u7 (eO 0 [.int 0, .ref (g.2.2.2 0), .int 0])) q1 (eO 1 [.int p0, .ref (A 3 u), .int 100, .int 0, .ref u7]) := by rw [hMu, hM2, mu_cm hquq, mu_mu]
  have f9 : M8 x = some (eO 6 [.ref (A 1 0), .ref (A 1 1), .ref (A 1 2), .ref (A 7 0), .ref (A 7 1), .ref (A 7 2), .ref (A 8 0), .ref (A 9 0)]) := by rw [hM5, mu_n (m_new nq1 iX.1), mu_n (m_new hu0 iX.1)]; exact iX.1
  have f10 : M8 (A 1 1) = some (eO 0 [.int md9, .ref (A 2 1), .int (nI nb)]) := by rw [hM5, mu_n (m_new nq1 hL0), mu_n (m_new hu0 hL0)]; exact hL0
  have f11 : M8 q1 = some (eO 1 [.int p0, .ref (A 3 u), .int 100, .int 0, .ref u7]) := by rw [hM5]; exact mu_s
  have hL5 : Lst g M8 (A 1 1) (A 2 1) nb (A 4) := by rw [hM5]; exact Lst_new (Lst_new iB.2.1.1 hu0 gu (gE_ed hE)) ((mu_n hquq).trans nq1) gq1 (gE_ed hE)
  have hel5 : ∀ j, j < nb → ∃ vs, M8 (A 4 j) = some (eO 1 vs) := fun j hj => by obtain ⟨⟨e9, -, -, c1⟩, -⟩ := iB.2.2 j hj; exact ⟨_, by rw [hM5, mu_n (m_new nq1 c1.1), mu_n (m_new hu0 c1.1)]; exact c1.1⟩
  refine wr_go1 (runV C hE hH hS (c_add (r := (RX0, TX0, 5)) hL5 (by omega) f11 rfl (gE_cas (x := "DyeRing$Bath") (by decide)) (by decide) hel5) mv_Jx4a65c_add_9ea2d wm_255 f10 rfl rfl hl.1 dX5_bath_40 rfl rfl ⟨rfl, rfl⟩ ⟨Nat.le_of_ble_eq_true rfl, Nat.le_of_ble_eq_true rfl⟩ (Nat.le_of_ble_eq_true rfl) ⟨Nat.le_of_ble_eq_true rfl, Nat.le_of_ble_eq_true rfl⟩) hS (fun u12 M13 H locs hM13 hH hS => ?_)
  have f14 : M13 x = some (eO 6 [.ref (A 1 0), .ref (A 1 1), .ref (A 1 2), .ref (A 7 0), .ref (A 7 1), .ref (A 7 2), .ref (A 8 0), .ref (A 9 0)]) := ladd_keep hL5 hM13 f9 (by intro fs z; cases z) (by intro n r z; cases z)
  have f15 : M13 q1 = some (eO 1 [.int p0, .ref (A 3 u), .int 100, .int 0, .ref u7]) := ladd_keep hL5 hM13 f11 (by intro fs z; cases z) (by intro n r z; cases z)
  refine lv_pop C.1 C.2.1 dX5_bath_43 rfl ?_
  refine lv_iload C.1 C.2.1 dX5_bath_44 (lv_at hl 0 rfl) ?_
  exact vx_ret (wr_iret () C hr hlocks hH hS (congrArg (fun z => some (Value.int z)) (hI.1.2.1)) (⟨⟨⟨hp2, hp7⟩, by rw [hI.1.2.1]; exact hp24⟩, by have h9 := hM13; rw [hM5] at h9; rw [hI.1.2.1, nI_1, nI_clamp hnb]; exact up_bath hI hed nq1 gq1 hu0 gu hquq (gE_ed hE) h9 (ed_no hE hH) hn9 hu hy2.1 hy2.2 ep1⟩) (by decide) (by decide) dX5_bath_46)
def zw9 (ar : Nat → Nat → Int32) (b : Nat) : Int32 := ar 3 (ar 6 b).toNatClampNeg
def zy8 (ar : Nat → Nat → Int32) (o : Nat) : Int32 := ar 4 (2 * (ar 12 o).toNatClampNeg)
def zy9 (ar : Nat → Nat → Int32) (o : Nat) : Int32 := ar 4 (2 * (ar 12 o).toNatClampNeg + 1)
def zdye (ar : Nat → Nat → Int32) (o b : Nat) : Nat → Nat → Int32 := ua (ua (ua (ua (ua (ua (ua ar 13 (upd (ar 13) o 1)) 14 (upd (ar 14) o (nI b))) 15 (upd (ar 15) o (ar 8 b))) 16 (upd (ar 16) o (zw9 ar b))) 17 (upd (ar 17) o (zy8 ar o))) 18 (upd (ar 18) o (zy9 ar o))) 8 (upd (ar 8) b (zw (ar 8 b) (ar 11 o)))
theorem ite_none {c : Prop} [Decidable c] {x : Nat} (h : (if c then none else some x) = none) : c := by
  by_cases hc : c
  · exact hc
  · rw [if_neg hc] at h; cases h
set_option maxHeartbeats 4000000 in
set_option maxRecDepth 100000 in
theorem w_dye {l : Launch} {g : gG} {M : Mp} {x : Nat} {tg : Nat → Nat} {A : Nat → Nat → Nat} {pr br : Nat → Bool} {np : Nat → Nat} {hh : Nat → Nat → Nat} {ne nb no : Nat} {sc : Nat → Int32} {ar : Nat → Nat → Int32} (hlx : l.stackTraces = false) (hI : RI g M x tg A pr br np hh ne nb no sc ar) (p0 p1 : Int32) : vx_Met l yX5_dye (WY yX5_dye cX5_dye 5 (some .int)) { frames := 9, cells := 5, slots := 227, locals := 235 } (Wc g M [.ref x, .int p0, .int p1]) (wrQ (S := Unit) g (fun u_ => (some (.int (zdst ar p0.toNatClampNeg (ar 8 p1.toNatClampNeg) (zw9 ar p1.toNatClampNeg) (zy8 ar p0.toNatClampNeg) (zy9 ar p0.toNatClampNeg))))) (fun u_ M_ => ((inx p0 no ∧ inx p1 nb) ∧ ar 7 p1.toNatClampNeg = ar 10 p0.toNatClampNeg ∧ ar 13 p0.toNatClampNeg = 0) ∧ RIx g M_ M x tg (sc) (zdye ar p0.toNatClampNeg p1.toNatClampNeg))) (xQ (fun E_ => E_ = xIO ∧ ¬ (inx p0 no ∧ inx p1 nb) ∨ E_ = xIA ∧ (inx p0 no ∧ inx p1 nb) ∧ ¬ ar 7 p1.toNatClampNeg = ar 10 p0.toNatClampNeg ∨ E_ = xIS ∧ (inx p0 no ∧ inx p1 nb) ∧ ar 7 p1.toNatClampNeg = ar 10 p0.toNatClampNeg ∧ ¬ ar 13 p0.toNatClampNeg = 0)) 5 227 (gA g) := by
  refine ofX (by decide +kernel) (Nat.le_of_ble_eq_true rfl) (fun p e s m args below meth c ls C hr hlocks hout hE hH hl ea => ?_)
  have hl : lv_has ls 5 [(0, .ref x), (1, .int p0), (2, .int p1)] := hl
  have hS : va_S (gA g) s.heap s.heap [] := va_S.rf
  obtain ⟨-, iX, iE, iB, iO, iW, iL, iC⟩ := id hI
  have hne : ne < 2 ^ 31 := Nat.lt_of_le_of_lt iE.1 (by decide)
  have hnb : nb < 2 ^ 31 := Nat.lt_of_le_of_lt iB.1 (by decide)
  have hno : no < 2 ^ 31 := Nat.lt_of_le_of_lt iO.1 (by decide)
  have hed := ed_no hE hH
  refine lv_aload_n C.1 C.2.1 dX5_dye_0 rfl (lv_at hl 0 rfl) ?_
  refine lv_iload_n C.1 C.2.1 dX5_dye_1 rfl (lv_at hl 1 rfl) ?_
  refine xr_go1 (xrunV C hE hH hS (c_findOrder hlx iX.1 (iO.2.1.1) (hno) (fun j hj => by obtain ⟨e, y, -, -, -, -, -, -, c1, -⟩ := iO.2.2.2 j hj; exact ⟨_, c1.1⟩) p0) mv_X5_findOrder wm_395 iX.1 rfl rfl hl.1 dX5_dye_2 rfl rfl ⟨rfl, rfl⟩ ⟨Nat.le_of_ble_eq_true rfl, Nat.le_of_ble_eq_true rfl⟩ (Nat.le_of_ble_eq_true rfl) ⟨Nat.le_of_ble_eq_true rfl, Nat.le_of_ble_eq_true rfl⟩) (fun E ce q9 H1 hx9 hz9 ho9 hce hcv hcl => ?_) (fun hp2 => ?_)
  · exact x_pass hout hlocks (Or.inl ⟨hx9.1, fun z => hx9.2 z.1⟩) hz9 ho9 hce hcv hcl (by decide) (by decide)
  obtain ⟨j, ej⟩ : ∃ z : Nat, z = p0.toNatClampNeg := ⟨_, rfl⟩
  have hj : j < no := by rw [ej]; exact inx_lt hp2 hno
  rw [← ej]
  obtain ⟨ej9, yj9, hej9, h10j, hr11j, hyj9, h12j, h13j, cj, hPj⟩ := iO.2.2.2 j hj
  refine lv_astore_n (lv' := [(3, .ref (A 5 j)), (0, .ref x), (1, .int p0), (2, .int p1)]) C.1 C.2.1 dX5_dye_5 rfl hl (by decide) rfl (fun ls hl => ?_)
  refine lv_aload_n C.1 C.2.1 dX5_dye_6 rfl (lv_at hl 1 rfl) ?_
  refine lv_iload_n C.1 C.2.1 dX5_dye_7 rfl (lv_at hl 3 rfl) ?_
  refine xr_go1 (xrunV C hE hH hS (c_findBath hlx iX.1 (iB.2.1.1) (hnb) (fun j hj => by obtain ⟨⟨e, -, -, c1⟩, -⟩ := iB.2.2 j hj; exact ⟨_, c1.1⟩) p1) mv_X5_findBath wm_400 iX.1 rfl rfl hl.1 dX5_dye_8 rfl rfl ⟨rfl, rfl⟩ ⟨Nat.le_of_ble_eq_true rfl, Nat.le_of_ble_eq_true rfl⟩ (Nat.le_of_ble_eq_true rfl) ⟨Nat.le_of_ble_eq_true rfl, Nat.le_of_ble_eq_true rfl⟩) (fun E ce q9 H1 hx9 hz9 ho9 hce hcv hcl => ?_) (fun hp8 => ?_)
  · exact x_pass hout hlocks (Or.inl ⟨hx9.1, fun z => hx9.2 z.2⟩) hz9 ho9 hce hcv hcl (by decide) (by decide)
  obtain ⟨k, ek⟩ : ∃ z : Nat, z = p1.toNatClampNeg := ⟨_, rfl⟩
  have hk : k < nb := by rw [ek]; exact inx_lt hp8 hnb
  rw [← ek]
  obtain ⟨⟨ek9, hek9, h7k, ck⟩, ⟨ybk, hybk, e6k⟩, hr8k, hlk, hHk⟩ := iB.2.2 k hk
  refine lv_astore (lv' := [(4, .ref (A 4 k)), (3, .ref (A 5 j)), (0, .ref x), (1, .int p0), (2, .int p1)]) C.1 C.2.1 dX5_dye_11 hl (by decide) rfl (fun ls hl => ?_)
  refine lv_aload C.1 C.2.1 dX5_dye_13 (lv_at hl 0 rfl) ?_
  refine lv_aload_n C.1 C.2.1 dX5_dye_15 rfl (lv_at hl 1 rfl) ?_
  refine mget C hE hH fl_570 cj.1 rfl dX5_dye_16 ?_
  refine rd_go1 (runV C hE hH hS (c_B_isFor ck.1 (iE.2.2 ek9 hek9).1.1 (iE.2.2 ej9 hej9).1.1) mv_X0_isFor wm_404 ck.1 rfl rfl hl.1 dX5_dye_19 rfl rfl ⟨rfl, rfl⟩ ⟨Nat.le_of_ble_eq_true rfl, Nat.le_of_ble_eq_true rfl⟩ (Nat.le_of_ble_eq_true rfl) ⟨Nat.le_of_ble_eq_true rfl, Nat.le_of_ble_eq_true rfl⟩) ?_
  refine lv_if_ne (tgt := 35) C.1 C.2.1 dX5_dye_22 (by decide) (fun c22 => ?_) (fun c22 => ?_)
  · have hfor : ar 7 k = ar 10 j := by rw [h7k, h10j]; exact bI_nz c22
    refine lv_aload_n C.1 C.2.1 dX5_dye_35 rfl (lv_at hl 1 rfl) ?_
    refine xr_go0 (xrunS C hE hH hS (c_reqWait hlx cj.1) mv_X5_requireWaiting wm_409 hl.1 dX5_dye_36 rfl rfl ⟨rfl, rfl⟩ ⟨Nat.le_of_ble_eq_true rfl, Nat.le_of_ble_eq_true rfl⟩ (Nat.le_of_ble_eq_true rfl) ⟨Nat.le_of_ble_eq_true rfl, Nat.le_of_ble_eq_true rfl⟩) (fun E ce q9 H1 hx9 hz9 ho9 hce hcv hcl => ?_) (fun hp36 => ?_)
    · exact x_pass hout hlocks (Or.inr (Or.inr ⟨hx9.1, ⟨hp2, hp8⟩, hfor, fun z => hx9.2 (if_pos z)⟩)) hz9 ho9 hce hcv hcl (by decide) (by decide)
    have hs : ar 13 j = 0 := ite_none hp36
    have cj2 : M (A 5 j) = some (eO 4 [.int (nI j), .ref (A 3 ej9), .int (ar 11 j), .int (ar 12 j), .null, .int (bI false)]) := by have h9 := cj.1; rw [if_pos hs, decide_eq_false (by rw [hs]; decide)] at h9; exact h9
    obtain ⟨⟨fw, wa1, wb1⟩, ⟨ff, wa2, wb2⟩, fs, wa3, wb3⟩ := id iW
    have hw9 : fw (ar 6 k).toNatClampNeg = zw9 ar k := (wb1 _ (by rw [e6k, nI_clamp (by omega)]; exact hybk)).1
    have hy8 : ff (ar 12 j).toNatClampNeg = zy8 ar j := (wb2 _ (by rw [h12j, nI_clamp (by omega)]; exact hyj9)).1
    have hy9 : fs (ar 12 j).toNatClampNeg = zy9 ar j := (wb3 _ (by rw [h12j, nI_clamp (by omega)]; exact hyj9)).1
    have rw9 : rng (zw9 ar k) (-10) 10 := (wb1 _ (by rw [e6k, nI_clamp (by omega)]; exact hybk)).2
    have ry8 : rng (zy8 ar j) (-10) 10 := (wb2 _ (by rw [h12j, nI_clamp (by omega)]; exact hyj9)).2
    have ry9 : rng (zy9 ar j) (-10) 10 := (wb3 _ (by rw [h12j, nI_clamp (by omega)]; exact hyj9)).2
    have hnp : np k ≤ 100 := Nat.le_trans (np_le hHk iO.1) (by decide)
    refine lv_aload_n C.1 C.2.1 dX5_dye_39 rfl (lv_at hl 2 rfl) ?_
    refine lv_aload_n C.1 C.2.1 dX5_dye_40 rfl (lv_at hl 1 rfl) ?_
    refine lv_aload C.1 C.2.1 dX5_dye_41 (lv_at hl 0 rfl) ?_
    refine wr_go1 (runV C hE hH hS (c_dyeIn iX.1 cj2 ck.1 wa1.1 wa2.1 wa3.1 (by rw [e6k]; exact vp_in_nI hybk (by decide)) (by rw [h12j]; exact vp_in_nI hyj9 (by decide)) (hlk.1) (hnp) (fun t ht => ⟨_, hist_cells iO hHk hne hnb t ht⟩)) mv_X5_dyeIn wm_413 iX.1 rfl rfl hl.1 dX5_dye_43 rfl rfl ⟨rfl, rfl⟩ ⟨Nat.le_of_ble_eq_true rfl, Nat.le_of_ble_eq_true rfl⟩ (Nat.le_of_ble_eq_true rfl) ⟨Nat.le_of_ble_eq_true rfl, Nat.le_of_ble_eq_true rfl⟩) hS (fun u1 M2 H locs hM2 hH hS => ?_)
    obtain ⟨nu, gu, M9, hadd9, hM9⟩ := hM2
    rw [hw9, hy8, hy9] at hadd9
    have hed9 : M9 (g.2.2.2 0) = none := by have h9 := ed_no hE hH; rw [hM9, mu_n (m_new hed ck.1).symm] at h9; exact h9
    have nu5 : A 5 j ≠ u1 := m_new nu cj2
    have hLa := Lst_new (e := eO 5 [.int (nI j), .ref (A 3 ej9), .int (ar 11 j), .ref (A 4 k), .int (bI (br k)), .int (ar 8 k), .int (zw9 ar k), .int (zy8 ar j), .int (zy9 ar j)]) hlk.1 nu gu (gE_ed hE)
    have hLb := Lst_mu (e := eO 4 [.int (nI j), .ref (A 3 ej9), .int (ar 11 j), .int (ar 12 j), .ref u1, .int (bI false)]) hLa ((mu_n nu5).trans cj2) (by intro fs z; cases z) (by intro n r z; cases z)
    have fp9 : M2 u1 = some (eO 5 [.int (nI j), .ref (A 3 ej9), .int (ar 11 j), .ref (A 4 k), .int (bI (br k)), .int (ar 8 k), .int (zw9 ar k), .int (zy8 ar j), .int (zy9 ar j)]) := by rw [hM9, mu_n (m_new nu ck.1).symm]; exact ladd_keep hLb hadd9 ((mu_n nu5.symm).trans mu_s) (by intro fs z; cases z) (by intro n r z; cases z)
    have fe9 : M2 (A 3 ej9) = some (eO 3 [.int (nI ej9), .int (ar 1 (2 * ej9)), .int (ar 1 (2 * ej9 + 1)), .int (ar 2 ej9)]) := by
      rw [hM9, mu_n (m_ne (iE.2.2 ej9 hej9).1.1 ck.1 (by intro z; cases z))]
      exact ladd_keep hLb hadd9 ((mu_n (m_ne (iE.2.2 ej9 hej9).1.1 cj2 (by intro z; cases z))).trans ((mu_n (m_new nu (iE.2.2 ej9 hej9).1.1)).trans (iE.2.2 ej9 hej9).1.1)) (by intro fs z; cases z) (by intro n r z; cases z)
    refine rd_go1 (runV C hE hH hS (c_P_distance fp9 fe9) mv_X4_distance wm_465 fp9 rfl rfl hl.1 dX5_dye_46 rfl rfl ⟨rfl, rfl⟩ ⟨Nat.le_of_ble_eq_true rfl, Nat.le_of_ble_eq_true rfl⟩ (Nat.le_of_ble_eq_true rfl) ⟨Nat.le_of_ble_eq_true rfl, Nat.le_of_ble_eq_true rfl⟩) ?_
    exact vx_ret (wr_iret () C hr hlocks hH hS (congrArg (fun z => some (Value.int z)) (by unfold zdst; rw [zE_at h10j (by omega)])) (⟨⟨⟨hp2, hp8⟩, hfor, hs⟩, up_dye (y := 0) (d := 0) hI hed nu gu (gE_ed hE) hj hk hs hej9 h10j hek9 h7k hadd9 hM9 hed9 rw9 ry8 ry9⟩) (by decide) (by decide) dX5_dye_49)
  · exact x_throw C hlx hout hlocks hE tw_134_136_138 hl.1 (Or.inr (Or.inl ⟨rfl, ⟨hp2, hp8⟩, fun z => bI_z.mp c22 (by rw [← h7k, z, h10j])⟩)) dX5_dye_25 dX5_dye_28 dX5_dye_29 dX5_dye_31 dX5_dye_34 (by decide) (Nat.le_of_ble_eq_true rfl) (by decide) (by decide) (by decide) (by decide)
def zrt (ar : Nat → Nat → Int32) (o i : Nat) : Bool := decide (ar 7 i = ar 10 o ∧ zod (ar 1 (2 * (ar 7 i).toNatClampNeg)) (ar 1 (2 * (ar 7 i).toNatClampNeg + 1)) (ar 8 i) (zw9 ar i) (zy8 ar o) (zy9 ar o) ≤ ar 2 (ar 7 i).toNatClampNeg)
def zpl (ar : Nat → Nat → Int32) (o n : Nat) : Int32 := (zbest (zrt ar o) (ar 8) n).1
theorem zbest_congr {p q : Nat → Bool} {u w : Nat → Int32} : ∀ {n : Nat}, (∀ i, i < n → p i = q i ∧ u i = w i) → zbest p u n = zbest q w n
  | 0, _ => rfl
  | n + 1, h => by
    unfold zbest
    rw [zbest_congr (fun i hi => h i (by omega)), (h n (by omega)).1, (h n (by omega)).2]
theorem zbest_in {p : Nat → Bool} {u : Nat → Int32} : ∀ {n : Nat}, ¬ (zbest p u n).1 = -1 → ∃ i, i < n ∧ (zbest p u n).1 = nI i ∧ p i = true
  | 0, h => absurd rfl h
  | n + 1, h => by
    unfold zbest at h ⊢
    by_cases q : u n < (zbest p u n).2 ∧ p n = true
    · rw [if_pos q] at h ⊢
      exact ⟨n, by omega, rfl, q.2⟩
    · rw [if_neg q] at h ⊢
      obtain ⟨i, a, b, c⟩ := zbest_in h
      exact ⟨i, by omega, b, c⟩
abbrev bcell (A : Nat → Nat → Nat) (br : Nat → Bool) (ar : Nat → Nat → Int32) (i : Nat) : va_E := eO 1 [.int (ar 6 i), .ref (A 3 (ar 7 i).toNatClampNeg), .int (ar 8 i), .int (bI (br i)), .ref (A 1 (3 + i))]
theorem bath_cells {g : gG} {M : Mp} {tg : Nat → Nat} {A : Nat → Nat → Nat} {pr br : Nat → Bool} {np : Nat → Nat} {hh : Nat → Nat → Nat} {ne nb no : Nat} {ar : Nat → Nat → Int32} (hB : RB g M tg A pr br np hh ne nb no ar) (hne : ne < 2 ^ 31) : ∀ i, i < nb → M (A 4 i) = some (bcell A br ar i) := fun i hi => by
  obtain ⟨⟨e, he, h7, c1⟩, -⟩ := hB.2.2 i hi
  rw [bcell, h7, nI_clamp (by omega)]
  exact c1.1
theorem bath_entries {g : gG} {M : Mp} {tg : Nat → Nat} {A : Nat → Nat → Nat} {pr br : Nat → Bool} {np : Nat → Nat} {hh : Nat → Nat → Nat} {ne nb no : Nat} {ar : Nat → Nat → Int32} (hB : RB g M tg A pr br np hh ne nb no ar) (hE : RE g M tg A ne ar) (hne : ne < 2 ^ 31) : ∀ i, i < nb → M (A 3 (ar 7 i).toNatClampNeg) = some (eO 3 [.int (ar 7 i), .int (ar 1 (2 * (ar 7 i).toNatClampNeg)), .int (ar 1 (2 * (ar 7 i).toNatClampNeg + 1)), .int (ar 2 (ar 7 i).toNatClampNeg)]) := fun i hi => by
  obtain ⟨⟨e, he, h7, c1⟩, -⟩ := hB.2.2 i hi
  rw [h7, nI_clamp (by omega)]
  exact (hE.2.2 e he).1.1
set_option maxHeartbeats 4000000 in
set_option maxRecDepth 100000 in
theorem w_place {l : Launch} {g : gG} {M : Mp} {x : Nat} {tg : Nat → Nat} {A : Nat → Nat → Nat} {pr br : Nat → Bool} {np : Nat → Nat} {hh : Nat → Nat → Nat} {ne nb no : Nat} {sc : Nat → Int32} {ar : Nat → Nat → Int32} (hlx : l.stackTraces = false) (hI : RI g M x tg A pr br np hh ne nb no sc ar) (p0 : Int32) : vx_Met l yX5_place (WY yX5_place cX5_place 4 (some .int)) { frames := 9, cells := 5, slots := 227, locals := 235 } (Wc g M [.ref x, .int p0]) (wrQ (S := Unit) g (fun u_ => (some (.int (zpl ar p0.toNatClampNeg nb)))) (fun u_ M_ => (inx p0 no ∧ ar 13 p0.toNatClampNeg = 0 ∧ ¬ zpl ar p0.toNatClampNeg nb = -1) ∧ RIx g M_ M x tg (sc) (zdye ar p0.toNatClampNeg (zpl ar p0.toNatClampNeg nb).toNatClampNeg))) (xQ (fun E_ => E_ = xIO ∧ ¬ inx p0 no ∨ E_ = xIS ∧ inx p0 no ∧ ¬ ar 13 p0.toNatClampNeg = 0 ∨ E_ = xNE ∧ inx p0 no ∧ ar 13 p0.toNatClampNeg = 0 ∧ ¬ ¬ zpl ar p0.toNatClampNeg nb = -1)) 5 227 (gA g) := by
  refine ofX (by decide +kernel) (Nat.le_of_ble_eq_true rfl) (fun p e s m args below meth c ls C hr hlocks hout hE hH hl ea => ?_)
  have hl : lv_has ls 4 [(0, .ref x), (1, .int p0)] := hl
  have hS : va_S (gA g) s.heap s.heap [] := va_S.rf
  obtain ⟨-, iX, iE, iB, iO, iW, iL, iC⟩ := id hI
  have hne : ne < 2 ^ 31 := Nat.lt_of_le_of_lt iE.1 (by decide)
  have hnb : nb < 2 ^ 31 := Nat.lt_of_le_of_lt iB.1 (by decide)
  have hno : no < 2 ^ 31 := Nat.lt_of_le_of_lt iO.1 (by decide)
  have hed := ed_no hE hH
  refine lv_aload_n C.1 C.2.1 dX5_place_0 rfl (lv_at hl 0 rfl) ?_
  refine lv_iload_n C.1 C.2.1 dX5_place_1 rfl (lv_at hl 1 rfl) ?_
  refine xr_go1 (xrunV C hE hH hS (c_findOrder hlx iX.1 (iO.2.1.1) (hno) (fun j hj => by obtain ⟨e, y, -, -, -, -, -, -, c1, -⟩ := iO.2.2.2 j hj; exact ⟨_, c1.1⟩) p0) mv_X5_findOrder wm_395 iX.1 rfl rfl hl.1 dX5_place_2 rfl rfl ⟨rfl, rfl⟩ ⟨Nat.le_of_ble_eq_true rfl, Nat.le_of_ble_eq_true rfl⟩ (Nat.le_of_ble_eq_true rfl) ⟨Nat.le_of_ble_eq_true rfl, Nat.le_of_ble_eq_true rfl⟩) (fun E ce q9 H1 hx9 hz9 ho9 hce hcv hcl => ?_) (fun hp2 => ?_)
  · exact x_pass hout hlocks (Or.inl hx9) hz9 ho9 hce hcv hcl (by decide) (by decide)
  obtain ⟨j, ej⟩ : ∃ z : Nat, z = p0.toNatClampNeg := ⟨_, rfl⟩
  have hj : j < no := by rw [ej]; exact inx_lt hp2 hno
  rw [← ej]
  obtain ⟨ej9, yj9, hej9, h10j, hr11j, hyj9, h12j, h13j, cj, hPj⟩ := iO.2.2.2 j hj
  refine lv_astore_n (lv' := [(2, .ref (A 5 j)), (0, .ref x), (1, .int p0)]) C.1 C.2.1 dX5_place_5 rfl hl (by decide) rfl (fun ls hl => ?_)
  refine lv_aload_n C.1 C.2.1 dX5_place_6 rfl (lv_at hl 0 rfl) ?_
  refine xr_go0 (xrunS C hE hH hS (c_reqWait hlx cj.1) mv_X5_requireWaiting wm_409 hl.1 dX5_place_7 rfl rfl ⟨rfl, rfl⟩ ⟨Nat.le_of_ble_eq_true rfl, Nat.le_of_ble_eq_true rfl⟩ (Nat.le_of_ble_eq_true rfl) ⟨Nat.le_of_ble_eq_true rfl, Nat.le_of_ble_eq_true rfl⟩) (fun E ce q9 H1 hx9 hz9 ho9 hce hcv hcl => ?_) (fun hp7 => ?_)
  · exact x_pass hout hlocks (Or.inr (Or.inl ⟨hx9.1, hp2, fun z => hx9.2 (if_pos z)⟩)) hz9 ho9 hce hcv hcl (by decide) (by decide)
  have hs : ar 13 j = 0 := ite_none hp7
  have cj2 : M (A 5 j) = some (eO 4 [.int (nI j), .ref (A 3 ej9), .int (ar 11 j), .int (ar 12 j), .null, .int (bI false)]) := by have h9 := cj.1; rw [if_pos hs, decide_eq_false (by rw [hs]; decide)] at h9; exact h9
  obtain ⟨⟨fw, wa1, wb1⟩, ⟨ff, wa2, wb2⟩, fs, wa3, wb3⟩ := id iW
  refine lv_aload_n C.1 C.2.1 dX5_place_10 rfl (lv_at hl 1 rfl) ?_
  refine lv_aload_n C.1 C.2.1 dX5_place_11 rfl (lv_at hl 0 rfl) ?_
  refine rd_go1 (runV C hE hH hS (c_weakest iX.1 cj2 (iE.2.2 ej9 hej9).1.1 wa1.1 wa2.1 wa3.1 (iB.2.1.1) (hnb) (bath_cells iB hne) (bath_entries iB iE hne) (fun i hi => by obtain ⟨-, ⟨y9, hy9, e9⟩, -⟩ := iB.2.2 i hi; rw [e9]; exact vp_in_nI hy9 (by decide)) (by rw [h12j]; exact vp_in_nI hyj9 (by decide))) mv_X5_weakestRightBath wm_613 iX.1 rfl rfl hl.1 dX5_place_12 rfl rfl ⟨rfl, rfl⟩ ⟨Nat.le_of_ble_eq_true rfl, Nat.le_of_ble_eq_true rfl⟩ (Nat.le_of_ble_eq_true rfl) ⟨Nat.le_of_ble_eq_true rfl, Nat.le_of_ble_eq_true rfl⟩) ?_
  refine lv_topi (fun x1 ex1 => ?_)
  refine lv_istore_n (lv' := [(3, .int x1), (2, .ref (A 5 j)), (0, .ref x), (1, .int p0)]) C.1 C.2.1 dX5_place_15 rfl hl (by decide) rfl (fun ls hl => ?_)
  have hzp : x1 = zpl ar j nb := by
      rw [ex1]
      exact congrArg Prod.fst (zbest_congr (fun i hi => ⟨by unfold zrt zw9 zy8 zy9; rw [← (wb1 _ (show (ar 6 i).toNatClampNeg < 3 by obtain ⟨-, ⟨y9, hy9, e9⟩, -⟩ := iB.2.2 i hi; rw [e9, nI_clamp (by omega)]; exact hy9)).1, ← (wb2 _ (show (ar 12 j).toNatClampNeg < 4 by rw [h12j, nI_clamp (by omega)]; exact hyj9)).1, ← (wb3 _ (show (ar 12 j).toNatClampNeg < 4 by rw [h12j, nI_clamp (by omega)]; exact hyj9)).1, h10j], rfl⟩))
  refine lv_iload_n C.1 C.2.1 dX5_place_16 rfl (lv_at hl 0 rfl) ?_
  refine lv_iconst (v := -1) C.1 C.2.1 dX5_place_17 rfl ?_
  refine lv_icmp_ne (tgt := 31) C.1 C.2.1 dX5_place_18 (by decide) (fun c18 => ?_) (fun c18 => ?_)
  · obtain ⟨i9, hi9, ei9, hrt9⟩ := zbest_in (show ¬ (zbest (zrt ar j) (ar 8) nb).1 = -1 from fun z => c18 (hzp.trans z))
    have hin9 : ¬ x1 < 0 ∧ x1 < nI nb := by rw [hzp, zpl, ei9]; exact ⟨nI_pos (by omega), (nI_ltI (by omega) hnb).mpr hi9⟩
    refine lv_aload_n C.1 C.2.1 dX5_place_31 rfl (lv_at hl 2 rfl) ?_
    refine lv_aload_n C.1 C.2.1 dX5_place_32 rfl (lv_at hl 1 rfl) ?_
    refine lv_aload_n C.1 C.2.1 dX5_place_33 rfl (lv_at hl 2 rfl) ?_
    refine lv_iload_n C.1 C.2.1 dX5_place_34 rfl (lv_at hl 0 rfl) ?_
    refine xr_go1 (xrunV C hE hH hS (c_findBath hlx iX.1 (iB.2.1.1) (hnb) (fun j hj => by obtain ⟨⟨e, -, -, c1⟩, -⟩ := iB.2.2 j hj; exact ⟨_, c1.1⟩) x1) mv_X5_findBath wm_400 iX.1 rfl rfl hl.1 dX5_place_35 rfl rfl ⟨rfl, rfl⟩ ⟨Nat.le_of_ble_eq_true rfl, Nat.le_of_ble_eq_true rfl⟩ (Nat.le_of_ble_eq_true rfl) ⟨Nat.le_of_ble_eq_true rfl, Nat.le_of_ble_eq_true rfl⟩) (fun E ce q9 H1 hx9 hz9 ho9 hce hcv hcl => ?_) (fun hp35 => ?_)
    · exact x_pass hout hlocks (absurd hin9 hx9.2) hz9 ho9 hce hcv hcl (by decide) (by decide)
    obtain ⟨k, ek⟩ : ∃ z : Nat, z = x1.toNatClampNeg := ⟨_, rfl⟩
    have hk : k < nb := by rw [ek]; exact inx_lt hp35 hnb
    rw [← ek]
    obtain ⟨⟨ek9, hek9, h7k, ck⟩, ⟨ybk, hybk, e6k⟩, hr8k, hlk, hHk⟩ := iB.2.2 k hk
    have hw9 : fw (ar 6 k).toNatClampNeg = zw9 ar k := (wb1 _ (by rw [e6k, nI_clamp (by omega)]; exact hybk)).1
    have hy8 : ff (ar 12 j).toNatClampNeg = zy8 ar j := (wb2 _ (by rw [h12j, nI_clamp (by omega)]; exact hyj9)).1
    have hy9 : fs (ar 12 j).toNatClampNeg = zy9 ar j := (wb3 _ (by rw [h12j, nI_clamp (by omega)]; exact hyj9)).1
    have rw9 : rng (zw9 ar k) (-10) 10 := (wb1 _ (by rw [e6k, nI_clamp (by omega)]; exact hybk)).2
    have ry8 : rng (zy8 ar j) (-10) 10 := (wb2 _ (by rw [h12j, nI_clamp (by omega)]; exact hyj9)).2
    have ry9 : rng (zy9 ar j) (-10) 10 := (wb3 _ (by rw [h12j, nI_clamp (by omega)]; exact hyj9)).2
    have hnp : np k ≤ 100 := Nat.le_trans (np_le hHk iO.1) (by decide)
    refine wr_go1 (runV C hE hH hS (c_dyeIn iX.1 cj2 ck.1 wa1.1 wa2.1 wa3.1 (by rw [e6k]; exact vp_in_nI hybk (by decide)) (by rw [h12j]; exact vp_in_nI hyj9 (by decide)) (hlk.1) (hnp) (fun t ht => ⟨_, hist_cells iO hHk hne hnb t ht⟩)) mv_X5_dyeIn wm_413 iX.1 rfl rfl hl.1 dX5_place_38 rfl rfl ⟨rfl, rfl⟩ ⟨Nat.le_of_ble_eq_true rfl, Nat.le_of_ble_eq_true rfl⟩ (Nat.le_of_ble_eq_true rfl) ⟨Nat.le_of_ble_eq_true rfl, Nat.le_of_ble_eq_true rfl⟩) hS (fun u2 M3 H locs hM3 hH hS => ?_)
    obtain ⟨nu, gu, M9, hadd9, hM9⟩ := hM3
    rw [hw9, hy8, hy9] at hadd9
    have hed9 : M9 (g.2.2.2 0) = none := by have h9 := ed_no hE hH; rw [hM9, mu_n (m_new hed ck.1).symm] at h9; exact h9
    refine lv_pop C.1 C.2.1 dX5_place_41 rfl ?_
    refine lv_iload_n C.1 C.2.1 dX5_place_42 rfl (lv_at hl 0 rfl) ?_
    exact vx_ret (wr_iret () C hr hlocks hH hS (congrArg (fun z => some (Value.int z)) (hzp.symm)) (⟨⟨hp2, hs, fun z => c18 (hzp.trans z)⟩, by rw [← hzp, ← ek]; exact up_dye (y := 0) (d := 0) hI hed nu gu (gE_ed hE) hj hk hs hej9 h10j hek9 h7k hadd9 hM9 hed9 rw9 ry8 ry9⟩) (by decide) (by decide) dX5_place_43)
  · exact x_throwX C hlx hout hlocks hE tn0.1 tn0.2.1 tn0.2.2.1 tn0.2.2.2 tn5.1 tn5.2.1 tn5.2.2.1 wm_622 wm_34 tn5.2.2.2.1 tn6 tn7 tn5.2.2.2.2 hl.1 (Or.inr (Or.inr ⟨rfl, hp2, hs, fun z => z (hzp.symm.trans c18)⟩)) dX5_place_21 dX5_place_24 dX5_place_25 dX5_place_27 dX5_place_30 (Nat.lt_of_sub_ne_zero (by decide)) (Nat.le_of_ble_eq_true rfl) (by decide) (by decide) (by decide) (by decide)
theorem zlow_congr {U V : Nat → Int32} {sg : Int32} (h : ∀ t, t < 5 → U t = V t) : ∀ (r i : Nat), i + r ≤ 5 → zlow U sg r i = zlow V sg r i
  | 0, _, _ => rfl
  | r + 1, i, hi => by
    unfold zlow
    rw [h i (by omega), zlow_congr h r (i + 1) (by omega)]
theorem zrun_t {n : Nat} {D : Nat → Nat → Int32} {U : Nat → Int32} (hf : zfound U = true) : zrun (n + 1) D U = ((zrun n (zstepD U D (zlow U (-1) 5 0).toNatClampNeg (zlow U 1 5 0).toNatClampNeg) (zstepU U (zlow U (-1) 5 0).toNatClampNeg (zlow U 1 5 0).toNatClampNeg)).1 + 1, (zrun n (zstepD U D (zlow U (-1) 5 0).toNatClampNeg (zlow U 1 5 0).toNatClampNeg) (zstepU U (zlow U (-1) 5 0).toNatClampNeg (zlow U 1 5 0).toNatClampNeg)).2) := (zrun.eq_2 D U n).trans (if_pos hf)
theorem zrun_f {n : Nat} {D : Nat → Nat → Int32} {U : Nat → Int32} (hf : ¬ zfound U = true) : zrun (n + 1) D U = (0, D, U) := (zrun.eq_2 D U n).trans (if_neg hf)
theorem zrun_congr (n : Nat) : ∀ {D E : Nat → Nat → Int32} {U V : Nat → Int32}, (∀ i j, i < 5 → j < 5 → D i j = E i j) → (∀ i, i < 5 → U i = V i) → (zrun n D U).1 = (zrun n E V).1 ∧ ∀ i j, i < 5 → j < 5 → (zrun n D U).2.1 i j = (zrun n E V).2.1 i j := by
  induction n with
  | zero => exact fun hD _ => ⟨rfl, hD⟩
  | succ n ih =>
    intro D E U V hD hU
    have e1 : zlow U (-1) 5 0 = zlow V (-1) 5 0 := zlow_congr hU 5 0 (by omega)
    have e2 : zlow U 1 5 0 = zlow V 1 5 0 := zlow_congr hU 5 0 (by omega)
    have ef : zfound U = zfound V := by unfold zfound; rw [e1, e2]
    by_cases hf : zfound V = true
    · rw [zrun_t (ef.trans hf), zrun_t hf, e1, e2]
      have hf2 := of_decide_eq_true hf
      obtain ⟨j, hj, ej, -⟩ := zlow_5 hf2.1
      obtain ⟨k, hk, ek, -⟩ := zlow_5 hf2.2
      rw [ej, ek, nI_clamp (by omega), nI_clamp (by omega)]
      have ih1 := ih (D := zstepD U D j k) (E := zstepD V E j k) (U := zstepU U j k) (V := zstepU V j k) (fun i2 j2 hi2 hj2 => by
        unfold zstepD
        rw [hU j hj, hU k hk]
        by_cases ei : i2 = j
        · rw [if_pos ei, if_pos ei]
          by_cases e9 : j2 = k
          · rw [e9, upd_s, upd_s]
          · rw [upd_n e9, upd_n e9]; exact hD j j2 hj hj2
        · rw [if_neg ei, if_neg ei]; exact hD i2 j2 hi2 hj2) (fun i2 hi2 => by
        have hz : ∀ t, t < 5 → upd U j (U j + zam (U j) (U k)) t = upd V j (V j + zam (V j) (V k)) t := fun t ht => by
          rw [hU j hj, hU k hk]
          by_cases e9 : t = j
          · rw [e9, upd_s, upd_s]
          · rw [upd_n e9, upd_n e9]; exact hU t ht
        unfold zstepU
        rw [hz k hk]
        by_cases e9 : i2 = k
        · rw [e9, upd_s, upd_s, hU j hj, hU k hk]
        · rw [upd_n e9, upd_n e9]; exact hz i2 hi2)
      exact ⟨congrArg (· + 1) ih1.1, ih1.2⟩
    · rw [zrun_f (by rw [ef]; exact hf), zrun_f hf]
      exact ⟨rfl, hD⟩
def zU (ar : Nat → Nat → Int32) (k : Nat) : Nat → Int32 := fun j => zbal (zD ar k) j 5
def znet (n : Nat) (ar : Nat → Nat → Int32) (k : Nat) : Nat × (Nat → Nat → Int32) × (Nat → Int32) := zrun n (fun _ _ => 0) (zU ar k)
def znetf (ar : Nat → Nat → Int32) (k : Nat) : Nat → Int32 := fun t => if 25 * k ≤ t ∧ t < 25 * k + 25 then (znet 5 ar k).2.1 ((t - 25 * k) / 5) ((t - 25 * k) % 5) else ar 21 t
theorem znet_of (n : Nat) {ar : Nat → Nat → Int32} {k : Nat} {D1 : Nat → Nat → Int32} {U1 : Nat → Int32} (q1 : ∀ i j, i < 5 → j < 5 → D1 i j = 0) (q2 : ∀ i, i < 5 → U1 i = zU ar k i) : (zrun n D1 U1).1 = (znet n ar k).1 ∧ ∀ i j, i < 5 → j < 5 → (zrun n D1 U1).2.1 i j = (znet n ar k).2.1 i j := zrun_congr n q1 q2

set_option maxHeartbeats 4000000 in
set_option maxRecDepth 100000 in
theorem w_net {l : Launch} {g : gG} {M : Mp} {x : Nat} {tg : Nat → Nat} {A : Nat → Nat → Nat} {pr br : Nat → Bool} {np : Nat → Nat} {hh : Nat → Nat → Nat} {ne nb no : Nat} {sc : Nat → Int32} {ar : Nat → Nat → Int32} (hlx : l.stackTraces = false) (hI : RI g M x tg A pr br np hh ne nb no sc ar) (p0 : Int32) : vx_Met l yX5_net (WY yX5_net cX5_net 2 (some .int)) { frames := 7, cells := 1, slots := 6, locals := 103 } (Wc g M [.ref x, .int p0]) (wrQ (S := Unit) g (fun u_ => (some (.int (nI (znet 5 ar p0.toNatClampNeg).1)))) (fun u_ M_ => (inx p0 3) ∧ RIx g M_ M x tg (sc) (ua ar 21 (znetf ar p0.toNatClampNeg)))) (xQ (fun E_ => E_ = xIO ∧ ¬ inx p0 3)) 1 6 (gA g) := by
  refine ofX (by decide +kernel) (Nat.le_of_ble_eq_true rfl) (fun p e s m args below meth c ls C hr hlocks hout hE hH hl ea => ?_)
  have hl : lv_has ls 2 [(0, .ref x), (1, .int p0)] := hl
  have hS : va_S (gA g) s.heap s.heap [] := va_S.rf
  obtain ⟨-, iX, iE, iB, iO, iW, iL, iC⟩ := id hI
  have hne : ne < 2 ^ 31 := Nat.lt_of_le_of_lt iE.1 (by decide)
  have hnb : nb < 2 ^ 31 := Nat.lt_of_le_of_lt iB.1 (by decide)
  have hno : no < 2 ^ 31 := Nat.lt_of_le_of_lt iO.1 (by decide)
  have hed := ed_no hE hH
  refine lv_iload_n C.1 C.2.1 dX5_net_0 rfl (lv_at hl 1 rfl) ?_
  refine lv_iconst (v := 3) C.1 C.2.1 dX5_net_1 rfl ?_
  refine xr_go0 (xrunS C hE hH hS (c_reqIndex hlx p0 3) mv_X5_requireIndex wm_321 hl.1 dX5_net_2 rfl rfl ⟨rfl, rfl⟩ ⟨Nat.le_of_ble_eq_true rfl, Nat.le_of_ble_eq_true rfl⟩ (Nat.le_of_ble_eq_true rfl) ⟨Nat.le_of_ble_eq_true rfl, Nat.le_of_ble_eq_true rfl⟩) (fun E ce q9 H1 hx9 hz9 ho9 hce hcv hcl => ?_) (fun hp2 => ?_)
  · exact x_pass hout hlocks (hx9) hz9 ho9 hce hcv hcl (by decide) (by decide)
  obtain ⟨⟨crow, cr1, cr2⟩, iCk⟩ := id iC
  obtain ⟨k, ek⟩ : ∃ z : Nat, z = p0.toNatClampNeg := ⟨_, rfl⟩
  have hk : k < 3 := by rw [ek]; exact inx_lt (n := 3) hp2 (by decide)
  obtain ⟨ck1, ck2, ⟨orow, or1, or2⟩, de0, U, un1⟩ := iCk k hk
  obtain ⟨D, de⟩ := ch5 de0
  refine lv_aload_n C.1 C.2.1 dX5_net_5 rfl (lv_at hl 0 rfl) ?_
  refine mget C hE hH fl_99 iX.1 rfl dX5_net_6 ?_
  refine lv_iload_n C.1 C.2.1 dX5_net_9 rfl (lv_at hl 1 rfl) ?_
  refine maldq (k := 3) (y := (A 10 k)) C hE hH cr1.1 rfl rfl (inx_in (n := 3) hp2 (by decide)) (by rw [← ek]; exact cr2 _ hk) dX5_net_10 ?_
  refine wr_go1 (runV C hE hH hS (c_settle ck1.1 or1.1 un1.1 (or2) (fun i hi => (de i hi).1.1) (fun i hi z => by have h8 := (de i hi).1.2; rw [z, un1.2] at h8; omega) (fun i j hi hj z => by have h8 := (de i hi).1.2; have h9 := (de j hj).1.2; rw [z, h9] at h8; omega)) mv_X1_settle wm_531 ck1.1 rfl rfl hl.1 dX5_net_11 rfl rfl ⟨rfl, rfl⟩ ⟨Nat.le_of_ble_eq_true rfl, Nat.le_of_ble_eq_true rfl⟩ (Nat.le_of_ble_eq_true rfl) ⟨Nat.le_of_ble_eq_true rfl, Nat.le_of_ble_eq_true rfl⟩) hS (fun u1 M2 H locs hM2 hH hS => ?_)
  obtain ⟨D1, U1, q1, q2, q3, q4, q5, q6⟩ := hM2
  have zc := znet_of 5 (ar := ar) (k := k) q1 (fun i hi => (q2 i hi).trans (zbal_congr (fun t ht => ⟨(de t ht).2 i hi, (de i hi).2 t ht⟩)))
  obtain ⟨Zr, hZr⟩ : ∃ z, z = zrun 5 D1 U1 := ⟨_, rfl⟩
  rw [← hZr] at q3 q4 q5 zc
  exact vx_ret (wr_iret () C hr hlocks hH hS (congrArg (fun z => some (Value.int z)) (by rw [← ek, q3, zc.1])) (⟨hp2, by rw [← ek]; exact up_net (U := fun _ _ => 0) hI hed hk q4 q5 q6 (fun i j hi hj => by unfold znetf; rw [if_pos ⟨by omega, by omega⟩, show (25 * k + 5 * i + j - 25 * k) / 5 = i by omega, show (25 * k + 5 * i + j - 25 * k) % 5 = j by omega]; exact zc.2 i j hi hj) (fun i hi => if_neg (by omega)) (ed_no hE hH)⟩) (by decide) (by decide) dX5_net_14)
