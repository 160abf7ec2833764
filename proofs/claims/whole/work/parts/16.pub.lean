/-! THE RING'S PUBLIC METHODS -/
def inx (x : Int32) (n : Nat) : Prop := ¬ x < 0 ∧ x < nI n
def inr (x lo hi : Int32) : Prop := ¬ x < lo ∧ x ≤ hi
theorem inx_lt {x : Int32} {n : Nat} (h : inx x n) (hn : n < 2 ^ 31) : x.toNatClampNeg < n := by
  obtain ⟨j, hj, rfl⟩ := nI_of h.1
  rw [nI_clamp hj]
  exact (nI_ltI hj hn).mp h.2
theorem inx_in {x : Int32} {n : Nat} (h : inx x n) (hn : n < 2 ^ 31) : vp_in x n := by
  obtain ⟨j, hj, rfl⟩ := nI_of h.1
  exact vp_in_nI ((nI_ltI hj hn).mp h.2) hn
set_option maxHeartbeats 4000000 in
set_option maxRecDepth 100000 in
theorem r_apart {l : Launch} {g : gG} {M : Mp} {x : Nat} {tg : Nat → Nat} {A : Nat → Nat → Nat} {pr br : Nat → Bool} {np : Nat → Nat} {hh : Nat → Nat → Nat} {ne nb no : Nat} {sc : Nat → Int32} {ar : Nat → Nat → Int32} (hlx : l.stackTraces = false) (hI : RI g M x tg A pr br np hh ne nb no sc ar) (p0 p1 : Int32) : vx_Met l yX5_apart (WY yX5_apart cX5_apart 5 (some .int)) { frames := 8, cells := 2, slots := 12, locals := 124 } (Wc g M [.ref x, .int p0, .int p1]) (xrQ (inx p0 ne ∧ inx p1 ne) (some (.int (zd (ar 1 (2 * p0.toNatClampNeg)) (ar 1 (2 * p0.toNatClampNeg + 1)) (ar 1 (2 * p1.toNatClampNeg)) (ar 1 (2 * p1.toNatClampNeg + 1)))))) (xQ (fun E_ => E_ = xIO ∧ ¬ (inx p0 ne ∧ inx p1 ne))) 2 12 fr0 := by
  refine ofX (by decide +kernel) (Nat.le_of_ble_eq_true rfl) (fun p e s m args below meth c ls C hr hlocks hout hE hH hl ea => ?_)
  have hl : lv_has ls 5 [(0, .ref x), (1, .int p0), (2, .int p1)] := hl
  have hS : va_S (gA g) s.heap s.heap [] := va_S.rf
  obtain ⟨-, iX, iE, iB, iO, iW, iL, iC⟩ := id hI
  have hne : ne < 2 ^ 31 := Nat.lt_of_le_of_lt iE.1 (by decide)
  have hnb : nb < 2 ^ 31 := Nat.lt_of_le_of_lt iB.1 (by decide)
  have hno : no < 2 ^ 31 := Nat.lt_of_le_of_lt iO.1 (by decide)
  refine lv_aload_n C.1 C.2.1 dX5_apart_0 rfl (lv_at hl 0 rfl) ?_
  refine lv_iload_n C.1 C.2.1 dX5_apart_1 rfl (lv_at hl 1 rfl) ?_
  refine xr_go1 (xrunV C hE hH hS (c_findEntry hlx iX.1 (iE.2.1.1) (hne) (fun j hj => ⟨_, (iE.2.2 j hj).1.1⟩) p0) mv_X5_findEntry wm_357 iX.1 rfl rfl hl.1 dX5_apart_2 rfl rfl ⟨rfl, rfl⟩ ⟨Nat.le_of_ble_eq_true rfl, Nat.le_of_ble_eq_true rfl⟩ (Nat.le_of_ble_eq_true rfl) ⟨Nat.le_of_ble_eq_true rfl, Nat.le_of_ble_eq_true rfl⟩) (fun E ce q9 H1 hx9 hz9 ho9 hce hcv hcl => ?_) (fun hp2 => ?_)
  · exact x_pass hout hlocks (⟨hx9.1, fun z => hx9.2 z.1⟩) hz9 ho9 hce hcv hcl (by decide) (by decide)
  obtain ⟨j, ej⟩ : ∃ z : Nat, z = p0.toNatClampNeg := ⟨_, rfl⟩
  have hj : j < ne := by rw [ej]; exact inx_lt hp2 hne
  rw [← ej]
  refine lv_astore_n (lv' := [(3, .ref (A 3 j)), (0, .ref x), (1, .int p0), (2, .int p1)]) C.1 C.2.1 dX5_apart_5 rfl hl (by decide) rfl (fun ls hl => ?_)
  refine lv_aload_n C.1 C.2.1 dX5_apart_6 rfl (lv_at hl 1 rfl) ?_
  refine lv_iload_n C.1 C.2.1 dX5_apart_7 rfl (lv_at hl 3 rfl) ?_
  refine xr_go1 (xrunV C hE hH hS (c_findEntry hlx iX.1 (iE.2.1.1) (hne) (fun j hj => ⟨_, (iE.2.2 j hj).1.1⟩) p1) mv_X5_findEntry wm_357 iX.1 rfl rfl hl.1 dX5_apart_8 rfl rfl ⟨rfl, rfl⟩ ⟨Nat.le_of_ble_eq_true rfl, Nat.le_of_ble_eq_true rfl⟩ (Nat.le_of_ble_eq_true rfl) ⟨Nat.le_of_ble_eq_true rfl, Nat.le_of_ble_eq_true rfl⟩) (fun E ce q9 H1 hx9 hz9 ho9 hce hcv hcl => ?_) (fun hp8 => ?_)
  · exact x_pass hout hlocks (⟨hx9.1, fun z => hx9.2 z.2⟩) hz9 ho9 hce hcv hcl (by decide) (by decide)
  obtain ⟨k, ek⟩ : ∃ z : Nat, z = p1.toNatClampNeg := ⟨_, rfl⟩
  have hk : k < ne := by rw [ek]; exact inx_lt hp8 hne
  rw [← ek]
  refine lv_astore (lv' := [(4, .ref (A 3 k)), (3, .ref (A 3 j)), (0, .ref x), (1, .int p0), (2, .int p1)]) C.1 C.2.1 dX5_apart_11 hl (by decide) rfl (fun ls hl => ?_)
  refine lv_aload_n C.1 C.2.1 dX5_apart_13 rfl (lv_at hl 1 rfl) ?_
  refine lv_aload C.1 C.2.1 dX5_apart_14 (lv_at hl 0 rfl) ?_
  refine mget C hE hH fl_242 (iE.2.2 k hk).1.1 rfl dX5_apart_16 ?_
  refine lv_aload C.1 C.2.1 dX5_apart_19 (lv_at hl 0 rfl) ?_
  refine mget C hE hH fl_244 (iE.2.2 k hk).1.1 rfl dX5_apart_21 ?_
  refine rd_go1 (runV C hE hH hS (c_E_distanceTo (iE.2.2 j hj).1.1 (ar 1 (2 * k)) (ar 1 (2 * k + 1))) mv_X2_distanceTo wm_375 (iE.2.2 j hj).1.1 rfl rfl hl.1 dX5_apart_24 rfl rfl ⟨rfl, rfl⟩ ⟨Nat.le_of_ble_eq_true rfl, Nat.le_of_ble_eq_true rfl⟩ (Nat.le_of_ble_eq_true rfl) ⟨Nat.le_of_ble_eq_true rfl, Nat.le_of_ble_eq_true rfl⟩) ?_
  exact xr_iret C hr hlocks (⟨hp2, hp8⟩) (by rw [ej, ek]) (by decide) (by decide) dX5_apart_27
set_option maxHeartbeats 4000000 in
set_option maxRecDepth 100000 in
theorem r_strength {l : Launch} {g : gG} {M : Mp} {x : Nat} {tg : Nat → Nat} {A : Nat → Nat → Nat} {pr br : Nat → Bool} {np : Nat → Nat} {hh : Nat → Nat → Nat} {ne nb no : Nat} {sc : Nat → Int32} {ar : Nat → Nat → Int32} (hlx : l.stackTraces = false) (hI : RI g M x tg A pr br np hh ne nb no sc ar) (p0 : Int32) : vx_Met l yX5_strength (WY yX5_strength cX5_strength 2 (some .int)) { frames := 8, cells := 1, slots := 6, locals := 124 } (Wc g M [.ref x, .int p0]) (xrQ (inx p0 nb) (some (.int (ar 8 p0.toNatClampNeg)))) (xQ (fun E_ => E_ = xIO ∧ ¬ inx p0 nb)) 1 6 fr0 := by
  refine ofX (by decide +kernel) (Nat.le_of_ble_eq_true rfl) (fun p e s m args below meth c ls C hr hlocks hout hE hH hl ea => ?_)
  have hl : lv_has ls 2 [(0, .ref x), (1, .int p0)] := hl
  have hS : va_S (gA g) s.heap s.heap [] := va_S.rf
  obtain ⟨-, iX, iE, iB, iO, iW, iL, iC⟩ := id hI
  have hne : ne < 2 ^ 31 := Nat.lt_of_le_of_lt iE.1 (by decide)
  have hnb : nb < 2 ^ 31 := Nat.lt_of_le_of_lt iB.1 (by decide)
  have hno : no < 2 ^ 31 := Nat.lt_of_le_of_lt iO.1 (by decide)
  refine lv_aload_n C.1 C.2.1 dX5_strength_0 rfl (lv_at hl 0 rfl) ?_
  refine lv_iload_n C.1 C.2.1 dX5_strength_1 rfl (lv_at hl 1 rfl) ?_
  refine xr_go1 (xrunV C hE hH hS (c_findBath hlx iX.1 (iB.2.1.1) (hnb) (fun j hj => by obtain ⟨⟨e, -, -, c1⟩, -⟩ := iB.2.2 j hj; exact ⟨_, c1.1⟩) p0) mv_X5_findBath wm_425 iX.1 rfl rfl hl.1 dX5_strength_2 rfl rfl ⟨rfl, rfl⟩ ⟨Nat.le_of_ble_eq_true rfl, Nat.le_of_ble_eq_true rfl⟩ (Nat.le_of_ble_eq_true rfl) ⟨Nat.le_of_ble_eq_true rfl, Nat.le_of_ble_eq_true rfl⟩) (fun E ce q9 H1 hx9 hz9 ho9 hce hcv hcl => ?_) (fun hp2 => ?_)
  · exact x_pass hout hlocks (hx9) hz9 ho9 hce hcv hcl (by decide) (by decide)
  obtain ⟨j, ej⟩ : ∃ z : Nat, z = p0.toNatClampNeg := ⟨_, rfl⟩
  have hj : j < nb := by rw [ej]; exact inx_lt hp2 hnb
  rw [← ej]
  obtain ⟨⟨ej9, hej9, h7j, cj⟩, ⟨ybj, hybj, e6j⟩, hr8j, hlj, hHj⟩ := iB.2.2 j hj
  refine mget C hE hH fl_403 cj.1 rfl dX5_strength_5 ?_
  exact xr_iret C hr hlocks (hp2) (by rw [ej]) (by decide) (by decide) dX5_strength_8
