/-! rows for the JDK's list -/
section MJR
variable {p : Program} {l : Launch} {e : Env} {R : Room} {s : State} {m : MethodId} {args : Array Value} {below : List Frame} {meth : Method} {c : Code} {H : Heap} {locs : List Loc} {cells slots : Nat} {Q : State → Prop}
variable {cc : ByteArray} {nL : Nat} {own : String} {pc : Nat} {ls : Array Slot} {rest : List Value} {g : gG} {M : Mp} {a : Nat}
theorem medlen (C : CallFix p m c cc nL s args WA own) (hE : gE g s) (hS : va_S (gA g) s.heap H locs) (hdg : decode cc pc = .ok (.arraylength, 1)) (kk : W p l e R s m args below meth c H locs cells slots Q (F0 m (pc + 1) ls (.int 0 :: rest))) : W p l e R s m args below meth c H locs cells slots Q (F0 m pc ls (.ref (g.2.2.2 0) :: rest)) := by
  obtain ⟨cell, h1, h2, h3, h4, h5, h6, h7⟩ := hE.2.2.1
  exact W.alen (n := 0) C.1 C.2.1 (by rw [hS.2.1 _ (Array.getElem?_eq_some_iff.mp h1).1 h7]; exact h1) h2 (h5.trans rfl) rfl rfl hdg kk
theorem mgetC {n idx : Nat} {f : Nat → Option Nat} (C : CallFix p m c cc nL s args WA own) (hE : gE g s) (hH : Hw g M H) (h : M a = some (eQ g 2 n f)) (hsz : ls.size = nL) (h1 : Cond.methodLink own idx ⟨"java/lang/Object", "getClass", "()Ljava/lang/Class;"⟩ ∈ WA) (h3 : Cond.selects "[Ljava/lang/Object;" ⟨"java/lang/Object", "getClass", "()Ljava/lang/Class;"⟩ ⟨"java/lang/Object", "getClass", "()Ljava/lang/Class;"⟩ ∈ WA) (h4 : Cond.instanceMethod ⟨"java/lang/Object", "getClass", "()Ljava/lang/Class;"⟩ ∈ WA) (h5 : Cond.native ⟨"java/lang/Object", "getClass", "()Ljava/lang/Class;"⟩ ∈ WA) (hframes : 1 ≤ R.frames) (hlocals : (rest.map fun v => v.category).sum + 14 ≤ R.locals) (hdg : decode cc pc = .ok (.invokevirtual idx, 3)) (kk : W p l e R s m args below meth c H locs cells slots Q (F0 m (pc + 3) ls (.ref (g.2.2.2 1) :: rest))) : W p l e R s m args below meth c H locs cells slots Q (F0 m pc ls (.ref a :: rest)) := by
  obtain ⟨-, -, -, -, -, hf⟩ := (hE.1.2 2 _ rfl).2
  exact va_getC C.1 C.2.1 (C.2.2.1.trans hsz.symm) C.2.2.2.1 (C.2.2.2.2 _ h1) (hE.2.2.2.2.2.2.2.2.2.2.1.use) (C.2.2.2.2 _ h3) (C.2.2.2.2 _ h4) (C.2.2.2.2 _ h5) hE.2.2.2.2.2.1 ⟨_, mw_one hH.1 h 0 _ rfl, rfl, hf⟩ hframes hlocals hdg kk
theorem mcopyq {a0 n0 n1 ci idx : Nat} {r : vw_C} {f h : Nat → Option Nat} {sp dp n : Int32} (C : CallFix p m c cc nL s args WA own) (hE : gE g s) (hH : Hw g M H) (hS : va_S (gA g) s.heap H locs) (ha0 : M a0 = some (eQ g 2 n0 f)) (ha : M a = some (eQ g 2 n1 h)) (hsz : ls.size = nL) (h1 : Cond.methodLink own idx arraycopyName ∈ WA) (h2 : Cond.native arraycopyName ∈ WA) (h3 : Cond.static arraycopyName ∈ WA) (h4 : Cond.initialized "java/lang/System" ∈ WA)
    (s1 : ¬ sp < 0) (s2 : ¬ dp < 0) (s3 : ¬ n < 0) (s4 : sp.toNatClampNeg + n.toNatClampNeg ≤ n0) (s5 : dp.toNatClampNeg + n.toNatClampNeg ≤ n1) (hel : ∀ i : Nat, i < n.toNatClampNeg → ∀ y : Nat, f (sp.toNatClampNeg + i) = some y → ∃ vs, M y = some (eO ci vs)) (hc : vwCl[ci]? = some r) (hca : va_Nw (.castable r.1 "java/lang/Object") s) (hframes : 1 ≤ R.frames) (hlocals : (rest.map fun v => v.category).sum + (nativeFrameWords "java/lang/System" "arraycopy" 5 + 11) ≤ R.locals) (hdg : decode cc pc = .ok (.invokestatic idx, 3))
    (kk : ∀ (H1 : Heap) (locs1 : List Loc), Hw g (mu M a (eQ g 2 n1 (va_cpy f h sp.toNatClampNeg dp.toNatClampNeg n.toNatClampNeg))) H1 → va_S (gA g) s.heap H1 locs1 → W p l e R s m args below meth c H1 locs1 cells slots Q (F0 m (pc + 3) ls rest)) : W p l e R s m args below meth c H locs cells slots Q (F0 m pc ls (.int n :: .int dp :: .ref a :: .int sp :: .ref a0 :: rest)) := by
  obtain ⟨j0, hj0⟩ := mL_get ha0 (mw_lt hH.1 ha0)
  obtain ⟨j, hj⟩ := mL_get ha (mw_lt hH.1 ha)
  exact va_copyq (C := r.1) C.1 C.2.1 (C.2.2.1.trans hsz.symm) C.2.2.2.1 (C.2.2.2.2 _ h1) (C.2.2.2.2 _ h2) (C.2.2.2.2 _ h3) (C.2.2.2.2 _ h4) hE.1 (mL_P hH.1) (mL_D hH.2) hS j0 j 2 2 hj0 hj rfl rfl s1 s2 s3 s4 s5 (fun i hi y hy => by obtain ⟨vs, hv⟩ := hel i hi y hy; exact m_recv hE hH hv hc) (vb_asgC hca) hframes hlocals hdg (fun H1 locs1 hP1 _ hS1 => kk H1 locs1 (Hw_set hH ha hj hP1) hS1)
end MJR

set_option maxHeartbeats 4000000 in
set_option maxRecDepth 100000 in
theorem c_AC_init {l : Launch} {g : gG} {M : Mp} {a : Nat} (h0 : M a = some (eO 0 [.int 0, .null, .int 0])) : Met l yJxa1e45_init_da8c8 (WY yJxa1e45_init_da8c8 cJxa1e45_init_da8c8 1 none) { frames := 1, cells := 0, slots := 0, locals := 12 } (Wc g M [.ref a]) (rdQ none) 0 0 fr0 := by
  refine ofM (by decide +kernel) (Nat.le_of_ble_eq_true rfl) (fun p e s m args below meth c ls C hr hlocks hin hE hH hl ea => ?_)
  have hin : meth.name = "<init>" := hin
  have hl : lv_has ls 1 [(0, .ref a)] := hl
  have hS : va_S (gA g) s.heap s.heap [] := va_S.rf
  refine lv_aload_n C.1 C.2.1 dJxa1e45_init_da8c8_0 rfl (lv_at hl 0 rfl) ?_
  refine W.objInit C.1 C.2.1 C.2.2.2.1 (C.2.2.2.2 _ wm_66) (C.2.2.2.2 _ wm_53) (C.2.2.2.2 _ wm_54) rfl (by rw [C.2.2.1]; exact hl.1) rfl dJxa1e45_init_da8c8_1 (Nat.le_of_ble_eq_true rfl) (Nat.le_of_ble_eq_true rfl) ?_
  refine W.eq (g2 := F0 m 4 ls []) rfl ?_
  exact rd_vret C hr hlocks  dJxa1e45_init_da8c8_4
set_option maxHeartbeats 4000000 in
set_option maxRecDepth 100000 in
theorem c_AbL_init {l : Launch} {g : gG} {M : Mp} {a : Nat} (h0 : M a = some (eO 0 [.int 0, .null, .int 0])) : Met l yJxc12de_init_da8c8 (WY yJxc12de_init_da8c8 cJxc12de_init_da8c8 1 none) { frames := 2, cells := 0, slots := 0, locals := 32 } (Wc g M [.ref a]) (wrQ (S := Unit) g (fun u_ => none) (fun u_ M_ => M_ = mu M a (eO 0 [.int 0, .null, .int 0]))) 0 0 (gA g) := by
  refine ofM (by decide +kernel) (Nat.le_of_ble_eq_true rfl) (fun p e s m args below meth c ls C hr hlocks hin hE hH hl ea => ?_)
  have hin : meth.name = "<init>" := hin
  have hl : lv_has ls 1 [(0, .ref a)] := hl
  have hS : va_S (gA g) s.heap s.heap [] := va_S.rf
  refine lv_aload_n C.1 C.2.1 dJxc12de_init_da8c8_0 rfl (lv_at hl 0 rfl) ?_
  refine rd_go0 (runI C hE hH hS (c_AC_init h0) mv_Jxa1e45_init_da8c8 wm_63 hl.1 dJxc12de_init_da8c8_1 rfl rfl ⟨rfl, rfl⟩ ⟨Nat.le_of_ble_eq_true rfl, Nat.le_of_ble_eq_true rfl⟩ (Nat.le_of_ble_eq_true rfl) ⟨Nat.le_of_ble_eq_true rfl, Nat.le_of_ble_eq_true rfl⟩) ?_
  refine lv_aload_n C.1 C.2.1 dJxc12de_init_da8c8_4 rfl (lv_at hl 0 rfl) ?_
  refine lv_iconst (v := 0) C.1 C.2.1 dJxc12de_init_da8c8_5 rfl ?_
  refine mput (fs' := [.int 0, .null, .int 0]) C hE hH hS fl_71 h0 rfl rfl rfl (Nat.le_of_ble_eq_true rfl) dJxc12de_init_da8c8_6 (fun H locs hH hS => ?_)
  obtain ⟨M1, hM1⟩ : ∃ z, z = mu M a (eO 0 [.int 0, .null, .int 0]) := ⟨_, rfl⟩
  have hH : Hw g M1 H := by rw [hM1]; exact hH
  have f2 : M1 a = some (eO 0 [.int 0, .null, .int 0]) := by rw [hM1]; exact mu_s
  exact wr_vret () C hr hlocks hH hS rfl (by (rw [hM1]) <;> simp only [mu_mu]) (by decide) (by decide) dJxc12de_init_da8c8_9
set_option maxHeartbeats 4000000 in
set_option maxRecDepth 100000 in
theorem c_L_init {l : Launch} {g : gG} {M : Mp} {a : Nat} (h0 : M a = some (eO 0 [.int 0, .null, .int 0])) : Met l yJx4a65c_init_da8c8 (WY yJx4a65c_init_da8c8 cJx4a65c_init_da8c8 1 none) { frames := 3, cells := 0, slots := 0, locals := 52 } (Wc g M [.ref a]) (wrQ (S := Unit) g (fun u_ => none) (fun u_ M_ => M_ = mu M a (eO 0 [.int 0, .ref (g.2.2.2 0), .int 0]))) 0 0 (gA g) := by
  refine ofM (by decide +kernel) (Nat.le_of_ble_eq_true rfl) (fun p e s m args below meth c ls C hr hlocks hin hE hH hl ea => ?_)
  have hin : meth.name = "<init>" := hin
  have hl : lv_has ls 1 [(0, .ref a)] := hl
  have hS : va_S (gA g) s.heap s.heap [] := va_S.rf
  refine lv_aload_n C.1 C.2.1 dJx4a65c_init_da8c8_0 rfl (lv_at hl 0 rfl) ?_
  refine wr_go0 (runI C hE hH hS (c_AbL_init h0) mv_Jxc12de_init_da8c8 wm_60 hl.1 dJx4a65c_init_da8c8_1 rfl rfl ⟨rfl, rfl⟩ ⟨Nat.le_of_ble_eq_true rfl, Nat.le_of_ble_eq_true rfl⟩ (Nat.le_of_ble_eq_true rfl) ⟨Nat.le_of_ble_eq_true rfl, Nat.le_of_ble_eq_true rfl⟩) hS (fun u1 M2 H locs hM2 hH hS => ?_)
  have f3 : M2 a = some (eO 0 [.int 0, .null, .int 0]) := by rw [hM2]; exact mu_s
  refine lv_aload_n C.1 C.2.1 dJx4a65c_init_da8c8_4 rfl (lv_at hl 0 rfl) ?_
  refine va_gets C.1 C.2.1 hE.2.1 hS C.2.2.2.1 (C.2.2.2.2 _ wm_67) (fun x h => h) dJx4a65c_init_da8c8_5 ?_
  refine mput (fs' := [.int 0, .ref (g.2.2.2 0), .int 0]) C hE hH hS fl_69 f3 rfl rfl rfl (Nat.le_of_ble_eq_true rfl) dJx4a65c_init_da8c8_8 (fun H locs hH hS => ?_)
  obtain ⟨M4, hM4⟩ : ∃ z, z = mu M2 a (eO 0 [.int 0, .ref (g.2.2.2 0), .int 0]) := ⟨_, rfl⟩
  have hH : Hw g M4 H := by rw [hM4]; exact hH
  have f5 : M4 a = some (eO 0 [.int 0, .ref (g.2.2.2 0), .int 0]) := by rw [hM4]; exact mu_s
  exact wr_vret () C hr hlocks hH hS rfl (by (rw [hM4, hM2]) <;> simp only [mu_mu]) (by decide) (by decide) dJx4a65c_init_da8c8_11
set_option maxHeartbeats 4000000 in
set_option maxRecDepth 100000 in
theorem c_L_size {l : Launch} {g : gG} {M : Mp} {a : Nat} {md : Int32} {d : Nat} {k : Int32} (h0 : M a = some (eO 0 [.int md, .ref d, .int k])) : Met l yJx4a65c_size_8abf5 (WY yJx4a65c_size_8abf5 cJx4a65c_size_8abf5 1 (some .int)) { frames := 0, cells := 0, slots := 0, locals := 0 } (Wc g M [.ref a]) (rdQ (some (.int k))) 0 0 fr0 := by
  refine ofM (by decide +kernel) (Nat.le_of_ble_eq_true rfl) (fun p e s m args below meth c ls C hr hlocks hin hE hH hl ea => ?_)
  have hl : lv_has ls 1 [(0, .ref a)] := hl
  have hS : va_S (gA g) s.heap s.heap [] := va_S.rf
  refine lv_aload_n C.1 C.2.1 dJx4a65c_size_8abf5_0 rfl (lv_at hl 0 rfl) ?_
  refine mget C hE hH fl_70 h0 rfl dJx4a65c_size_8abf5_1 ?_
  exact rd_iret C hr hlocks (rfl) dJx4a65c_size_8abf5_4
set_option maxHeartbeats 4000000 in
set_option maxRecDepth 100000 in
theorem c_pcheck {l : Launch} {g : gG} {M : Mp} {x n : Int32} (hi0 : ¬ x < 0) (hi1 : x < n) : Met l yJ3_checkIndex_8e157 (WY yJ3_checkIndex_8e157 cJ3_checkIndex_8e157 3 (some .int)) { frames := 0, cells := 0, slots := 0, locals := 0 } (Wc g M [.int x, .int n, .null]) (rdQ (some (.int x))) 0 0 fr0 := by
  refine ofM (by decide +kernel) (Nat.le_of_ble_eq_true rfl) (fun p e s m args below meth c ls C hr hlocks hin hE hH hl ea => ?_)
  have hl : lv_has ls 3 [(0, .int x), (1, .int n), (2, .null)] := hl
  have hS : va_S (gA g) s.heap s.heap [] := va_S.rf
  refine lv_iload_n C.1 C.2.1 dJ3_checkIndex_8e157_0 rfl (lv_at hl 0 rfl) ?_
  refine lv_if_lt (tgt := 9) C.1 C.2.1 dJ3_checkIndex_8e157_1 (by decide) (fun c1 => ?_) (fun c1 => ?_)
  · exact absurd c1 hi0
  · refine lv_iload_n C.1 C.2.1 dJ3_checkIndex_8e157_4 rfl (lv_at hl 0 rfl) ?_
    refine lv_iload_n C.1 C.2.1 dJ3_checkIndex_8e157_5 rfl (lv_at hl 1 rfl) ?_
    refine lv_icmp_lt (tgt := 16) C.1 C.2.1 dJ3_checkIndex_8e157_6 (by decide) (fun c6 => ?_) (fun c6 => ?_)
    · refine lv_iload_n C.1 C.2.1 dJ3_checkIndex_8e157_16 rfl (lv_at hl 0 rfl) ?_
      exact rd_iret C hr hlocks (rfl) dJ3_checkIndex_8e157_17
    · exact absurd hi1 c6
set_option maxHeartbeats 4000000 in
set_option maxRecDepth 100000 in
theorem c_ocheck {l : Launch} {g : gG} {M : Mp} {x n : Int32} (hi0 : ¬ x < 0) (hi1 : x < n) : Met l yJ15_checkIndex_7cf53 (WY yJ15_checkIndex_7cf53 cJ15_checkIndex_7cf53 2 (some .int)) { frames := 1, cells := 0, slots := 0, locals := 22 } (Wc g M [.int x, .int n]) (rdQ (some (.int x))) 0 0 fr0 := by
  refine ofM (by decide +kernel) (Nat.le_of_ble_eq_true rfl) (fun p e s m args below meth c ls C hr hlocks hin hE hH hl ea => ?_)
  have hl : lv_has ls 2 [(0, .int x), (1, .int n)] := hl
  have hS : va_S (gA g) s.heap s.heap [] := va_S.rf
  refine lv_iload_n C.1 C.2.1 dJ15_checkIndex_7cf53_0 rfl (lv_at hl 0 rfl) ?_
  refine lv_iload_n C.1 C.2.1 dJ15_checkIndex_7cf53_1 rfl (lv_at hl 1 rfl) ?_
  refine lv_null C.1 C.2.1 dJ15_checkIndex_7cf53_2 ?_
  refine rd_go1 (runS C hE hH hS (c_pcheck (hi0) (hi1)) mv_J3_checkIndex_8e157 wm_368 hl.1 dJ15_checkIndex_7cf53_3 rfl rfl ⟨rfl, rfl⟩ ⟨Nat.le_of_ble_eq_true rfl, Nat.le_of_ble_eq_true rfl⟩ (Nat.le_of_ble_eq_true rfl) ⟨Nat.le_of_ble_eq_true rfl, Nat.le_of_ble_eq_true rfl⟩) ?_
  exact rd_iret C hr hlocks (rfl) dJ15_checkIndex_7cf53_6
set_option maxHeartbeats 4000000 in
set_option maxRecDepth 100000 in
theorem c_L_elementData {l : Launch} {g : gG} {M : Mp} {a : Nat} {md : Int32} {d : Nat} {k : Int32}{nn : Nat} {row : Nat → Option Nat} {x : Int32} {y : Nat} (h0 : M a = some (eO 0 [.int md, .ref d, .int k])) (h1 : M d = some (eQ g 2 nn row)) (hv : vp_in x nn) (hy : row x.toNatClampNeg = some y) : Met l yJx4a65c_elementData_915e3 (WY yJx4a65c_elementData_915e3 cJx4a65c_elementData_915e3 2 (some (.object "java/lang/Object"))) { frames := 0, cells := 0, slots := 0, locals := 0 } (Wc g M [.ref a, .int x]) (rdQ (some (.ref y))) 0 0 fr0 := by
  refine ofM (by decide +kernel) (Nat.le_of_ble_eq_true rfl) (fun p e s m args below meth c ls C hr hlocks hin hE hH hl ea => ?_)
  have hl : lv_has ls 2 [(0, .ref a), (1, .int x)] := hl
  have hS : va_S (gA g) s.heap s.heap [] := va_S.rf
  refine lv_aload_n C.1 C.2.1 dJx4a65c_elementData_915e3_0 rfl (lv_at hl 0 rfl) ?_
  refine mget C hE hH fl_69 h0 rfl dJx4a65c_elementData_915e3_1 ?_
  refine lv_iload_n C.1 C.2.1 dJx4a65c_elementData_915e3_4 rfl (lv_at hl 1 rfl) ?_
  refine maldq (k := 2) (y := y) C hE hH h1 rfl rfl hv hy dJx4a65c_elementData_915e3_5 ?_
  exact rd_aret C hr hlocks (by first | exact Or.inl ⟨_, rfl⟩ | exact Or.inr ⟨_, rfl⟩) (rfl) dJx4a65c_elementData_915e3_6
set_option maxHeartbeats 4000000 in
set_option maxRecDepth 100000 in
theorem c_L_get {l : Launch} {g : gG} {M : Mp} {a : Nat} {md : Int32} {d : Nat} {k : Int32}{nn : Nat} {row : Nat → Option Nat} {x : Int32} {y : Nat} (h0 : M a = some (eO 0 [.int md, .ref d, .int k])) (h1 : M d = some (eQ g 2 nn row)) (hv : vp_in x nn) (hy : row x.toNatClampNeg = some y) (hi0 : ¬ x < 0) (hi1 : x < k) : Met l yJx4a65c_get_915e3 (WY yJx4a65c_get_915e3 cJx4a65c_get_915e3 2 (some (.object "java/lang/Object"))) { frames := 2, cells := 0, slots := 0, locals := 43 } (Wc g M [.ref a, .int x]) (rdQ (some (.ref y))) 0 0 fr0 := by
  refine ofM (by decide +kernel) (Nat.le_of_ble_eq_true rfl) (fun p e s m args below meth c ls C hr hlocks hin hE hH hl ea => ?_)
  have hl : lv_has ls 2 [(0, .ref a), (1, .int x)] := hl
  have hS : va_S (gA g) s.heap s.heap [] := va_S.rf
  refine lv_iload_n C.1 C.2.1 dJx4a65c_get_915e3_0 rfl (lv_at hl 1 rfl) ?_
  refine lv_aload_n C.1 C.2.1 dJx4a65c_get_915e3_1 rfl (lv_at hl 0 rfl) ?_
  refine mget C hE hH fl_70 h0 rfl dJx4a65c_get_915e3_2 ?_
  refine rd_go1 (runS C hE hH hS (c_ocheck (hi0) (hi1)) mv_J15_checkIndex_7cf53 wm_365 hl.1 dJx4a65c_get_915e3_5 rfl rfl ⟨rfl, rfl⟩ ⟨Nat.le_of_ble_eq_true rfl, Nat.le_of_ble_eq_true rfl⟩ (Nat.le_of_ble_eq_true rfl) ⟨Nat.le_of_ble_eq_true rfl, Nat.le_of_ble_eq_true rfl⟩) ?_
  refine lv_pop C.1 C.2.1 dJx4a65c_get_915e3_8 rfl ?_
  refine lv_aload_n C.1 C.2.1 dJx4a65c_get_915e3_9 rfl (lv_at hl 0 rfl) ?_
  refine lv_iload_n C.1 C.2.1 dJx4a65c_get_915e3_10 rfl (lv_at hl 1 rfl) ?_
  refine rd_go1 (runV C hE hH hS (c_L_elementData h0 h1 (hv) (hy)) mv_Jx4a65c_elementData_915e3 wm_371 h0 rfl rfl hl.1 dJx4a65c_get_915e3_11 rfl rfl ⟨rfl, rfl⟩ ⟨Nat.le_of_ble_eq_true rfl, Nat.le_of_ble_eq_true rfl⟩ (Nat.le_of_ble_eq_true rfl) ⟨Nat.le_of_ble_eq_true rfl, Nat.le_of_ble_eq_true rfl⟩) ?_
  exact rd_aret C hr hlocks (by first | exact Or.inl ⟨_, rfl⟩ | exact Or.inr ⟨_, rfl⟩) (rfl) dJx4a65c_get_915e3_14
set_option maxHeartbeats 4000000 in
set_option maxRecDepth 100000 in
theorem c_newLength {l : Launch} {g : gG} {M : Mp} {x y z : Int32} (hp1 : ¬ x + (if y < z then z else y) ≤ 0) (hp2 : ¬ 2147483639 < x + (if y < z then z else y)) : Met l yJ8_newLength_cabcc (WY yJ8_newLength_cabcc cJ8_newLength_cabcc 4 (some .int)) { frames := 1, cells := 0, slots := 0, locals := 14 } (Wc g M [.int x, .int y, .int z]) (rdQ (some (.int (x + (if y < z then z else y))))) 0 0 fr0 := by
  refine ofM (by decide +kernel) (Nat.le_of_ble_eq_true rfl) (fun p e s m args below meth c ls C hr hlocks hin hE hH hl ea => ?_)
  have hl : lv_has ls 4 [(0, .int x), (1, .int y), (2, .int z)] := hl
  have hS : va_S (gA g) s.heap s.heap [] := va_S.rf
  refine lv_iload_n C.1 C.2.1 dJ8_newLength_cabcc_0 rfl (lv_at hl 0 rfl) ?_
  refine lv_iload_n C.1 C.2.1 dJ8_newLength_cabcc_1 rfl (lv_at hl 1 rfl) ?_
  refine lv_iload_n C.1 C.2.1 dJ8_newLength_cabcc_2 rfl (lv_at hl 2 rfl) ?_
  refine va_mmax C.1 C.2.1 (C.2.2.1.trans hl.1.symm) C.2.2.2.1 (C.2.2.2.2 _ wm_276) (C.2.2.2.2 _ wm_277) (C.2.2.2.2 _ wm_37) (C.2.2.2.2 _ wm_278) (Nat.le_of_ble_eq_true rfl) (Nat.le_of_ble_eq_true rfl) (by decide) (by decide) dJ8_newLength_cabcc_3 ?_
  refine lv_iadd C.1 C.2.1 dJ8_newLength_cabcc_6 ?_
  refine lv_topi (fun x1 ex1 => ?_)
  refine lv_istore_n (lv' := [(3, .int x1), (0, .int x), (1, .int y), (2, .int z)]) C.1 C.2.1 dJ8_newLength_cabcc_7 rfl hl (by decide) rfl (fun ls hl => ?_)
  refine lv_iconst (v := 0) C.1 C.2.1 dJ8_newLength_cabcc_8 rfl ?_
  refine lv_iload_n C.1 C.2.1 dJ8_newLength_cabcc_9 rfl (lv_at hl 0 rfl) ?_
  refine lv_icmp_ge (tgt := 21) C.1 C.2.1 dJ8_newLength_cabcc_10 (by decide) (fun c10 => ?_) (fun c10 => ?_)
  · exact absurd c10 (by rw [ex1]; exact hp1)
  · refine lv_iload_n C.1 C.2.1 dJ8_newLength_cabcc_13 rfl (lv_at hl 0 rfl) ?_
    refine lv_ldc (v := 2147483639) C.1 C.2.1 C.2.2.2.1 (C.2.2.2.2 _ wm_279) dJ8_newLength_cabcc_14 ?_
    refine lv_icmp_gt (tgt := 21) C.1 C.2.1 dJ8_newLength_cabcc_16 (by decide) (fun c16 => ?_) (fun c16 => ?_)
    · exact absurd c16 (by rw [ex1]; exact hp2)
    · refine lv_iload_n C.1 C.2.1 dJ8_newLength_cabcc_19 rfl (lv_at hl 0 rfl) ?_
      exact rd_iret C hr hlocks (ex1) dJ8_newLength_cabcc_20
set_option maxHeartbeats 4000000 in
set_option maxRecDepth 100000 in
theorem c_copyOf3 {l : Launch} {g : gG} {M : Mp} {a0 n0 nn ci : Nat} {row : Nat → Option Nat} {r : vw_C} (h0 : M a0 = some (eQ g 2 n0 row)) (hN : n0 < nn ∧ nn ≤ 200) (hc : vwCl[ci]? = some r) (hcaS : ∀ s : State, gE g s → va_Nw (.castable r.1 "java/lang/Object") s) (hel : ∀ j, j < n0 → ∃ y vs, row j = some y ∧ M y = some (eO ci vs)) : Met l yJ7_copyOf_6403c (WY yJ7_copyOf_6403c cJ7_copyOf_6403c 4 (some (.array (.object "java/lang/Object")))) { frames := 1, cells := 1, slots := 200, locals := 60 } (Wc g M [.ref a0, .int (nI nn), .ref (g.2.2.2 1)]) (wrQ (S := Nat) g (fun u_ => (some (.ref u_))) (fun u_ M_ => M u_ = none ∧ g.1 ≤ u_ ∧ M_ = mu M u_ (eQ g 2 nn (va_cpy row (fun _ => none) 0 0 n0)))) 1 200 (gA g) := by
  refine ofM (by decide +kernel) (Nat.le_of_ble_eq_true rfl) (fun p e s m args below meth c ls C hr hlocks hin hE hH hl ea => ?_)
  have hl : lv_has ls 4 [(0, .ref a0), (1, .int (nI nn)), (2, .ref (g.2.2.2 1))] := hl
  have hS : va_S (gA g) s.heap s.heap [] := va_S.rf
  have hca := hcaS s hE
  obtain ⟨hN1, hN2⟩ := hN
  refine lv_aload_n C.1 C.2.1 dJ7_copyOf_6403c_0 rfl (lv_at hl 2 rfl) ?_
  refine va_ldcM C.1 C.2.1 C.2.2.2.1 (C.2.2.2.2 _ wm_305) hE.2.2.2.2.2.1 dJ7_copyOf_6403c_1 ?_
  refine lv_acmp_ne (rx := some (g.2.2.2 1)) (ry := some (g.2.2.2 1)) (tgt := 13) C.1 C.2.1 dJ7_copyOf_6403c_3 (by decide) (fun c3 => ?_) (fun c3 => ?_)
  · exact absurd rfl c3
  · refine lv_iload_n C.1 C.2.1 dJ7_copyOf_6403c_6 rfl (lv_at hl 1 rfl) ?_
    refine mnewQ (k := 2) (N := nn) C hE hH hS wm_307 hE.2.2.2.2.2.2.2.2.2.1.1 rfl (nI_pos (by omega)) (nI_clamp (by omega)) (by omega) (by decide) (by show 0 + nn ≤ 200; omega) dJ7_copyOf_6403c_7 (fun q1 H nq1 gq1 hH hS => ?_)
    refine W.widen (k := 1) (n := 200) (by omega) (by omega) ?_
    obtain ⟨M2, hM2⟩ : ∃ z, z = mu M q1 (eQ g 2 nn (fun _ => none)) := ⟨_, rfl⟩
    have hH : Hw g M2 H := by rw [hM2]; exact hH
    have f3 : M2 q1 = some (eQ g 2 nn (fun _ => none)) := by rw [hM2]; exact mu_s
    have f4 : M2 a0 = some (eQ g 2 n0 row) := by rw [hM2]; exact (mu_n (m_new nq1 h0)).trans h0
    refine lv_goto (tgt := 24) C.1 C.2.1 dJ7_copyOf_6403c_10 (by decide) ?_
    refine lv_astore_n (lv' := [(3, .ref q1), (0, .ref a0), (1, .int (nI nn)), (2, .ref (g.2.2.2 1))]) C.1 C.2.1 dJ7_copyOf_6403c_24 rfl hl (by decide) rfl (fun ls hl => ?_)
    refine lv_aload_n C.1 C.2.1 dJ7_copyOf_6403c_25 rfl (lv_at hl 1 rfl) ?_
    refine lv_iconst (v := 0) C.1 C.2.1 dJ7_copyOf_6403c_26 rfl ?_
    refine lv_aload_n C.1 C.2.1 dJ7_copyOf_6403c_27 rfl (lv_at hl 0 rfl) ?_
    refine lv_iconst (v := 0) C.1 C.2.1 dJ7_copyOf_6403c_28 rfl ?_
    refine lv_aload_n C.1 C.2.1 dJ7_copyOf_6403c_29 rfl (lv_at hl 1 rfl) ?_
    refine malen (k := 2) (v := nI n0) C hE hH f4 rfl rfl dJ7_copyOf_6403c_30 ?_
    refine lv_iload_n C.1 C.2.1 dJ7_copyOf_6403c_31 rfl (lv_at hl 2 rfl) ?_
    refine va_mmin C.1 C.2.1 (C.2.2.1.trans hl.1.symm) C.2.2.2.1 (C.2.2.2.2 _ wm_308) (C.2.2.2.2 _ wm_309) (C.2.2.2.2 _ wm_37) (C.2.2.2.2 _ wm_310) (Nat.le_of_ble_eq_true rfl) (Nat.le_of_ble_eq_true rfl) (by decide) (by decide) dJ7_copyOf_6403c_32 ?_
    have hmin : (if (nI nn) < (nI n0) then (nI nn) else (nI n0)) = nI n0 := by rw [if_neg (fun z => absurd ((nI_ltI (by omega) (by omega)).mp z) (by omega))]
    rw [hmin]
    refine mcopyq (ci := ci) C hE hH hS f4 f3 hl.1 wm_311 wm_313 wm_312 wm_39 (by decide) (by decide) (nI_pos (by omega)) (by rw [nI_clamp (by omega)]; show 0 + n0 ≤ n0; omega) (by rw [nI_clamp (by omega)]; show 0 + n0 ≤ nn; omega) (fun i hi y hy => by rw [nI_clamp (by omega)] at hi; rw [show ((0 : Int32).toNatClampNeg + i) = i from Nat.zero_add i] at hy; obtain ⟨y2, vs, e1, e2⟩ := hel i hi; rw [hy] at e1; cases e1; exact ⟨vs, by rw [hM2, mu_n (m_new nq1 e2)]; exact e2⟩) hc hca (Nat.le_of_ble_eq_true rfl) (by decide +kernel) dJ7_copyOf_6403c_35 (fun H locs hH hS => ?_)
    rw [nI_clamp (by omega)] at hH
    obtain ⟨M5, hM5⟩ : ∃ z, z = mu M2 q1 (eQ g 2 nn (va_cpy row (fun _ => none) 0 0 n0)) := ⟨_, rfl⟩
    have hH : Hw g M5 H := by rw [hM5]; exact hH
    have f6 : M5 q1 = some (eQ g 2 nn (va_cpy row (fun _ => none) 0 0 n0)) := by rw [hM5]; exact mu_s
    have f7 : M5 a0 = some (eQ g 2 n0 row) := by rw [hM5]; exact (mu_n (m_new nq1 h0)).trans f4
    refine lv_aload_n C.1 C.2.1 dJ7_copyOf_6403c_38 rfl (lv_at hl 0 rfl) ?_
    exact wr_aret q1 C hr hlocks (by first | exact Or.inl ⟨_, rfl⟩ | exact Or.inr ⟨_, rfl⟩) hH hS rfl (⟨nq1, gq1, by (rw [hM5, hM2]) <;> simp only [mu_mu]⟩) (by decide) (by decide) dJ7_copyOf_6403c_39
set_option maxHeartbeats 4000000 in
set_option maxRecDepth 100000 in
theorem c_copyOf2 {l : Launch} {g : gG} {M : Mp} {a0 n0 nn ci : Nat} {row : Nat → Option Nat} {r : vw_C} (h0 : M a0 = some (eQ g 2 n0 row)) (hN : n0 < nn ∧ nn ≤ 200) (hc : vwCl[ci]? = some r) (hcaS : ∀ s : State, gE g s → va_Nw (.castable r.1 "java/lang/Object") s) (hel : ∀ j, j < n0 → ∃ y vs, row j = some y ∧ M y = some (eO ci vs)) : Met l yJ7_copyOf_1904c (WY yJ7_copyOf_1904c cJ7_copyOf_1904c 2 (some (.array (.object "java/lang/Object")))) { frames := 2, cells := 1, slots := 200, locals := 83 } (Wc g M [.ref a0, .int (nI nn)]) (wrQ (S := Nat) g (fun u_ => (some (.ref u_))) (fun u_ M_ => M u_ = none ∧ g.1 ≤ u_ ∧ M_ = mu M u_ (eQ g 2 nn (va_cpy row (fun _ => none) 0 0 n0)))) 1 200 (gA g) := by
  refine ofM (by decide +kernel) (Nat.le_of_ble_eq_true rfl) (fun p e s m args below meth c ls C hr hlocks hin hE hH hl ea => ?_)
  have hl : lv_has ls 2 [(0, .ref a0), (1, .int (nI nn))] := hl
  have hS : va_S (gA g) s.heap s.heap [] := va_S.rf
  refine lv_aload_n C.1 C.2.1 dJ7_copyOf_1904c_0 rfl (lv_at hl 0 rfl) ?_
  refine lv_iload_n C.1 C.2.1 dJ7_copyOf_1904c_1 rfl (lv_at hl 1 rfl) ?_
  refine lv_aload_n C.1 C.2.1 dJ7_copyOf_1904c_2 rfl (lv_at hl 0 rfl) ?_
  refine mgetC C hE hH h0 hl.1 wm_286 wm_962 wm_287 wm_301 (Nat.le_of_ble_eq_true rfl) (Nat.le_of_ble_eq_true rfl) dJ7_copyOf_1904c_3 ?_
  refine wr_go1 (runS C hE hH hS (c_copyOf3 h0 (hN) (hc) (hcaS) (hel)) mv_J7_copyOf_6403c wm_302 hl.1 dJ7_copyOf_1904c_6 rfl rfl ⟨rfl, rfl⟩ ⟨Nat.le_of_ble_eq_true rfl, Nat.le_of_ble_eq_true rfl⟩ (Nat.le_of_ble_eq_true rfl) ⟨Nat.le_of_ble_eq_true rfl, Nat.le_of_ble_eq_true rfl⟩) hS (fun u1 M2 H locs hM2 hH hS => ?_)
  obtain ⟨nu1, gu1, hM2⟩ := hM2
  have f3 : M2 u1 = some (eQ g 2 nn (va_cpy row (fun _ => none) 0 0 n0)) := by rw [hM2]; exact mu_s
  have f4 : M2 a0 = some (eQ g 2 n0 row) := by rw [hM2]; exact (mu_n (m_new nu1 h0)).trans h0
  exact wr_aret u1 C hr hlocks (by first | exact Or.inl ⟨_, rfl⟩ | exact Or.inr ⟨_, rfl⟩) hH hS rfl (⟨nu1, gu1, hM2⟩) (by decide) (by decide) dJ7_copyOf_1904c_9
