/-! rows for the JDK's list -/
section MJR
variable {p : Program} {l : Launch} {e : Env} {R : Room} {s : State} {m : MethodId} {args : Array Value} {below : List Frame} {meth : Method} {c : Code} {H : Heap} {locs : List Loc} {cells slots : Nat} {Q : State → Prop}
variable {cc : ByteArray} {nL : Nat} {own : String} {pc : Nat} {ls : Array Slot} {rest : List Value} {g : gG} {M : Mp} {a : Nat}
theorem medlen (C : CallFix p m c cc nL s args WA own) (hE : gE g s) (hS : va_S (gA g) s.heap H locs) (hdg : decode cc pc = .ok (.arraylength, 1)) (kk : W p l e R s m args below meth c H locs cells slots Q (F0 m (pc + 1) ls (.int 0 :: rest))) : W p l e R s m args below meth c H locs cells slots Q (F0 m pc ls (.ref (g.2.2.2 0) :: rest)) := by
  obtain ⟨cell, h1, h2, h3, h4, h5, h6, h7⟩ := hE.2.2.1
  exact W.alen (n := 0) C.1 C.2.1 (by rw [hS.2.1 _ (Array.getElem?_eq_some_iff.mp h1).1 h7]; exact h1) h2 (h5.trans rfl) rfl rfl hdg kk
theorem mgetC {n idx : Nat} {f : Nat → Option Nat} (C : CallFix p m c cc nL s args WA own) (hE : gE g s) (hH : Hw g M H) (h : M a = some (eQ g 2 n f)) (hsz : ls.size = nL) (h1 : Cond.methodLink own idx ⟨"java/lang/Object", "getClass", "()Ljava/lang/Class;"⟩ ∈ WA) (h3 : Cond.selects "[Ljava/lang/Object;" ⟨"java/lang/Object", "getClass", "()Ljava/lang/Class;"⟩ ⟨"java/lang/Object", "getClass", "()Ljava/lang/Class;"⟩ ∈ WA) (h4 : Cond.instanceMethod ⟨"java/lang/Object", "getClass", "()Ljava/lang/Class;"⟩ ∈ WA) (h5 : Cond.native ⟨"java/lang/Object", "getClass", "()Ljava/lang/Class;"⟩ ∈ WA) (hframes : 1 ≤ R.frames) (hlocals : (rest.map fun v => v.category).sum + 14 ≤ R.locals) (hdg : decode cc pc = .ok (.invokevirtual idx, 3)) (kk : W p l e R s m args below meth c H locs cells slots Q (F0 m (pc + 3) ls (.ref (g.2.2.2 1) :: rest))) : W p l e R s m args below meth c H locs cells slots Q (F0 m pc ls (.ref a :: rest)) := by
  obtain ⟨-, -, -, -, -, hf⟩ := (hE.1.2 2 _ rfl).2
  exact va_getC C.1 C.2.1 (C.2.2.1.trans hsz.symm) C.2.2.2.1 (C.2.2.2.2 _ h1) (hE.2.2.2.2.2.2.2.2.2.2.1.use) (C.2.2.2.2 _ h3) (C.2.2.2.2 _ h4) (C.2.2.2.2 _ h5) hE.2.2.2.2.2.1 ⟨_, mw_one hH.1 h 0 _ rfl, rfl, hf⟩ hframes hlocals hdg kk
theorem mcopyq {a0 n0 n1 ci idx : Nat} {r : vw_C} {f h : Nat → Option Nat} {sp dp n : Int32} (C : CallFix p m c cc nL s args WA own) (hE : gE g s) (hH : Hw g M H) (hS : va_S (gA g) s.heap H locs) (ha0 : M a0 = some (eQ g 2 n0 f)) (ha : M a = some (eQ g 2 n1 h)) (hsz : ls.size = nL) (h1 : Cond.methodLink own idx arraycopyName ∈ WA) (h2 : Cond.native arraycopyName ∈ WA) (h3 : Cond.static arraycopyName ∈ WA) (h4 : Cond.initialized "java/lang/System" ∈ WA)
    (s1 : ¬ sp < 0) (s2 : ¬ dp < 0) (s3 : ¬ n < 0) (s4 : sp.toNatClampNeg + n.toNatClampNeg ≤ n0) (s5 : dp.toNatClampNeg + n.toNatClampNeg ≤ n1) (hel : ∀ i : Nat, i < n.toNatClampNeg → ∀ y : Nat, f (sp.toNatClampNeg + i) = some y → ∃ vs, M y = some (eO ci vs)) (hc : vwCl[ci]? = some r) (hca : va_Nw (.castable r.1 "java/lang/Object") s) (hframes : 1 ≤ R.frames) (hlocals : (rest.map fun v => v.category).sum + (nativeFrameWords "java/lang/System" "arraycopy" 5 + 11) ≤ R.locals) (hdg : decode cc pc = .ok (.invokestatic idx, 3))
    (kk : ∀ (H1 : Heap) (locs1 : List Loc), Hw g (mu M a (eQ g 2 n1 (va_cpy f h sp.toNatClampNeg dp.toNatClampNeg n.toNatClampNeg))) H1 → va_S (gA g) s.heap H1 locs1 → W p l e R s m args below meth c H1 locs1 cells slots Q (F0 m (pc + 3) ls rest)) : W p l e R s m args below meth c H locs cells slots Q (F0 m pc ls (.int n :: .int dp :: .ref a :: .int sp :: .ref a0 :: rest)) := by
  obtain ⟨j0, hj0⟩ := mL_get ha0 (mw_lt hH.1 ha0)
  obtain ⟨j, hj⟩ := mL_get ha (mw_lt hH.1 ha)
  exact va_copyq (C := r.1) C.1 C.2.1 (C.2.2.1.trans hsz.symm) C.2.2.2.1 (C.2.2.2.2 _ h1) (C.2.2.2.2 _ h2) (C.2.2.2.2 _ h3) (C.2.2.2.2 _ h4) hE.1 (mL_P hH.1) (mL_D hH.2) hS j0 j 2 2 hj0 hj rfl rfl s1 s2 s3 s4 s5 (fun i hi y hy => by obtain ⟨vs, hv⟩ := hel i hi y hy; exact m_recv hE hH hv hc) (vb_asgC hca) hframes hlocals hdg (fun H1 locs1 hP1 _ hS1 => kk H1 locs1 (Hw_set hH ha hj hP1) hS1)
end MJR

set_option maxHeartbeats 4000000 in
set_option maxRecDepth 100000 in
theorem c_AC_init {l : Launch} {g : gG} {M : Mp} {a : Nat} (h0 : M a = some (eO 0 [.int 0, .null, .int 0])) : Met l yJxa1e45_init_da8c8 (WY yJxa1e45_init_da8c8 cJxa1e45_init_da8c8 1 none) { frames := 1, cells := 0, slots := 0, locals := 12 } (Wc g M [.ref a]) (rdQ none) 0 0 fr0 := by
  refine ofM (by decide +kernel) (Nat.le_of_ble_eq_true rfl) (fun p e s m args below meth c ls C hr hlocks hin hE hH hl ea => ?_)
  have hin : meth.name = "<init>" := hin
  have hl : lv_has ls 1 [(0, .ref a)] := hl
  have hS : va_S (gA g) s.heap s.heap [] := va_S.rf
  refine lv_aload_n C.1 C.2.1 dJxa1e45_init_da8c8_0 rfl (lv_at hl 0 rfl) ?_
  refine W.objInit C.1 C.2.1 C.2.2.2.1 (C.2.2.2.2 _ wm_54) (C.2.2.2.2 _ wm_41) (C.2.2.2.2 _ wm_42) rfl (by rw [C.2.2.1]; exact hl.1) rfl dJxa1e45_init_da8c8_1 (Nat.le_of_ble_eq_true rfl) (Nat.le_of_ble_eq_true rfl) ?_
  refine W.eq (g2 := F0 m 4 ls []) rfl ?_
  exact rd_vret C hr hlocks  dJxa1e45_init_da8c8_4
set_option maxHeartbeats 4000000 in
set_option maxRecDepth 100000 in
theorem c_AbL_init {l : Launch} {g : gG} {M : Mp} {a : Nat} (h0 : M a = some (eO 0 [.int 0, .null, .int 0])) : Met l yJxc12de_init_da8c8 (WY yJxc12de_init_da8c8 cJxc12de_init_da8c8 1 none) { frames := 2, cells := 0, slots := 0, locals := 32 } (Wc g M [.ref a]) (wrQ (S := Unit) g (fun u_ => none) (fun u_ M_ => M_ = mu M a (eO 0 [.int 0, .null, .int 0]))) 0 0 (gA g) := by
  refine ofM (by decide +kernel) (Nat.le_of_ble_eq_true rfl) (fun p e s m args below meth c ls C hr hlocks hin hE hH hl ea => ?_)
  have hin : meth.name = "<init>" := hin
  have hl : lv_has ls 1 [(0, .ref a)] := hl
  have hS : va_S (gA g) s.heap s.heap [] := va_S.rf
  refine lv_aload_n C.1 C.2.1 dJxc12de_init_da8c8_0 rfl (lv_at hl 0 rfl) ?_
  refine rd_go0 (runI C hE hH hS (c_AC_init h0) mv_Jxa1e45_init_da8c8 wm_51 hl.1 dJxc12de_init_da8c8_1 rfl rfl ⟨rfl, rfl⟩ ⟨Nat.le_of_ble_eq_true rfl, Nat.le_of_ble_eq_true rfl⟩ (Nat.le_of_ble_eq_true rfl) ⟨Nat.le_of_ble_eq_true rfl, Nat.le_of_ble_eq_true rfl⟩) ?_
  refine lv_aload_n C.1 C.2.1 dJxc12de_init_da8c8_4 rfl (lv_at hl 0 rfl) ?_
  refine lv_iconst (v := 0) C.1 C.2.1 dJxc12de_init_da8c8_5 rfl ?_
  refine mput (fs' := [.int 0, .null, .int 0]) C hE hH hS fl_59 h0 rfl rfl rfl (Nat.le_of_ble_eq_true rfl) dJxc12de_init_da8c8_6 (fun H locs hH hS => ?_)
  obtain ⟨M1, hM1⟩ : ∃ z, z = mu M a (eO 0 [.int 0, .null, .int 0]) := ⟨_, rfl⟩
  have hH : Hw g M1 H := by rw [hM1]; exact hH
  have f2 : M1 a = some (eO 0 [.int 0, .null, .int 0]) := by rw [hM1]; exact mu_s
  exact wr_vret () C hr hlocks hH hS rfl (by (rw [hM1]) <;> simp only [mu_mu]) (by decide) (by decide) dJxc12de_init_da8c8_9
set_option maxHeartbeats 4000000 in
set_option maxRecDepth 100000 in
theorem c_L_init {l : Launch} {g : gG} {M : Mp} {a : Nat} (h0 : M a = some (eO 0 [.int 0, .null, .int 0])) : Met l yJx4a65c_init_da8c8 (WY yJx4a65c_init_da8c8 cJx4a65c_init_da8c8 1 none) { frames := 3, cells := 0, slots := 0, locals := 52 } (Wc g M [.ref a]) (wrQ (S := Unit) g (fun u_ => none) (fun u_ M_ => M_ = mu M a (eO 0 [.int 0, .ref (g.2.2.2 0), .int 0]))) 0 0 (gA g) := by
  refine ofM (by decide +kernel) (Nat.le_of_ble_eq_true rfl) (fun p e s m args below meth c ls C hr hlocks hin hE hH hl ea => ?_)
  have hin : meth.name = "<init>" := hin
  have hl : lv_has ls 1 [(0, .ref a)] := hl
  have hS : va_S (gA g) s.heap s.heap [] := va_S.rf
  refine lv_aload_n C.1 C.2.1 dJx4a65c_init_da8c8_0 rfl (lv_at hl 0 rfl) ?_
  refine wr_go0 (runI C hE hH hS (c_AbL_init h0) mv_Jxc12de_init_da8c8 wm_48 hl.1 dJx4a65c_init_da8c8_1 rfl rfl ⟨rfl, rfl⟩ ⟨Nat.le_of_ble_eq_true rfl, Nat.le_of_ble_eq_true rfl⟩ (Nat.le_of_ble_eq_true rfl) ⟨Nat.le_of_ble_eq_true rfl, Nat.le_of_ble_eq_true rfl⟩) hS (fun u1 M2 H locs hM2 hH hS => ?_)
  have f3 : M2 a = some (eO 0 [.int 0, .null, .int 0]) := by rw [hM2]; exact mu_s
  refine lv_aload_n C.1 C.2.1 dJx4a65c_init_da8c8_4 rfl (lv_at hl 0 rfl) ?_
  refine va_gets C.1 C.2.1 hE.2.1 hS C.2.2.2.1 (C.2.2.2.2 _ wm_55) (fun x h => h) dJx4a65c_init_da8c8_5 ?_
  refine mput (fs' := [.int 0, .ref (g.2.2.2 0), .int 0]) C hE hH hS fl_57 f3 rfl rfl rfl (Nat.le_of_ble_eq_true rfl) dJx4a65c_init_da8c8_8 (fun H locs hH hS => ?_)
  obtain ⟨M4, hM4⟩ : ∃ z, z = mu M2 a (eO 0 [.int 0, .ref (g.2.2.2 0), .int 0]) := ⟨_, rfl⟩
  have hH : Hw g M4 H := by rw [hM4]; exact hH
  have f5 : M4 a = some (eO 0 [.int 0, .ref (g.2.2.2 0), .int 0]) := by rw [hM4]; exact mu_s
  exact wr_vret () C hr hlocks hH hS rfl (by (rw [hM4, hM2]) <;> simp only [mu_mu]) (by decide) (by decide) dJx4a65c_init_da8c8_11
set_option maxHeartbeats 4000000 in
set_option maxRecDepth 100000 in
theorem c_L_size {l : Launch} {g : gG} {M : Mp} {a : Nat} {md : Int32} {d : Nat} {k : Int32} (h0 : M a = some (eO 0 [.int md, .ref d, .int k])) : Met l yJx4a65c_size_8abf5 (WY yJx4a65c_size_8abf5 cJx4a65c_size_8abf5 1 (some .int)) { frames := 0, cells := 0, slots := 0, locals := 0 } (Wc g M [.ref a]) (rdQ (some (.int k))) 0 0 fr0 := by
  refine ofM (by decide +kernel) (Nat.le_of_ble_eq_true rfl) (fun p e s m args below meth c ls C hr hlocks hin hE hH hl ea => ?_)
  have hl : lv_has ls 1 [(0, .ref a)] := hl
  have hS : va_S (gA g) s.heap s.heap [] := va_S.rf
  refine lv_aload_n C.1 C.2.1 dJx4a65c_size_8abf5_0 rfl (lv_at hl 0 rfl) ?_
  refine mget C hE hH fl_58 h0 rfl dJx4a65c_size_8abf5_1 ?_
  exact rd_iret C hr hlocks (rfl) dJx4a65c_size_8abf5_4
set_option maxHeartbeats 4000000 in
set_option maxRecDepth 100000 in
theorem c_pcheck {l : Launch} {g : gG} {M : Mp} {x n : Int32} (hi0 : ¬ x < 0) (hi1 : x < n) : Met l yJ3_checkIndex_8e157 (WY yJ3_checkIndex_8e157 cJ3_checkIndex_8e157 3 (some .int)) { frames := 0, cells := 0, slots := 0, locals := 0 } (Wc g M [.int x, .int n, .null]) (rdQ (some (.int x))) 0 0 fr0 := by
  refine ofM (by decide +kernel) (Nat.le_of_ble_eq_true rfl) (fun p e s m args below meth c ls C hr hlocks hin hE hH hl ea => ?_)
  have hl : lv_has ls 3 [(0, .int x), (1, .int n), (2, .null)] := hl
  have hS : va_S (gA g) s.heap s.heap [] := va_S.rf
  refine lv_iload_n C.1 C.2.1 dJ3_checkIndex_8e157_0 rfl (lv_at hl 0 rfl) ?_
  refine lv_if_lt (tgt := 9) C.1 C.2.1 dJ3_checkIndex_8e157_1 (by decide) (fun c1 => ?_) (fun c1 => ?_)
  · exact absurd c1 hi0
  · refine lv_iload_n C.1 C.2.1 dJ3_checkIndex_8e157_4 rfl (lv_at hl 0 rfl) ?_
    refine lv_iload_n C.1 C.2.1 dJ3_checkIndex_8e157_5 rfl (lv_at hl 1 rfl) ?_
    refine lv_icmp_lt (tgt := 16) C.1 C.2.1 dJ3_checkIndex_8e157_6 (by decide) (fun c6 => ?_) (fun c6 => ?_)
    · refine lv_iload_n C.1 C.2.1 dJ3_checkIndex_8e157_16 rfl (lv_at hl 0 rfl) ?_
      exact rd_iret C hr hlocks (rfl) dJ3_checkIndex_8e157_17
    · exact absurd hi1 c6
set_option maxHeartbeats 4000000 in
set_option maxRecDepth 100000 in
theorem c_ocheck {l : Launch} {g : gG} {M : Mp} {x n : Int32} (hi0 : ¬ x < 0) (hi1 : x < n) : Met l yJ15_checkIndex_7cf53 (WY yJ15_checkIndex_7cf53 cJ15_checkIndex_7cf53 2 (some .int)) { frames := 1, cells := 0, slots := 0, locals := 22 } (Wc g M [.int x, .int n]) (rdQ (some (.int x))) 0 0 fr0 := by
  refine ofM (by decide +kernel) (Nat.le_of_ble_eq_true rfl) (fun p e s m args below meth c ls C hr hlocks hin hE hH hl ea => ?_)
  have hl : lv_has ls 2 [(0, .int x), (1, .int n)] := hl
  have hS : va_S (gA g) s.heap s.heap [] := va_S.rf
  refine lv_iload_n C.1 C.2.1 dJ15_checkIndex_7cf53_0 rfl (lv_at hl 0 rfl) ?_
  refine lv_iload_n C.1 C.2.1 dJ15_checkIndex_7cf53_1 rfl (lv_at hl 1 rfl) ?_
  refine lv_null C.1 C.2.1 dJ15_checkIndex_7cf53_2 ?_
  refine rd_go1 (runS C hE hH hS (c_pcheck (hi0) (hi1)) mv_J3_checkIndex_8e157 wm_355 hl.1 dJ15_checkIndex_7cf53_3 rfl rfl ⟨rfl, rfl⟩ ⟨Nat.le_of_ble_eq_true rfl, Nat.le_of_ble_eq_true rfl⟩ (Nat.le_of_ble_eq_true rfl) ⟨Nat.le_of_ble_eq_true rfl, Nat.le_of_ble_eq_true rfl⟩) ?_
  exact rd_iret C hr hlocks (rfl) dJ15_checkIndex_7cf53_6
set_option maxHeartbeats 4000000 in
set_option maxRecDepth 100000 in
theorem c_L_elementData {l : Launch} {g : gG} {M : Mp} {a : Nat} {md : Int32} {d : Nat} {k : Int32}{nn : Nat} {row : Nat → Option Nat} {x : Int32} {y : Nat} (h0 : M a = some (eO 0 [.int md, .ref d, .int k])) (h1 : M d = some (eQ g 2 nn row)) (hv : vp_in x nn) (hy : row x.toNatClampNeg = some y) : Met l yJx4a65c_elementData_915e3 (WY yJx4a65c_elementData_915e3 cJx4a65c_elementData_915e3 2 (some (.object "java/lang/Object"))) { frames := 0, cells := 0, slots := 0, locals := 0 } (Wc g M [.ref a, .int x]) (rdQ (some (.ref y))) 0 0 fr0 := by
  refine ofM (by decide +kernel) (Nat.le_of_ble_eq_true rfl) (fun p e s m args below meth c ls C hr hlocks hin hE hH hl ea => ?_)
  have hl : lv_has ls 2 [(0, .ref a), (1, .int x)] := hl
  have hS : va_S (gA g) s.heap s.heap [] := va_S.rf
  refine lv_aload_n C.1 C.2.1 dJx4a65c_elementData_915e3_0 rfl (lv_at hl 0 rfl) ?_
  refine mget C hE hH fl_57 h0 rfl dJx4a65c_elementData_915e3_1 ?_
  refine lv_iload_n C.1 C.2.1 dJx4a65c_elementData_915e3_4 rfl (lv_at hl 1 rfl) ?_
  refine maldq (k := 2) (y := y) C hE hH h1 rfl rfl hv hy dJx4a65c_elementData_915e3_5 ?_
  exact rd_aret C hr hlocks (by first | exact Or.inl ⟨_, rfl⟩ | exact Or.inr ⟨_, rfl⟩) (rfl) dJx4a65c_elementData_915e3_6
set_option maxHeartbeats 4000000 in
set_option maxRecDepth 100000 in
theorem c_L_get {l : Launch} {g : gG} {M : Mp} {a : Nat} {md : Int32} {d : Nat} {k : Int32}{nn : Nat} {row : Nat → Option Nat} {x : Int32} {y : Nat} (h0 : M a = some (eO 0 [.int md, .ref d, .int k])) (h1 : M d = some (eQ g 2 nn row)) (hv : vp_in x nn) (hy : row x.toNatClampNeg = some y) (hi0 : ¬ x < 0) (hi1 : x < k) : Met l yJx4a65c_get_915e3 (WY yJx4a65c_get_915e3 cJx4a65c_get_915e3 2 (some (.object "java/lang/Object"))) { frames := 2, cells := 0, slots := 0, locals := 43 } (Wc g M [.ref a, .int x]) (rdQ (some (.ref y))) 0 0 fr0 := by
  refine ofM (by decide +kernel) (Nat.le_of_ble_eq_true rfl) (fun p e s m args below meth c ls C hr hlocks hin hE hH hl ea => ?_)
  have hl : lv_has ls 2 [(0, .ref a), (1, .int x)] := hl
  have hS : va_S (gA g) s.heap s.heap [] := va_S.rf
  refine lv_iload_n C.1 C.2.1 dJx4a65c_get_915e3_0 rfl (lv_at hl 1 rfl) ?_
  refine lv_aload_n C.1 C.2.1 dJx4a65c_get_915e3_1 rfl (lv_at hl 0 rfl) ?_
  refine mget C hE hH fl_58 h0 rfl dJx4a65c_get_915e3_2 ?_
  refine rd_go1 (runS C hE hH hS (c_ocheck (hi0) (hi1)) mv_J15_checkIndex_7cf53 wm_352 hl.1 dJx4a65c_get_915e3_5 rfl rfl ⟨rfl, rfl⟩ ⟨Nat.le_of_ble_eq_true rfl, Nat.le_of_ble_eq_true rfl⟩ (Nat.le_of_ble_eq_true rfl) ⟨Nat.le_of_ble_eq_true rfl, Nat.le_of_ble_eq_true rfl⟩) ?_
  refine lv_pop C.1 C.2.1 dJx4a65c_get_915e3_8 rfl ?_
  refine lv_aload_n C.1 C.2.1 dJx4a65c_get_915e3_9 rfl (lv_at hl 0 rfl) ?_
  refine lv_iload_n C.1 C.2.1 dJx4a65c_get_915e3_10 rfl (lv_at hl 1 rfl) ?_
  refine rd_go1 (runV C hE hH hS (c_L_elementData h0 h1 (hv) (hy)) mv_Jx4a65c_elementData_915e3 wm_358 h0 rfl rfl hl.1 dJx4a65c_get_915e3_11 rfl rfl ⟨rfl, rfl⟩ ⟨Nat.le_of_ble_eq_true rfl, Nat.le_of_ble_eq_true rfl⟩ (Nat.le_of_ble_eq_true rfl) ⟨Nat.le_of_ble_eq_true rfl, Nat.le_of_ble_eq_true rfl⟩) ?_
  exact rd_aret C hr hlocks (by first | exact Or.inl ⟨_, rfl⟩ | exact Or.inr ⟨_, rfl⟩) (rfl) dJx4a65c_get_915e3_14
set_option maxHeartbeats 4000000 in
set_option maxRecDepth 100000 in
theorem c_newLength {l : Launch} {g : gG} {M : Mp} {x y z : Int32} (hp1 : ¬ x + (if y < z then z else y) ≤ 0) (hp2 : ¬ 2147483639 < x + (if y < z then z else y)) : Met l yJ8_newLength_cabcc (WY yJ8_newLength_cabcc cJ8_newLength_cabcc 4 (some .int)) { frames := 1, cells := 0, slots := 0, locals := 14 } (Wc g M [.int x, .int y, .int z]) (rdQ (some (.int (x + (if y < z then z else y))))) 0 0 fr0 := by
  refine ofM (by decide +kernel) (Nat.le_of_ble_eq_true rfl) (fun p e s m args below meth c ls C hr hlocks hin hE hH hl ea => ?_)
  have hl : lv_has ls 4 [(0, .int x), (1, .int y), (2, .int z)] := hl
  have hS : va_S (gA g) s.heap s.heap [] := va_S.rf
  refine lv_iload_n C.1 C.2.1 dJ8_newLength_cabcc_0 rfl (lv_at hl 0 rfl) ?_
  refine lv_iload_n C.1 C.2.1 dJ8_newLength_cabcc_1 rfl (lv_at hl 1 rfl) ?_
  refine lv_iload_n C.1 C.2.1 dJ8_newLength_cabcc_2 rfl (lv_at hl 2 rfl) ?_
  refine va_mmax C.1 C.2.1 (C.2.2.1.trans hl.1.symm) C.2.2.2.1 (C.2.2.2.2 _ wm_274) (C.2.2.2.2 _ wm_275) (C.2.2.2.2 _ wm_25) (C.2.2.2.2 _ wm_276) (Nat.le_of_ble_eq_true rfl) (Nat.le_of_ble_eq_true rfl) (by decide) (by decide) dJ8_newLength_cabcc_3 ?_
  refine lv_iadd C.1 C.2.1 dJ8_newLength_cabcc_6 ?_
  refine lv_topi (fun x1 ex1 => ?_)
  refine lv_istore_n (lv' := [(3, .int x1), (0, .int x), (1, .int y), (2, .int z)]) C.1 C.2.1 dJ8_newLength_cabcc_7 rfl hl (by decide) rfl (fun ls hl => ?_)
  refine lv_iconst (v := 0) C.1 C.2.1 dJ8_newLength_cabcc_8 rfl ?_
  refine lv_iload_n C.1 C.2.1 dJ8_newLength_cabcc_9 rfl (lv_at hl 0 rfl) ?_
  refine lv_icmp_ge (tgt := 21) C.1 C.2.1 dJ8_newLength_cabcc_10 (by decide) (fun c10 => ?_) (fun c10 => ?_)
  · exact absurd c10 (by rw [ex1]; exact hp1)
  · refine lv_iload_n C.1 C.2.1 dJ8_newLength_cabcc_13 rfl (lv_at hl 0 rfl) ?_
    refine lv_ldc (v := 2147483639) C.1 C.2.1 C.2.2.2.1 (C.2.2.2.2 _ wm_277) dJ8_newLength_cabcc_14 ?_
    refine lv_icmp_gt (tgt := 21) C.1 C.2.1 dJ8_newLength_cabcc_16 (by decide) (fun c16 => ?_) (fun c16 => ?_)
    · exact absurd c16 (by rw [ex1]; exact hp2)
    · refine lv_iload_n C.1 C.2.1 dJ8_newLength_cabcc_19 rfl (lv_at hl 0 rfl) ?_
      exact rd_iret C hr hlocks (ex1) dJ8_newLength_cabcc_20
set_option maxHeartbeats 4000000 in
set_option maxRecDepth 100000 in
theorem c_copyOf3 {l : Launch} {g : gG} {M : Mp} {a0 n0 nn ci : Nat} {row : Nat → Option Nat} {r : vw_C} (h0 : M a0 = some (eQ g 2 n0 row)) (hN : n0 < nn ∧ nn ≤ 200) (hc : vwCl[ci]? = some r) (hcaS : ∀ s : State, gE g s → va_Nw (.castable r.1 "java/lang/Object") s) (hel : ∀ j, j < n0 → ∃ y vs, row j = some y ∧ M y = some (eO ci vs)) : Met l yJ7_copyOf_6403c (WY yJ7_copyOf_6403c cJ7_copyOf_6403c 4 (some (.array (.object "java/lang/Object")))) { frames := 1, cells := 1, slots := 200, locals := 60 } (Wc g M [.ref a0, .int (nI nn), .ref (g.2.2.2 1)]) (wrQ (S := Nat) g (fun u_ => (some (.ref u_))) (fun u_ M_ => M u_ = none ∧ g.1 ≤ u_ ∧ M_ = mu M u_ (eQ g 2 nn (va_cpy row (fun _ => none) 0 0 n0)))) 1 200 (gA g) := by
  refine ofM (by decide +kernel) (Nat.le_of_ble_eq_true rfl) (fun p e s m args below meth c ls C hr hlocks hin hE hH hl ea => ?_)
  have hl : lv_has ls 4 [(0, .ref a0), (1, .int (nI nn)), (2, .ref (g.2.2.2 1))] := hl
  have hS : va_S (gA g) s.heap s.heap [] := va_S.rf
  have hca := hcaS s hE
  obtain ⟨hN1, hN2⟩ := hN
  refine lv_aload_n C.1 C.2.1 dJ7_copyOf_6403c_0 rfl (lv_at hl 2 rfl) ?_
  refine va_ldcM C.1 C.2.1 C.2.2.2.1 (C.2.2.2.2 _ wm_302) hE.2.2.2.2.2.1 dJ7_copyOf_6403c_1 ?_
  refine lv_acmp_ne (rx := some (g.2.2.2 1)) (ry := some (g.2.2.2 1)) (tgt := 13) C.1 C.2.1 dJ7_copyOf_6403c_3 (by decide) (fun c3 => ?_) (fun c3 => ?_)
  · exact absurd rfl c3
  · refine lv_iload_n C.1 C.2.1 dJ7_copyOf_6403c_6 rfl (lv_at hl 1 rfl) ?_
    refine mnewQ (k := 2) (N := nn) C hE hH hS wm_304 hE.2.2.2.2.2.2.2.2.2.1.1 rfl (nI_pos (by omega)) (nI_clamp (by omega)) (by omega) (by decide) (by show 0 + nn ≤ 200; omega) dJ7_copyOf_6403c_7 (fun q1 H nq1 gq1 hH hS => ?_)
    refine W.widen (k := 1) (n := 200) (by omega) (by omega) ?_
    obtain ⟨M2, hM2⟩ : ∃ z, z = mu M q1 (eQ g 2 nn (fun _ => none)) := ⟨_, rfl⟩
    have hH : Hw g M2 H := by rw [hM2]; exact hH
    have f3 : M2 q1 = some (eQ g 2 nn (fun _ => none)) := by rw [hM2]; exact mu_s
    have f4 : M2 a0 = some (eQ g 2 n0 row) := by rw [hM2]; exact (mu_n (m_new nq1 h0)).trans h0
    refine lv_goto (tgt := 24) C.1 C.2.1 dJ7_copyOf_6403c_10 (by decide) ?_
    refine lv_astore_n (lv' := [(3, .ref q1), (0, .ref a0), (1, .int (nI nn)), (2, .ref (g.2.2.2 1))]) C.1 C.2.1 dJ7_copyOf_6403c_24 rfl hl (by decide) rfl (fun ls hl => ?_)
    refine lv_aload_n C.1 C.2.1 dJ7_copyOf_6403c_25 rfl (lv_at hl 1 rfl) ?_
    refine lv_iconst (v := 0) C.1 C.2.1 dJ7_copyOf_6403c_26 rfl ?_
    refine lv_aload_n C.1 C.2.1 dJ7_copyOf_6403c_27 rfl (lv_at hl 0 rfl) ?_
    refine lv_iconst (v := 0) C.1 C.2.1 dJ7_copyOf_6403c_28 rfl ?_
    refine lv_aload_n C.1 C.2.1 dJ7_copyOf_6403c_29 rfl (lv_at hl 1 rfl) ?_
    refine malen (k := 2) (v := nI n0) C hE hH f4 rfl rfl dJ7_copyOf_6403c_30 ?_
    refine lv_iload_n C.1 C.2.1 dJ7_copyOf_6403c_31 rfl (lv_at hl 2 rfl) ?_
    refine va_mmin C.1 C.2.1 (C.2.2.1.trans hl.1.symm) C.2.2.2.1 (C.2.2.2.2 _ wm_305) (C.2.2.2.2 _ wm_306) (C.2.2.2.2 _ wm_25) (C.2.2.2.2 _ wm_307) (Nat.le_of_ble_eq_true rfl) (Nat.le_of_ble_eq_true rfl) (by decide) (by decide) dJ7_copyOf_6403c_32 ?_
    have hmin : (if (nI nn) < (nI n0) then (nI nn) else (nI n0)) = nI n0 := by rw [if_neg (fun z => absurd ((nI_ltI (by omega) (by omega)).mp z) (by omega))]
    rw [hmin]
    refine mcopyq (ci := ci) C hE hH hS f4 f3 hl.1 wm_308 wm_310 wm_309 wm_27 (by decide) (by decide) (nI_pos (by omega)) (by rw [nI_clamp (by omega)]; show 0 + n0 ≤ n0; omega) (by rw [nI_clamp (by omega)]; show 0 + n0 ≤ nn; omega) (fun i hi y hy => by rw [nI_clamp (by omega)] at hi; rw [show ((0 : Int32).toNatClampNeg + i) = i from Nat.zero_add i] at hy; obtain ⟨y2, vs, e1, e2⟩ := hel i hi; rw [hy] at e1; cases e1; exact ⟨vs, by rw [hM2, mu_n (m_new nq1 e2)]; exact e2⟩) hc hca (Nat.le_of_ble_eq_true rfl) (by decide +kernel) dJ7_copyOf_6403c_35 (fun H locs hH hS => ?_)
    rw [nI_clamp (by omega)] at hH
    obtain ⟨M5, hM5⟩ : ∃ z, z = mu M2 q1 (eQ g 2 nn (va_cpy row (fun _ => none) 0 0 n0)) := ⟨_, rfl⟩
    have hH : Hw g M5 H := by rw [hM5]; exact hH
    have f6 : M5 q1 = some (eQ g 2 nn (va_cpy row (fun _ => none) 0 0 n0)) := by rw [hM5]; exact mu_s
    have f7 : M5 a0 = some (eQ g 2 n0 row) := by rw [hM5]; exact (mu_n (m_new nq1 h0)).trans f4
    refine lv_aload_n C.1 C.2.1 dJ7_copyOf_6403c_38 rfl (lv_at hl 0 rfl) ?_
    exact wr_aret q1 C hr hlocks (by first | exact Or.inl ⟨_, rfl⟩ | exact Or.inr ⟨_, rfl⟩) hH hS rfl (⟨nq1, gq1, by (rw [hM5, hM2]) <;> simp only [mu_mu]⟩) (by decide) (by decide) dJ7_copyOf_6403c_39
set_option maxHeartbeats 4000000 in
set_option maxRecDepth 100000 in
theorem c_copyOf2 {l : Launch} {g : gG} {M : Mp} {a0 n0 nn ci : Nat} {row : Nat → Option Nat} {r : vw_C} (h0 : M a0 = some (eQ g 2 n0 row)) (hN : n0 < nn ∧ nn ≤ 200) (hc : vwCl[ci]? = some r) (hcaS : ∀ s : State, gE g s → va_Nw (.castable r.1 "java/lang/Object") s) (hel : ∀ j, j < n0 → ∃ y vs, row j = some y ∧ M y = some (eO ci vs)) : Met l yJ7_copyOf_1904c (WY yJ7_copyOf_1904c cJ7_copyOf_1904c 2 (some (.array (.object "java/lang/Object")))) { frames := 2, cells := 1, slots := 200, locals := 83 } (Wc g M [.ref a0, .int (nI nn)]) (wrQ (S := Nat) g (fun u_ => (some (.ref u_))) (fun u_ M_ => M u_ = none ∧ g.1 ≤ u_ ∧ M_ = mu M u_ (eQ g 2 nn (va_cpy row (fun _ => none) 0 0 n0)))) 1 200 (gA g) := by
  refine ofM (by decide +kernel) (Nat.le_of_ble_eq_true rfl) (fun p e s m args below meth c ls C hr hlocks hin hE hH hl ea => ?_)
  have hl : lv_has ls 2 [(0, .ref a0), (1, .int (nI nn))] := hl
  have hS : va_S (gA g) s.heap s.heap [] := va_S.rf
  refine lv_aload_n C.1 C.2.1 dJ7_copyOf_1904c_0 rfl (lv_at hl 0 rfl) ?_
  refine lv_iload_n C.1 C.2.1 dJ7_copyOf_1904c_1 rfl (lv_at hl 1 rfl) ?_
  refine lv_aload_n C.1 C.2.1 dJ7_copyOf_1904c_2 rfl (lv_at hl 0 rfl) ?_
  refine mgetC C hE hH h0 hl.1 wm_284 wm_729 wm_285 wm_298 (Nat.le_of_ble_eq_true rfl) (Nat.le_of_ble_eq_true rfl) dJ7_copyOf_1904c_3 ?_
  refine wr_go1 (runS C hE hH hS (c_copyOf3 h0 (hN) (hc) (hcaS) (hel)) mv_J7_copyOf_6403c wm_299 hl.1 dJ7_copyOf_1904c_6 rfl rfl ⟨rfl, rfl⟩ ⟨Nat.le_of_ble_eq_true rfl, Nat.le_of_ble_eq_true rfl⟩ (Nat.le_of_ble_eq_true rfl) ⟨Nat.le_of_ble_eq_true rfl, Nat.le_of_ble_eq_true rfl⟩) hS (fun u1 M2 H locs hM2 hH hS => ?_)
  obtain ⟨nu1, gu1, hM2⟩ := hM2
  have f3 : M2 u1 = some (eQ g 2 nn (va_cpy row (fun _ => none) 0 0 n0)) := by rw [hM2]; exact mu_s
  have f4 : M2 a0 = some (eQ g 2 n0 row) := by rw [hM2]; exact (mu_n (m_new nu1 h0)).trans h0
  exact wr_aret u1 C hr hlocks (by first | exact Or.inl ⟨_, rfl⟩ | exact Or.inr ⟨_, rfl⟩) hH hS rfl (⟨nu1, gu1, hM2⟩) (by decide) (by decide) dJ7_copyOf_1904c_9
def gcap (n : Nat) : Nat := n + (if 1 < n / 2 then n / 2 else 1)
theorem gcap_b {n : Nat} (h : 0 < n) (h2 : n ≤ 100) : n < gcap n ∧ gcap n ≤ 200 := by
  unfold gcap
  split <;> omega
theorem glen {n : Nat} {x : Int32} (hx : x = nI (n + 1)) (h2 : n ≤ 100) : nI n + (if x - nI n < nI n >>> (1 &&& 31) then nI n >>> (1 &&& 31) else x - nI n) = nI (gcap n) := by
  subst hx
  rw [pk_sub (by omega), show n + 1 - n = 1 by omega, pk_shrN (by omega) _ 1 (by decide)]
  unfold gcap
  by_cases h : 1 < n / 2
  · rw [if_pos ((nI_ltI (by omega) (by omega)).mpr h), if_pos h, nI_add]
  · rw [if_neg (fun z => h ((nI_ltI (by omega) (by omega)).mp z)), if_neg h, nI_add]
theorem glen_p {n : Nat} {x : Int32} (hx : x = nI (n + 1)) (h2 : n ≤ 100) : (¬ nI n + (if x - nI n < nI n >>> (1 &&& 31) then nI n >>> (1 &&& 31) else x - nI n) ≤ 0) ∧ ¬ (2147483639 : Int32) < nI n + (if x - nI n < nI n >>> (1 &&& 31) then nI n >>> (1 &&& 31) else x - nI n) := by
  rw [glen hx h2]
  have hg : 0 < gcap n ∧ gcap n ≤ 200 := by unfold gcap; split <;> omega
  exact ⟨nI_nle hg.1 (by omega), fun z => absurd ((nI_ltI (a := 2147483639) (b := gcap n) (by omega) (by omega)).mp z) (by omega)⟩
set_option maxHeartbeats 4000000 in
set_option maxRecDepth 100000 in
theorem c_growB {l : Launch} {g : gG} {M : Mp} {a : Nat} {md x : Int32} (h0 : M a = some (eO 0 [.int md, .ref (g.2.2.2 0), .int 0])) (hx : x = 1) : Met l yJx4a65c_grow_92f84 (WY yJx4a65c_grow_92f84 cJx4a65c_grow_92f84 4 (some (.array (.object "java/lang/Object")))) { frames := 1, cells := 1, slots := 10, locals := 14 } (Wc g M [.ref a, .int x]) (wrQ (S := Nat) g (fun u_ => (some (.ref u_))) (fun u_ M_ => M u_ = none ∧ g.1 ≤ u_ ∧ M_ = mu (mu M u_ (eQ g 2 10 (fun _ => none))) a (eO 0 [.int md, .ref u_, .int 0]))) 1 10 (gA g) := by
  refine ofM (by decide +kernel) (Nat.le_of_ble_eq_true rfl) (fun p e s m args below meth c ls C hr hlocks hin hE hH hl ea => ?_)
  have hl : lv_has ls 4 [(0, .ref a), (1, .int x)] := hl
  have hS : va_S (gA g) s.heap s.heap [] := va_S.rf
  refine lv_aload_n C.1 C.2.1 dJx4a65c_grow_92f84_0 rfl (lv_at hl 0 rfl) ?_
  refine mget C hE hH fl_57 h0 rfl dJx4a65c_grow_92f84_1 ?_
  refine medlen C hE hS dJx4a65c_grow_92f84_4 ?_
  refine lv_istore_n (lv' := [(2, .int 0), (0, .ref a), (1, .int x)]) C.1 C.2.1 dJx4a65c_grow_92f84_5 rfl hl (by decide) rfl (fun ls hl => ?_)
  refine lv_iload_n C.1 C.2.1 dJx4a65c_grow_92f84_6 rfl (lv_at hl 0 rfl) ?_
  refine lv_if_gt (tgt := 20) C.1 C.2.1 dJx4a65c_grow_92f84_7 (by decide) (fun c7 => ?_) (fun c7 => ?_)
  · exact absurd c7 (by decide)
  · refine lv_aload_n C.1 C.2.1 dJx4a65c_grow_92f84_10 rfl (lv_at hl 1 rfl) ?_
    refine mget C hE hH fl_57 h0 rfl dJx4a65c_grow_92f84_11 ?_
    refine va_gets C.1 C.2.1 hE.2.1 hS C.2.2.2.1 (C.2.2.2.2 _ wm_55) (fun x h => h) dJx4a65c_grow_92f84_14 ?_
    refine lv_acmp_eq (rx := some (g.2.2.2 0)) (ry := some (g.2.2.2 0)) (tgt := 45) C.1 C.2.1 dJx4a65c_grow_92f84_17 (by decide) (fun c17 => ?_) (fun c17 => ?_)
    · refine lv_aload_n C.1 C.2.1 dJx4a65c_grow_92f84_45 rfl (lv_at hl 1 rfl) ?_
      refine lv_bipush (v := 10) C.1 C.2.1 dJx4a65c_grow_92f84_46 rfl ?_
      refine lv_iload_n C.1 C.2.1 dJx4a65c_grow_92f84_48 rfl (lv_at hl 2 rfl) ?_
      refine va_mmax C.1 C.2.1 (C.2.2.1.trans hl.1.symm) C.2.2.2.1 (C.2.2.2.2 _ wm_311) (C.2.2.2.2 _ wm_275) (C.2.2.2.2 _ wm_25) (C.2.2.2.2 _ wm_276) (Nat.le_of_ble_eq_true rfl) (Nat.le_of_ble_eq_true rfl) (by decide) (by decide) dJx4a65c_grow_92f84_49 ?_
      refine mnewQ (k := 2) (N := 10) C hE hH hS wm_312 hE.2.2.2.2.2.2.2.2.2.1.1 rfl (by rw [hx]; decide) (by rw [hx]; rfl) (by decide) (by decide) (by decide) dJx4a65c_grow_92f84_52 (fun q1 H nq1 gq1 hH hS => ?_)
      refine W.widen (k := 1) (n := 10) (by omega) (by omega) ?_
      obtain ⟨M2, hM2⟩ : ∃ z, z = mu M q1 (eQ g 2 10 (fun _ => none)) := ⟨_, rfl⟩
      have hH : Hw g M2 H := by rw [hM2]; exact hH
      have f3 : M2 q1 = some (eQ g 2 10 (fun _ => none)) := by rw [hM2]; exact mu_s
      have f4 : M2 a = some (eO 0 [.int md, .ref (g.2.2.2 0), .int 0]) := by rw [hM2]; exact (mu_n (m_new nq1 h0)).trans h0
      refine lv_dup_x1 C.1 C.2.1 dJx4a65c_grow_92f84_55 rfl rfl ?_
      refine mput (fs' := [.int md, .ref q1, .int 0]) C hE hH hS fl_57 f4 rfl rfl rfl (Nat.le_of_ble_eq_true rfl) dJx4a65c_grow_92f84_56 (fun H locs hH hS => ?_)
      obtain ⟨M5, hM5⟩ : ∃ z, z = mu M2 a (eO 0 [.int md, .ref q1, .int 0]) := ⟨_, rfl⟩
      have hH : Hw g M5 H := by rw [hM5]; exact hH
      have f6 : M5 a = some (eO 0 [.int md, .ref q1, .int 0]) := by rw [hM5]; exact mu_s
      have f7 : M5 q1 = some (eQ g 2 10 (fun _ => none)) := by rw [hM5]; exact (mu_n ((m_new nq1 h0)).symm).trans f3
      exact wr_aret q1 C hr hlocks (by first | exact Or.inl ⟨_, rfl⟩ | exact Or.inr ⟨_, rfl⟩) hH hS rfl (⟨nq1, gq1, by rw [hM5, hM2]⟩) (by decide) (by decide) dJx4a65c_grow_92f84_59
    · exact absurd rfl c17
set_option maxHeartbeats 4000000 in
set_option maxRecDepth 100000 in
theorem c_growC {l : Launch} {g : gG} {M : Mp} {a d n0 ci : Nat} {md kk x : Int32} {row : Nat → Option Nat} {r : vw_C} (h0 : M a = some (eO 0 [.int md, .ref d, .int kk])) (h1 : M d = some (eQ g 2 n0 row)) (hx : x = nI (n0 + 1)) (hn : 0 < n0 ∧ n0 ≤ 100) (hc : vwCl[ci]? = some r) (hcaS : ∀ s : State, gE g s → va_Nw (.castable r.1 "java/lang/Object") s) (hel : ∀ j, j < n0 → ∃ y vs, row j = some y ∧ M y = some (eO ci vs)) : Met l yJx4a65c_grow_92f84 (WY yJx4a65c_grow_92f84 cJx4a65c_grow_92f84 4 (some (.array (.object "java/lang/Object")))) { frames := 3, cells := 1, slots := 200, locals := 104 } (Wc g M [.ref a, .int x]) (wrQ (S := Nat) g (fun u_ => (some (.ref u_))) (fun u_ M_ => M u_ = none ∧ g.1 ≤ u_ ∧ M_ = mu (mu M u_ (eQ g 2 (gcap n0) (va_cpy row (fun _ => none) 0 0 n0))) a (eO 0 [.int md, .ref u_, .int kk]))) 1 200 (gA g) := by
  refine ofM (by decide +kernel) (Nat.le_of_ble_eq_true rfl) (fun p e s m args below meth c ls C hr hlocks hin hE hH hl ea => ?_)
  have hl : lv_has ls 4 [(0, .ref a), (1, .int x)] := hl
  have hS : va_S (gA g) s.heap s.heap [] := va_S.rf
  refine lv_aload_n C.1 C.2.1 dJx4a65c_grow_92f84_0 rfl (lv_at hl 0 rfl) ?_
  refine mget C hE hH fl_57 h0 rfl dJx4a65c_grow_92f84_1 ?_
  refine malen (k := 2) (v := nI n0) C hE hH h1 rfl rfl dJx4a65c_grow_92f84_4 ?_
  refine lv_istore_n (lv' := [(2, .int (nI n0)), (0, .ref a), (1, .int x)]) C.1 C.2.1 dJx4a65c_grow_92f84_5 rfl hl (by decide) rfl (fun ls hl => ?_)
  refine lv_iload_n C.1 C.2.1 dJx4a65c_grow_92f84_6 rfl (lv_at hl 0 rfl) ?_
  refine lv_if_gt (tgt := 20) C.1 C.2.1 dJx4a65c_grow_92f84_7 (by decide) (fun c7 => ?_) (fun c7 => ?_)
  · refine lv_iload_n C.1 C.2.1 dJx4a65c_grow_92f84_20 rfl (lv_at hl 0 rfl) ?_
    refine lv_iload_n C.1 C.2.1 dJx4a65c_grow_92f84_21 rfl (lv_at hl 2 rfl) ?_
    refine lv_iload_n C.1 C.2.1 dJx4a65c_grow_92f84_22 rfl (lv_at hl 0 rfl) ?_
    refine lv_isub C.1 C.2.1 dJx4a65c_grow_92f84_23 ?_
    refine lv_iload_n C.1 C.2.1 dJx4a65c_grow_92f84_24 rfl (lv_at hl 0 rfl) ?_
    refine lv_iconst (v := 1) C.1 C.2.1 dJx4a65c_grow_92f84_25 rfl ?_
    refine lv_ishr C.1 C.2.1 dJx4a65c_grow_92f84_26 ?_
    refine rd_go1 (runS C hE hH hS (c_newLength ((glen_p hx hn.2).1) ((glen_p hx hn.2).2)) mv_J8_newLength_cabcc wm_271 hl.1 dJx4a65c_grow_92f84_27 rfl rfl ⟨rfl, rfl⟩ ⟨Nat.le_of_ble_eq_true rfl, Nat.le_of_ble_eq_true rfl⟩ (Nat.le_of_ble_eq_true rfl) ⟨Nat.le_of_ble_eq_true rfl, Nat.le_of_ble_eq_true rfl⟩) ?_
    refine lv_topi (fun x1 ex1 => ?_)
    refine lv_istore_n (lv' := [(3, .int x1), (2, .int (nI n0)), (0, .ref a), (1, .int x)]) C.1 C.2.1 dJx4a65c_grow_92f84_30 rfl hl (by decide) rfl (fun ls hl => ?_)
    have e9 : x1 = nI (gcap n0) := by rw [ex1]; exact glen hx hn.2
    subst e9
    refine lv_aload_n C.1 C.2.1 dJx4a65c_grow_92f84_31 rfl (lv_at hl 2 rfl) ?_
    refine lv_aload_n C.1 C.2.1 dJx4a65c_grow_92f84_32 rfl (lv_at hl 2 rfl) ?_
    refine mget C hE hH fl_57 h0 rfl dJx4a65c_grow_92f84_33 ?_
    refine lv_iload_n C.1 C.2.1 dJx4a65c_grow_92f84_36 rfl (lv_at hl 0 rfl) ?_
    refine wr_go1 (runS C hE hH hS (c_copyOf2 h1 (gcap_b hn.1 hn.2) (hc) (hcaS) (hel)) mv_J7_copyOf_1904c wm_281 hl.1 dJx4a65c_grow_92f84_37 rfl rfl ⟨rfl, rfl⟩ ⟨Nat.le_of_ble_eq_true rfl, Nat.le_of_ble_eq_true rfl⟩ (Nat.le_of_ble_eq_true rfl) ⟨Nat.le_of_ble_eq_true rfl, Nat.le_of_ble_eq_true rfl⟩) hS (fun u2 M3 H locs hM3 hH hS => ?_)
    obtain ⟨nu2, gu2, hM3⟩ := hM3
    have f4 : M3 u2 = some (eQ g 2 (gcap n0) (va_cpy row (fun _ => none) 0 0 n0)) := by rw [hM3]; exact mu_s
    have f5 : M3 a = some (eO 0 [.int md, .ref d, .int kk]) := by rw [hM3]; exact (mu_n (m_new nu2 h0)).trans h0
    have f6 : M3 d = some (eQ g 2 n0 row) := by rw [hM3]; exact (mu_n (m_new nu2 h1)).trans h1
    refine lv_dup_x1 C.1 C.2.1 dJx4a65c_grow_92f84_40 rfl rfl ?_
    refine mput (fs' := [.int md, .ref u2, .int kk]) C hE hH hS fl_57 f5 rfl rfl rfl (Nat.le_of_ble_eq_true rfl) dJx4a65c_grow_92f84_41 (fun H locs hH hS => ?_)
    obtain ⟨M7, hM7⟩ : ∃ z, z = mu M3 a (eO 0 [.int md, .ref u2, .int kk]) := ⟨_, rfl⟩
    have hH : Hw g M7 H := by rw [hM7]; exact hH
    have f8 : M7 a = some (eO 0 [.int md, .ref u2, .int kk]) := by rw [hM7]; exact mu_s
    have f9 : M7 d = some (eQ g 2 n0 row) := by rw [hM7]; exact (mu_n (m_ne f6 f5 (by first | (intro z; cases z; done) | exact ne_IQ | exact ne_IQ.symm | exact ne_LI | exact ne_LI.symm | (intro z; cases z; omega) | (intro z; cases z; contradiction) | exact (fun z => by cases z)))).trans f6
    have f10 : M7 u2 = some (eQ g 2 (gcap n0) (va_cpy row (fun _ => none) 0 0 n0)) := by rw [hM7]; exact (mu_n (m_ne f4 f5 (by first | (intro z; cases z; done) | exact ne_IQ | exact ne_IQ.symm | exact ne_LI | exact ne_LI.symm | (intro z; cases z; omega) | (intro z; cases z; contradiction) | exact (fun z => by cases z)))).trans f4
    exact wr_aret u2 C hr hlocks (by first | exact Or.inl ⟨_, rfl⟩ | exact Or.inr ⟨_, rfl⟩) hH hS rfl (⟨nu2, gu2, by rw [hM7, hM3]⟩) (by decide) (by decide) dJx4a65c_grow_92f84_44
  · exact absurd (by rw [← nI_0]; exact nI_lt hn.1 (by omega)) c7
/-- what adding v as the element kn leaves: md the list's count of changes behind it, d its array before -/
def padd (g : gG) (M : Mp) (a v kn : Nat) (md : Int32) (d : Nat) (row : Nat → Option Nat) (M' : Mp) : Prop := ∃ (d' n' : Nat) (row' : Nat → Option Nat), M' a = some (eO 0 [.int md, .ref d', .int (nI (kn + 1))]) ∧ M' d' = some (eQ g 2 n' row') ∧ kn < n' ∧ n' ≤ 200 ∧ (∀ j, j < kn → row' j = row j) ∧ row' kn = some v ∧ (∀ b, b ≠ a → b ≠ d' → M' b = M b) ∧ (d' = d ∨ (M d' = none ∧ g.1 ≤ d'))
theorem padd_up {g : gG} {M M' : Mp} {a v kn : Nat} {md : Int32} {d : Nat} {row : Nat → Option Nat} {x : List Value} (h : padd g (mu M a (eO 0 x)) a v kn md d row M') : padd g M a v kn md d row M' := by
  obtain ⟨d', n', row', h1, h2, h3, h4, h5, h6, h7, h8⟩ := h
  refine ⟨d', n', row', h1, h2, h3, h4, h5, h6, fun b hb hd => (h7 b hb hd).trans (mu_n hb), h8.imp id (fun z => ⟨?_, z.2⟩)⟩
  by_cases e : d' = a
  · rw [e, mu_s] at z; cases z.1
  · rw [mu_n e] at z; exact z.1
set_option maxHeartbeats 4000000 in
set_option maxRecDepth 100000 in
theorem c_add3A {l : Launch} {g : gG} {M : Mp} {a d v n0 kn ci : Nat} {md : Int32} {row : Nat → Option Nat} {r : vw_C} {vs : List Value} (h0 : M a = some (eO 0 [.int md, .ref d, .int (nI kn)])) (h1 : M d = some (eQ g 2 n0 row)) (h2 : M v = some (eO ci vs)) (hc : vwCl[ci]? = some r) (hcaS : ∀ s : State, gE g s → va_Nw (.castable r.1 "java/lang/Object") s) (hci : ci ≠ 0) (hn : kn < n0 ∧ n0 < 2 ^ 31) (hn2 : n0 ≤ 200) : Met l yJx4a65c_add_72be8 (WY yJx4a65c_add_72be8 cJx4a65c_add_72be8 4 none) { frames := 0, cells := 0, slots := 0, locals := 0 } (Wc g M [.ref a, .ref v, .ref d, .int (nI kn)]) (wrQ (S := Unit) g (fun u_ => none) (fun u_ M_ => padd g M a v kn md d row M_)) 0 0 (gA g) := by
  refine ofM (by decide +kernel) (Nat.le_of_ble_eq_true rfl) (fun p e s m args below meth c ls C hr hlocks hin hE hH hl ea => ?_)
  have hl : lv_has ls 4 [(0, .ref a), (1, .ref v), (2, .ref d), (3, .int (nI kn))] := hl
  have hS : va_S (gA g) s.heap s.heap [] := va_S.rf
  refine lv_iload_n C.1 C.2.1 dJx4a65c_add_72be8_0 rfl (lv_at hl 3 rfl) ?_
  refine lv_aload_n C.1 C.2.1 dJx4a65c_add_72be8_1 rfl (lv_at hl 2 rfl) ?_
  refine malen (k := 2) (v := nI n0) C hE hH h1 rfl rfl dJx4a65c_add_72be8_2 ?_
  refine lv_icmp_ne (tgt := 11) C.1 C.2.1 dJx4a65c_add_72be8_3 (by decide) (fun c3 => ?_) (fun c3 => ?_)
  · refine lv_aload_n C.1 C.2.1 dJx4a65c_add_72be8_11 rfl (lv_at hl 2 rfl) ?_
    refine lv_iload_n C.1 C.2.1 dJx4a65c_add_72be8_12 rfl (lv_at hl 3 rfl) ?_
    refine lv_aload_n C.1 C.2.1 dJx4a65c_add_72be8_13 rfl (lv_at hl 1 rfl) ?_
    refine mastq (k := 2) C hE hH hS h1 rfl (Or.inl (hcaS s hE)) h2 hc (vp_in_nI hn.1 hn.2) dJx4a65c_add_72be8_14 (fun H locs hH hS => ?_)
    rw [nI_clamp (by omega)] at hH
    obtain ⟨M1, hM1⟩ : ∃ z, z = mu M d (eQ g 2 n0 (va_up row kn (some v))) := ⟨_, rfl⟩
    have hH : Hw g M1 H := by rw [hM1]; exact hH
    have f2 : M1 d = some (eQ g 2 n0 (va_up row kn (some v))) := by rw [hM1]; exact mu_s
    have f3 : M1 a = some (eO 0 [.int md, .ref d, .int (nI kn)]) := by rw [hM1]; exact (mu_n (m_ne h0 h1 (by first | (intro z; cases z; done) | exact ne_IQ | exact ne_IQ.symm | exact ne_LI | exact ne_LI.symm | (intro z; cases z; omega) | (intro z; cases z; contradiction) | exact (fun z => by cases z)))).trans h0
    have f4 : M1 v = some (eO ci vs) := by rw [hM1]; exact (mu_n (m_ne h2 h1 (by first | (intro z; cases z; done) | exact ne_IQ | exact ne_IQ.symm | exact ne_LI | exact ne_LI.symm | (intro z; cases z; omega) | (intro z; cases z; contradiction) | exact (fun z => by cases z)))).trans h2
    refine lv_aload_n C.1 C.2.1 dJx4a65c_add_72be8_15 rfl (lv_at hl 0 rfl) ?_
    refine lv_iload_n C.1 C.2.1 dJx4a65c_add_72be8_16 rfl (lv_at hl 3 rfl) ?_
    refine lv_iconst (v := 1) C.1 C.2.1 dJx4a65c_add_72be8_17 rfl ?_
    refine lv_iadd C.1 C.2.1 dJx4a65c_add_72be8_18 ?_
    refine mput (fs' := [.int md, .ref d, .int ((nI kn) + 1)]) C hE hH hS fl_58 f3 rfl rfl rfl (Nat.le_of_ble_eq_true rfl) dJx4a65c_add_72be8_19 (fun H locs hH hS => ?_)
    obtain ⟨M5, hM5⟩ : ∃ z, z = mu M1 a (eO 0 [.int md, .ref d, .int ((nI kn) + 1)]) := ⟨_, rfl⟩
    have hH : Hw g M5 H := by rw [hM5]; exact hH
    have f6 : M5 a = some (eO 0 [.int md, .ref d, .int ((nI kn) + 1)]) := by rw [hM5]; exact mu_s
    have f7 : M5 v = some (eO ci vs) := by rw [hM5]; exact (mu_n (m_ne f4 f3 (by first | (intro z; cases z; done) | exact ne_IQ | exact ne_IQ.symm | exact ne_LI | exact ne_LI.symm | (intro z; cases z; omega) | (intro z; cases z; contradiction) | exact (fun z => by cases z)))).trans f4
    have f8 : M5 d = some (eQ g 2 n0 (va_up row kn (some v))) := by rw [hM5]; exact (mu_n (m_ne f2 f3 (by first | (intro z; cases z; done) | exact ne_IQ | exact ne_IQ.symm | exact ne_LI | exact ne_LI.symm | (intro z; cases z; omega) | (intro z; cases z; contradiction) | exact (fun z => by cases z)))).trans f2
    exact wr_vret () C hr hlocks hH hS rfl (⟨d, n0, va_up row kn (some v), (by rw [← nI_1]; exact f6), f8, hn.1, (by omega), fun j hj => by unfold va_up; rw [if_neg (by omega)], by unfold va_up; rw [if_pos rfl], fun b hb hd => by simp only [hM5, hM1, mu_n hb, mu_n hd], Or.inl rfl⟩) (by decide) (by decide) dJx4a65c_add_72be8_22
  · exact absurd ((nI_eq (by omega) (by omega)).mp c3) (by omega)
set_option maxHeartbeats 4000000 in
set_option maxRecDepth 100000 in
theorem c_addA {l : Launch} {g : gG} {M : Mp} {a d v n0 kn ci : Nat} {md : Int32} {row : Nat → Option Nat} {r : vw_C} {vs : List Value} (h0 : M a = some (eO 0 [.int md, .ref d, .int (nI kn)])) (h1 : M d = some (eQ g 2 n0 row)) (h2 : M v = some (eO ci vs)) (hc : vwCl[ci]? = some r) (hcaS : ∀ s : State, gE g s → va_Nw (.castable r.1 "java/lang/Object") s) (hci : ci ≠ 0) (hn : kn < n0 ∧ n0 < 2 ^ 31) (hn2 : n0 ≤ 200) : Met l yJx4a65c_add_9ea2d (WY yJx4a65c_add_9ea2d cJx4a65c_add_9ea2d 2 (some .boolean)) { frames := 6, cells := 1, slots := 200, locals := 170 } (Wc g M [.ref a, .ref v]) (wrQ (S := Unit) g (fun u_ => (some (.int 1))) (fun u_ M_ => padd g M a v kn (md + 1) d row M_)) 1 200 (gA g) := by
  refine ofM (by decide +kernel) (Nat.le_of_ble_eq_true rfl) (fun p e s m args below meth c ls C hr hlocks hin hE hH hl ea => ?_)
  have hl : lv_has ls 2 [(0, .ref a), (1, .ref v)] := hl
  have hS : va_S (gA g) s.heap s.heap [] := va_S.rf
  refine lv_aload_n C.1 C.2.1 dJx4a65c_add_9ea2d_0 rfl (lv_at hl 0 rfl) ?_
  refine lv_dup C.1 C.2.1 dJx4a65c_add_9ea2d_1 rfl ?_
  refine mget C hE hH fl_60 h0 rfl dJx4a65c_add_9ea2d_2 ?_
  refine lv_iconst (v := 1) C.1 C.2.1 dJx4a65c_add_9ea2d_5 rfl ?_
  refine lv_iadd C.1 C.2.1 dJx4a65c_add_9ea2d_6 ?_
  refine mput (fs' := [.int (md + 1), .ref d, .int (nI kn)]) C hE hH hS fl_60 h0 rfl rfl rfl (Nat.le_of_ble_eq_true rfl) dJx4a65c_add_9ea2d_7 (fun H locs hH hS => ?_)
  obtain ⟨M1, hM1⟩ : ∃ z, z = mu M a (eO 0 [.int (md + 1), .ref d, .int (nI kn)]) := ⟨_, rfl⟩
  have hH : Hw g M1 H := by rw [hM1]; exact hH
  have f2 : M1 a = some (eO 0 [.int (md + 1), .ref d, .int (nI kn)]) := by rw [hM1]; exact mu_s
  have f3 : M1 d = some (eQ g 2 n0 row) := by rw [hM1]; exact (mu_n (m_ne h1 h0 (by first | (intro z; cases z; done) | exact ne_IQ | exact ne_IQ.symm | exact ne_LI | exact ne_LI.symm | (intro z; cases z; omega) | (intro z; cases z; contradiction) | exact (fun z => by cases z)))).trans h1
  have f4 : M1 v = some (eO ci vs) := by rw [hM1]; exact (mu_n (m_ne h2 h0 (by first | (intro z; cases z; done) | exact ne_IQ | exact ne_IQ.symm | exact ne_LI | exact ne_LI.symm | (intro z; cases z; omega) | (intro z; cases z; contradiction) | exact (fun z => by cases z)))).trans h2
  refine lv_aload_n C.1 C.2.1 dJx4a65c_add_9ea2d_10 rfl (lv_at hl 0 rfl) ?_
  refine lv_aload_n C.1 C.2.1 dJx4a65c_add_9ea2d_11 rfl (lv_at hl 1 rfl) ?_
  refine lv_aload_n C.1 C.2.1 dJx4a65c_add_9ea2d_12 rfl (lv_at hl 0 rfl) ?_
  refine mget C hE hH fl_57 f2 rfl dJx4a65c_add_9ea2d_13 ?_
  refine lv_aload_n C.1 C.2.1 dJx4a65c_add_9ea2d_16 rfl (lv_at hl 0 rfl) ?_
  refine mget C hE hH fl_58 f2 rfl dJx4a65c_add_9ea2d_17 ?_
  refine wr_go0 (runV C hE hH hS (c_add3A f2 f3 f4 (hc) (hcaS) (hci) (hn) (hn2)) mv_Jx4a65c_add_72be8 wm_259 f2 rfl rfl hl.1 dJx4a65c_add_9ea2d_20 rfl rfl ⟨rfl, rfl⟩ ⟨Nat.le_of_ble_eq_true rfl, Nat.le_of_ble_eq_true rfl⟩ (Nat.le_of_ble_eq_true rfl) ⟨Nat.le_of_ble_eq_true rfl, Nat.le_of_ble_eq_true rfl⟩) hS (fun u5 M6 H locs hM6 hH hS => ?_)
  refine lv_iconst (v := 1) C.1 C.2.1 dJx4a65c_add_9ea2d_23 rfl ?_
  exact wr_zret () C hr hlocks (rfl) hH hS rfl (by have h9 := hM6; rw [hM1] at h9; exact padd_up h9) (by decide) (by decide) dJx4a65c_add_9ea2d_24
set_option maxHeartbeats 4000000 in
set_option maxRecDepth 100000 in
theorem c_grow0B {l : Launch} {g : gG} {M : Mp} {a : Nat} {md : Int32} (h0 : M a = some (eO 0 [.int md, .ref (g.2.2.2 0), .int 0])) : Met l yJx4a65c_grow_d5877 (WY yJx4a65c_grow_d5877 cJx4a65c_grow_d5877 1 (some (.array (.object "java/lang/Object")))) { frames := 2, cells := 1, slots := 10, locals := 37 } (Wc g M [.ref a]) (wrQ (S := Nat) g (fun u_ => (some (.ref u_))) (fun u_ M_ => M u_ = none ∧ g.1 ≤ u_ ∧ M_ = mu (mu M u_ (eQ g 2 10 (fun _ => none))) a (eO 0 [.int md, .ref u_, .int 0]))) 1 10 (gA g) := by
  refine ofM (by decide +kernel) (Nat.le_of_ble_eq_true rfl) (fun p e s m args below meth c ls C hr hlocks hin hE hH hl ea => ?_)
  have hl : lv_has ls 1 [(0, .ref a)] := hl
  have hS : va_S (gA g) s.heap s.heap [] := va_S.rf
  refine lv_aload_n C.1 C.2.1 dJx4a65c_grow_d5877_0 rfl (lv_at hl 0 rfl) ?_
  refine lv_aload_n C.1 C.2.1 dJx4a65c_grow_d5877_1 rfl (lv_at hl 0 rfl) ?_
  refine mget C hE hH fl_58 h0 rfl dJx4a65c_grow_d5877_2 ?_
  refine lv_iconst (v := 1) C.1 C.2.1 dJx4a65c_grow_d5877_5 rfl ?_
  refine lv_iadd C.1 C.2.1 dJx4a65c_grow_d5877_6 ?_
  refine wr_go1 (runV C hE hH hS (c_growB h0 (rfl)) mv_Jx4a65c_grow_92f84 wm_267 h0 rfl rfl hl.1 dJx4a65c_grow_d5877_7 rfl rfl ⟨rfl, rfl⟩ ⟨Nat.le_of_ble_eq_true rfl, Nat.le_of_ble_eq_true rfl⟩ (Nat.le_of_ble_eq_true rfl) ⟨Nat.le_of_ble_eq_true rfl, Nat.le_of_ble_eq_true rfl⟩) hS (fun u1 M2 H locs hM2 hH hS => ?_)
  obtain ⟨nu1, gu1, hM2⟩ := hM2
  have f3 : M2 a = some (eO 0 [.int md, .ref u1, .int 0]) := by rw [hM2]; exact mu_s
  have f4 : M2 u1 = some (eQ g 2 10 (fun _ => none)) := by rw [hM2]; exact (mu_n (m_new nu1 h0).symm).trans mu_s
  exact wr_aret u1 C hr hlocks (by first | exact Or.inl ⟨_, rfl⟩ | exact Or.inr ⟨_, rfl⟩) hH hS rfl (⟨nu1, gu1, hM2⟩) (by decide) (by decide) dJx4a65c_grow_d5877_10
set_option maxHeartbeats 4000000 in
set_option maxRecDepth 100000 in
theorem c_add3B {l : Launch} {g : gG} {M : Mp} {a v ci : Nat} {md : Int32} {r : vw_C} {vs : List Value} (h0 : M a = some (eO 0 [.int md, .ref (g.2.2.2 0), .int 0])) (h1 : M v = some (eO ci vs)) (hc : vwCl[ci]? = some r) (hcaS : ∀ s : State, gE g s → va_Nw (.castable r.1 "java/lang/Object") s) (hci : ci ≠ 0) : Met l yJx4a65c_add_72be8 (WY yJx4a65c_add_72be8 cJx4a65c_add_72be8 4 none) { frames := 3, cells := 1, slots := 10, locals := 57 } (Wc g M [.ref a, .ref v, .ref (g.2.2.2 0), .int 0]) (wrQ (S := Unit) g (fun u_ => none) (fun u_ M_ => padd g M a v 0 md (g.2.2.2 0) (fun _ => none) M_)) 1 10 (gA g) := by
  refine ofM (by decide +kernel) (Nat.le_of_ble_eq_true rfl) (fun p e s m args below meth c ls C hr hlocks hin hE hH hl ea => ?_)
  have hl : lv_has ls 4 [(0, .ref a), (1, .ref v), (2, .ref (g.2.2.2 0)), (3, .int 0)] := hl
  have hS : va_S (gA g) s.heap s.heap [] := va_S.rf
  refine lv_iload_n C.1 C.2.1 dJx4a65c_add_72be8_0 rfl (lv_at hl 3 rfl) ?_
  refine lv_aload_n C.1 C.2.1 dJx4a65c_add_72be8_1 rfl (lv_at hl 2 rfl) ?_
  refine medlen C hE hS dJx4a65c_add_72be8_2 ?_
  refine lv_icmp_ne (tgt := 11) C.1 C.2.1 dJx4a65c_add_72be8_3 (by decide) (fun c3 => ?_) (fun c3 => ?_)
  · exact absurd rfl c3
  · refine lv_aload_n C.1 C.2.1 dJx4a65c_add_72be8_6 rfl (lv_at hl 0 rfl) ?_
    refine wr_go1 (runV C hE hH hS (c_grow0B h0) mv_Jx4a65c_grow_d5877 wm_263 h0 rfl rfl hl.1 dJx4a65c_add_72be8_7 rfl rfl ⟨rfl, rfl⟩ ⟨Nat.le_of_ble_eq_true rfl, Nat.le_of_ble_eq_true rfl⟩ (Nat.le_of_ble_eq_true rfl) ⟨Nat.le_of_ble_eq_true rfl, Nat.le_of_ble_eq_true rfl⟩) hS (fun u1 M2 H locs hM2 hH hS => ?_)
    obtain ⟨nu1, gu1, hM2⟩ := hM2
    have f3 : M2 a = some (eO 0 [.int md, .ref u1, .int 0]) := by rw [hM2]; exact mu_s
    have f4 : M2 u1 = some (eQ g 2 10 (fun _ => none)) := by rw [hM2]; exact (mu_n (m_new nu1 h0).symm).trans mu_s
    have f5 : M2 v = some (eO ci vs) := by rw [hM2]; exact (mu_n (m_ne h1 h0 (by first | (intro z; cases z; done) | (intro z; cases z; omega)))).trans ((mu_n (m_new nu1 h1)).trans h1)
    refine lv_astore_n (lv' := [(2, .ref u1), (0, .ref a), (1, .ref v), (3, .int 0)]) C.1 C.2.1 dJx4a65c_add_72be8_10 rfl hl (by decide) rfl (fun ls hl => ?_)
    refine lv_aload_n C.1 C.2.1 dJx4a65c_add_72be8_11 rfl (lv_at hl 0 rfl) ?_
    refine lv_iload_n C.1 C.2.1 dJx4a65c_add_72be8_12 rfl (lv_at hl 3 rfl) ?_
    refine lv_aload_n C.1 C.2.1 dJx4a65c_add_72be8_13 rfl (lv_at hl 2 rfl) ?_
    refine mastq (k := 2) C hE hH hS f4 rfl (Or.inl (hcaS s hE)) f5 hc (vp_in_nI (show (0 : Nat) < 10 by decide) (show (10 : Nat) < 2 ^ 31 by decide)) dJx4a65c_add_72be8_14 (fun H locs hH hS => ?_)
    have hH := hH
    obtain ⟨M6, hM6⟩ : ∃ z, z = mu M2 u1 (eQ g 2 10 (va_up (fun _ => none) 0 (some v))) := ⟨_, rfl⟩
    have hH : Hw g M6 H := by rw [hM6]; exact hH
    have f7 : M6 u1 = some (eQ g 2 10 (va_up (fun _ => none) 0 (some v))) := by rw [hM6]; exact mu_s
    have f8 : M6 v = some (eO ci vs) := by rw [hM6]; exact (mu_n (m_new nu1 h1)).trans f5
    have f9 : M6 a = some (eO 0 [.int md, .ref u1, .int 0]) := by rw [hM6]; exact (mu_n (m_new nu1 h0)).trans f3
    refine lv_aload_n C.1 C.2.1 dJx4a65c_add_72be8_15 rfl (lv_at hl 1 rfl) ?_
    refine lv_iload_n C.1 C.2.1 dJx4a65c_add_72be8_16 rfl (lv_at hl 3 rfl) ?_
    refine lv_iconst (v := 1) C.1 C.2.1 dJx4a65c_add_72be8_17 rfl ?_
    refine lv_iadd C.1 C.2.1 dJx4a65c_add_72be8_18 ?_
    refine mput (fs' := [.int md, .ref u1, .int (0 + 1)]) C hE hH hS fl_58 f9 rfl rfl rfl (Nat.le_of_ble_eq_true rfl) dJx4a65c_add_72be8_19 (fun H locs hH hS => ?_)
    obtain ⟨M10, hM10⟩ : ∃ z, z = mu M6 a (eO 0 [.int md, .ref u1, .int (0 + 1)]) := ⟨_, rfl⟩
    have hH : Hw g M10 H := by rw [hM10]; exact hH
    have f11 : M10 a = some (eO 0 [.int md, .ref u1, .int (0 + 1)]) := by rw [hM10]; exact mu_s
    have f12 : M10 v = some (eO ci vs) := by rw [hM10]; exact (mu_n (m_ne f8 f9 (by first | (intro z; cases z; done) | exact ne_IQ | exact ne_IQ.symm | exact ne_LI | exact ne_LI.symm | (intro z; cases z; omega) | (intro z; cases z; contradiction) | exact (fun z => by cases z)))).trans f8
    have f13 : M10 u1 = some (eQ g 2 10 (va_up (fun _ => none) 0 (some v))) := by rw [hM10]; exact (mu_n ((m_new nu1 h0)).symm).trans f7
    exact wr_vret () C hr hlocks hH hS rfl (⟨u1, 10, va_up (fun _ => none) 0 (some v), f11, f13, (by decide), (by decide), fun j hj => absurd hj (Nat.not_lt_zero j), by unfold va_up; rw [if_pos rfl], fun b hb hd => by simp only [hM10, hM6, hM2, mu_n hb, mu_n hd], Or.inr ⟨nu1, gu1⟩⟩) (by decide) (by decide) dJx4a65c_add_72be8_22
set_option maxHeartbeats 4000000 in
set_option maxRecDepth 100000 in
theorem c_addB {l : Launch} {g : gG} {M : Mp} {a v ci : Nat} {md : Int32} {r : vw_C} {vs : List Value} (h0 : M a = some (eO 0 [.int md, .ref (g.2.2.2 0), .int 0])) (h1 : M v = some (eO ci vs)) (hc : vwCl[ci]? = some r) (hcaS : ∀ s : State, gE g s → va_Nw (.castable r.1 "java/lang/Object") s) (hci : ci ≠ 0) : Met l yJx4a65c_add_9ea2d (WY yJx4a65c_add_9ea2d cJx4a65c_add_9ea2d 2 (some .boolean)) { frames := 6, cells := 1, slots := 200, locals := 170 } (Wc g M [.ref a, .ref v]) (wrQ (S := Unit) g (fun u_ => (some (.int 1))) (fun u_ M_ => padd g M a v 0 (md + 1) (g.2.2.2 0) (fun _ => none) M_)) 1 200 (gA g) := by
  refine ofM (by decide +kernel) (Nat.le_of_ble_eq_true rfl) (fun p e s m args below meth c ls C hr hlocks hin hE hH hl ea => ?_)
  have hl : lv_has ls 2 [(0, .ref a), (1, .ref v)] := hl
  have hS : va_S (gA g) s.heap s.heap [] := va_S.rf
  refine lv_aload_n C.1 C.2.1 dJx4a65c_add_9ea2d_0 rfl (lv_at hl 0 rfl) ?_
  refine lv_dup C.1 C.2.1 dJx4a65c_add_9ea2d_1 rfl ?_
  refine mget C hE hH fl_60 h0 rfl dJx4a65c_add_9ea2d_2 ?_
  refine lv_iconst (v := 1) C.1 C.2.1 dJx4a65c_add_9ea2d_5 rfl ?_
  refine lv_iadd C.1 C.2.1 dJx4a65c_add_9ea2d_6 ?_
  refine mput (fs' := [.int (md + 1), .ref (g.2.2.2 0), .int 0]) C hE hH hS fl_60 h0 rfl rfl rfl (Nat.le_of_ble_eq_true rfl) dJx4a65c_add_9ea2d_7 (fun H locs hH hS => ?_)
  obtain ⟨M1, hM1⟩ : ∃ z, z = mu M a (eO 0 [.int (md + 1), .ref (g.2.2.2 0), .int 0]) := ⟨_, rfl⟩
  have hH : Hw g M1 H := by rw [hM1]; exact hH
  have f2 : M1 a = some (eO 0 [.int (md + 1), .ref (g.2.2.2 0), .int 0]) := by rw [hM1]; exact mu_s
  have f3 : M1 v = some (eO ci vs) := by rw [hM1]; exact (mu_n (m_ne h1 h0 (by first | (intro z; cases z; done) | exact ne_IQ | exact ne_IQ.symm | exact ne_LI | exact ne_LI.symm | (intro z; cases z; omega) | (intro z; cases z; contradiction) | exact (fun z => by cases z)))).trans h1
  refine lv_aload_n C.1 C.2.1 dJx4a65c_add_9ea2d_10 rfl (lv_at hl 0 rfl) ?_
  refine lv_aload_n C.1 C.2.1 dJx4a65c_add_9ea2d_11 rfl (lv_at hl 1 rfl) ?_
  refine lv_aload_n C.1 C.2.1 dJx4a65c_add_9ea2d_12 rfl (lv_at hl 0 rfl) ?_
  refine mget C hE hH fl_57 f2 rfl dJx4a65c_add_9ea2d_13 ?_
  refine lv_aload_n C.1 C.2.1 dJx4a65c_add_9ea2d_16 rfl (lv_at hl 0 rfl) ?_
  refine mget C hE hH fl_58 f2 rfl dJx4a65c_add_9ea2d_17 ?_
  refine wr_go0 (runV C hE hH hS (c_add3B f2 f3 (hc) (hcaS) (hci)) mv_Jx4a65c_add_72be8 wm_259 f2 rfl rfl hl.1 dJx4a65c_add_9ea2d_20 rfl rfl ⟨rfl, rfl⟩ ⟨Nat.le_of_ble_eq_true rfl, Nat.le_of_ble_eq_true rfl⟩ (Nat.le_of_ble_eq_true rfl) ⟨Nat.le_of_ble_eq_true rfl, Nat.le_of_ble_eq_true rfl⟩) hS (fun u4 M5 H locs hM5 hH hS => ?_)
  refine lv_iconst (v := 1) C.1 C.2.1 dJx4a65c_add_9ea2d_23 rfl ?_
  exact wr_zret () C hr hlocks (rfl) hH hS rfl (by have h9 := hM5; rw [hM1] at h9; exact padd_up h9) (by decide) (by decide) dJx4a65c_add_9ea2d_24
set_option maxHeartbeats 4000000 in
set_option maxRecDepth 100000 in
theorem c_grow0C {l : Launch} {g : gG} {M : Mp} {a d n0 ci : Nat} {md : Int32} {row : Nat → Option Nat} {r : vw_C} (h0 : M a = some (eO 0 [.int md, .ref d, .int (nI n0)])) (h1 : M d = some (eQ g 2 n0 row)) (hn : 0 < n0 ∧ n0 ≤ 100) (hc : vwCl[ci]? = some r) (hcaS : ∀ s : State, gE g s → va_Nw (.castable r.1 "java/lang/Object") s) (hel : ∀ j, j < n0 → ∃ y vs, row j = some y ∧ M y = some (eO ci vs)) : Met l yJx4a65c_grow_d5877 (WY yJx4a65c_grow_d5877 cJx4a65c_grow_d5877 1 (some (.array (.object "java/lang/Object")))) { frames := 4, cells := 1, slots := 200, locals := 127 } (Wc g M [.ref a]) (wrQ (S := Nat) g (fun u_ => (some (.ref u_))) (fun u_ M_ => M u_ = none ∧ g.1 ≤ u_ ∧ M_ = mu (mu M u_ (eQ g 2 (gcap n0) (va_cpy row (fun _ => none) 0 0 n0))) a (eO 0 [.int md, .ref u_, .int (nI n0)]))) 1 200 (gA g) := by
  refine ofM (by decide +kernel) (Nat.le_of_ble_eq_true rfl) (fun p e s m args below meth c ls C hr hlocks hin hE hH hl ea => ?_)
  have hl : lv_has ls 1 [(0, .ref a)] := hl
  have hS : va_S (gA g) s.heap s.heap [] := va_S.rf
  refine lv_aload_n C.1 C.2.1 dJx4a65c_grow_d5877_0 rfl (lv_at hl 0 rfl) ?_
  refine lv_aload_n C.1 C.2.1 dJx4a65c_grow_d5877_1 rfl (lv_at hl 0 rfl) ?_
  refine mget C hE hH fl_58 h0 rfl dJx4a65c_grow_d5877_2 ?_
  refine lv_iconst (v := 1) C.1 C.2.1 dJx4a65c_grow_d5877_5 rfl ?_
  refine lv_iadd C.1 C.2.1 dJx4a65c_grow_d5877_6 ?_
  refine wr_go1 (runV C hE hH hS (c_growC h0 h1 (nI_1 n0) (hn) (hc) (hcaS) (hel)) mv_Jx4a65c_grow_92f84 wm_267 h0 rfl rfl hl.1 dJx4a65c_grow_d5877_7 rfl rfl ⟨rfl, rfl⟩ ⟨Nat.le_of_ble_eq_true rfl, Nat.le_of_ble_eq_true rfl⟩ (Nat.le_of_ble_eq_true rfl) ⟨Nat.le_of_ble_eq_true rfl, Nat.le_of_ble_eq_true rfl⟩) hS (fun u1 M2 H locs hM2 hH hS => ?_)
  obtain ⟨nu1, gu1, hM2⟩ := hM2
  have f3 : M2 a = some (eO 0 [.int md, .ref u1, .int (nI n0)]) := by rw [hM2]; exact mu_s
  have f4 : M2 u1 = some (eQ g 2 (gcap n0) (va_cpy row (fun _ => none) 0 0 n0)) := by rw [hM2]; exact (mu_n (m_new nu1 h0).symm).trans mu_s
  have f5 : M2 d = some (eQ g 2 n0 row) := by rw [hM2]; exact (mu_n (m_ne h1 h0 (by first | (intro z; cases z; done) | (intro z; cases z; omega)))).trans ((mu_n (m_new nu1 h1)).trans h1)
  exact wr_aret u1 C hr hlocks (by first | exact Or.inl ⟨_, rfl⟩ | exact Or.inr ⟨_, rfl⟩) hH hS rfl (⟨nu1, gu1, hM2⟩) (by decide) (by decide) dJx4a65c_grow_d5877_10
set_option maxHeartbeats 4000000 in
set_option maxRecDepth 100000 in
theorem c_add3C {l : Launch} {g : gG} {M : Mp} {a d v n0 ci : Nat} {md : Int32} {row : Nat → Option Nat} {r : vw_C} {vs : List Value} (h0 : M a = some (eO 0 [.int md, .ref d, .int (nI n0)])) (h1 : M d = some (eQ g 2 n0 row)) (h2 : M v = some (eO ci vs)) (hn : 0 < n0 ∧ n0 ≤ 100) (hc : vwCl[ci]? = some r) (hcaS : ∀ s : State, gE g s → va_Nw (.castable r.1 "java/lang/Object") s) (hci : ci ≠ 0) (hel : ∀ j, j < n0 → ∃ y vs, row j = some y ∧ M y = some (eO ci vs)) : Met l yJx4a65c_add_72be8 (WY yJx4a65c_add_72be8 cJx4a65c_add_72be8 4 none) { frames := 5, cells := 1, slots := 200, locals := 147 } (Wc g M [.ref a, .ref v, .ref d, .int (nI n0)]) (wrQ (S := Unit) g (fun u_ => none) (fun u_ M_ => padd g M a v n0 md d row M_)) 1 200 (gA g) := by
  refine ofM (by decide +kernel) (Nat.le_of_ble_eq_true rfl) (fun p e s m args below meth c ls C hr hlocks hin hE hH hl ea => ?_)
  have hl : lv_has ls 4 [(0, .ref a), (1, .ref v), (2, .ref d), (3, .int (nI n0))] := hl
  have hS : va_S (gA g) s.heap s.heap [] := va_S.rf
  refine lv_iload_n C.1 C.2.1 dJx4a65c_add_72be8_0 rfl (lv_at hl 3 rfl) ?_
  refine lv_aload_n C.1 C.2.1 dJx4a65c_add_72be8_1 rfl (lv_at hl 2 rfl) ?_
  refine malen (k := 2) (v := nI n0) C hE hH h1 rfl rfl dJx4a65c_add_72be8_2 ?_
  refine lv_icmp_ne (tgt := 11) C.1 C.2.1 dJx4a65c_add_72be8_3 (by decide) (fun c3 => ?_) (fun c3 => ?_)
  · exact absurd rfl c3
  · refine lv_aload_n C.1 C.2.1 dJx4a65c_add_72be8_6 rfl (lv_at hl 0 rfl) ?_
    refine wr_go1 (runV C hE hH hS (c_grow0C h0 h1 (hn) (hc) (hcaS) (hel)) mv_Jx4a65c_grow_d5877 wm_263 h0 rfl rfl hl.1 dJx4a65c_add_72be8_7 rfl rfl ⟨rfl, rfl⟩ ⟨Nat.le_of_ble_eq_true rfl, Nat.le_of_ble_eq_true rfl⟩ (Nat.le_of_ble_eq_true rfl) ⟨Nat.le_of_ble_eq_true rfl, Nat.le_of_ble_eq_true rfl⟩) hS (fun u1 M2 H locs hM2 hH hS => ?_)
    obtain ⟨nu1, gu1, hM2⟩ := hM2
    have f3 : M2 a = some (eO 0 [.int md, .ref u1, .int (nI n0)]) := by rw [hM2]; exact mu_s
    have f4 : M2 u1 = some (eQ g 2 (gcap n0) (va_cpy row (fun _ => none) 0 0 n0)) := by rw [hM2]; exact (mu_n (m_new nu1 h0).symm).trans mu_s
    have f5 : M2 d = some (eQ g 2 n0 row) := by rw [hM2]; exact (mu_n (m_ne h1 h0 (by first | (intro z; cases z; done) | (intro z; cases z; omega)))).trans ((mu_n (m_new nu1 h1)).trans h1)
    have f6 : M2 v = some (eO ci vs) := by rw [hM2]; exact (mu_n (m_ne h2 h0 (by first | (intro z; cases z; done) | (intro z; cases z; omega)))).trans ((mu_n (m_new nu1 h2)).trans h2)
    refine lv_astore_n (lv' := [(2, .ref u1), (0, .ref a), (1, .ref v), (3, .int (nI n0))]) C.1 C.2.1 dJx4a65c_add_72be8_10 rfl hl (by decide) rfl (fun ls hl => ?_)
    refine lv_aload_n C.1 C.2.1 dJx4a65c_add_72be8_11 rfl (lv_at hl 0 rfl) ?_
    refine lv_iload_n C.1 C.2.1 dJx4a65c_add_72be8_12 rfl (lv_at hl 3 rfl) ?_
    refine lv_aload_n C.1 C.2.1 dJx4a65c_add_72be8_13 rfl (lv_at hl 2 rfl) ?_
    refine mastq (k := 2) C hE hH hS f4 rfl (Or.inl (hcaS s hE)) f6 hc (vp_in_nI (gcap_b hn.1 hn.2).1 (Nat.lt_of_le_of_lt (gcap_b hn.1 hn.2).2 (by decide))) dJx4a65c_add_72be8_14 (fun H locs hH hS => ?_)
    rw [nI_clamp (by omega)] at hH
    obtain ⟨M7, hM7⟩ : ∃ z, z = mu M2 u1 (eQ g 2 (gcap n0) (va_up (va_cpy row (fun _ => none) 0 0 n0) n0 (some v))) := ⟨_, rfl⟩
    have hH : Hw g M7 H := by rw [hM7]; exact hH
    have f8 : M7 u1 = some (eQ g 2 (gcap n0) (va_up (va_cpy row (fun _ => none) 0 0 n0) n0 (some v))) := by rw [hM7]; exact mu_s
    have f9 : M7 d = some (eQ g 2 n0 row) := by rw [hM7]; exact (mu_n (m_new nu1 h1)).trans f5
    have f10 : M7 v = some (eO ci vs) := by rw [hM7]; exact (mu_n (m_new nu1 h2)).trans f6
    have f11 : M7 a = some (eO 0 [.int md, .ref u1, .int (nI n0)]) := by rw [hM7]; exact (mu_n (m_new nu1 h0)).trans f3
    refine lv_aload_n C.1 C.2.1 dJx4a65c_add_72be8_15 rfl (lv_at hl 1 rfl) ?_
    refine lv_iload_n C.1 C.2.1 dJx4a65c_add_72be8_16 rfl (lv_at hl 3 rfl) ?_
    refine lv_iconst (v := 1) C.1 C.2.1 dJx4a65c_add_72be8_17 rfl ?_
    refine lv_iadd C.1 C.2.1 dJx4a65c_add_72be8_18 ?_
    refine mput (fs' := [.int md, .ref u1, .int ((nI n0) + 1)]) C hE hH hS fl_58 f11 rfl rfl rfl (Nat.le_of_ble_eq_true rfl) dJx4a65c_add_72be8_19 (fun H locs hH hS => ?_)
    obtain ⟨M12, hM12⟩ : ∃ z, z = mu M7 a (eO 0 [.int md, .ref u1, .int ((nI n0) + 1)]) := ⟨_, rfl⟩
    have hH : Hw g M12 H := by rw [hM12]; exact hH
    have f13 : M12 a = some (eO 0 [.int md, .ref u1, .int ((nI n0) + 1)]) := by rw [hM12]; exact mu_s
    have f14 : M12 d = some (eQ g 2 n0 row) := by rw [hM12]; exact (mu_n (m_ne f9 f11 (by first | (intro z; cases z; done) | exact ne_IQ | exact ne_IQ.symm | exact ne_LI | exact ne_LI.symm | (intro z; cases z; omega) | (intro z; cases z; contradiction) | exact (fun z => by cases z)))).trans f9
    have f15 : M12 v = some (eO ci vs) := by rw [hM12]; exact (mu_n (m_ne f10 f11 (by first | (intro z; cases z; done) | exact ne_IQ | exact ne_IQ.symm | exact ne_LI | exact ne_LI.symm | (intro z; cases z; omega) | (intro z; cases z; contradiction) | exact (fun z => by cases z)))).trans f10
    have f16 : M12 u1 = some (eQ g 2 (gcap n0) (va_up (va_cpy row (fun _ => none) 0 0 n0) n0 (some v))) := by rw [hM12]; exact (mu_n ((m_new nu1 h0)).symm).trans f8
    exact wr_vret () C hr hlocks hH hS rfl (⟨u1, (gcap n0), va_up (va_cpy row (fun _ => none) 0 0 n0) n0 (some v), (by rw [← nI_1]; exact f13), f16, (gcap_b hn.1 hn.2).1, (gcap_b hn.1 hn.2).2, fun j hj => by unfold va_up; rw [if_neg (by omega)]; unfold va_cpy; rw [if_pos ⟨Nat.zero_le _, by omega⟩]; simp, by unfold va_up; rw [if_pos rfl], fun b hb hd => by simp only [hM12, hM7, hM2, mu_n hb, mu_n hd], Or.inr ⟨nu1, gu1⟩⟩) (by decide) (by decide) dJx4a65c_add_72be8_22
set_option maxHeartbeats 4000000 in
set_option maxRecDepth 100000 in
theorem c_addC {l : Launch} {g : gG} {M : Mp} {a d v n0 ci : Nat} {md : Int32} {row : Nat → Option Nat} {r : vw_C} {vs : List Value} (h0 : M a = some (eO 0 [.int md, .ref d, .int (nI n0)])) (h1 : M d = some (eQ g 2 n0 row)) (h2 : M v = some (eO ci vs)) (hn : 0 < n0 ∧ n0 ≤ 100) (hc : vwCl[ci]? = some r) (hcaS : ∀ s : State, gE g s → va_Nw (.castable r.1 "java/lang/Object") s) (hci : ci ≠ 0) (hel : ∀ j, j < n0 → ∃ y vs, row j = some y ∧ M y = some (eO ci vs)) : Met l yJx4a65c_add_9ea2d (WY yJx4a65c_add_9ea2d cJx4a65c_add_9ea2d 2 (some .boolean)) { frames := 6, cells := 1, slots := 200, locals := 170 } (Wc g M [.ref a, .ref v]) (wrQ (S := Unit) g (fun u_ => (some (.int 1))) (fun u_ M_ => padd g M a v n0 (md + 1) d row M_)) 1 200 (gA g) := by
  refine ofM (by decide +kernel) (Nat.le_of_ble_eq_true rfl) (fun p e s m args below meth c ls C hr hlocks hin hE hH hl ea => ?_)
  have hl : lv_has ls 2 [(0, .ref a), (1, .ref v)] := hl
  have hS : va_S (gA g) s.heap s.heap [] := va_S.rf
  refine lv_aload_n C.1 C.2.1 dJx4a65c_add_9ea2d_0 rfl (lv_at hl 0 rfl) ?_
  refine lv_dup C.1 C.2.1 dJx4a65c_add_9ea2d_1 rfl ?_
  refine mget C hE hH fl_60 h0 rfl dJx4a65c_add_9ea2d_2 ?_
  refine lv_iconst (v := 1) C.1 C.2.1 dJx4a65c_add_9ea2d_5 rfl ?_
  refine lv_iadd C.1 C.2.1 dJx4a65c_add_9ea2d_6 ?_
  refine mput (fs' := [.int (md + 1), .ref d, .int (nI n0)]) C hE hH hS fl_60 h0 rfl rfl rfl (Nat.le_of_ble_eq_true rfl) dJx4a65c_add_9ea2d_7 (fun H locs hH hS => ?_)
  obtain ⟨M1, hM1⟩ : ∃ z, z = mu M a (eO 0 [.int (md + 1), .ref d, .int (nI n0)]) := ⟨_, rfl⟩
  have hH : Hw g M1 H := by rw [hM1]; exact hH
  have f2 : M1 a = some (eO 0 [.int (md + 1), .ref d, .int (nI n0)]) := by rw [hM1]; exact mu_s
  have f3 : M1 d = some (eQ g 2 n0 row) := by rw [hM1]; exact (mu_n (m_ne h1 h0 (by first | (intro z; cases z; done) | exact ne_IQ | exact ne_IQ.symm | exact ne_LI | exact ne_LI.symm | (intro z; cases z; omega) | (intro z; cases z; contradiction) | exact (fun z => by cases z)))).trans h1
  have f4 : M1 v = some (eO ci vs) := by rw [hM1]; exact (mu_n (m_ne h2 h0 (by first | (intro z; cases z; done) | exact ne_IQ | exact ne_IQ.symm | exact ne_LI | exact ne_LI.symm | (intro z; cases z; omega) | (intro z; cases z; contradiction) | exact (fun z => by cases z)))).trans h2
  refine lv_aload_n C.1 C.2.1 dJx4a65c_add_9ea2d_10 rfl (lv_at hl 0 rfl) ?_
  refine lv_aload_n C.1 C.2.1 dJx4a65c_add_9ea2d_11 rfl (lv_at hl 1 rfl) ?_
  refine lv_aload_n C.1 C.2.1 dJx4a65c_add_9ea2d_12 rfl (lv_at hl 0 rfl) ?_
  refine mget C hE hH fl_57 f2 rfl dJx4a65c_add_9ea2d_13 ?_
  refine lv_aload_n C.1 C.2.1 dJx4a65c_add_9ea2d_16 rfl (lv_at hl 0 rfl) ?_
  refine mget C hE hH fl_58 f2 rfl dJx4a65c_add_9ea2d_17 ?_
  refine wr_go0 (runV C hE hH hS (c_add3C f2 f3 f4 (hn) (hc) (hcaS) (hci) (fun j hj => by obtain ⟨y, vs2, e1, e2⟩ := hel j hj; exact ⟨y, vs2, e1, by rw [hM1, mu_n (fun z => hci (by rw [z, h0] at e2; cases e2; rfl))]; exact e2⟩)) mv_Jx4a65c_add_72be8 wm_259 f2 rfl rfl hl.1 dJx4a65c_add_9ea2d_20 rfl rfl ⟨rfl, rfl⟩ ⟨Nat.le_of_ble_eq_true rfl, Nat.le_of_ble_eq_true rfl⟩ (Nat.le_of_ble_eq_true rfl) ⟨Nat.le_of_ble_eq_true rfl, Nat.le_of_ble_eq_true rfl⟩) hS (fun u5 M6 H locs hM6 hH hS => ?_)
  refine lv_iconst (v := 1) C.1 C.2.1 dJx4a65c_add_9ea2d_23 rfl ?_
  exact wr_zret () C hr hlocks (rfl) hH hS rfl (by have h9 := hM6; rw [hM1] at h9; exact padd_up h9) (by decide) (by decide) dJx4a65c_add_9ea2d_24
