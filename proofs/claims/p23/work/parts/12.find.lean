/-! THE LIST AS A SEQUENCE -/
def Lst (g : gG) (M : Mp) (a d k : Nat) (f : Nat → Nat) : Prop := ∃ md : Int32, M a = some (eO 0 [.int md, .ref d, .int (nI k)]) ∧ ((k = 0 ∧ d = g.2.2.2 0 ∧ M d = none) ∨ ∃ (n : Nat) (row : Nat → Option Nat), M d = some (eQ g 2 n row) ∧ k ≤ n ∧ 0 < n ∧ n ≤ 200 ∧ ∀ j, j < k → row j = some (f j))
theorem Lst_at {g : gG} {M : Mp} {d k : Nat} {f : Nat → Nat} {x : Int32} (h : (k = 0 ∧ d = g.2.2.2 0 ∧ M d = none) ∨ ∃ (n : Nat) (row : Nat → Option Nat), M d = some (eQ g 2 n row) ∧ k ≤ n ∧ 0 < n ∧ n ≤ 200 ∧ ∀ j, j < k → row j = some (f j)) (hk : k < 2 ^ 31) (h0 : ¬ x < 0) (h1 : x < nI k) : ∃ (n : Nat) (row : Nat → Option Nat), M d = some (eQ g 2 n row) ∧ vp_in x n ∧ row x.toNatClampNeg = some (f x.toNatClampNeg) ∧ x.toNatClampNeg < k := by
  obtain ⟨j, hj, rfl⟩ := nI_of h0
  have hjk : j < k := (nI_ltI hj hk).mp h1
  rcases h with ⟨rfl, -⟩ | ⟨n, row, h2, h3, -, h4, h5⟩
  · exact absurd hjk (Nat.not_lt_zero j)
  · exact ⟨n, row, h2, vp_in_nI (by omega) (by omega), by rw [nI_clamp hj]; exact h5 j hjk, by rw [nI_clamp hj]; exact hjk⟩
set_option maxHeartbeats 4000000 in
set_option maxRecDepth 100000 in
theorem c_findEntry {l : Launch} {g : gG} {M : Mp} {x eL bL oL wa yf ys bl cl : Nat} {dd k : Nat} {f : Nat → Nat} (hlx : l.stackTraces = false) (h0 : M x = some (eO 6 [.ref eL, .ref bL, .ref oL, .ref wa, .ref yf, .ref ys, .ref bl, .ref cl])) (hL : Lst g M eL dd k f) (hk : k < 2 ^ 31) (hel : ∀ j, j < k → ∃ vs, M (f j) = some (eO 3 vs)) (i : Int32) : vx_Met l yX5_findEntry (WY yX5_findEntry cX5_findEntry 2 (some (.object "DyeRing$Entry"))) { frames := 7, cells := 1, slots := 6, locals := 103 } (Wc g M [.ref x, .int i]) (xrQ (¬ i < 0 ∧ i < nI k) (some (.ref (f i.toNatClampNeg)))) (xQ (fun E_ => E_ = xIO ∧ ¬ (¬ i < 0 ∧ i < nI k))) 1 6 fr0 := by
  refine ofX (by decide +kernel) (Nat.le_of_ble_eq_true rfl) (fun p e s m args below meth c ls C hr hlocks hout hE hH hl ea => ?_)
  have hl : lv_has ls 2 [(0, .ref x), (1, .int i)] := hl
  have hS : va_S (gA g) s.heap s.heap [] := va_S.rf
  obtain ⟨md9, hL0, hL1⟩ := hL
  refine lv_iload_n C.1 C.2.1 dX5_findEntry_0 rfl (lv_at hl 1 rfl) ?_
  refine lv_aload_n C.1 C.2.1 dX5_findEntry_1 rfl (lv_at hl 0 rfl) ?_
  refine mget C hE hH fl_92 h0 rfl dX5_findEntry_2 ?_
  refine rd_go1 (runV C hE hH hS (c_L_size hL0) mv_Jx4a65c_size_8abf5 wm_208 hL0 rfl rfl hl.1 dX5_findEntry_5 rfl rfl ⟨rfl, rfl⟩ ⟨Nat.le_of_ble_eq_true rfl, Nat.le_of_ble_eq_true rfl⟩ (Nat.le_of_ble_eq_true rfl) ⟨Nat.le_of_ble_eq_true rfl, Nat.le_of_ble_eq_true rfl⟩) ?_
  refine xr_go0 (xrunS C hE hH hS (c_reqIndex hlx i (nI k)) mv_X5_requireIndex wm_321 hl.1 dX5_findEntry_8 rfl rfl ⟨rfl, rfl⟩ ⟨Nat.le_of_ble_eq_true rfl, Nat.le_of_ble_eq_true rfl⟩ (Nat.le_of_ble_eq_true rfl) ⟨Nat.le_of_ble_eq_true rfl, Nat.le_of_ble_eq_true rfl⟩) (fun E ce q9 H1 hx9 hz9 ho9 hce hcv hcl => ?_) (fun hp8 => ?_)
  · exact x_pass hout hlocks (hx9) hz9 ho9 hce hcv hcl (by decide) (by decide)
  refine lv_aload_n C.1 C.2.1 dX5_findEntry_11 rfl (lv_at hl 0 rfl) ?_
  refine mget C hE hH fl_92 h0 rfl dX5_findEntry_12 ?_
  refine lv_iload_n C.1 C.2.1 dX5_findEntry_15 rfl (lv_at hl 1 rfl) ?_
  obtain ⟨n9, row9, hd9, hv9, hy9, hk9⟩ := Lst_at hL1 hk hp8.1 hp8.2
  obtain ⟨vs9, he9⟩ := hel _ hk9
  refine rd_go1 (runV C hE hH hS (c_L_get hL0 hd9 (hv9) (hy9) (hp8.1) (hp8.2)) mv_Jx4a65c_get_915e3 wm_348 hL0 rfl rfl hl.1 dX5_findEntry_16 rfl rfl ⟨rfl, rfl⟩ ⟨Nat.le_of_ble_eq_true rfl, Nat.le_of_ble_eq_true rfl⟩ (Nat.le_of_ble_eq_true rfl) ⟨Nat.le_of_ble_eq_true rfl, Nat.le_of_ble_eq_true rfl⟩) ?_
  refine va_castS C.1 C.2.1 C.2.2.2.1 (C.2.2.2.2 _ wm_231) (hE.1.1 3 _ rfl).2 (m_recv hE hH he9 (ci := 3) rfl) dX5_findEntry_19 ?_
  exact xr_aret C hr hlocks (by first | exact Or.inl ⟨_, rfl⟩ | exact Or.inr ⟨_, rfl⟩) (hp8) (rfl) (by decide) (by decide) dX5_findEntry_22
set_option maxHeartbeats 4000000 in
set_option maxRecDepth 100000 in
theorem c_findBath {l : Launch} {g : gG} {M : Mp} {x eL bL oL wa yf ys bl cl : Nat} {dd k : Nat} {f : Nat → Nat} (hlx : l.stackTraces = false) (h0 : M x = some (eO 6 [.ref eL, .ref bL, .ref oL, .ref wa, .ref yf, .ref ys, .ref bl, .ref cl])) (hL : Lst g M bL dd k f) (hk : k < 2 ^ 31) (hel : ∀ j, j < k → ∃ vs, M (f j) = some (eO 1 vs)) (i : Int32) : vx_Met l yX5_findBath (WY yX5_findBath cX5_findBath 2 (some (.object "DyeRing$Bath"))) { frames := 7, cells := 1, slots := 6, locals := 103 } (Wc g M [.ref x, .int i]) (xrQ (¬ i < 0 ∧ i < nI k) (some (.ref (f i.toNatClampNeg)))) (xQ (fun E_ => E_ = xIO ∧ ¬ (¬ i < 0 ∧ i < nI k))) 1 6 fr0 := by
  refine ofX (by decide +kernel) (Nat.le_of_ble_eq_true rfl) (fun p e s m args below meth c ls C hr hlocks hout hE hH hl ea => ?_)
  have hl : lv_has ls 2 [(0, .ref x), (1, .int i)] := hl
  have hS : va_S (gA g) s.heap s.heap [] := va_S.rf
  obtain ⟨md9, hL0, hL1⟩ := hL
  refine lv_iload_n C.1 C.2.1 dX5_findBath_0 rfl (lv_at hl 1 rfl) ?_
  refine lv_aload_n C.1 C.2.1 dX5_findBath_1 rfl (lv_at hl 0 rfl) ?_
  refine mget C hE hH fl_93 h0 rfl dX5_findBath_2 ?_
  refine rd_go1 (runV C hE hH hS (c_L_size hL0) mv_Jx4a65c_size_8abf5 wm_208 hL0 rfl rfl hl.1 dX5_findBath_5 rfl rfl ⟨rfl, rfl⟩ ⟨Nat.le_of_ble_eq_true rfl, Nat.le_of_ble_eq_true rfl⟩ (Nat.le_of_ble_eq_true rfl) ⟨Nat.le_of_ble_eq_true rfl, Nat.le_of_ble_eq_true rfl⟩) ?_
  refine xr_go0 (xrunS C hE hH hS (c_reqIndex hlx i (nI k)) mv_X5_requireIndex wm_321 hl.1 dX5_findBath_8 rfl rfl ⟨rfl, rfl⟩ ⟨Nat.le_of_ble_eq_true rfl, Nat.le_of_ble_eq_true rfl⟩ (Nat.le_of_ble_eq_true rfl) ⟨Nat.le_of_ble_eq_true rfl, Nat.le_of_ble_eq_true rfl⟩) (fun E ce q9 H1 hx9 hz9 ho9 hce hcv hcl => ?_) (fun hp8 => ?_)
  · exact x_pass hout hlocks (hx9) hz9 ho9 hce hcv hcl (by decide) (by decide)
  refine lv_aload_n C.1 C.2.1 dX5_findBath_11 rfl (lv_at hl 0 rfl) ?_
  refine mget C hE hH fl_93 h0 rfl dX5_findBath_12 ?_
  refine lv_iload_n C.1 C.2.1 dX5_findBath_15 rfl (lv_at hl 1 rfl) ?_
  obtain ⟨n9, row9, hd9, hv9, hy9, hk9⟩ := Lst_at hL1 hk hp8.1 hp8.2
  obtain ⟨vs9, he9⟩ := hel _ hk9
  refine rd_go1 (runV C hE hH hS (c_L_get hL0 hd9 (hv9) (hy9) (hp8.1) (hp8.2)) mv_Jx4a65c_get_915e3 wm_348 hL0 rfl rfl hl.1 dX5_findBath_16 rfl rfl ⟨rfl, rfl⟩ ⟨Nat.le_of_ble_eq_true rfl, Nat.le_of_ble_eq_true rfl⟩ (Nat.le_of_ble_eq_true rfl) ⟨Nat.le_of_ble_eq_true rfl, Nat.le_of_ble_eq_true rfl⟩) ?_
  refine va_castS C.1 C.2.1 C.2.2.2.1 (C.2.2.2.2 _ wm_362) (hE.1.1 1 _ rfl).2 (m_recv hE hH he9 (ci := 1) rfl) dX5_findBath_19 ?_
  exact xr_aret C hr hlocks (by first | exact Or.inl ⟨_, rfl⟩ | exact Or.inr ⟨_, rfl⟩) (hp8) (rfl) (by decide) (by decide) dX5_findBath_22
set_option maxHeartbeats 4000000 in
set_option maxRecDepth 100000 in
theorem c_findOrder {l : Launch} {g : gG} {M : Mp} {x eL bL oL wa yf ys bl cl : Nat} {dd k : Nat} {f : Nat → Nat} (hlx : l.stackTraces = false) (h0 : M x = some (eO 6 [.ref eL, .ref bL, .ref oL, .ref wa, .ref yf, .ref ys, .ref bl, .ref cl])) (hL : Lst g M oL dd k f) (hk : k < 2 ^ 31) (hel : ∀ j, j < k → ∃ vs, M (f j) = some (eO 4 vs)) (i : Int32) : vx_Met l yX5_findOrder (WY yX5_findOrder cX5_findOrder 2 (some (.object "DyeRing$Order"))) { frames := 7, cells := 1, slots := 6, locals := 103 } (Wc g M [.ref x, .int i]) (xrQ (¬ i < 0 ∧ i < nI k) (some (.ref (f i.toNatClampNeg)))) (xQ (fun E_ => E_ = xIO ∧ ¬ (¬ i < 0 ∧ i < nI k))) 1 6 fr0 := by
  refine ofX (by decide +kernel) (Nat.le_of_ble_eq_true rfl) (fun p e s m args below meth c ls C hr hlocks hout hE hH hl ea => ?_)
  have hl : lv_has ls 2 [(0, .ref x), (1, .int i)] := hl
  have hS : va_S (gA g) s.heap s.heap [] := va_S.rf
  obtain ⟨md9, hL0, hL1⟩ := hL
  refine lv_iload_n C.1 C.2.1 dX5_findOrder_0 rfl (lv_at hl 1 rfl) ?_
  refine lv_aload_n C.1 C.2.1 dX5_findOrder_1 rfl (lv_at hl 0 rfl) ?_
  refine mget C hE hH fl_94 h0 rfl dX5_findOrder_2 ?_
  refine rd_go1 (runV C hE hH hS (c_L_size hL0) mv_Jx4a65c_size_8abf5 wm_208 hL0 rfl rfl hl.1 dX5_findOrder_5 rfl rfl ⟨rfl, rfl⟩ ⟨Nat.le_of_ble_eq_true rfl, Nat.le_of_ble_eq_true rfl⟩ (Nat.le_of_ble_eq_true rfl) ⟨Nat.le_of_ble_eq_true rfl, Nat.le_of_ble_eq_true rfl⟩) ?_
  refine xr_go0 (xrunS C hE hH hS (c_reqIndex hlx i (nI k)) mv_X5_requireIndex wm_321 hl.1 dX5_findOrder_8 rfl rfl ⟨rfl, rfl⟩ ⟨Nat.le_of_ble_eq_true rfl, Nat.le_of_ble_eq_true rfl⟩ (Nat.le_of_ble_eq_true rfl) ⟨Nat.le_of_ble_eq_true rfl, Nat.le_of_ble_eq_true rfl⟩) (fun E ce q9 H1 hx9 hz9 ho9 hce hcv hcl => ?_) (fun hp8 => ?_)
  · exact x_pass hout hlocks (hx9) hz9 ho9 hce hcv hcl (by decide) (by decide)
  refine lv_aload_n C.1 C.2.1 dX5_findOrder_11 rfl (lv_at hl 0 rfl) ?_
  refine mget C hE hH fl_94 h0 rfl dX5_findOrder_12 ?_
  refine lv_iload_n C.1 C.2.1 dX5_findOrder_15 rfl (lv_at hl 1 rfl) ?_
  obtain ⟨n9, row9, hd9, hv9, hy9, hk9⟩ := Lst_at hL1 hk hp8.1 hp8.2
  obtain ⟨vs9, he9⟩ := hel _ hk9
  refine rd_go1 (runV C hE hH hS (c_L_get hL0 hd9 (hv9) (hy9) (hp8.1) (hp8.2)) mv_Jx4a65c_get_915e3 wm_348 hL0 rfl rfl hl.1 dX5_findOrder_16 rfl rfl ⟨rfl, rfl⟩ ⟨Nat.le_of_ble_eq_true rfl, Nat.le_of_ble_eq_true rfl⟩ (Nat.le_of_ble_eq_true rfl) ⟨Nat.le_of_ble_eq_true rfl, Nat.le_of_ble_eq_true rfl⟩) ?_
  refine va_castS C.1 C.2.1 C.2.2.2.1 (C.2.2.2.2 _ wm_399) (hE.1.1 4 _ rfl).2 (m_recv hE hH he9 (ci := 4) rfl) dX5_findOrder_19 ?_
  exact xr_aret C hr hlocks (by first | exact Or.inl ⟨_, rfl⟩ | exact Or.inr ⟨_, rfl⟩) (hp8) (rfl) (by decide) (by decide) dX5_findOrder_22
theorem Met_imp {l : Launch} {y : MethodName} {ws : List Cond} {rm : Room} {Pc : Array Value → State → Prop} {Qc Qd : Array Value → State → Outcome → State → Prop} {mc ms : Nat} {free : Addr → Prop} (h : Met l y ws rm Pc Qc mc ms free) (hq : ∀ a s o t, Qc a s o t → Qd a s o t) : Met l y ws rm Pc Qd mc ms free := by
  intro p e h1 h2 h3 s m args below h4 h5 h6 h7
  obtain ⟨n, o, a1, a2, a3, a4, a5⟩ := h p e h1 h2 h3 s m args below h4 h5 h6 h7
  exact ⟨n, o, a1, a2, a3, hq _ _ _ _ a4, a5⟩
theorem wrQ_imp {S : Type} {g : gG} {vf : S → Option Value} {P P' : S → Mp → Prop} (h : ∀ u M', P u M' → P' u M') : ∀ a s o t, wrQ g vf P a s o t → wrQ g vf P' a s o t := fun _ _ _ _ ⟨⟨u, M', h1, h2, h3⟩, h4⟩ => ⟨⟨u, M', h1, h _ _ h2, h3⟩, h4⟩
def ladd (g : gG) (M : Mp) (a d k v : Nat) (f : Nat → Nat) (M' : Mp) : Prop := ∃ d', Lst g M' a d' (k + 1) (va_up f k v) ∧ (∀ b, b ≠ a → b ≠ d' → M' b = M b) ∧ (d' = d ∨ (M d' = none ∧ g.1 ≤ d'))
theorem ladd_of {g : gG} {M M' : Mp} {a v k d : Nat} {md : Int32} {row : Nat → Option Nat} {f : Nat → Nat} (h : padd g M a v k md d row M') (hf : ∀ j, j < k → row j = some (f j)) : ladd g M a d k v f M' := by
  obtain ⟨d', n', row', h1, h2, h3, h4, h5, h6, h7, h8⟩ := h
  refine ⟨d', ⟨md, h1, Or.inr ⟨n', row', h2, h3, by omega, h4, fun j hj => ?_⟩⟩, h7, h8⟩
  unfold va_up
  by_cases e : j = k
  · rw [if_pos e, e]; exact h6
  · rw [if_neg e, h5 j (by omega)]; exact hf j (by omega)
theorem c_add {l : Launch} {g : gG} {M : Mp} {a d k v ci : Nat} {f : Nat → Nat} {r : vw_C} {vs : List Value} (hL : Lst g M a d k f) (hk : k ≤ 100) (hv : M v = some (eO ci vs)) (hc : vwCl[ci]? = some r) (hcaS : ∀ s : State, gE g s → va_Nw (.castable r.1 "java/lang/Object") s) (hci : ci ≠ 0) (hel : ∀ j, j < k → ∃ vs, M (f j) = some (eO ci vs)) : Met l yJx4a65c_add_9ea2d (WY yJx4a65c_add_9ea2d cJx4a65c_add_9ea2d 2 (some .boolean)) { frames := 6, cells := 1, slots := 200, locals := 170 } (Wc g M [.ref a, .ref v]) (wrQ (S := Unit) g (fun u_ => (some (.int 1))) (fun u_ M_ => ladd g M a d k v f M_)) 1 200 (gA g) := by
  obtain ⟨md, h0, ⟨rfl, rfl, -⟩ | ⟨n, row, h1, h2, h3, h4, h5⟩⟩ := hL
  · exact Met_imp (c_addB h0 hv hc hcaS hci) (wrQ_imp (fun u M' h => ladd_of h (fun j hj => absurd hj (Nat.not_lt_zero j))))
  · rcases Nat.lt_or_ge k n with q | q
    · exact Met_imp (c_addA h0 h1 hv hc hcaS hci ⟨q, by omega⟩ h4) (wrQ_imp (fun u M' h => ladd_of h h5))
    · have e : k = n := by omega
      subst e
      exact Met_imp (c_addC h0 h1 hv ⟨h3, hk⟩ hc hcaS hci (fun j hj => by obtain ⟨vs2, e2⟩ := hel j hj; exact ⟨f j, vs2, h5 j hj, e2⟩)) (wrQ_imp (fun u M' h => ladd_of h h5))
theorem ladd_keep {g : gG} {M M' : Mp} {a d k v b : Nat} {f : Nat → Nat} {x : va_E} (hL : Lst g M a d k f) (h : ∃ d', Lst g M' a d' (k + 1) (va_up f k v) ∧ (∀ b, b ≠ a → b ≠ d' → M' b = M b) ∧ (d' = d ∨ (M d' = none ∧ g.1 ≤ d'))) (hb : M b = some x) (hx : ∀ fs, x ≠ eO 0 fs) (hx2 : ∀ n r, x ≠ eQ g 2 n r) : M' b = some x := by
  obtain ⟨d', -, h2, h3⟩ := h
  obtain ⟨md, h0, hL⟩ := hL
  refine (h2 b (m_ne hb h0 (hx _)) ?_).trans hb
  rcases h3 with rfl | ⟨h3, -⟩
  · rcases hL with ⟨-, -, hn⟩ | ⟨n, row, hn, -⟩
    · exact m_new hn hb
    · exact m_ne hb hn (hx2 _ _)
  · exact m_new h3 hb
