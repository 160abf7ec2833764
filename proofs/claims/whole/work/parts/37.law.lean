/-! THE LAW'S OWN METHODS -/
set_option maxHeartbeats 4000000 in
set_option maxRecDepth 100000 in
theorem l_entry {l : Launch} {g : gG} {M : Mp} {x o : Nat} {tg : Nat → Nat} {A : Nat → Nat → Nat} {pr br : Nat → Bool} {np : Nat → Nat} {hh : Nat → Nat → Nat} {ne nb no : Nat} {sc : Nat → Int32} {ar : Nat → Nat → Int32} {f0 : Nat → Int64} (hlx : l.stackTraces = false) (hI : RI g M x tg A pr br np hh ne nb no sc ar) (ho : M o = some (eL g 1 f0)) (hto : 30000 ≤ tg o) (p0 p1 p2 : Int32) : Met l yL_entry (Cond.codeWith yL_entry cL_entry 6 (some .int) [(0, 12, 15, 13), (0, 12, 19, 15)] :: WA) { frames := 8, cells := 6, slots := 230, locals := 215 } (Wc g M [.ref x, .int p0, .int p1, .int p2, .ref o]) (wrQ (S := Int32) g (fun u_ => (some (.int u_))) (fun u_ M_ => krQ2 (((inr p0 0 60 ∧ inr p1 0 60) ∧ inr p2 0 20)) (sc 0 < 12) (krK g M x o tg (sc 0) (us sc 0 (sc 0 + 1)) (ua (ua ar 1 (upd (upd (ar 1) (2 * (sc 0).toNatClampNeg) p0) (2 * (sc 0).toNatClampNeg + 1) p1)) 2 (upd (ar 2) (sc 0).toNatClampNeg p2)) M_) (M_ = M) u_)) 6 230 (gA g) := by
  refine ofT (by decide +kernel) (Nat.le_of_ble_eq_true rfl) (fun p e s m args below meth c ls C hr hlocks ht hE hH hl ea => ?_)
  have hl : lv_has ls 6 [(0, .ref x), (1, .int p0), (2, .int p1), (3, .int p2), (4, .ref o)] := hl
  have hS : va_S (gA g) s.heap s.heap [] := va_S.rf
  obtain ⟨-, iX, -⟩ := id hI
  refine lv_aload C.1 C.2.1 dL_entry_0 (lv_at hl 4 rfl) ?_
  refine lv_iconst (v := 0) C.1 C.2.1 dL_entry_2 rfl ?_
  refine lv_aload_n C.1 C.2.1 dL_entry_3 rfl (lv_at hl 0 rfl) ?_
  refine lv_iload_n C.1 C.2.1 dL_entry_4 rfl (lv_at hl 1 rfl) ?_
  refine lv_iload_n C.1 C.2.1 dL_entry_5 rfl (lv_at hl 2 rfl) ?_
  refine lv_iload_n C.1 C.2.1 dL_entry_6 rfl (lv_at hl 3 rfl) ?_
  refine xw_go1 (xrunV C hE hH hS (w_entry hlx hI p0 p1 p2) mv_X5_entry wm_134 iX.1 rfl rfl hl.1 dL_entry_7 rfl rfl ⟨rfl, rfl⟩ ⟨Nat.le_of_ble_eq_true rfl, Nat.le_of_ble_eq_true rfl⟩ (Nat.le_of_ble_eq_true rfl) ⟨Nat.le_of_ble_eq_true rfl, Nat.le_of_ble_eq_true rfl⟩) hS (fun E ce q9 H1 locs1 hx9 hz9 ho9 hS9 hce hcv hcl => ?_) (fun u M1 H locs hp hH hS => ?_)
  · rcases hx9 with ⟨rfl, z1⟩ | ⟨rfl, z1, z2⟩
    · refine vx_catch (pc := 7) (name := xIA) C.2.2.2.1 [] ⟨0, 12, 15, 13⟩ [⟨0, 12, 19, 15⟩] (ht.trans rfl) (fun z hz => (List.not_mem_nil hz).elim) (by decide) (by decide) (C.2.2.2.2 _ wm_132) ((hE.2.2.2.2.2.2.2.1 xIA (by decide)).use rfl) hce hcv hcl ?_
      refine lv_astore (lv' := [(5, .ref q9), (0, .ref x), (1, .int p0), (2, .int p1), (3, .int p2), (4, .ref o)]) C.1 C.2.1 dL_entry_15 hl (by decide) rfl (fun ls hl => ?_)
      refine lv_iconst (v := 1) C.1 C.2.1 dL_entry_17 rfl ?_
      exact wr_iret 1 C hr hlocks (Hw_ext hH ho9) hS9 rfl (Or.inr ⟨Or.inl ⟨rfl, z1⟩, rfl⟩) (by decide) (by decide) dL_entry_18
    · refine vx_catch (pc := 7) (name := xIS) C.2.2.2.1 [⟨0, 12, 15, 13⟩] ⟨0, 12, 19, 15⟩ [] (ht.trans rfl) (fun z hz => by rw [List.mem_singleton] at hz; subst hz; exact Or.inr ⟨by decide, xIA, C.2.2.2.2 _ wm_132, hE.2.2.2.2.2.2.1 (xIS, xIA) (by decide)⟩) (by decide) (by decide) (C.2.2.2.2 _ wm_133) ((hE.2.2.2.2.2.2.2.1 xIS (by decide)).use rfl) hce hcv hcl ?_
      refine lv_astore (lv' := [(5, .ref q9), (0, .ref x), (1, .int p0), (2, .int p1), (3, .int p2), (4, .ref o)]) C.1 C.2.1 dL_entry_19 hl (by decide) rfl (fun ls hl => ?_)
      refine lv_iconst (v := 2) C.1 C.2.1 dL_entry_21 rfl ?_
      exact wr_iret 2 C hr hlocks (Hw_ext hH ho9) hS9 rfl (Or.inr ⟨Or.inr (⟨rfl, z1, z2⟩), rfl⟩) (by decide) (by decide) dL_entry_22
  refine lv_i2l C.1 C.2.1 dL_entry_10 rfl ?_
  refine mlast C hE hH hS (RIx_at hp.2 ho hto) v01 dL_entry_11 (fun H locs hH hS => ?_)
  refine lv_goto (tgt := 23) C.1 C.2.1 dL_entry_12 (by decide) ?_
  refine lv_iconst (v := 0) C.1 C.2.1 dL_entry_23 rfl ?_
  exact wr_iret 0 C hr hlocks hH hS rfl (Or.inl ⟨rfl, hp.1, _, _, hp.2, rfl, uL0⟩) (by decide) (by decide) dL_entry_24
set_option maxHeartbeats 4000000 in
set_option maxRecDepth 100000 in
theorem l_water {l : Launch} {g : gG} {M : Mp} {x o : Nat} {tg : Nat → Nat} {A : Nat → Nat → Nat} {pr br : Nat → Bool} {np : Nat → Nat} {hh : Nat → Nat → Nat} {ne nb no : Nat} {sc : Nat → Int32} {ar : Nat → Nat → Int32} {f0 : Nat → Int64} (hlx : l.stackTraces = false) (hI : RI g M x tg A pr br np hh ne nb no sc ar) (ho : M o = some (eL g 1 f0)) (hto : 30000 ≤ tg o) (p0 p1 : Int32) : Met l yL_water (Cond.codeWith yL_water cL_water 5 (some .int) [(0, 10, 13, 21), (0, 10, 17, 13)] :: WA) { frames := 8, cells := 6, slots := 230, locals := 127 } (Wc g M [.ref x, .int p0, .int p1, .ref o]) (wrQ (S := Int32) g (fun u_ => (some (.int u_))) (fun u_ M_ => krQ2 (inx p0 3) (inr p1 (-10) 10) (krK g M x o tg (ar 3 p0.toNatClampNeg) (sc) (ua ar 3 (upd (ar 3) p0.toNatClampNeg p1)) M_) (M_ = M) u_)) 6 230 (gA g) := by
  refine ofT (by decide +kernel) (Nat.le_of_ble_eq_true rfl) (fun p e s m args below meth c ls C hr hlocks ht hE hH hl ea => ?_)
  have hl : lv_has ls 5 [(0, .ref x), (1, .int p0), (2, .int p1), (3, .ref o)] := hl
  have hS : va_S (gA g) s.heap s.heap [] := va_S.rf
  obtain ⟨-, iX, -⟩ := id hI
  refine lv_aload_n C.1 C.2.1 dL_water_0 rfl (lv_at hl 3 rfl) ?_
  refine lv_iconst (v := 0) C.1 C.2.1 dL_water_1 rfl ?_
  refine lv_aload_n C.1 C.2.1 dL_water_2 rfl (lv_at hl 0 rfl) ?_
  refine lv_iload_n C.1 C.2.1 dL_water_3 rfl (lv_at hl 1 rfl) ?_
  refine lv_iload_n C.1 C.2.1 dL_water_4 rfl (lv_at hl 2 rfl) ?_
  refine xw_go1 (xrunV C hE hH hS (w_water hlx hI p0 p1) mv_X5_water wm_320 iX.1 rfl rfl hl.1 dL_water_5 rfl rfl ⟨rfl, rfl⟩ ⟨Nat.le_of_ble_eq_true rfl, Nat.le_of_ble_eq_true rfl⟩ (Nat.le_of_ble_eq_true rfl) ⟨Nat.le_of_ble_eq_true rfl, Nat.le_of_ble_eq_true rfl⟩) hS (fun E ce q9 H1 locs1 hx9 hz9 ho9 hS9 hce hcv hcl => ?_) (fun u M1 H locs hp hH hS => ?_)
  · rcases hx9 with ⟨rfl, z1⟩ | ⟨rfl, z1, z2⟩
    · refine vx_catch (pc := 5) (name := xIO) C.2.2.2.1 [] ⟨0, 10, 13, 21⟩ [⟨0, 10, 17, 13⟩] (ht.trans rfl) (fun z hz => (List.not_mem_nil hz).elim) (by decide) (by decide) (C.2.2.2.2 _ wm_319) ((hE.2.2.2.2.2.2.2.1 xIO (by decide)).use rfl) hce hcv hcl ?_
      refine lv_astore (lv' := [(4, .ref q9), (0, .ref x), (1, .int p0), (2, .int p1), (3, .ref o)]) C.1 C.2.1 dL_water_13 hl (by decide) rfl (fun ls hl => ?_)
      refine lv_iconst (v := 1) C.1 C.2.1 dL_water_15 rfl ?_
      exact wr_iret 1 C hr hlocks (Hw_ext hH ho9) hS9 rfl (Or.inr ⟨Or.inl ⟨rfl, z1⟩, rfl⟩) (by decide) (by decide) dL_water_16
    · refine vx_catch (pc := 5) (name := xIA) C.2.2.2.1 [⟨0, 10, 13, 21⟩] ⟨0, 10, 17, 13⟩ [] (ht.trans rfl) (fun z hz => by rw [List.mem_singleton] at hz; subst hz; exact Or.inr ⟨by decide, xIO, C.2.2.2.2 _ wm_319, hE.2.2.2.2.2.2.1 (xIA, xIO) (by decide)⟩) (by decide) (by decide) (C.2.2.2.2 _ wm_132) ((hE.2.2.2.2.2.2.2.1 xIA (by decide)).use rfl) hce hcv hcl ?_
      refine lv_astore (lv' := [(4, .ref q9), (0, .ref x), (1, .int p0), (2, .int p1), (3, .ref o)]) C.1 C.2.1 dL_water_17 hl (by decide) rfl (fun ls hl => ?_)
      refine lv_iconst (v := 2) C.1 C.2.1 dL_water_19 rfl ?_
      exact wr_iret 2 C hr hlocks (Hw_ext hH ho9) hS9 rfl (Or.inr ⟨Or.inr (⟨rfl, z1, z2⟩), rfl⟩) (by decide) (by decide) dL_water_20
  refine lv_i2l C.1 C.2.1 dL_water_8 rfl ?_
  refine mlast C hE hH hS (RIx_at hp.2 ho hto) v01 dL_water_9 (fun H locs hH hS => ?_)
  refine lv_goto (tgt := 21) C.1 C.2.1 dL_water_10 (by decide) ?_
  refine lv_iconst (v := 0) C.1 C.2.1 dL_water_21 rfl ?_
  exact wr_iret 0 C hr hlocks hH hS rfl (Or.inl ⟨rfl, hp.1, _, _, hp.2, rfl, uL0⟩) (by decide) (by decide) dL_water_22
set_option maxHeartbeats 4000000 in
set_option maxRecDepth 100000 in
theorem l_yarn {l : Launch} {g : gG} {M : Mp} {x o : Nat} {tg : Nat → Nat} {A : Nat → Nat → Nat} {pr br : Nat → Bool} {np : Nat → Nat} {hh : Nat → Nat → Nat} {ne nb no : Nat} {sc : Nat → Int32} {ar : Nat → Nat → Int32} {f0 : Nat → Int64} (hlx : l.stackTraces = false) (hI : RI g M x tg A pr br np hh ne nb no sc ar) (ho : M o = some (eL g 1 f0)) (hto : 30000 ≤ tg o) (p0 p1 p2 : Int32) : Met l yL_yarn (Cond.codeWith yL_yarn cL_yarn 6 (some .int) [(0, 12, 15, 21), (0, 12, 19, 13)] :: WA) { frames := 8, cells := 6, slots := 230, locals := 128 } (Wc g M [.ref x, .int p0, .int p1, .int p2, .ref o]) (wrQ (S := Int32) g (fun u_ => (some (.int u_))) (fun u_ M_ => krQ2 (inx p0 4) ((inr p1 (-10) 10 ∧ inr p2 (-10) 10)) (krK g M x o tg (ar 4 (2 * p0.toNatClampNeg)) (sc) (ua ar 4 (upd (upd (ar 4) (2 * p0.toNatClampNeg) p1) (2 * p0.toNatClampNeg + 1) p2)) M_) (M_ = M) u_)) 6 230 (gA g) := by
  refine ofT (by decide +kernel) (Nat.le_of_ble_eq_true rfl) (fun p e s m args below meth c ls C hr hlocks ht hE hH hl ea => ?_)
  have hl : lv_has ls 6 [(0, .ref x), (1, .int p0), (2, .int p1), (3, .int p2), (4, .ref o)] := hl
  have hS : va_S (gA g) s.heap s.heap [] := va_S.rf
  obtain ⟨-, iX, -⟩ := id hI
  refine lv_aload C.1 C.2.1 dL_yarn_0 (lv_at hl 4 rfl) ?_
  refine lv_iconst (v := 0) C.1 C.2.1 dL_yarn_2 rfl ?_
  refine lv_aload_n C.1 C.2.1 dL_yarn_3 rfl (lv_at hl 0 rfl) ?_
  refine lv_iload_n C.1 C.2.1 dL_yarn_4 rfl (lv_at hl 1 rfl) ?_
  refine lv_iload_n C.1 C.2.1 dL_yarn_5 rfl (lv_at hl 2 rfl) ?_
  refine lv_iload_n C.1 C.2.1 dL_yarn_6 rfl (lv_at hl 3 rfl) ?_
  refine xw_go1 (xrunV C hE hH hS (w_yarn hlx hI p0 p1 p2) mv_X5_yarn wm_346 iX.1 rfl rfl hl.1 dL_yarn_7 rfl rfl ⟨rfl, rfl⟩ ⟨Nat.le_of_ble_eq_true rfl, Nat.le_of_ble_eq_true rfl⟩ (Nat.le_of_ble_eq_true rfl) ⟨Nat.le_of_ble_eq_true rfl, Nat.le_of_ble_eq_true rfl⟩) hS (fun E ce q9 H1 locs1 hx9 hz9 ho9 hS9 hce hcv hcl => ?_) (fun u M1 H locs hp hH hS => ?_)
  · rcases hx9 with ⟨rfl, z1⟩ | ⟨rfl, z1, z2⟩
    · refine vx_catch (pc := 7) (name := xIO) C.2.2.2.1 [] ⟨0, 12, 15, 21⟩ [⟨0, 12, 19, 13⟩] (ht.trans rfl) (fun z hz => (List.not_mem_nil hz).elim) (by decide) (by decide) (C.2.2.2.2 _ wm_319) ((hE.2.2.2.2.2.2.2.1 xIO (by decide)).use rfl) hce hcv hcl ?_
      refine lv_astore (lv' := [(5, .ref q9), (0, .ref x), (1, .int p0), (2, .int p1), (3, .int p2), (4, .ref o)]) C.1 C.2.1 dL_yarn_15 hl (by decide) rfl (fun ls hl => ?_)
      refine lv_iconst (v := 1) C.1 C.2.1 dL_yarn_17 rfl ?_
      exact wr_iret 1 C hr hlocks (Hw_ext hH ho9) hS9 rfl (Or.inr ⟨Or.inl ⟨rfl, z1⟩, rfl⟩) (by decide) (by decide) dL_yarn_18
    · refine vx_catch (pc := 7) (name := xIA) C.2.2.2.1 [⟨0, 12, 15, 21⟩] ⟨0, 12, 19, 13⟩ [] (ht.trans rfl) (fun z hz => by rw [List.mem_singleton] at hz; subst hz; exact Or.inr ⟨by decide, xIO, C.2.2.2.2 _ wm_319, hE.2.2.2.2.2.2.1 (xIA, xIO) (by decide)⟩) (by decide) (by decide) (C.2.2.2.2 _ wm_132) ((hE.2.2.2.2.2.2.2.1 xIA (by decide)).use rfl) hce hcv hcl ?_
      refine lv_astore (lv' := [(5, .ref q9), (0, .ref x), (1, .int p0), (2, .int p1), (3, .int p2), (4, .ref o)]) C.1 C.2.1 dL_yarn_19 hl (by decide) rfl (fun ls hl => ?_)
      refine lv_iconst (v := 2) C.1 C.2.1 dL_yarn_21 rfl ?_
      exact wr_iret 2 C hr hlocks (Hw_ext hH ho9) hS9 rfl (Or.inr ⟨Or.inr (⟨rfl, z1, z2⟩), rfl⟩) (by decide) (by decide) dL_yarn_22
  refine lv_i2l C.1 C.2.1 dL_yarn_10 rfl ?_
  refine mlast C hE hH hS (RIx_at hp.2 ho hto) v01 dL_yarn_11 (fun H locs hH hS => ?_)
  refine lv_goto (tgt := 23) C.1 C.2.1 dL_yarn_12 (by decide) ?_
  refine lv_iconst (v := 0) C.1 C.2.1 dL_yarn_23 rfl ?_
  exact wr_iret 0 C hr hlocks hH hS rfl (Or.inl ⟨rfl, hp.1, _, _, hp.2, rfl, uL0⟩) (by decide) (by decide) dL_yarn_24
set_option maxHeartbeats 4000000 in
set_option maxRecDepth 100000 in
theorem l_apart {l : Launch} {g : gG} {M : Mp} {x o : Nat} {tg : Nat → Nat} {A : Nat → Nat → Nat} {pr br : Nat → Bool} {np : Nat → Nat} {hh : Nat → Nat → Nat} {ne nb no : Nat} {sc : Nat → Int32} {ar : Nat → Nat → Int32} {f0 : Nat → Int64} (hlx : l.stackTraces = false) (hI : RI g M x tg A pr br np hh ne nb no sc ar) (ho : M o = some (eL g 1 f0)) (hto : 30000 ≤ tg o) (p0 p1 : Int32) : Met l yL_apart (Cond.codeWith yL_apart cL_apart 5 (some .int) [(0, 10, 13, 21)] :: WA) { frames := 9, cells := 6, slots := 230, locals := 148 } (Wc g M [.ref x, .int p0, .int p1, .ref o]) (wrQ (S := Int32) g (fun u_ => (some (.int u_))) (fun u_ M_ => krQ1 ((inx p0 ne ∧ inx p1 ne)) (krK g M x o tg (zd (ar 1 (2 * p0.toNatClampNeg)) (ar 1 (2 * p0.toNatClampNeg + 1)) (ar 1 (2 * p1.toNatClampNeg)) (ar 1 (2 * p1.toNatClampNeg + 1))) (sc) (ar) M_) (M_ = M) u_)) 6 230 (gA g) := by
  refine ofT (by decide +kernel) (Nat.le_of_ble_eq_true rfl) (fun p e s m args below meth c ls C hr hlocks ht hE hH hl ea => ?_)
  have hl : lv_has ls 5 [(0, .ref x), (1, .int p0), (2, .int p1), (3, .ref o)] := hl
  have hS : va_S (gA g) s.heap s.heap [] := va_S.rf
  obtain ⟨-, iX, -⟩ := id hI
  refine lv_aload_n C.1 C.2.1 dL_apart_0 rfl (lv_at hl 3 rfl) ?_
  refine lv_iconst (v := 0) C.1 C.2.1 dL_apart_1 rfl ?_
  refine lv_aload_n C.1 C.2.1 dL_apart_2 rfl (lv_at hl 0 rfl) ?_
  refine lv_iload_n C.1 C.2.1 dL_apart_3 rfl (lv_at hl 1 rfl) ?_
  refine lv_iload_n C.1 C.2.1 dL_apart_4 rfl (lv_at hl 2 rfl) ?_
  refine xr_go1 (xrunV C hE hH hS (r_apart hlx hI p0 p1) mv_X5_apart wm_353 iX.1 rfl rfl hl.1 dL_apart_5 rfl rfl ⟨rfl, rfl⟩ ⟨Nat.le_of_ble_eq_true rfl, Nat.le_of_ble_eq_true rfl⟩ (Nat.le_of_ble_eq_true rfl) ⟨Nat.le_of_ble_eq_true rfl, Nat.le_of_ble_eq_true rfl⟩) (fun E ce q9 H1 hx9 hz9 ho9 hce hcv hcl => ?_) (fun hp => ?_)
  · rcases hx9 with ⟨rfl, z1⟩
    · refine vx_catch (pc := 5) (name := xIO) C.2.2.2.1 [] ⟨0, 10, 13, 21⟩ [] (ht.trans rfl) (fun z hz => (List.not_mem_nil hz).elim) (by decide) (by decide) (C.2.2.2.2 _ wm_319) ((hE.2.2.2.2.2.2.2.1 xIO (by decide)).use rfl) hce hcv hcl ?_
      refine lv_astore (lv' := [(4, .ref q9), (0, .ref x), (1, .int p0), (2, .int p1), (3, .ref o)]) C.1 C.2.1 dL_apart_13 hl (by decide) rfl (fun ls hl => ?_)
      refine lv_iconst (v := 1) C.1 C.2.1 dL_apart_15 rfl ?_
      exact wr_iret 1 C hr hlocks (Hw_ext hH ho9) ⟨hz9, fun q h _ => ho9 q h, fun _ h => by cases h⟩ rfl (Or.inr ⟨⟨rfl, z1⟩, rfl⟩) (by decide) (by decide) dL_apart_16
  refine lv_i2l C.1 C.2.1 dL_apart_8 rfl ?_
  refine mlast C hE hH hS ho v01 dL_apart_9 (fun H locs hH hS => ?_)
  refine lv_goto (tgt := 17) C.1 C.2.1 dL_apart_10 (by decide) ?_
  refine lv_iconst (v := 0) C.1 C.2.1 dL_apart_17 rfl ?_
  exact wr_iret 0 C hr hlocks hH hS rfl (Or.inl ⟨rfl, hp, _, _, RIx_rf hI, rfl, uL0⟩) (by decide) (by decide) dL_apart_18
set_option maxHeartbeats 4000000 in
set_option maxRecDepth 100000 in
theorem l_bath {l : Launch} {g : gG} {M : Mp} {x o : Nat} {tg : Nat → Nat} {A : Nat → Nat → Nat} {pr br : Nat → Bool} {np : Nat → Nat} {hh : Nat → Nat → Nat} {ne nb no : Nat} {sc : Nat → Int32} {ar : Nat → Nat → Int32} {f0 : Nat → Int64} (hlx : l.stackTraces = false) (hI : RI g M x tg A pr br np hh ne nb no sc ar) (ho : M o = some (eL g 1 f0)) (hto : 30000 ≤ tg o) (p0 p1 : Int32) : Met l yL_bath (Cond.codeWith yL_bath cL_bath 5 (some .int) [(0, 10, 13, 21), (0, 10, 17, 15)] :: WA) { frames := 9, cells := 6, slots := 230, locals := 215 } (Wc g M [.ref x, .int p0, .int p1, .ref o]) (wrQ (S := Int32) g (fun u_ => (some (.int u_))) (fun u_ M_ => krQ2 ((inx p0 3 ∧ inx p1 ne)) (sc 5 < 10) (krK g M x o tg (sc 5) (us sc 5 (sc 5 + 1)) (ua (ua (ua ar 6 (upd (ar 6) (sc 5).toNatClampNeg p0)) 7 (upd (ar 7) (sc 5).toNatClampNeg p1)) 8 (upd (ar 8) (sc 5).toNatClampNeg 100)) M_) (M_ = M) u_)) 6 230 (gA g) := by
  refine ofT (by decide +kernel) (Nat.le_of_ble_eq_true rfl) (fun p e s m args below meth c ls C hr hlocks ht hE hH hl ea => ?_)
  have hl : lv_has ls 5 [(0, .ref x), (1, .int p0), (2, .int p1), (3, .ref o)] := hl
  have hS : va_S (gA g) s.heap s.heap [] := va_S.rf
  obtain ⟨-, iX, -⟩ := id hI
  refine lv_aload_n C.1 C.2.1 dL_bath_0 rfl (lv_at hl 3 rfl) ?_
  refine lv_iconst (v := 0) C.1 C.2.1 dL_bath_1 rfl ?_
  refine lv_aload_n C.1 C.2.1 dL_bath_2 rfl (lv_at hl 0 rfl) ?_
  refine lv_iload_n C.1 C.2.1 dL_bath_3 rfl (lv_at hl 1 rfl) ?_
  refine lv_iload_n C.1 C.2.1 dL_bath_4 rfl (lv_at hl 2 rfl) ?_
  refine xw_go1 (xrunV C hE hH hS (w_bath hlx hI p0 p1) mv_X5_bath wm_385 iX.1 rfl rfl hl.1 dL_bath_5 rfl rfl ⟨rfl, rfl⟩ ⟨Nat.le_of_ble_eq_true rfl, Nat.le_of_ble_eq_true rfl⟩ (Nat.le_of_ble_eq_true rfl) ⟨Nat.le_of_ble_eq_true rfl, Nat.le_of_ble_eq_true rfl⟩) hS (fun E ce q9 H1 locs1 hx9 hz9 ho9 hS9 hce hcv hcl => ?_) (fun u M1 H locs hp hH hS => ?_)
  · rcases hx9 with ⟨rfl, z1⟩ | ⟨rfl, z1, z2⟩
    · refine vx_catch (pc := 5) (name := xIO) C.2.2.2.1 [] ⟨0, 10, 13, 21⟩ [⟨0, 10, 17, 15⟩] (ht.trans rfl) (fun z hz => (List.not_mem_nil hz).elim) (by decide) (by decide) (C.2.2.2.2 _ wm_319) ((hE.2.2.2.2.2.2.2.1 xIO (by decide)).use rfl) hce hcv hcl ?_
      refine lv_astore (lv' := [(4, .ref q9), (0, .ref x), (1, .int p0), (2, .int p1), (3, .ref o)]) C.1 C.2.1 dL_bath_13 hl (by decide) rfl (fun ls hl => ?_)
      refine lv_iconst (v := 1) C.1 C.2.1 dL_bath_15 rfl ?_
      exact wr_iret 1 C hr hlocks (Hw_ext hH ho9) hS9 rfl (Or.inr ⟨Or.inl ⟨rfl, z1⟩, rfl⟩) (by decide) (by decide) dL_bath_16
    · refine vx_catch (pc := 5) (name := xIS) C.2.2.2.1 [⟨0, 10, 13, 21⟩] ⟨0, 10, 17, 15⟩ [] (ht.trans rfl) (fun z hz => by rw [List.mem_singleton] at hz; subst hz; exact Or.inr ⟨by decide, xIO, C.2.2.2.2 _ wm_319, hE.2.2.2.2.2.2.1 (xIS, xIO) (by decide)⟩) (by decide) (by decide) (C.2.2.2.2 _ wm_133) ((hE.2.2.2.2.2.2.2.1 xIS (by decide)).use rfl) hce hcv hcl ?_
      refine lv_astore (lv' := [(4, .ref q9), (0, .ref x), (1, .int p0), (2, .int p1), (3, .ref o)]) C.1 C.2.1 dL_bath_17 hl (by decide) rfl (fun ls hl => ?_)
      refine lv_iconst (v := 2) C.1 C.2.1 dL_bath_19 rfl ?_
      exact wr_iret 2 C hr hlocks (Hw_ext hH ho9) hS9 rfl (Or.inr ⟨Or.inr (⟨rfl, z1, z2⟩), rfl⟩) (by decide) (by decide) dL_bath_20
  refine lv_i2l C.1 C.2.1 dL_bath_8 rfl ?_
  refine mlast C hE hH hS (RIx_at hp.2 ho hto) v01 dL_bath_9 (fun H locs hH hS => ?_)
  refine lv_goto (tgt := 21) C.1 C.2.1 dL_bath_10 (by decide) ?_
  refine lv_iconst (v := 0) C.1 C.2.1 dL_bath_21 rfl ?_
  exact wr_iret 0 C hr hlocks hH hS rfl (Or.inl ⟨rfl, hp.1, _, _, hp.2, rfl, uL0⟩) (by decide) (by decide) dL_bath_22
set_option maxHeartbeats 4000000 in
set_option maxRecDepth 100000 in
theorem l_freshen {l : Launch} {g : gG} {M : Mp} {x o : Nat} {tg : Nat → Nat} {A : Nat → Nat → Nat} {pr br : Nat → Bool} {np : Nat → Nat} {hh : Nat → Nat → Nat} {ne nb no : Nat} {sc : Nat → Int32} {ar : Nat → Nat → Int32} {f0 : Nat → Int64} (hlx : l.stackTraces = false) (hI : RI g M x tg A pr br np hh ne nb no sc ar) (ho : M o = some (eL g 1 f0)) (hto : 30000 ≤ tg o) (p0 : Int32) : Met l yL_freshen (Cond.codeWith yL_freshen cL_freshen 4 (some .int) [(0, 9, 12, 21)] :: WA) { frames := 9, cells := 6, slots := 230, locals := 145 } (Wc g M [.ref x, .int p0, .ref o]) (wrQ (S := Int32) g (fun u_ => (some (.int u_))) (fun u_ M_ => krQ1 (inx p0 nb) (krK g M x o tg (ar 8 p0.toNatClampNeg) (sc) (ua ar 8 (upd (ar 8) p0.toNatClampNeg 100)) M_) (M_ = M) u_)) 6 230 (gA g) := by
  refine ofT (by decide +kernel) (Nat.le_of_ble_eq_true rfl) (fun p e s m args below meth c ls C hr hlocks ht hE hH hl ea => ?_)
  have hl : lv_has ls 4 [(0, .ref x), (1, .int p0), (2, .ref o)] := hl
  have hS : va_S (gA g) s.heap s.heap [] := va_S.rf
  obtain ⟨-, iX, -⟩ := id hI
  refine lv_aload_n C.1 C.2.1 dL_freshen_0 rfl (lv_at hl 2 rfl) ?_
  refine lv_iconst (v := 0) C.1 C.2.1 dL_freshen_1 rfl ?_
  refine lv_aload_n C.1 C.2.1 dL_freshen_2 rfl (lv_at hl 0 rfl) ?_
  refine lv_iload_n C.1 C.2.1 dL_freshen_3 rfl (lv_at hl 1 rfl) ?_
  refine xw_go1 (xrunV C hE hH hS (w_freshen hlx hI p0) mv_X5_freshen wm_421 iX.1 rfl rfl hl.1 dL_freshen_4 rfl rfl ⟨rfl, rfl⟩ ⟨Nat.le_of_ble_eq_true rfl, Nat.le_of_ble_eq_true rfl⟩ (Nat.le_of_ble_eq_true rfl) ⟨Nat.le_of_ble_eq_true rfl, Nat.le_of_ble_eq_true rfl⟩) hS (fun E ce q9 H1 locs1 hx9 hz9 ho9 hS9 hce hcv hcl => ?_) (fun u M1 H locs hp hH hS => ?_)
  · rcases hx9 with ⟨rfl, z1⟩
    · refine vx_catch (pc := 4) (name := xIO) C.2.2.2.1 [] ⟨0, 9, 12, 21⟩ [] (ht.trans rfl) (fun z hz => (List.not_mem_nil hz).elim) (by decide) (by decide) (C.2.2.2.2 _ wm_319) ((hE.2.2.2.2.2.2.2.1 xIO (by decide)).use rfl) hce hcv hcl ?_
      refine lv_astore_n (lv' := [(3, .ref q9), (0, .ref x), (1, .int p0), (2, .ref o)]) C.1 C.2.1 dL_freshen_12 rfl hl (by decide) rfl (fun ls hl => ?_)
      refine lv_iconst (v := 1) C.1 C.2.1 dL_freshen_13 rfl ?_
      exact wr_iret 1 C hr hlocks (Hw_ext hH ho9) hS9 rfl (Or.inr ⟨⟨rfl, z1⟩, rfl⟩) (by decide) (by decide) dL_freshen_14
  refine lv_i2l C.1 C.2.1 dL_freshen_7 rfl ?_
  refine mlast C hE hH hS (RIx_at hp.2 ho hto) v01 dL_freshen_8 (fun H locs hH hS => ?_)
  refine lv_goto (tgt := 15) C.1 C.2.1 dL_freshen_9 (by decide) ?_
  refine lv_iconst (v := 0) C.1 C.2.1 dL_freshen_15 rfl ?_
  exact wr_iret 0 C hr hlocks hH hS rfl (Or.inl ⟨rfl, hp.1, _, _, hp.2, rfl, uL0⟩) (by decide) (by decide) dL_freshen_16
set_option maxHeartbeats 4000000 in
set_option maxRecDepth 100000 in
theorem l_strength {l : Launch} {g : gG} {M : Mp} {x o : Nat} {tg : Nat → Nat} {A : Nat → Nat → Nat} {pr br : Nat → Bool} {np : Nat → Nat} {hh : Nat → Nat → Nat} {ne nb no : Nat} {sc : Nat → Int32} {ar : Nat → Nat → Int32} {f0 : Nat → Int64} (hlx : l.stackTraces = false) (hI : RI g M x tg A pr br np hh ne nb no sc ar) (ho : M o = some (eL g 1 f0)) (hto : 30000 ≤ tg o) (p0 : Int32) : Met l yL_strength (Cond.codeWith yL_strength cL_strength 4 (some .int) [(0, 9, 12, 21)] :: WA) { frames := 9, cells := 6, slots := 230, locals := 145 } (Wc g M [.ref x, .int p0, .ref o]) (wrQ (S := Int32) g (fun u_ => (some (.int u_))) (fun u_ M_ => krQ1 (inx p0 nb) (krK g M x o tg (ar 8 p0.toNatClampNeg) (sc) (ar) M_) (M_ = M) u_)) 6 230 (gA g) := by
  refine ofT (by decide +kernel) (Nat.le_of_ble_eq_true rfl) (fun p e s m args below meth c ls C hr hlocks ht hE hH hl ea => ?_)
  have hl : lv_has ls 4 [(0, .ref x), (1, .int p0), (2, .ref o)] := hl
  have hS : va_S (gA g) s.heap s.heap [] := va_S.rf
  obtain ⟨-, iX, -⟩ := id hI
  refine lv_aload_n C.1 C.2.1 dL_strength_0 rfl (lv_at hl 2 rfl) ?_
  refine lv_iconst (v := 0) C.1 C.2.1 dL_strength_1 rfl ?_
  refine lv_aload_n C.1 C.2.1 dL_strength_2 rfl (lv_at hl 0 rfl) ?_
  refine lv_iload_n C.1 C.2.1 dL_strength_3 rfl (lv_at hl 1 rfl) ?_
  refine xr_go1 (xrunV C hE hH hS (r_strength hlx hI p0) mv_X5_strength wm_436 iX.1 rfl rfl hl.1 dL_strength_4 rfl rfl ⟨rfl, rfl⟩ ⟨Nat.le_of_ble_eq_true rfl, Nat.le_of_ble_eq_true rfl⟩ (Nat.le_of_ble_eq_true rfl) ⟨Nat.le_of_ble_eq_true rfl, Nat.le_of_ble_eq_true rfl⟩) (fun E ce q9 H1 hx9 hz9 ho9 hce hcv hcl => ?_) (fun hp => ?_)
  · rcases hx9 with ⟨rfl, z1⟩
    · refine vx_catch (pc := 4) (name := xIO) C.2.2.2.1 [] ⟨0, 9, 12, 21⟩ [] (ht.trans rfl) (fun z hz => (List.not_mem_nil hz).elim) (by decide) (by decide) (C.2.2.2.2 _ wm_319) ((hE.2.2.2.2.2.2.2.1 xIO (by decide)).use rfl) hce hcv hcl ?_
      refine lv_astore_n (lv' := [(3, .ref q9), (0, .ref x), (1, .int p0), (2, .ref o)]) C.1 C.2.1 dL_strength_12 rfl hl (by decide) rfl (fun ls hl => ?_)
      refine lv_iconst (v := 1) C.1 C.2.1 dL_strength_13 rfl ?_
      exact wr_iret 1 C hr hlocks (Hw_ext hH ho9) ⟨hz9, fun q h _ => ho9 q h, fun _ h => by cases h⟩ rfl (Or.inr ⟨⟨rfl, z1⟩, rfl⟩) (by decide) (by decide) dL_strength_14
  refine lv_i2l C.1 C.2.1 dL_strength_7 rfl ?_
  refine mlast C hE hH hS ho v01 dL_strength_8 (fun H locs hH hS => ?_)
  refine lv_goto (tgt := 15) C.1 C.2.1 dL_strength_9 (by decide) ?_
  refine lv_iconst (v := 0) C.1 C.2.1 dL_strength_15 rfl ?_
  exact wr_iret 0 C hr hlocks hH hS rfl (Or.inl ⟨rfl, hp, _, _, RIx_rf hI, rfl, uL0⟩) (by decide) (by decide) dL_strength_16
set_option maxHeartbeats 4000000 in
set_option maxRecDepth 100000 in
theorem l_order {l : Launch} {g : gG} {M : Mp} {x o : Nat} {tg : Nat → Nat} {A : Nat → Nat → Nat} {pr br : Nat → Bool} {np : Nat → Nat} {hh : Nat → Nat → Nat} {ne nb no : Nat} {sc : Nat → Int32} {ar : Nat → Nat → Int32} {f0 : Nat → Int64} (hlx : l.stackTraces = false) (hI : RI g M x tg A pr br np hh ne nb no sc ar) (ho : M o = some (eL g 1 f0)) (hto : 30000 ≤ tg o) (p0 p1 p2 : Int32) : Met l yL_order (Cond.codeWith yL_order cL_order 6 (some .int) [(0, 12, 15, 21), (0, 12, 19, 13), (0, 12, 23, 15)] :: WA) { frames := 9, cells := 6, slots := 230, locals := 216 } (Wc g M [.ref x, .int p0, .int p1, .int p2, .ref o]) (wrQ (S := Int32) g (fun u_ => (some (.int u_))) (fun u_ M_ => krQ3 ((inx p0 ne ∧ inx p2 4)) (inr p1 1 40) (sc 9 < 40) (krK g M x o tg (sc 9) (us sc 9 (sc 9 + 1)) (ua (ua (ua ar 10 (upd (ar 10) (sc 9).toNatClampNeg p0)) 11 (upd (ar 11) (sc 9).toNatClampNeg p1)) 12 (upd (ar 12) (sc 9).toNatClampNeg p2)) M_) (M_ = M) u_)) 6 230 (gA g) := by
  refine ofT (by decide +kernel) (Nat.le_of_ble_eq_true rfl) (fun p e s m args below meth c ls C hr hlocks ht hE hH hl ea => ?_)
  have hl : lv_has ls 6 [(0, .ref x), (1, .int p0), (2, .int p1), (3, .int p2), (4, .ref o)] := hl
  have hS : va_S (gA g) s.heap s.heap [] := va_S.rf
  obtain ⟨-, iX, -⟩ := id hI
  refine lv_aload C.1 C.2.1 dL_order_0 (lv_at hl 4 rfl) ?_
  refine lv_iconst (v := 0) C.1 C.2.1 dL_order_2 rfl ?_
  refine lv_aload_n C.1 C.2.1 dL_order_3 rfl (lv_at hl 0 rfl) ?_
  refine lv_iload_n C.1 C.2.1 dL_order_4 rfl (lv_at hl 1 rfl) ?_
  refine lv_iload_n C.1 C.2.1 dL_order_5 rfl (lv_at hl 2 rfl) ?_
  refine lv_iload_n C.1 C.2.1 dL_order_6 rfl (lv_at hl 3 rfl) ?_
  refine xw_go1 (xrunV C hE hH hS (w_order hlx hI p0 p1 p2) mv_X5_order wm_443 iX.1 rfl rfl hl.1 dL_order_7 rfl rfl ⟨rfl, rfl⟩ ⟨Nat.le_of_ble_eq_true rfl, Nat.le_of_ble_eq_true rfl⟩ (Nat.le_of_ble_eq_true rfl) ⟨Nat.le_of_ble_eq_true rfl, Nat.le_of_ble_eq_true rfl⟩) hS (fun E ce q9 H1 locs1 hx9 hz9 ho9 hS9 hce hcv hcl => ?_) (fun u M1 H locs hp hH hS => ?_)
  · rcases hx9 with ⟨rfl, z1⟩ | ⟨rfl, z1, z2⟩ | ⟨rfl, z1, z2, z3⟩
    · refine vx_catch (pc := 7) (name := xIO) C.2.2.2.1 [] ⟨0, 12, 15, 21⟩ [⟨0, 12, 19, 13⟩, ⟨0, 12, 23, 15⟩] (ht.trans rfl) (fun z hz => (List.not_mem_nil hz).elim) (by decide) (by decide) (C.2.2.2.2 _ wm_319) ((hE.2.2.2.2.2.2.2.1 xIO (by decide)).use rfl) hce hcv hcl ?_
      refine lv_astore (lv' := [(5, .ref q9), (0, .ref x), (1, .int p0), (2, .int p1), (3, .int p2), (4, .ref o)]) C.1 C.2.1 dL_order_15 hl (by decide) rfl (fun ls hl => ?_)
      refine lv_iconst (v := 1) C.1 C.2.1 dL_order_17 rfl ?_
      exact wr_iret 1 C hr hlocks (Hw_ext hH ho9) hS9 rfl (Or.inr ⟨Or.inl ⟨rfl, z1⟩, rfl⟩) (by decide) (by decide) dL_order_18
    · refine vx_catch (pc := 7) (name := xIA) C.2.2.2.1 [⟨0, 12, 15, 21⟩] ⟨0, 12, 19, 13⟩ [⟨0, 12, 23, 15⟩] (ht.trans rfl) (fun z hz => by rw [List.mem_singleton] at hz; subst hz; exact Or.inr ⟨by decide, xIO, C.2.2.2.2 _ wm_319, hE.2.2.2.2.2.2.1 (xIA, xIO) (by decide)⟩) (by decide) (by decide) (C.2.2.2.2 _ wm_132) ((hE.2.2.2.2.2.2.2.1 xIA (by decide)).use rfl) hce hcv hcl ?_
      refine lv_astore (lv' := [(5, .ref q9), (0, .ref x), (1, .int p0), (2, .int p1), (3, .int p2), (4, .ref o)]) C.1 C.2.1 dL_order_19 hl (by decide) rfl (fun ls hl => ?_)
      refine lv_iconst (v := 2) C.1 C.2.1 dL_order_21 rfl ?_
      exact wr_iret 2 C hr hlocks (Hw_ext hH ho9) hS9 rfl (Or.inr ⟨Or.inr (Or.inl ⟨rfl, z1, z2⟩), rfl⟩) (by decide) (by decide) dL_order_22
    · refine vx_catch (pc := 7) (name := xIS) C.2.2.2.1 [⟨0, 12, 15, 21⟩, ⟨0, 12, 19, 13⟩] ⟨0, 12, 23, 15⟩ [] (ht.trans rfl) (fun z hz => by rcases List.mem_cons.mp hz with rfl | hz; exact Or.inr ⟨by decide, xIO, C.2.2.2.2 _ wm_319, hE.2.2.2.2.2.2.1 (xIS, xIO) (by decide)⟩; rw [List.mem_singleton] at hz; subst hz; exact Or.inr ⟨by decide, xIA, C.2.2.2.2 _ wm_132, hE.2.2.2.2.2.2.1 (xIS, xIA) (by decide)⟩) (by decide) (by decide) (C.2.2.2.2 _ wm_133) ((hE.2.2.2.2.2.2.2.1 xIS (by decide)).use rfl) hce hcv hcl ?_
      refine lv_astore (lv' := [(5, .ref q9), (0, .ref x), (1, .int p0), (2, .int p1), (3, .int p2), (4, .ref o)]) C.1 C.2.1 dL_order_23 hl (by decide) rfl (fun ls hl => ?_)
      refine lv_iconst (v := 3) C.1 C.2.1 dL_order_25 rfl ?_
      exact wr_iret 3 C hr hlocks (Hw_ext hH ho9) hS9 rfl (Or.inr ⟨Or.inr (Or.inr (⟨rfl, z1, z2, z3⟩)), rfl⟩) (by decide) (by decide) dL_order_26
  refine lv_i2l C.1 C.2.1 dL_order_10 rfl ?_
  refine mlast C hE hH hS (RIx_at hp.2 ho hto) v01 dL_order_11 (fun H locs hH hS => ?_)
  refine lv_goto (tgt := 27) C.1 C.2.1 dL_order_12 (by decide) ?_
  refine lv_iconst (v := 0) C.1 C.2.1 dL_order_27 rfl ?_
  exact wr_iret 0 C hr hlocks hH hS rfl (Or.inl ⟨rfl, ⟨hp.1.1.1, hp.1.1.2, hp.1.2⟩, _, _, hp.2, rfl, uL0⟩) (by decide) (by decide) dL_order_28
set_option maxHeartbeats 4000000 in
set_option maxRecDepth 100000 in
theorem l_place {l : Launch} {g : gG} {M : Mp} {x o : Nat} {tg : Nat → Nat} {A : Nat → Nat → Nat} {pr br : Nat → Bool} {np : Nat → Nat} {hh : Nat → Nat → Nat} {ne nb no : Nat} {sc : Nat → Int32} {ar : Nat → Nat → Int32} {f0 : Nat → Int64} (hlx : l.stackTraces = false) (hI : RI g M x tg A pr br np hh ne nb no sc ar) (ho : M o = some (eL g 1 f0)) (hto : 30000 ≤ tg o) (p0 : Int32) : Met l yL_place (Cond.codeWith yL_place cL_place 4 (some .int) [(0, 9, 12, 21), (0, 9, 15, 15), (0, 9, 18, 45)] :: WA) { frames := 10, cells := 6, slots := 230, locals := 258 } (Wc g M [.ref x, .int p0, .ref o]) (wrQ (S := Int32) g (fun u_ => (some (.int u_))) (fun u_ M_ => krQ3 (inx p0 no) (ar 13 p0.toNatClampNeg = 0) (¬ zpl ar p0.toNatClampNeg nb = -1) (krK g M x o tg (zpl ar p0.toNatClampNeg nb) (sc) (zdye ar p0.toNatClampNeg (zpl ar p0.toNatClampNeg nb).toNatClampNeg) M_) (M_ = M) u_)) 6 230 (gA g) := by
  refine ofT (by decide +kernel) (Nat.le_of_ble_eq_true rfl) (fun p e s m args below meth c ls C hr hlocks ht hE hH hl ea => ?_)
  have hl : lv_has ls 4 [(0, .ref x), (1, .int p0), (2, .ref o)] := hl
  have hS : va_S (gA g) s.heap s.heap [] := va_S.rf
  obtain ⟨-, iX, -⟩ := id hI
  refine lv_aload_n C.1 C.2.1 dL_place_0 rfl (lv_at hl 2 rfl) ?_
  refine lv_iconst (v := 0) C.1 C.2.1 dL_place_1 rfl ?_
  refine lv_aload_n C.1 C.2.1 dL_place_2 rfl (lv_at hl 0 rfl) ?_
  refine lv_iload_n C.1 C.2.1 dL_place_3 rfl (lv_at hl 1 rfl) ?_
  refine xw_go1 (xrunV C hE hH hS (w_place hlx hI p0) mv_X5_place wm_481 iX.1 rfl rfl hl.1 dL_place_4 rfl rfl ⟨rfl, rfl⟩ ⟨Nat.le_of_ble_eq_true rfl, Nat.le_of_ble_eq_true rfl⟩ (Nat.le_of_ble_eq_true rfl) ⟨Nat.le_of_ble_eq_true rfl, Nat.le_of_ble_eq_true rfl⟩) hS (fun E ce q9 H1 locs1 hx9 hz9 ho9 hS9 hce hcv hcl => ?_) (fun u M1 H locs hp hH hS => ?_)
  · rcases hx9 with ⟨rfl, z1⟩ | ⟨rfl, z1, z2⟩ | ⟨rfl, z1, z2, z3⟩
    · refine vx_catch (pc := 4) (name := xIO) C.2.2.2.1 [] ⟨0, 9, 12, 21⟩ [⟨0, 9, 15, 15⟩, ⟨0, 9, 18, 45⟩] (ht.trans rfl) (fun z hz => (List.not_mem_nil hz).elim) (by decide) (by decide) (C.2.2.2.2 _ wm_319) ((hE.2.2.2.2.2.2.2.1 xIO (by decide)).use rfl) hce hcv hcl ?_
      refine lv_astore_n (lv' := [(3, .ref q9), (0, .ref x), (1, .int p0), (2, .ref o)]) C.1 C.2.1 dL_place_12 rfl hl (by decide) rfl (fun ls hl => ?_)
      refine lv_iconst (v := 1) C.1 C.2.1 dL_place_13 rfl ?_
      exact wr_iret 1 C hr hlocks (Hw_ext hH ho9) hS9 rfl (Or.inr ⟨Or.inl ⟨rfl, z1⟩, rfl⟩) (by decide) (by decide) dL_place_14
    · refine vx_catch (pc := 4) (name := xIS) C.2.2.2.1 [⟨0, 9, 12, 21⟩] ⟨0, 9, 15, 15⟩ [⟨0, 9, 18, 45⟩] (ht.trans rfl) (fun z hz => by rw [List.mem_singleton] at hz; subst hz; exact Or.inr ⟨by decide, xIO, C.2.2.2.2 _ wm_319, hE.2.2.2.2.2.2.1 (xIS, xIO) (by decide)⟩) (by decide) (by decide) (C.2.2.2.2 _ wm_133) ((hE.2.2.2.2.2.2.2.1 xIS (by decide)).use rfl) hce hcv hcl ?_
      refine lv_astore_n (lv' := [(3, .ref q9), (0, .ref x), (1, .int p0), (2, .ref o)]) C.1 C.2.1 dL_place_15 rfl hl (by decide) rfl (fun ls hl => ?_)
      refine lv_iconst (v := 2) C.1 C.2.1 dL_place_16 rfl ?_
      exact wr_iret 2 C hr hlocks (Hw_ext hH ho9) hS9 rfl (Or.inr ⟨Or.inr (Or.inl ⟨rfl, z1, z2⟩), rfl⟩) (by decide) (by decide) dL_place_17
    · refine vx_catch (pc := 4) (name := xNE) C.2.2.2.1 [⟨0, 9, 12, 21⟩, ⟨0, 9, 15, 15⟩] ⟨0, 9, 18, 45⟩ [] (ht.trans rfl) (fun z hz => by rcases List.mem_cons.mp hz with rfl | hz; exact Or.inr ⟨by decide, xIO, C.2.2.2.2 _ wm_319, hE.2.2.2.2.2.2.1 (xNE, xIO) (by decide)⟩; rw [List.mem_singleton] at hz; subst hz; exact Or.inr ⟨by decide, xIS, C.2.2.2.2 _ wm_133, hE.2.2.2.2.2.2.1 (xNE, xIS) (by decide)⟩) (by decide) (by decide) (C.2.2.2.2 _ wm_480) ((hE.2.2.2.2.2.2.2.1 xNE (by decide)).use rfl) hce hcv hcl ?_
      refine lv_astore_n (lv' := [(3, .ref q9), (0, .ref x), (1, .int p0), (2, .ref o)]) C.1 C.2.1 dL_place_18 rfl hl (by decide) rfl (fun ls hl => ?_)
      refine lv_iconst (v := 3) C.1 C.2.1 dL_place_19 rfl ?_
      exact wr_iret 3 C hr hlocks (Hw_ext hH ho9) hS9 rfl (Or.inr ⟨Or.inr (Or.inr (⟨rfl, z1, z2, z3⟩)), rfl⟩) (by decide) (by decide) dL_place_20
  refine lv_i2l C.1 C.2.1 dL_place_7 rfl ?_
  refine mlast C hE hH hS (RIx_at hp.2 ho hto) v01 dL_place_8 (fun H locs hH hS => ?_)
  refine lv_goto (tgt := 21) C.1 C.2.1 dL_place_9 (by decide) ?_
  refine lv_iconst (v := 0) C.1 C.2.1 dL_place_21 rfl ?_
  exact wr_iret 0 C hr hlocks hH hS rfl (Or.inl ⟨rfl, hp.1, _, _, hp.2, rfl, uL0⟩) (by decide) (by decide) dL_place_22
set_option maxHeartbeats 4000000 in
set_option maxRecDepth 100000 in
theorem l_dye {l : Launch} {g : gG} {M : Mp} {x o : Nat} {tg : Nat → Nat} {A : Nat → Nat → Nat} {pr br : Nat → Bool} {np : Nat → Nat} {hh : Nat → Nat → Nat} {ne nb no : Nat} {sc : Nat → Int32} {ar : Nat → Nat → Int32} {f0 : Nat → Int64} (hlx : l.stackTraces = false) (hI : RI g M x tg A pr br np hh ne nb no sc ar) (ho : M o = some (eL g 1 f0)) (hto : 30000 ≤ tg o) (p0 p1 : Int32) : Met l yL_dye (Cond.codeWith yL_dye cL_dye 5 (some .int) [(0, 10, 13, 21), (0, 10, 17, 13), (0, 10, 21, 15)] :: WA) { frames := 10, cells := 6, slots := 230, locals := 259 } (Wc g M [.ref x, .int p0, .int p1, .ref o]) (wrQ (S := Int32) g (fun u_ => (some (.int u_))) (fun u_ M_ => krQ3 ((inx p0 no ∧ inx p1 nb)) (ar 7 p1.toNatClampNeg = ar 10 p0.toNatClampNeg) (ar 13 p0.toNatClampNeg = 0) (krK g M x o tg (zdst ar p0.toNatClampNeg (ar 8 p1.toNatClampNeg) (zw9 ar p1.toNatClampNeg) (zy8 ar p0.toNatClampNeg) (zy9 ar p0.toNatClampNeg)) (sc) (zdye ar p0.toNatClampNeg p1.toNatClampNeg) M_) (M_ = M) u_)) 6 230 (gA g) := by
  refine ofT (by decide +kernel) (Nat.le_of_ble_eq_true rfl) (fun p e s m args below meth c ls C hr hlocks ht hE hH hl ea => ?_)
  have hl : lv_has ls 5 [(0, .ref x), (1, .int p0), (2, .int p1), (3, .ref o)] := hl
  have hS : va_S (gA g) s.heap s.heap [] := va_S.rf
  obtain ⟨-, iX, -⟩ := id hI
  refine lv_aload_n C.1 C.2.1 dL_dye_0 rfl (lv_at hl 3 rfl) ?_
  refine lv_iconst (v := 0) C.1 C.2.1 dL_dye_1 rfl ?_
  refine lv_aload_n C.1 C.2.1 dL_dye_2 rfl (lv_at hl 0 rfl) ?_
  refine lv_iload_n C.1 C.2.1 dL_dye_3 rfl (lv_at hl 1 rfl) ?_
  refine lv_iload_n C.1 C.2.1 dL_dye_4 rfl (lv_at hl 2 rfl) ?_
  refine xw_go1 (xrunV C hE hH hS (w_dye hlx hI p0 p1) mv_X5_dye wm_589 iX.1 rfl rfl hl.1 dL_dye_5 rfl rfl ⟨rfl, rfl⟩ ⟨Nat.le_of_ble_eq_true rfl, Nat.le_of_ble_eq_true rfl⟩ (Nat.le_of_ble_eq_true rfl) ⟨Nat.le_of_ble_eq_true rfl, Nat.le_of_ble_eq_true rfl⟩) hS (fun E ce q9 H1 locs1 hx9 hz9 ho9 hS9 hce hcv hcl => ?_) (fun u M1 H locs hp hH hS => ?_)
  · rcases hx9 with ⟨rfl, z1⟩ | ⟨rfl, z1, z2⟩ | ⟨rfl, z1, z2, z3⟩
    · refine vx_catch (pc := 5) (name := xIO) C.2.2.2.1 [] ⟨0, 10, 13, 21⟩ [⟨0, 10, 17, 13⟩, ⟨0, 10, 21, 15⟩] (ht.trans rfl) (fun z hz => (List.not_mem_nil hz).elim) (by decide) (by decide) (C.2.2.2.2 _ wm_319) ((hE.2.2.2.2.2.2.2.1 xIO (by decide)).use rfl) hce hcv hcl ?_
      refine lv_astore (lv' := [(4, .ref q9), (0, .ref x), (1, .int p0), (2, .int p1), (3, .ref o)]) C.1 C.2.1 dL_dye_13 hl (by decide) rfl (fun ls hl => ?_)
      refine lv_iconst (v := 1) C.1 C.2.1 dL_dye_15 rfl ?_
      exact wr_iret 1 C hr hlocks (Hw_ext hH ho9) hS9 rfl (Or.inr ⟨Or.inl ⟨rfl, z1⟩, rfl⟩) (by decide) (by decide) dL_dye_16
    · refine vx_catch (pc := 5) (name := xIA) C.2.2.2.1 [⟨0, 10, 13, 21⟩] ⟨0, 10, 17, 13⟩ [⟨0, 10, 21, 15⟩] (ht.trans rfl) (fun z hz => by rw [List.mem_singleton] at hz; subst hz; exact Or.inr ⟨by decide, xIO, C.2.2.2.2 _ wm_319, hE.2.2.2.2.2.2.1 (xIA, xIO) (by decide)⟩) (by decide) (by decide) (C.2.2.2.2 _ wm_132) ((hE.2.2.2.2.2.2.2.1 xIA (by decide)).use rfl) hce hcv hcl ?_
      refine lv_astore (lv' := [(4, .ref q9), (0, .ref x), (1, .int p0), (2, .int p1), (3, .ref o)]) C.1 C.2.1 dL_dye_17 hl (by decide) rfl (fun ls hl => ?_)
      refine lv_iconst (v := 2) C.1 C.2.1 dL_dye_19 rfl ?_
      exact wr_iret 2 C hr hlocks (Hw_ext hH ho9) hS9 rfl (Or.inr ⟨Or.inr (Or.inl ⟨rfl, z1, z2⟩), rfl⟩) (by decide) (by decide) dL_dye_20
    · refine vx_catch (pc := 5) (name := xIS) C.2.2.2.1 [⟨0, 10, 13, 21⟩, ⟨0, 10, 17, 13⟩] ⟨0, 10, 21, 15⟩ [] (ht.trans rfl) (fun z hz => by rcases List.mem_cons.mp hz with rfl | hz; exact Or.inr ⟨by decide, xIO, C.2.2.2.2 _ wm_319, hE.2.2.2.2.2.2.1 (xIS, xIO) (by decide)⟩; rw [List.mem_singleton] at hz; subst hz; exact Or.inr ⟨by decide, xIA, C.2.2.2.2 _ wm_132, hE.2.2.2.2.2.2.1 (xIS, xIA) (by decide)⟩) (by decide) (by decide) (C.2.2.2.2 _ wm_133) ((hE.2.2.2.2.2.2.2.1 xIS (by decide)).use rfl) hce hcv hcl ?_
      refine lv_astore (lv' := [(4, .ref q9), (0, .ref x), (1, .int p0), (2, .int p1), (3, .ref o)]) C.1 C.2.1 dL_dye_21 hl (by decide) rfl (fun ls hl => ?_)
      refine lv_iconst (v := 3) C.1 C.2.1 dL_dye_23 rfl ?_
      exact wr_iret 3 C hr hlocks (Hw_ext hH ho9) hS9 rfl (Or.inr ⟨Or.inr (Or.inr (⟨rfl, z1, z2, z3⟩)), rfl⟩) (by decide) (by decide) dL_dye_24
  refine lv_i2l C.1 C.2.1 dL_dye_8 rfl ?_
  refine mlast C hE hH hS (RIx_at hp.2 ho hto) v01 dL_dye_9 (fun H locs hH hS => ?_)
  refine lv_goto (tgt := 25) C.1 C.2.1 dL_dye_10 (by decide) ?_
  refine lv_iconst (v := 0) C.1 C.2.1 dL_dye_25 rfl ?_
  exact wr_iret 0 C hr hlocks hH hS rfl (Or.inl ⟨rfl, hp.1, _, _, hp.2, rfl, uL0⟩) (by decide) (by decide) dL_dye_26
set_option maxHeartbeats 4000000 in
set_option maxRecDepth 100000 in
theorem l_claim {l : Launch} {g : gG} {M : Mp} {x o : Nat} {tg : Nat → Nat} {A : Nat → Nat → Nat} {pr br : Nat → Bool} {np : Nat → Nat} {hh : Nat → Nat → Nat} {ne nb no : Nat} {sc : Nat → Int32} {ar : Nat → Nat → Int32} {f0 : Nat → Int64} (hlx : l.stackTraces = false) (hI : RI g M x tg A pr br np hh ne nb no sc ar) (ho : M o = some (eL g 1 f0)) (hto : 30000 ≤ tg o) (p0 : Int32) : Met l yL_claim (Cond.codeWith yL_claim cL_claim 4 (some .int) [(0, 9, 12, 21), (0, 9, 15, 15)] :: WA) { frames := 9, cells := 6, slots := 230, locals := 148 } (Wc g M [.ref x, .int p0, .ref o]) (wrQ (S := Int32) g (fun u_ => (some (.int u_))) (fun u_ M_ => krQ2 (inx p0 no) ((ar 13 p0.toNatClampNeg = 1 ∧ ¬ zdst ar p0.toNatClampNeg (ar 15 p0.toNatClampNeg) (ar 16 p0.toNatClampNeg) (ar 17 p0.toNatClampNeg) (ar 18 p0.toNatClampNeg) ≤ ar 2 (zE ar p0.toNatClampNeg))) (krK g M x o tg (zbl ar p0.toNatClampNeg) (sc) (ua (ua ar 13 (upd (ar 13) p0.toNatClampNeg 2)) 19 (upd (ar 19) (zbix ar p0.toNatClampNeg) (ar 19 (zbix ar p0.toNatClampNeg) + 1))) M_) (M_ = M) u_)) 6 230 (gA g) := by
  refine ofT (by decide +kernel) (Nat.le_of_ble_eq_true rfl) (fun p e s m args below meth c ls C hr hlocks ht hE hH hl ea => ?_)
  have hl : lv_has ls 4 [(0, .ref x), (1, .int p0), (2, .ref o)] := hl
  have hS : va_S (gA g) s.heap s.heap [] := va_S.rf
  obtain ⟨-, iX, -⟩ := id hI
  refine lv_aload_n C.1 C.2.1 dL_claim_0 rfl (lv_at hl 2 rfl) ?_
  refine lv_iconst (v := 0) C.1 C.2.1 dL_claim_1 rfl ?_
  refine lv_aload_n C.1 C.2.1 dL_claim_2 rfl (lv_at hl 0 rfl) ?_
  refine lv_iload_n C.1 C.2.1 dL_claim_3 rfl (lv_at hl 1 rfl) ?_
  refine xw_go1 (xrunV C hE hH hS (w_claim hlx hI p0) mv_X5_claim wm_602 iX.1 rfl rfl hl.1 dL_claim_4 rfl rfl ⟨rfl, rfl⟩ ⟨Nat.le_of_ble_eq_true rfl, Nat.le_of_ble_eq_true rfl⟩ (Nat.le_of_ble_eq_true rfl) ⟨Nat.le_of_ble_eq_true rfl, Nat.le_of_ble_eq_true rfl⟩) hS (fun E ce q9 H1 locs1 hx9 hz9 ho9 hS9 hce hcv hcl => ?_) (fun u M1 H locs hp hH hS => ?_)
  · rcases hx9 with ⟨rfl, z1⟩ | ⟨rfl, z1, z2⟩
    · refine vx_catch (pc := 4) (name := xIO) C.2.2.2.1 [] ⟨0, 9, 12, 21⟩ [⟨0, 9, 15, 15⟩] (ht.trans rfl) (fun z hz => (List.not_mem_nil hz).elim) (by decide) (by decide) (C.2.2.2.2 _ wm_319) ((hE.2.2.2.2.2.2.2.1 xIO (by decide)).use rfl) hce hcv hcl ?_
      refine lv_astore_n (lv' := [(3, .ref q9), (0, .ref x), (1, .int p0), (2, .ref o)]) C.1 C.2.1 dL_claim_12 rfl hl (by decide) rfl (fun ls hl => ?_)
      refine lv_iconst (v := 1) C.1 C.2.1 dL_claim_13 rfl ?_
      exact wr_iret 1 C hr hlocks (Hw_ext hH ho9) hS9 rfl (Or.inr ⟨Or.inl ⟨rfl, z1⟩, rfl⟩) (by decide) (by decide) dL_claim_14
    · refine vx_catch (pc := 4) (name := xIS) C.2.2.2.1 [⟨0, 9, 12, 21⟩] ⟨0, 9, 15, 15⟩ [] (ht.trans rfl) (fun z hz => by rw [List.mem_singleton] at hz; subst hz; exact Or.inr ⟨by decide, xIO, C.2.2.2.2 _ wm_319, hE.2.2.2.2.2.2.1 (xIS, xIO) (by decide)⟩) (by decide) (by decide) (C.2.2.2.2 _ wm_133) ((hE.2.2.2.2.2.2.2.1 xIS (by decide)).use rfl) hce hcv hcl ?_
      refine lv_astore_n (lv' := [(3, .ref q9), (0, .ref x), (1, .int p0), (2, .ref o)]) C.1 C.2.1 dL_claim_15 rfl hl (by decide) rfl (fun ls hl => ?_)
      refine lv_iconst (v := 2) C.1 C.2.1 dL_claim_16 rfl ?_
      exact wr_iret 2 C hr hlocks (Hw_ext hH ho9) hS9 rfl (Or.inr ⟨Or.inr (⟨rfl, z1, z2⟩), rfl⟩) (by decide) (by decide) dL_claim_17
  refine lv_i2l C.1 C.2.1 dL_claim_7 rfl ?_
  refine mlast C hE hH hS (RIx_at hp.2 ho hto) v01 dL_claim_8 (fun H locs hH hS => ?_)
  refine lv_goto (tgt := 18) C.1 C.2.1 dL_claim_9 (by decide) ?_
  refine lv_iconst (v := 0) C.1 C.2.1 dL_claim_18 rfl ?_
  exact wr_iret 0 C hr hlocks hH hS rfl (Or.inl ⟨rfl, hp.1, _, _, hp.2, rfl, uL0⟩) (by decide) (by decide) dL_claim_19
set_option maxHeartbeats 4000000 in
set_option maxRecDepth 100000 in
theorem l_stateOf {l : Launch} {g : gG} {M : Mp} {x o : Nat} {tg : Nat → Nat} {A : Nat → Nat → Nat} {pr br : Nat → Bool} {np : Nat → Nat} {hh : Nat → Nat → Nat} {ne nb no : Nat} {sc : Nat → Int32} {ar : Nat → Nat → Int32} {f0 : Nat → Int64} (hlx : l.stackTraces = false) (hI : RI g M x tg A pr br np hh ne nb no sc ar) (ho : M o = some (eL g 1 f0)) (hto : 30000 ≤ tg o) (p0 : Int32) : Met l yL_stateOf (Cond.codeWith yL_stateOf cL_stateOf 4 (some .int) [(0, 9, 12, 21)] :: WA) { frames := 9, cells := 6, slots := 230, locals := 146 } (Wc g M [.ref x, .int p0, .ref o]) (wrQ (S := Int32) g (fun u_ => (some (.int u_))) (fun u_ M_ => krQ1 (inx p0 no) (krK g M x o tg (ar 13 p0.toNatClampNeg) (sc) (ar) M_) (M_ = M) u_)) 6 230 (gA g) := by
  refine ofT (by decide +kernel) (Nat.le_of_ble_eq_true rfl) (fun p e s m args below meth c ls C hr hlocks ht hE hH hl ea => ?_)
  have hl : lv_has ls 4 [(0, .ref x), (1, .int p0), (2, .ref o)] := hl
  have hS : va_S (gA g) s.heap s.heap [] := va_S.rf
  obtain ⟨-, iX, -⟩ := id hI
  refine lv_aload_n C.1 C.2.1 dL_stateOf_0 rfl (lv_at hl 2 rfl) ?_
  refine lv_iconst (v := 0) C.1 C.2.1 dL_stateOf_1 rfl ?_
  refine lv_aload_n C.1 C.2.1 dL_stateOf_2 rfl (lv_at hl 0 rfl) ?_
  refine lv_iload_n C.1 C.2.1 dL_stateOf_3 rfl (lv_at hl 1 rfl) ?_
  refine xr_go1 (xrunV C hE hH hS (r_stateOf hlx hI p0) mv_X5_stateOf wm_623 iX.1 rfl rfl hl.1 dL_stateOf_4 rfl rfl ⟨rfl, rfl⟩ ⟨Nat.le_of_ble_eq_true rfl, Nat.le_of_ble_eq_true rfl⟩ (Nat.le_of_ble_eq_true rfl) ⟨Nat.le_of_ble_eq_true rfl, Nat.le_of_ble_eq_true rfl⟩) (fun E ce q9 H1 hx9 hz9 ho9 hce hcv hcl => ?_) (fun hp => ?_)
  · rcases hx9 with ⟨rfl, z1⟩
    · refine vx_catch (pc := 4) (name := xIO) C.2.2.2.1 [] ⟨0, 9, 12, 21⟩ [] (ht.trans rfl) (fun z hz => (List.not_mem_nil hz).elim) (by decide) (by decide) (C.2.2.2.2 _ wm_319) ((hE.2.2.2.2.2.2.2.1 xIO (by decide)).use rfl) hce hcv hcl ?_
      refine lv_astore_n (lv' := [(3, .ref q9), (0, .ref x), (1, .int p0), (2, .ref o)]) C.1 C.2.1 dL_stateOf_12 rfl hl (by decide) rfl (fun ls hl => ?_)
      refine lv_iconst (v := 1) C.1 C.2.1 dL_stateOf_13 rfl ?_
      exact wr_iret 1 C hr hlocks (Hw_ext hH ho9) ⟨hz9, fun q h _ => ho9 q h, fun _ h => by cases h⟩ rfl (Or.inr ⟨⟨rfl, z1⟩, rfl⟩) (by decide) (by decide) dL_stateOf_14
  refine lv_i2l C.1 C.2.1 dL_stateOf_7 rfl ?_
  refine mlast C hE hH hS ho v01 dL_stateOf_8 (fun H locs hH hS => ?_)
  refine lv_goto (tgt := 15) C.1 C.2.1 dL_stateOf_9 (by decide) ?_
  refine lv_iconst (v := 0) C.1 C.2.1 dL_stateOf_15 rfl ?_
  exact wr_iret 0 C hr hlocks hH hS rfl (Or.inl ⟨rfl, hp, _, _, RIx_rf hI, rfl, uL0⟩) (by decide) (by decide) dL_stateOf_16
set_option maxHeartbeats 4000000 in
set_option maxRecDepth 100000 in
theorem l_colour {l : Launch} {g : gG} {M : Mp} {x o : Nat} {tg : Nat → Nat} {A : Nat → Nat → Nat} {pr br : Nat → Bool} {np : Nat → Nat} {hh : Nat → Nat → Nat} {ne nb no : Nat} {sc : Nat → Int32} {ar : Nat → Nat → Int32} {f0 : Nat → Int64} (hlx : l.stackTraces = false) (hI : RI g M x tg A pr br np hh ne nb no sc ar) (ho : M o = some (eL g 1 f0)) (hto : 30000 ≤ tg o) (p0 p1 : Int32) : Met l yL_colour (Cond.codeWith yL_colour cL_colour 5 (some .int) [(0, 10, 13, 21), (0, 10, 17, 15)] :: WA) { frames := 9, cells := 6, slots := 230, locals := 148 } (Wc g M [.ref x, .int p0, .int p1, .ref o]) (wrQ (S := Int32) g (fun u_ => (some (.int u_))) (fun u_ M_ => krQ2 ((inx p0 no ∧ inx p1 2)) (¬ ar 13 p0.toNatClampNeg = 0) (krK g M x o tg (zcol ar p0.toNatClampNeg p1) (sc) (ar) M_) (M_ = M) u_)) 6 230 (gA g) := by
  refine ofT (by decide +kernel) (Nat.le_of_ble_eq_true rfl) (fun p e s m args below meth c ls C hr hlocks ht hE hH hl ea => ?_)
  have hl : lv_has ls 5 [(0, .ref x), (1, .int p0), (2, .int p1), (3, .ref o)] := hl
  have hS : va_S (gA g) s.heap s.heap [] := va_S.rf
  obtain ⟨-, iX, -⟩ := id hI
  refine lv_aload_n C.1 C.2.1 dL_colour_0 rfl (lv_at hl 3 rfl) ?_
  refine lv_iconst (v := 0) C.1 C.2.1 dL_colour_1 rfl ?_
  refine lv_aload_n C.1 C.2.1 dL_colour_2 rfl (lv_at hl 0 rfl) ?_
  refine lv_iload_n C.1 C.2.1 dL_colour_3 rfl (lv_at hl 1 rfl) ?_
  refine lv_iload_n C.1 C.2.1 dL_colour_4 rfl (lv_at hl 2 rfl) ?_
  refine xr_go1 (xrunV C hE hH hS (r_colour hlx hI p0 p1) mv_X5_colour wm_630 iX.1 rfl rfl hl.1 dL_colour_5 rfl rfl ⟨rfl, rfl⟩ ⟨Nat.le_of_ble_eq_true rfl, Nat.le_of_ble_eq_true rfl⟩ (Nat.le_of_ble_eq_true rfl) ⟨Nat.le_of_ble_eq_true rfl, Nat.le_of_ble_eq_true rfl⟩) (fun E ce q9 H1 hx9 hz9 ho9 hce hcv hcl => ?_) (fun hp => ?_)
  · rcases hx9 with ⟨rfl, z1⟩ | ⟨rfl, z1, z2⟩
    · refine vx_catch (pc := 5) (name := xIO) C.2.2.2.1 [] ⟨0, 10, 13, 21⟩ [⟨0, 10, 17, 15⟩] (ht.trans rfl) (fun z hz => (List.not_mem_nil hz).elim) (by decide) (by decide) (C.2.2.2.2 _ wm_319) ((hE.2.2.2.2.2.2.2.1 xIO (by decide)).use rfl) hce hcv hcl ?_
      refine lv_astore (lv' := [(4, .ref q9), (0, .ref x), (1, .int p0), (2, .int p1), (3, .ref o)]) C.1 C.2.1 dL_colour_13 hl (by decide) rfl (fun ls hl => ?_)
      refine lv_iconst (v := 1) C.1 C.2.1 dL_colour_15 rfl ?_
      exact wr_iret 1 C hr hlocks (Hw_ext hH ho9) ⟨hz9, fun q h _ => ho9 q h, fun _ h => by cases h⟩ rfl (Or.inr ⟨Or.inl ⟨rfl, z1⟩, rfl⟩) (by decide) (by decide) dL_colour_16
    · refine vx_catch (pc := 5) (name := xIS) C.2.2.2.1 [⟨0, 10, 13, 21⟩] ⟨0, 10, 17, 15⟩ [] (ht.trans rfl) (fun z hz => by rw [List.mem_singleton] at hz; subst hz; exact Or.inr ⟨by decide, xIO, C.2.2.2.2 _ wm_319, hE.2.2.2.2.2.2.1 (xIS, xIO) (by decide)⟩) (by decide) (by decide) (C.2.2.2.2 _ wm_133) ((hE.2.2.2.2.2.2.2.1 xIS (by decide)).use rfl) hce hcv hcl ?_
      refine lv_astore (lv' := [(4, .ref q9), (0, .ref x), (1, .int p0), (2, .int p1), (3, .ref o)]) C.1 C.2.1 dL_colour_17 hl (by decide) rfl (fun ls hl => ?_)
      refine lv_iconst (v := 2) C.1 C.2.1 dL_colour_19 rfl ?_
      exact wr_iret 2 C hr hlocks (Hw_ext hH ho9) ⟨hz9, fun q h _ => ho9 q h, fun _ h => by cases h⟩ rfl (Or.inr ⟨Or.inr (⟨rfl, z1, z2⟩), rfl⟩) (by decide) (by decide) dL_colour_20
  refine lv_i2l C.1 C.2.1 dL_colour_8 rfl ?_
  refine mlast C hE hH hS ho v01 dL_colour_9 (fun H locs hH hS => ?_)
  refine lv_goto (tgt := 21) C.1 C.2.1 dL_colour_10 (by decide) ?_
  refine lv_iconst (v := 0) C.1 C.2.1 dL_colour_21 rfl ?_
  exact wr_iret 0 C hr hlocks hH hS rfl (Or.inl ⟨rfl, hp, _, _, RIx_rf hI, rfl, uL0⟩) (by decide) (by decide) dL_colour_22
set_option maxHeartbeats 4000000 in
set_option maxRecDepth 100000 in
theorem l_colourByBath {l : Launch} {g : gG} {M : Mp} {x o : Nat} {tg : Nat → Nat} {A : Nat → Nat → Nat} {pr br : Nat → Bool} {np : Nat → Nat} {hh : Nat → Nat → Nat} {ne nb no : Nat} {sc : Nat → Int32} {ar : Nat → Nat → Int32} {f0 : Nat → Int64} (hlx : l.stackTraces = false) (hI : RI g M x tg A pr br np hh ne nb no sc ar) (ho : M o = some (eL g 1 f0)) (hto : 30000 ≤ tg o) (p0 p1 : Int32) : Met l yL_colourByBath (Cond.codeWith yL_colourByBath cL_colourByBath 5 (some .int) [(0, 10, 13, 21), (0, 10, 17, 15)] :: WA) { frames := 9, cells := 6, slots := 230, locals := 148 } (Wc g M [.ref x, .int p0, .int p1, .ref o]) (wrQ (S := Int32) g (fun u_ => (some (.int u_))) (fun u_ M_ => krQ2 ((inx p0 no ∧ inx p1 2)) (¬ ar 13 p0.toNatClampNeg = 0) (krK g M x o tg (zcol ar p0.toNatClampNeg p1) (sc) (ar) M_) (M_ = M) u_)) 6 230 (gA g) := by
  refine ofT (by decide +kernel) (Nat.le_of_ble_eq_true rfl) (fun p e s m args below meth c ls C hr hlocks ht hE hH hl ea => ?_)
  have hl : lv_has ls 5 [(0, .ref x), (1, .int p0), (2, .int p1), (3, .ref o)] := hl
  have hS : va_S (gA g) s.heap s.heap [] := va_S.rf
  obtain ⟨-, iX, -⟩ := id hI
  refine lv_aload_n C.1 C.2.1 dL_colourByBath_0 rfl (lv_at hl 3 rfl) ?_
  refine lv_iconst (v := 0) C.1 C.2.1 dL_colourByBath_1 rfl ?_
  refine lv_aload_n C.1 C.2.1 dL_colourByBath_2 rfl (lv_at hl 0 rfl) ?_
  refine lv_iload_n C.1 C.2.1 dL_colourByBath_3 rfl (lv_at hl 1 rfl) ?_
  refine lv_iload_n C.1 C.2.1 dL_colourByBath_4 rfl (lv_at hl 2 rfl) ?_
  refine xr_go1 (xrunV C hE hH hS (r_colourByBath hlx hI p0 p1) mv_X5_colourByBath wm_643 iX.1 rfl rfl hl.1 dL_colourByBath_5 rfl rfl ⟨rfl, rfl⟩ ⟨Nat.le_of_ble_eq_true rfl, Nat.le_of_ble_eq_true rfl⟩ (Nat.le_of_ble_eq_true rfl) ⟨Nat.le_of_ble_eq_true rfl, Nat.le_of_ble_eq_true rfl⟩) (fun E ce q9 H1 hx9 hz9 ho9 hce hcv hcl => ?_) (fun hp => ?_)
  · rcases hx9 with ⟨rfl, z1⟩ | ⟨rfl, z1, z2⟩
    · refine vx_catch (pc := 5) (name := xIO) C.2.2.2.1 [] ⟨0, 10, 13, 21⟩ [⟨0, 10, 17, 15⟩] (ht.trans rfl) (fun z hz => (List.not_mem_nil hz).elim) (by decide) (by decide) (C.2.2.2.2 _ wm_319) ((hE.2.2.2.2.2.2.2.1 xIO (by decide)).use rfl) hce hcv hcl ?_
      refine lv_astore (lv' := [(4, .ref q9), (0, .ref x), (1, .int p0), (2, .int p1), (3, .ref o)]) C.1 C.2.1 dL_colourByBath_13 hl (by decide) rfl (fun ls hl => ?_)
      refine lv_iconst (v := 1) C.1 C.2.1 dL_colourByBath_15 rfl ?_
      exact wr_iret 1 C hr hlocks (Hw_ext hH ho9) ⟨hz9, fun q h _ => ho9 q h, fun _ h => by cases h⟩ rfl (Or.inr ⟨Or.inl ⟨rfl, z1⟩, rfl⟩) (by decide) (by decide) dL_colourByBath_16
    · refine vx_catch (pc := 5) (name := xIS) C.2.2.2.1 [⟨0, 10, 13, 21⟩] ⟨0, 10, 17, 15⟩ [] (ht.trans rfl) (fun z hz => by rw [List.mem_singleton] at hz; subst hz; exact Or.inr ⟨by decide, xIO, C.2.2.2.2 _ wm_319, hE.2.2.2.2.2.2.1 (xIS, xIO) (by decide)⟩) (by decide) (by decide) (C.2.2.2.2 _ wm_133) ((hE.2.2.2.2.2.2.2.1 xIS (by decide)).use rfl) hce hcv hcl ?_
      refine lv_astore (lv' := [(4, .ref q9), (0, .ref x), (1, .int p0), (2, .int p1), (3, .ref o)]) C.1 C.2.1 dL_colourByBath_17 hl (by decide) rfl (fun ls hl => ?_)
      refine lv_iconst (v := 2) C.1 C.2.1 dL_colourByBath_19 rfl ?_
      exact wr_iret 2 C hr hlocks (Hw_ext hH ho9) ⟨hz9, fun q h _ => ho9 q h, fun _ h => by cases h⟩ rfl (Or.inr ⟨Or.inr (⟨rfl, z1, z2⟩), rfl⟩) (by decide) (by decide) dL_colourByBath_20
  refine lv_i2l C.1 C.2.1 dL_colourByBath_8 rfl ?_
  refine mlast C hE hH hS ho v01 dL_colourByBath_9 (fun H locs hH hS => ?_)
  refine lv_goto (tgt := 21) C.1 C.2.1 dL_colourByBath_10 (by decide) ?_
  refine lv_iconst (v := 0) C.1 C.2.1 dL_colourByBath_21 rfl ?_
  exact wr_iret 0 C hr hlocks hH hS rfl (Or.inl ⟨rfl, hp, _, _, RIx_rf hI, rfl, uL0⟩) (by decide) (by decide) dL_colourByBath_22
set_option maxHeartbeats 4000000 in
set_option maxRecDepth 100000 in
theorem l_blamed {l : Launch} {g : gG} {M : Mp} {x o : Nat} {tg : Nat → Nat} {A : Nat → Nat → Nat} {pr br : Nat → Bool} {np : Nat → Nat} {hh : Nat → Nat → Nat} {ne nb no : Nat} {sc : Nat → Int32} {ar : Nat → Nat → Int32} {f0 : Nat → Int64} (hlx : l.stackTraces = false) (hI : RI g M x tg A pr br np hh ne nb no sc ar) (ho : M o = some (eL g 1 f0)) (hto : 30000 ≤ tg o) (p0 p1 : Int32) : Met l yL_blamed (Cond.codeWith yL_blamed cL_blamed 5 (some .int) [(0, 10, 13, 21), (0, 10, 17, 13)] :: WA) { frames := 8, cells := 6, slots := 230, locals := 126 } (Wc g M [.ref x, .int p0, .int p1, .ref o]) (wrQ (S := Int32) g (fun u_ => (some (.int u_))) (fun u_ M_ => krQ2 (inx p0 3) (inr p1 0 2) (krK g M x o tg (ar 19 (3 * p0.toNatClampNeg + p1.toNatClampNeg)) (sc) (ar) M_) (M_ = M) u_)) 6 230 (gA g) := by
  refine ofT (by decide +kernel) (Nat.le_of_ble_eq_true rfl) (fun p e s m args below meth c ls C hr hlocks ht hE hH hl ea => ?_)
  have hl : lv_has ls 5 [(0, .ref x), (1, .int p0), (2, .int p1), (3, .ref o)] := hl
  have hS : va_S (gA g) s.heap s.heap [] := va_S.rf
  obtain ⟨-, iX, -⟩ := id hI
  refine lv_aload_n C.1 C.2.1 dL_blamed_0 rfl (lv_at hl 3 rfl) ?_
  refine lv_iconst (v := 0) C.1 C.2.1 dL_blamed_1 rfl ?_
  refine lv_aload_n C.1 C.2.1 dL_blamed_2 rfl (lv_at hl 0 rfl) ?_
  refine lv_iload_n C.1 C.2.1 dL_blamed_3 rfl (lv_at hl 1 rfl) ?_
  refine lv_iload_n C.1 C.2.1 dL_blamed_4 rfl (lv_at hl 2 rfl) ?_
  refine xr_go1 (xrunV C hE hH hS (r_blamed hlx hI p0 p1) mv_X5_blamed wm_657 iX.1 rfl rfl hl.1 dL_blamed_5 rfl rfl ⟨rfl, rfl⟩ ⟨Nat.le_of_ble_eq_true rfl, Nat.le_of_ble_eq_true rfl⟩ (Nat.le_of_ble_eq_true rfl) ⟨Nat.le_of_ble_eq_true rfl, Nat.le_of_ble_eq_true rfl⟩) (fun E ce q9 H1 hx9 hz9 ho9 hce hcv hcl => ?_) (fun hp => ?_)
  · rcases hx9 with ⟨rfl, z1⟩ | ⟨rfl, z1, z2⟩
    · refine vx_catch (pc := 5) (name := xIO) C.2.2.2.1 [] ⟨0, 10, 13, 21⟩ [⟨0, 10, 17, 13⟩] (ht.trans rfl) (fun z hz => (List.not_mem_nil hz).elim) (by decide) (by decide) (C.2.2.2.2 _ wm_319) ((hE.2.2.2.2.2.2.2.1 xIO (by decide)).use rfl) hce hcv hcl ?_
      refine lv_astore (lv' := [(4, .ref q9), (0, .ref x), (1, .int p0), (2, .int p1), (3, .ref o)]) C.1 C.2.1 dL_blamed_13 hl (by decide) rfl (fun ls hl => ?_)
      refine lv_iconst (v := 1) C.1 C.2.1 dL_blamed_15 rfl ?_
      exact wr_iret 1 C hr hlocks (Hw_ext hH ho9) ⟨hz9, fun q h _ => ho9 q h, fun _ h => by cases h⟩ rfl (Or.inr ⟨Or.inl ⟨rfl, z1⟩, rfl⟩) (by decide) (by decide) dL_blamed_16
    · refine vx_catch (pc := 5) (name := xIA) C.2.2.2.1 [⟨0, 10, 13, 21⟩] ⟨0, 10, 17, 13⟩ [] (ht.trans rfl) (fun z hz => by rw [List.mem_singleton] at hz; subst hz; exact Or.inr ⟨by decide, xIO, C.2.2.2.2 _ wm_319, hE.2.2.2.2.2.2.1 (xIA, xIO) (by decide)⟩) (by decide) (by decide) (C.2.2.2.2 _ wm_132) ((hE.2.2.2.2.2.2.2.1 xIA (by decide)).use rfl) hce hcv hcl ?_
      refine lv_astore (lv' := [(4, .ref q9), (0, .ref x), (1, .int p0), (2, .int p1), (3, .ref o)]) C.1 C.2.1 dL_blamed_17 hl (by decide) rfl (fun ls hl => ?_)
      refine lv_iconst (v := 2) C.1 C.2.1 dL_blamed_19 rfl ?_
      exact wr_iret 2 C hr hlocks (Hw_ext hH ho9) ⟨hz9, fun q h _ => ho9 q h, fun _ h => by cases h⟩ rfl (Or.inr ⟨Or.inr (⟨rfl, z1, z2⟩), rfl⟩) (by decide) (by decide) dL_blamed_20
  refine lv_i2l C.1 C.2.1 dL_blamed_8 rfl ?_
  refine mlast C hE hH hS ho v01 dL_blamed_9 (fun H locs hH hS => ?_)
  refine lv_goto (tgt := 21) C.1 C.2.1 dL_blamed_10 (by decide) ?_
  refine lv_iconst (v := 0) C.1 C.2.1 dL_blamed_21 rfl ?_
  exact wr_iret 0 C hr hlocks hH hS rfl (Or.inl ⟨rfl, hp, _, _, RIx_rf hI, rfl, uL0⟩) (by decide) (by decide) dL_blamed_22
set_option maxHeartbeats 4000000 in
set_option maxRecDepth 100000 in
theorem l_shrinks {l : Launch} {g : gG} {M : Mp} {x o : Nat} {tg : Nat → Nat} {A : Nat → Nat → Nat} {pr br : Nat → Bool} {np : Nat → Nat} {hh : Nat → Nat → Nat} {ne nb no : Nat} {sc : Nat → Int32} {ar : Nat → Nat → Int32} {f0 : Nat → Int64} (hlx : l.stackTraces = false) (hI : RI g M x tg A pr br np hh ne nb no sc ar) (ho : M o = some (eL g 1 f0)) (hto : 30000 ≤ tg o) (p0 p1 : Int32) : Met l yL_shrinks (Cond.codeWith yL_shrinks cL_shrinks 5 (some .int) [(0, 10, 13, 21), (0, 10, 17, 13)] :: WA) { frames := 8, cells := 6, slots := 230, locals := 127 } (Wc g M [.ref x, .int p0, .int p1, .ref o]) (wrQ (S := Int32) g (fun u_ => (some (.int u_))) (fun u_ M_ => krQ2 (inx p0 3) (inr p1 0 90) (krK g M x o tg (ar 20 p0.toNatClampNeg) (sc) (ua ar 20 (upd (ar 20) p0.toNatClampNeg p1)) M_) (M_ = M) u_)) 6 230 (gA g) := by
  refine ofT (by decide +kernel) (Nat.le_of_ble_eq_true rfl) (fun p e s m args below meth c ls C hr hlocks ht hE hH hl ea => ?_)
  have hl : lv_has ls 5 [(0, .ref x), (1, .int p0), (2, .int p1), (3, .ref o)] := hl
  have hS : va_S (gA g) s.heap s.heap [] := va_S.rf
  obtain ⟨-, iX, -⟩ := id hI
  refine lv_aload_n C.1 C.2.1 dL_shrinks_0 rfl (lv_at hl 3 rfl) ?_
  refine lv_iconst (v := 0) C.1 C.2.1 dL_shrinks_1 rfl ?_
  refine lv_aload_n C.1 C.2.1 dL_shrinks_2 rfl (lv_at hl 0 rfl) ?_
  refine lv_iload_n C.1 C.2.1 dL_shrinks_3 rfl (lv_at hl 1 rfl) ?_
  refine lv_iload_n C.1 C.2.1 dL_shrinks_4 rfl (lv_at hl 2 rfl) ?_
  refine xw_go1 (xrunV C hE hH hS (w_shrinks hlx hI p0 p1) mv_X5_shrinks wm_664 iX.1 rfl rfl hl.1 dL_shrinks_5 rfl rfl ⟨rfl, rfl⟩ ⟨Nat.le_of_ble_eq_true rfl, Nat.le_of_ble_eq_true rfl⟩ (Nat.le_of_ble_eq_true rfl) ⟨Nat.le_of_ble_eq_true rfl, Nat.le_of_ble_eq_true rfl⟩) hS (fun E ce q9 H1 locs1 hx9 hz9 ho9 hS9 hce hcv hcl => ?_) (fun u M1 H locs hp hH hS => ?_)
  · rcases hx9 with ⟨rfl, z1⟩ | ⟨rfl, z1, z2⟩
    · refine vx_catch (pc := 5) (name := xIO) C.2.2.2.1 [] ⟨0, 10, 13, 21⟩ [⟨0, 10, 17, 13⟩] (ht.trans rfl) (fun z hz => (List.not_mem_nil hz).elim) (by decide) (by decide) (C.2.2.2.2 _ wm_319) ((hE.2.2.2.2.2.2.2.1 xIO (by decide)).use rfl) hce hcv hcl ?_
      refine lv_astore (lv' := [(4, .ref q9), (0, .ref x), (1, .int p0), (2, .int p1), (3, .ref o)]) C.1 C.2.1 dL_shrinks_13 hl (by decide) rfl (fun ls hl => ?_)
      refine lv_iconst (v := 1) C.1 C.2.1 dL_shrinks_15 rfl ?_
      exact wr_iret 1 C hr hlocks (Hw_ext hH ho9) hS9 rfl (Or.inr ⟨Or.inl ⟨rfl, z1⟩, rfl⟩) (by decide) (by decide) dL_shrinks_16
    · refine vx_catch (pc := 5) (name := xIA) C.2.2.2.1 [⟨0, 10, 13, 21⟩] ⟨0, 10, 17, 13⟩ [] (ht.trans rfl) (fun z hz => by rw [List.mem_singleton] at hz; subst hz; exact Or.inr ⟨by decide, xIO, C.2.2.2.2 _ wm_319, hE.2.2.2.2.2.2.1 (xIA, xIO) (by decide)⟩) (by decide) (by decide) (C.2.2.2.2 _ wm_132) ((hE.2.2.2.2.2.2.2.1 xIA (by decide)).use rfl) hce hcv hcl ?_
      refine lv_astore (lv' := [(4, .ref q9), (0, .ref x), (1, .int p0), (2, .int p1), (3, .ref o)]) C.1 C.2.1 dL_shrinks_17 hl (by decide) rfl (fun ls hl => ?_)
      refine lv_iconst (v := 2) C.1 C.2.1 dL_shrinks_19 rfl ?_
      exact wr_iret 2 C hr hlocks (Hw_ext hH ho9) hS9 rfl (Or.inr ⟨Or.inr (⟨rfl, z1, z2⟩), rfl⟩) (by decide) (by decide) dL_shrinks_20
  refine lv_i2l C.1 C.2.1 dL_shrinks_8 rfl ?_
  refine mlast C hE hH hS (RIx_at hp.2 ho hto) v01 dL_shrinks_9 (fun H locs hH hS => ?_)
  refine lv_goto (tgt := 21) C.1 C.2.1 dL_shrinks_10 (by decide) ?_
  refine lv_iconst (v := 0) C.1 C.2.1 dL_shrinks_21 rfl ?_
  exact wr_iret 0 C hr hlocks hH hS rfl (Or.inl ⟨rfl, hp.1, _, _, hp.2, rfl, uL0⟩) (by decide) (by decide) dL_shrinks_22
set_option maxHeartbeats 4000000 in
set_option maxRecDepth 100000 in
theorem l_give {l : Launch} {g : gG} {M : Mp} {x o : Nat} {tg : Nat → Nat} {A : Nat → Nat → Nat} {pr br : Nat → Bool} {np : Nat → Nat} {hh : Nat → Nat → Nat} {ne nb no : Nat} {sc : Nat → Int32} {ar : Nat → Nat → Int32} {f0 : Nat → Int64} (hlx : l.stackTraces = false) (hI : RI g M x tg A pr br np hh ne nb no sc ar) (ho : M o = some (eL g 1 f0)) (hto : 30000 ≤ tg o) (p0 p1 p2 p3 : Int32) : Met l yL_give (Cond.codeWith yL_give cL_give 7 (some .int) [(0, 14, 17, 21), (0, 14, 21, 13), (0, 14, 25, 15)] :: WA) { frames := 8, cells := 6, slots := 230, locals := 130 } (Wc g M [.ref x, .int p0, .int p1, .int p2, .int p3, .ref o]) (wrQ (S := Int32) g (fun u_ => (some (.int u_))) (fun u_ M_ => krQ3 (((inx p0 5 ∧ inx p1 5) ∧ inx p2 3)) ((¬ p0 = p1 ∧ inr p3 1 1000)) (ar 21 (25 * p2.toNatClampNeg + 5 * p1.toNatClampNeg + p0.toNatClampNeg) + zsh p3 (ar 20 p2.toNatClampNeg) ≤ 100000) (krK g M x o tg (ar 21 (25 * p2.toNatClampNeg + 5 * p1.toNatClampNeg + p0.toNatClampNeg) + zsh p3 (ar 20 p2.toNatClampNeg)) (sc) (ua ar 21 (upd (ar 21) (25 * p2.toNatClampNeg + 5 * p1.toNatClampNeg + p0.toNatClampNeg) (ar 21 (25 * p2.toNatClampNeg + 5 * p1.toNatClampNeg + p0.toNatClampNeg) + zsh p3 (ar 20 p2.toNatClampNeg)))) M_) (M_ = M) u_)) 6 230 (gA g) := by
  refine ofT (by decide +kernel) (Nat.le_of_ble_eq_true rfl) (fun p e s m args below meth c ls C hr hlocks ht hE hH hl ea => ?_)
  have hl : lv_has ls 7 [(0, .ref x), (1, .int p0), (2, .int p1), (3, .int p2), (4, .int p3), (5, .ref o)] := hl
  have hS : va_S (gA g) s.heap s.heap [] := va_S.rf
  obtain ⟨-, iX, -⟩ := id hI
  refine lv_aload C.1 C.2.1 dL_give_0 (lv_at hl 5 rfl) ?_
  refine lv_iconst (v := 0) C.1 C.2.1 dL_give_2 rfl ?_
  refine lv_aload_n C.1 C.2.1 dL_give_3 rfl (lv_at hl 0 rfl) ?_
  refine lv_iload_n C.1 C.2.1 dL_give_4 rfl (lv_at hl 1 rfl) ?_
  refine lv_iload_n C.1 C.2.1 dL_give_5 rfl (lv_at hl 2 rfl) ?_
  refine lv_iload_n C.1 C.2.1 dL_give_6 rfl (lv_at hl 3 rfl) ?_
  refine lv_iload C.1 C.2.1 dL_give_7 (lv_at hl 4 rfl) ?_
  refine xw_go1 (xrunV C hE hH hS (w_give hlx hI p0 p1 p2 p3) mv_X5_give wm_671 iX.1 rfl rfl hl.1 dL_give_9 rfl rfl ⟨rfl, rfl⟩ ⟨Nat.le_of_ble_eq_true rfl, Nat.le_of_ble_eq_true rfl⟩ (Nat.le_of_ble_eq_true rfl) ⟨Nat.le_of_ble_eq_true rfl, Nat.le_of_ble_eq_true rfl⟩) hS (fun E ce q9 H1 locs1 hx9 hz9 ho9 hS9 hce hcv hcl => ?_) (fun u M1 H locs hp hH hS => ?_)
  · rcases hx9 with ⟨rfl, z1⟩ | ⟨rfl, z1, z2⟩ | ⟨rfl, z1, z2, z3⟩
    · refine vx_catch (pc := 9) (name := xIO) C.2.2.2.1 [] ⟨0, 14, 17, 21⟩ [⟨0, 14, 21, 13⟩, ⟨0, 14, 25, 15⟩] (ht.trans rfl) (fun z hz => (List.not_mem_nil hz).elim) (by decide) (by decide) (C.2.2.2.2 _ wm_319) ((hE.2.2.2.2.2.2.2.1 xIO (by decide)).use rfl) hce hcv hcl ?_
      refine lv_astore (lv' := [(6, .ref q9), (0, .ref x), (1, .int p0), (2, .int p1), (3, .int p2), (4, .int p3), (5, .ref o)]) C.1 C.2.1 dL_give_17 hl (by decide) rfl (fun ls hl => ?_)
      refine lv_iconst (v := 1) C.1 C.2.1 dL_give_19 rfl ?_
      exact wr_iret 1 C hr hlocks (Hw_ext hH ho9) hS9 rfl (Or.inr ⟨Or.inl ⟨rfl, z1⟩, rfl⟩) (by decide) (by decide) dL_give_20
    · refine vx_catch (pc := 9) (name := xIA) C.2.2.2.1 [⟨0, 14, 17, 21⟩] ⟨0, 14, 21, 13⟩ [⟨0, 14, 25, 15⟩] (ht.trans rfl) (fun z hz => by rw [List.mem_singleton] at hz; subst hz; exact Or.inr ⟨by decide, xIO, C.2.2.2.2 _ wm_319, hE.2.2.2.2.2.2.1 (xIA, xIO) (by decide)⟩) (by decide) (by decide) (C.2.2.2.2 _ wm_132) ((hE.2.2.2.2.2.2.2.1 xIA (by decide)).use rfl) hce hcv hcl ?_
      refine lv_astore (lv' := [(6, .ref q9), (0, .ref x), (1, .int p0), (2, .int p1), (3, .int p2), (4, .int p3), (5, .ref o)]) C.1 C.2.1 dL_give_21 hl (by decide) rfl (fun ls hl => ?_)
      refine lv_iconst (v := 2) C.1 C.2.1 dL_give_23 rfl ?_
      exact wr_iret 2 C hr hlocks (Hw_ext hH ho9) hS9 rfl (Or.inr ⟨Or.inr (Or.inl ⟨rfl, z1, z2⟩), rfl⟩) (by decide) (by decide) dL_give_24
    · refine vx_catch (pc := 9) (name := xIS) C.2.2.2.1 [⟨0, 14, 17, 21⟩, ⟨0, 14, 21, 13⟩] ⟨0, 14, 25, 15⟩ [] (ht.trans rfl) (fun z hz => by rcases List.mem_cons.mp hz with rfl | hz; exact Or.inr ⟨by decide, xIO, C.2.2.2.2 _ wm_319, hE.2.2.2.2.2.2.1 (xIS, xIO) (by decide)⟩; rw [List.mem_singleton] at hz; subst hz; exact Or.inr ⟨by decide, xIA, C.2.2.2.2 _ wm_132, hE.2.2.2.2.2.2.1 (xIS, xIA) (by decide)⟩) (by decide) (by decide) (C.2.2.2.2 _ wm_133) ((hE.2.2.2.2.2.2.2.1 xIS (by decide)).use rfl) hce hcv hcl ?_
      refine lv_astore (lv' := [(6, .ref q9), (0, .ref x), (1, .int p0), (2, .int p1), (3, .int p2), (4, .int p3), (5, .ref o)]) C.1 C.2.1 dL_give_25 hl (by decide) rfl (fun ls hl => ?_)
      refine lv_iconst (v := 3) C.1 C.2.1 dL_give_27 rfl ?_
      exact wr_iret 3 C hr hlocks (Hw_ext hH ho9) hS9 rfl (Or.inr ⟨Or.inr (Or.inr (⟨rfl, z1, z2, z3⟩)), rfl⟩) (by decide) (by decide) dL_give_28
  refine lv_i2l C.1 C.2.1 dL_give_12 rfl ?_
  refine mlast C hE hH hS (RIx_at hp.2 ho hto) v01 dL_give_13 (fun H locs hH hS => ?_)
  refine lv_goto (tgt := 29) C.1 C.2.1 dL_give_14 (by decide) ?_
  refine lv_iconst (v := 0) C.1 C.2.1 dL_give_29 rfl ?_
  exact wr_iret 0 C hr hlocks hH hS rfl (Or.inl ⟨rfl, hp.1, _, _, hp.2, rfl, uL0⟩) (by decide) (by decide) dL_give_30
set_option maxHeartbeats 4000000 in
set_option maxRecDepth 100000 in
theorem l_owes {l : Launch} {g : gG} {M : Mp} {x o : Nat} {tg : Nat → Nat} {A : Nat → Nat → Nat} {pr br : Nat → Bool} {np : Nat → Nat} {hh : Nat → Nat → Nat} {ne nb no : Nat} {sc : Nat → Int32} {ar : Nat → Nat → Int32} {f0 : Nat → Int64} (hlx : l.stackTraces = false) (hI : RI g M x tg A pr br np hh ne nb no sc ar) (ho : M o = some (eL g 1 f0)) (hto : 30000 ≤ tg o) (p0 p1 p2 : Int32) : Met l yL_owes (Cond.codeWith yL_owes cL_owes 6 (some .int) [(0, 12, 15, 21)] :: WA) { frames := 8, cells := 6, slots := 230, locals := 126 } (Wc g M [.ref x, .int p0, .int p1, .int p2, .ref o]) (wrQ (S := Int32) g (fun u_ => (some (.int u_))) (fun u_ M_ => krQ1 (((inx p0 5 ∧ inx p1 5) ∧ inx p2 3)) (krK g M x o tg (ar 21 (25 * p2.toNatClampNeg + 5 * p0.toNatClampNeg + p1.toNatClampNeg)) (sc) (ar) M_) (M_ = M) u_)) 6 230 (gA g) := by
  refine ofT (by decide +kernel) (Nat.le_of_ble_eq_true rfl) (fun p e s m args below meth c ls C hr hlocks ht hE hH hl ea => ?_)
  have hl : lv_has ls 6 [(0, .ref x), (1, .int p0), (2, .int p1), (3, .int p2), (4, .ref o)] := hl
  have hS : va_S (gA g) s.heap s.heap [] := va_S.rf
  obtain ⟨-, iX, -⟩ := id hI
  refine lv_aload C.1 C.2.1 dL_owes_0 (lv_at hl 4 rfl) ?_
  refine lv_iconst (v := 0) C.1 C.2.1 dL_owes_2 rfl ?_
  refine lv_aload_n C.1 C.2.1 dL_owes_3 rfl (lv_at hl 0 rfl) ?_
  refine lv_iload_n C.1 C.2.1 dL_owes_4 rfl (lv_at hl 1 rfl) ?_
  refine lv_iload_n C.1 C.2.1 dL_owes_5 rfl (lv_at hl 2 rfl) ?_
  refine lv_iload_n C.1 C.2.1 dL_owes_6 rfl (lv_at hl 3 rfl) ?_
  refine xr_go1 (xrunV C hE hH hS (r_owes hlx hI p0 p1 p2) mv_X5_owes wm_685 iX.1 rfl rfl hl.1 dL_owes_7 rfl rfl ⟨rfl, rfl⟩ ⟨Nat.le_of_ble_eq_true rfl, Nat.le_of_ble_eq_true rfl⟩ (Nat.le_of_ble_eq_true rfl) ⟨Nat.le_of_ble_eq_true rfl, Nat.le_of_ble_eq_true rfl⟩) (fun E ce q9 H1 hx9 hz9 ho9 hce hcv hcl => ?_) (fun hp => ?_)
  · rcases hx9 with ⟨rfl, z1⟩
    · refine vx_catch (pc := 7) (name := xIO) C.2.2.2.1 [] ⟨0, 12, 15, 21⟩ [] (ht.trans rfl) (fun z hz => (List.not_mem_nil hz).elim) (by decide) (by decide) (C.2.2.2.2 _ wm_319) ((hE.2.2.2.2.2.2.2.1 xIO (by decide)).use rfl) hce hcv hcl ?_
      refine lv_astore (lv' := [(5, .ref q9), (0, .ref x), (1, .int p0), (2, .int p1), (3, .int p2), (4, .ref o)]) C.1 C.2.1 dL_owes_15 hl (by decide) rfl (fun ls hl => ?_)
      refine lv_iconst (v := 1) C.1 C.2.1 dL_owes_17 rfl ?_
      exact wr_iret 1 C hr hlocks (Hw_ext hH ho9) ⟨hz9, fun q h _ => ho9 q h, fun _ h => by cases h⟩ rfl (Or.inr ⟨⟨rfl, z1⟩, rfl⟩) (by decide) (by decide) dL_owes_18
  refine lv_i2l C.1 C.2.1 dL_owes_10 rfl ?_
  refine mlast C hE hH hS ho v01 dL_owes_11 (fun H locs hH hS => ?_)
  refine lv_goto (tgt := 19) C.1 C.2.1 dL_owes_12 (by decide) ?_
  refine lv_iconst (v := 0) C.1 C.2.1 dL_owes_19 rfl ?_
  exact wr_iret 0 C hr hlocks hH hS rfl (Or.inl ⟨rfl, hp, _, _, RIx_rf hI, rfl, uL0⟩) (by decide) (by decide) dL_owes_20
set_option maxHeartbeats 4000000 in
set_option maxRecDepth 100000 in
theorem l_position {l : Launch} {g : gG} {M : Mp} {x o : Nat} {tg : Nat → Nat} {A : Nat → Nat → Nat} {pr br : Nat → Bool} {np : Nat → Nat} {hh : Nat → Nat → Nat} {ne nb no : Nat} {sc : Nat → Int32} {ar : Nat → Nat → Int32} {f0 : Nat → Int64} (hlx : l.stackTraces = false) (hI : RI g M x tg A pr br np hh ne nb no sc ar) (ho : M o = some (eL g 1 f0)) (hto : 30000 ≤ tg o) (p0 p1 : Int32) : Met l yL_position (Cond.codeWith yL_position cL_position 5 (some .int) [(0, 10, 13, 21)] :: WA) { frames := 8, cells := 6, slots := 230, locals := 125 } (Wc g M [.ref x, .int p0, .int p1, .ref o]) (wrQ (S := Int32) g (fun u_ => (some (.int u_))) (fun u_ M_ => krQ1 ((inx p0 5 ∧ inx p1 3)) (krK g M x o tg (zbal (zD ar p1.toNatClampNeg) p0.toNatClampNeg 5) (sc) (ar) M_) (M_ = M) u_)) 6 230 (gA g) := by
  refine ofT (by decide +kernel) (Nat.le_of_ble_eq_true rfl) (fun p e s m args below meth c ls C hr hlocks ht hE hH hl ea => ?_)
  have hl : lv_has ls 5 [(0, .ref x), (1, .int p0), (2, .int p1), (3, .ref o)] := hl
  have hS : va_S (gA g) s.heap s.heap [] := va_S.rf
  obtain ⟨-, iX, -⟩ := id hI
  refine lv_aload_n C.1 C.2.1 dL_position_0 rfl (lv_at hl 3 rfl) ?_
  refine lv_iconst (v := 0) C.1 C.2.1 dL_position_1 rfl ?_
  refine lv_aload_n C.1 C.2.1 dL_position_2 rfl (lv_at hl 0 rfl) ?_
  refine lv_iload_n C.1 C.2.1 dL_position_3 rfl (lv_at hl 1 rfl) ?_
  refine lv_iload_n C.1 C.2.1 dL_position_4 rfl (lv_at hl 2 rfl) ?_
  refine xr_go1 (xrunV C hE hH hS (r_position hlx hI p0 p1) mv_X5_position wm_692 iX.1 rfl rfl hl.1 dL_position_5 rfl rfl ⟨rfl, rfl⟩ ⟨Nat.le_of_ble_eq_true rfl, Nat.le_of_ble_eq_true rfl⟩ (Nat.le_of_ble_eq_true rfl) ⟨Nat.le_of_ble_eq_true rfl, Nat.le_of_ble_eq_true rfl⟩) (fun E ce q9 H1 hx9 hz9 ho9 hce hcv hcl => ?_) (fun hp => ?_)
  · rcases hx9 with ⟨rfl, z1⟩
    · refine vx_catch (pc := 5) (name := xIO) C.2.2.2.1 [] ⟨0, 10, 13, 21⟩ [] (ht.trans rfl) (fun z hz => (List.not_mem_nil hz).elim) (by decide) (by decide) (C.2.2.2.2 _ wm_319) ((hE.2.2.2.2.2.2.2.1 xIO (by decide)).use rfl) hce hcv hcl ?_
      refine lv_astore (lv' := [(4, .ref q9), (0, .ref x), (1, .int p0), (2, .int p1), (3, .ref o)]) C.1 C.2.1 dL_position_13 hl (by decide) rfl (fun ls hl => ?_)
      refine lv_iconst (v := 1) C.1 C.2.1 dL_position_15 rfl ?_
      exact wr_iret 1 C hr hlocks (Hw_ext hH ho9) ⟨hz9, fun q h _ => ho9 q h, fun _ h => by cases h⟩ rfl (Or.inr ⟨⟨rfl, z1⟩, rfl⟩) (by decide) (by decide) dL_position_16
  refine lv_i2l C.1 C.2.1 dL_position_8 rfl ?_
  refine mlast C hE hH hS ho v01 dL_position_9 (fun H locs hH hS => ?_)
  refine lv_goto (tgt := 17) C.1 C.2.1 dL_position_10 (by decide) ?_
  refine lv_iconst (v := 0) C.1 C.2.1 dL_position_17 rfl ?_
  exact wr_iret 0 C hr hlocks hH hS rfl (Or.inl ⟨rfl, hp, _, _, RIx_rf hI, rfl, uL0⟩) (by decide) (by decide) dL_position_18
set_option maxHeartbeats 4000000 in
set_option maxRecDepth 100000 in
theorem l_net {l : Launch} {g : gG} {M : Mp} {x o : Nat} {tg : Nat → Nat} {A : Nat → Nat → Nat} {pr br : Nat → Bool} {np : Nat → Nat} {hh : Nat → Nat → Nat} {ne nb no : Nat} {sc : Nat → Int32} {ar : Nat → Nat → Int32} {f0 : Nat → Int64} (hlx : l.stackTraces = false) (hI : RI g M x tg A pr br np hh ne nb no sc ar) (ho : M o = some (eL g 1 f0)) (hto : 30000 ≤ tg o) (p0 : Int32) : Met l yL_net (Cond.codeWith yL_net cL_net 4 (some .int) [(0, 9, 12, 21)] :: WA) { frames := 8, cells := 6, slots := 230, locals := 124 } (Wc g M [.ref x, .int p0, .ref o]) (wrQ (S := Int32) g (fun u_ => (some (.int u_))) (fun u_ M_ => krQ1 (inx p0 3) (krK g M x o tg (nI (znet 5 ar p0.toNatClampNeg).1) (sc) (ua ar 21 (znetf ar p0.toNatClampNeg)) M_) (M_ = M) u_)) 6 230 (gA g) := by
  refine ofT (by decide +kernel) (Nat.le_of_ble_eq_true rfl) (fun p e s m args below meth c ls C hr hlocks ht hE hH hl ea => ?_)
  have hl : lv_has ls 4 [(0, .ref x), (1, .int p0), (2, .ref o)] := hl
  have hS : va_S (gA g) s.heap s.heap [] := va_S.rf
  obtain ⟨-, iX, -⟩ := id hI
  refine lv_aload_n C.1 C.2.1 dL_net_0 rfl (lv_at hl 2 rfl) ?_
  refine lv_iconst (v := 0) C.1 C.2.1 dL_net_1 rfl ?_
  refine lv_aload_n C.1 C.2.1 dL_net_2 rfl (lv_at hl 0 rfl) ?_
  refine lv_iload_n C.1 C.2.1 dL_net_3 rfl (lv_at hl 1 rfl) ?_
  refine xw_go1 (xrunV C hE hH hS (w_net hlx hI p0) mv_X5_net wm_703 iX.1 rfl rfl hl.1 dL_net_4 rfl rfl ⟨rfl, rfl⟩ ⟨Nat.le_of_ble_eq_true rfl, Nat.le_of_ble_eq_true rfl⟩ (Nat.le_of_ble_eq_true rfl) ⟨Nat.le_of_ble_eq_true rfl, Nat.le_of_ble_eq_true rfl⟩) hS (fun E ce q9 H1 locs1 hx9 hz9 ho9 hS9 hce hcv hcl => ?_) (fun u M1 H locs hp hH hS => ?_)
  · rcases hx9 with ⟨rfl, z1⟩
    · refine vx_catch (pc := 4) (name := xIO) C.2.2.2.1 [] ⟨0, 9, 12, 21⟩ [] (ht.trans rfl) (fun z hz => (List.not_mem_nil hz).elim) (by decide) (by decide) (C.2.2.2.2 _ wm_319) ((hE.2.2.2.2.2.2.2.1 xIO (by decide)).use rfl) hce hcv hcl ?_
      refine lv_astore_n (lv' := [(3, .ref q9), (0, .ref x), (1, .int p0), (2, .ref o)]) C.1 C.2.1 dL_net_12 rfl hl (by decide) rfl (fun ls hl => ?_)
      refine lv_iconst (v := 1) C.1 C.2.1 dL_net_13 rfl ?_
      exact wr_iret 1 C hr hlocks (Hw_ext hH ho9) hS9 rfl (Or.inr ⟨⟨rfl, z1⟩, rfl⟩) (by decide) (by decide) dL_net_14
  refine lv_i2l C.1 C.2.1 dL_net_7 rfl ?_
  refine mlast C hE hH hS (RIx_at hp.2 ho hto) v01 dL_net_8 (fun H locs hH hS => ?_)
  refine lv_goto (tgt := 15) C.1 C.2.1 dL_net_9 (by decide) ?_
  refine lv_iconst (v := 0) C.1 C.2.1 dL_net_15 rfl ?_
  exact wr_iret 0 C hr hlocks hH hS rfl (Or.inl ⟨rfl, hp.1, _, _, hp.2, rfl, uL0⟩) (by decide) (by decide) dL_net_16
