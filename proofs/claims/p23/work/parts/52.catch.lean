/-! THE LAW'S METHODS THAT CALL THE RING AND CATCH -/
def lqA (Q1 ok e1 : Prop) : Prop := Q1 ∧ ok ∨ ¬ Q1 ∧ e1
def lqB (Q1 Q2 ok e1 e2 : Prop) : Prop := (Q1 ∧ Q2) ∧ ok ∨ ¬ Q1 ∧ e1 ∨ (Q1 ∧ ¬ Q2) ∧ e2
def lqC (Q1 Q2 Q3 ok e1 e2 e3 : Prop) : Prop := (Q1 ∧ Q2 ∧ Q3) ∧ ok ∨ ¬ Q1 ∧ e1 ∨ (Q1 ∧ ¬ Q2) ∧ e2 ∨ (Q1 ∧ Q2 ∧ ¬ Q3) ∧ e3
theorem lqA_t {Q1 ok e1 : Prop} (h : lqA Q1 ok e1) (q : Q1) : ok := h.elim (fun z => z.2) (fun z => absurd q z.1)
theorem lqA_f {Q1 ok e1 : Prop} (h : lqA Q1 ok e1) (q : ¬ Q1) : e1 := h.elim (fun z => absurd z.1 q) (fun z => z.2)
theorem lqB_t {Q1 Q2 ok e1 e2 : Prop} (h : lqB Q1 Q2 ok e1 e2) (q : Q1) (r : Q2) : ok := h.elim (fun z => z.2) (fun z => z.elim (fun z => absurd q z.1) (fun z => absurd r z.1.2))
theorem lqB_f {Q1 Q2 ok e1 e2 : Prop} (h : lqB Q1 Q2 ok e1 e2) (q : ¬ Q1) : e1 := h.elim (fun z => absurd z.1.1 q) (fun z => z.elim (fun z => z.2) (fun z => absurd z.1.1 q))
theorem lqB_g {Q1 Q2 ok e1 e2 : Prop} (h : lqB Q1 Q2 ok e1 e2) (q : Q1) (r : ¬ Q2) : e2 := h.elim (fun z => absurd z.1.2 r) (fun z => z.elim (fun z => absurd q z.1) (fun z => z.2))
theorem lqC_t {Q1 Q2 Q3 ok e1 e2 e3 : Prop} (h : lqC Q1 Q2 Q3 ok e1 e2 e3) (q : Q1) (r : Q2) (t : Q3) : ok := h.elim (fun z => z.2) (fun z => z.elim (fun z => absurd q z.1) (fun z => z.elim (fun z => absurd r z.1.2) (fun z => absurd t z.1.2.2)))
theorem lqC_f {Q1 Q2 Q3 ok e1 e2 e3 : Prop} (h : lqC Q1 Q2 Q3 ok e1 e2 e3) (q : ¬ Q1) : e1 := h.elim (fun z => absurd z.1.1 q) (fun z => z.elim (fun z => z.2) (fun z => z.elim (fun z => absurd z.1.1 q) (fun z => absurd z.1.1 q)))
theorem lqC_g {Q1 Q2 Q3 ok e1 e2 e3 : Prop} (h : lqC Q1 Q2 Q3 ok e1 e2 e3) (q : Q1) (r : ¬ Q2) : e2 := h.elim (fun z => absurd z.1.2.1 r) (fun z => z.elim (fun z => absurd q z.1) (fun z => z.elim (fun z => z.2) (fun z => absurd z.1.2.1 r)))
theorem lqC_h {Q1 Q2 Q3 ok e1 e2 e3 : Prop} (h : lqC Q1 Q2 Q3 ok e1 e2 e3) (q : Q1) (r : Q2) (t : ¬ Q3) : e3 := h.elim (fun z => absurd z.1.2.2 t) (fun z => z.elim (fun z => absurd q z.1) (fun z => z.elim (fun z => absurd r z.1.2) (fun z => z.2)))
theorem RIx_rf {g : gG} {M : Mp} {x : Nat} {tg : Nat → Nat} {A : Nat → Nat → Nat} {pr br : Nat → Bool} {np : Nat → Nat} {hh : Nat → Nat → Nat} {ne nb no : Nat} {sc : Nat → Int32} {ar : Nat → Nat → Int32} (hI : RI g M x tg A pr br np hh ne nb no sc ar) : RIx g M M x tg sc ar := ⟨tg, A, pr, br, np, hh, ne, nb, no, hI, fun _ _ _ => ⟨rfl, rfl⟩⟩
set_option maxHeartbeats 4000000 in
set_option maxRecDepth 100000 in
theorem l_entry {l : Launch} {g : gG} {M : Mp} {x : Nat} {tg : Nat → Nat} {A : Nat → Nat → Nat} {pr br : Nat → Bool} {np : Nat → Nat} {hh : Nat → Nat → Nat} {ne nb no : Nat} {sc : Nat → Int32} {ar : Nat → Nat → Int32} (hlx : l.stackTraces = false) (hI : RI g M x tg A pr br np hh ne nb no sc ar) (p0 p1 p2 : Int32) : Met l yL_entries (Cond.codeWith yL_entries cL_entries 5 (some .int) [(0, 7, 8, 29), (0, 7, 13, 31)] :: WA) { frames := 8, cells := 6, slots := 230, locals := 215 } (Wc g M [.ref x, .int p0, .int p1, .int p2]) (wrQ (S := Int32) g (fun u_ => (some (.int u_))) (fun u_ M_ => lqB (((inr p0 0 60 ∧ inr p1 0 60) ∧ inr p2 0 20)) (sc 0 < 12) (u_ = sc 0 ∧ RIx g M_ M x tg (us sc 0 (sc 0 + 1)) (ua (ua ar 1 (upd (upd (ar 1) (2 * (sc 0).toNatClampNeg) p0) (2 * (sc 0).toNatClampNeg + 1) p1)) 2 (upd (ar 2) (sc 0).toNatClampNeg p2))) (u_ = (-101) ∧ M_ = M) (u_ = (-102) ∧ M_ = M))) 6 230 (gA g) := by
  refine ofT (by decide +kernel) (Nat.le_of_ble_eq_true rfl) (fun p e s m args below meth c ls C hr hlocks ht hE hH hl ea => ?_)
  have hl : lv_has ls 5 [(0, .ref x), (1, .int p0), (2, .int p1), (3, .int p2)] := hl
  have hS : va_S (gA g) s.heap s.heap [] := va_S.rf
  obtain ⟨-, iX, -⟩ := id hI
  refine lv_aload_n C.1 C.2.1 dL_entries_0 rfl (lv_at hl 0 rfl) ?_
  refine lv_iload_n C.1 C.2.1 dL_entries_1 rfl (lv_at hl 1 rfl) ?_
  refine lv_iload_n C.1 C.2.1 dL_entries_2 rfl (lv_at hl 2 rfl) ?_
  refine lv_iload_n C.1 C.2.1 dL_entries_3 rfl (lv_at hl 3 rfl) ?_
  refine xw_go1 (xrunV C hE hH hS (w_entry hlx hI p0 p1 p2) mv_X5_entry wm_132 iX.1 rfl rfl hl.1 dL_entries_4 rfl rfl ⟨rfl, rfl⟩ ⟨Nat.le_of_ble_eq_true rfl, Nat.le_of_ble_eq_true rfl⟩ (Nat.le_of_ble_eq_true rfl) ⟨Nat.le_of_ble_eq_true rfl, Nat.le_of_ble_eq_true rfl⟩) hS (fun E ce q9 H1 locs1 hx9 hz9 ho9 hS9 hce hcv hcl => ?_) (fun u M1 H locs hp hH hS => ?_)
  · rcases hx9 with ⟨rfl, z1⟩ | ⟨rfl, z1, z2⟩
    · refine vx_catch (pc := 4) (name := xIA) C.2.2.2.1 [] ⟨0, 7, 8, 29⟩ [⟨0, 7, 13, 31⟩] (ht.trans rfl) (fun z hz => (List.not_mem_nil hz).elim) (by decide) (by decide) (C.2.2.2.2 _ wm_130) ((hE.2.2.2.2.2.2.2.1 xIA (by decide)).use rfl) hce hcv hcl ?_
      refine lv_astore (lv' := [(4, .ref q9), (0, .ref x), (1, .int p0), (2, .int p1), (3, .int p2)]) C.1 C.2.1 dL_entries_8 hl (by decide) rfl (fun ls hl => ?_)
      refine lv_bipush (v := -101) C.1 C.2.1 dL_entries_10 rfl ?_
      exact wr_iret (-101) C hr hlocks (Hw_ext hH ho9) hS9 rfl (Or.inr (Or.inl ⟨z1, rfl, rfl⟩)) (by decide) (by decide) dL_entries_12
    · refine vx_catch (pc := 4) (name := xIS) C.2.2.2.1 [⟨0, 7, 8, 29⟩] ⟨0, 7, 13, 31⟩ [] (ht.trans rfl) (fun z hz => by rw [List.mem_singleton] at hz; subst hz; exact Or.inr ⟨by decide, xIA, C.2.2.2.2 _ wm_130, hE.2.2.2.2.2.2.1 (xIS, xIA) (by decide)⟩) (by decide) (by decide) (C.2.2.2.2 _ wm_131) ((hE.2.2.2.2.2.2.2.1 xIS (by decide)).use rfl) hce hcv hcl ?_
      refine lv_astore (lv' := [(4, .ref q9), (0, .ref x), (1, .int p0), (2, .int p1), (3, .int p2)]) C.1 C.2.1 dL_entries_13 hl (by decide) rfl (fun ls hl => ?_)
      refine lv_bipush (v := -102) C.1 C.2.1 dL_entries_15 rfl ?_
      exact wr_iret (-102) C hr hlocks (Hw_ext hH ho9) hS9 rfl (Or.inr (Or.inr (⟨⟨z1, z2⟩, rfl, rfl⟩))) (by decide) (by decide) dL_entries_17
  exact wr_iret (sc 0) C hr hlocks hH hS rfl (Or.inl ⟨hp.1, rfl, hp.2⟩) (by decide) (by decide) dL_entries_7
set_option maxHeartbeats 4000000 in
set_option maxRecDepth 100000 in
theorem l_water {l : Launch} {g : gG} {M : Mp} {x : Nat} {tg : Nat → Nat} {A : Nat → Nat → Nat} {pr br : Nat → Bool} {np : Nat → Nat} {hh : Nat → Nat → Nat} {ne nb no : Nat} {sc : Nat → Int32} {ar : Nat → Nat → Int32} (hlx : l.stackTraces = false) (hI : RI g M x tg A pr br np hh ne nb no sc ar) (p0 p1 : Int32) : Met l yL_two (Cond.codeWith yL_two cL_two 5 (some .int) [(0, 75, 76, 36), (0, 75, 81, 29), (0, 75, 86, 31)] :: WA) { frames := 8, cells := 6, slots := 230, locals := 127 } (Wc g M [.ref x, .int 0, .int p0, .int p1]) (wrQ (S := Int32) g (fun u_ => (some (.int u_))) (fun u_ M_ => lqB (inx p0 3) (inr p1 (-10) 10) (u_ = ar 3 p0.toNatClampNeg ∧ RIx g M_ M x tg (sc) (ua ar 3 (upd (ar 3) p0.toNatClampNeg p1))) (u_ = (-101) ∧ M_ = M) (u_ = (-102) ∧ M_ = M))) 6 230 (gA g) := by
  refine ofT (by decide +kernel) (Nat.le_of_ble_eq_true rfl) (fun p e s m args below meth c ls C hr hlocks ht hE hH hl ea => ?_)
  have hl : lv_has ls 5 [(0, .ref x), (1, .int 0), (2, .int p0), (3, .int p1)] := hl
  have hS : va_S (gA g) s.heap s.heap [] := va_S.rf
  obtain ⟨-, iX, -⟩ := id hI
  refine lv_iload_n C.1 C.2.1 dL_two_0 rfl (lv_at hl 1 rfl) ?_
  refine lv_if_ne (tgt := 13) C.1 C.2.1 dL_two_1 (by decide) (fun c1 => ?_) (fun c1 => ?_)
  · exact absurd c1 (by decide)
  · refine lv_aload_n C.1 C.2.1 dL_two_4 rfl (lv_at hl 0 rfl) ?_
    refine lv_iload_n C.1 C.2.1 dL_two_5 rfl (lv_at hl 2 rfl) ?_
    refine lv_iload_n C.1 C.2.1 dL_two_6 rfl (lv_at hl 3 rfl) ?_
    refine xw_go1 (xrunV C hE hH hS (w_water hlx hI p0 p1) mv_X5_water wm_317 iX.1 rfl rfl hl.1 dL_two_7 rfl rfl ⟨rfl, rfl⟩ ⟨Nat.le_of_ble_eq_true rfl, Nat.le_of_ble_eq_true rfl⟩ (Nat.le_of_ble_eq_true rfl) ⟨Nat.le_of_ble_eq_true rfl, Nat.le_of_ble_eq_true rfl⟩) hS (fun E ce q9 H1 locs1 hx9 hz9 ho9 hS9 hce hcv hcl => ?_) (fun u M1 H locs hp hH hS => ?_)
    · rcases hx9 with ⟨rfl, z1⟩ | ⟨rfl, z1, z2⟩
      · refine vx_catch (pc := 7) (name := xIO) C.2.2.2.1 [] ⟨0, 75, 76, 36⟩ [⟨0, 75, 81, 29⟩, ⟨0, 75, 86, 31⟩] (ht.trans rfl) (fun z hz => (List.not_mem_nil hz).elim) (by decide) (by decide) (C.2.2.2.2 _ wm_316) ((hE.2.2.2.2.2.2.2.1 xIO (by decide)).use rfl) hce hcv hcl ?_
        refine lv_astore (lv' := [(4, .ref q9), (0, .ref x), (1, .int 0), (2, .int p0), (3, .int p1)]) C.1 C.2.1 dL_two_76 hl (by decide) rfl (fun ls hl => ?_)
        refine lv_bipush (v := -101) C.1 C.2.1 dL_two_78 rfl ?_
        exact wr_iret (-101) C hr hlocks (Hw_ext hH ho9) hS9 rfl (Or.inr (Or.inl ⟨z1, rfl, rfl⟩)) (by decide) (by decide) dL_two_80
      · refine vx_catch (pc := 7) (name := xIA) C.2.2.2.1 [⟨0, 75, 76, 36⟩] ⟨0, 75, 81, 29⟩ [⟨0, 75, 86, 31⟩] (ht.trans rfl) (fun z hz => by rw [List.mem_singleton] at hz; subst hz; exact Or.inr ⟨by decide, xIO, C.2.2.2.2 _ wm_316, hE.2.2.2.2.2.2.1 (xIA, xIO) (by decide)⟩) (by decide) (by decide) (C.2.2.2.2 _ wm_130) ((hE.2.2.2.2.2.2.2.1 xIA (by decide)).use rfl) hce hcv hcl ?_
        refine lv_astore (lv' := [(4, .ref q9), (0, .ref x), (1, .int 0), (2, .int p0), (3, .int p1)]) C.1 C.2.1 dL_two_81 hl (by decide) rfl (fun ls hl => ?_)
        refine lv_bipush (v := -102) C.1 C.2.1 dL_two_83 rfl ?_
        exact wr_iret (-102) C hr hlocks (Hw_ext hH ho9) hS9 rfl (Or.inr (Or.inr (⟨⟨z1, z2⟩, rfl, rfl⟩))) (by decide) (by decide) dL_two_85
    refine lv_goto (tgt := 75) C.1 C.2.1 dL_two_10 (by decide) ?_
    exact wr_iret (ar 3 p0.toNatClampNeg) C hr hlocks hH hS rfl (Or.inl ⟨hp.1, rfl, hp.2⟩) (by decide) (by decide) dL_two_75
set_option maxHeartbeats 4000000 in
set_option maxRecDepth 100000 in
theorem l_yarn {l : Launch} {g : gG} {M : Mp} {x : Nat} {tg : Nat → Nat} {A : Nat → Nat → Nat} {pr br : Nat → Bool} {np : Nat → Nat} {hh : Nat → Nat → Nat} {ne nb no : Nat} {sc : Nat → Int32} {ar : Nat → Nat → Int32} (hlx : l.stackTraces = false) (hI : RI g M x tg A pr br np hh ne nb no sc ar) (p0 p1 p2 : Int32) : Met l yL_yarns (Cond.codeWith yL_yarns cL_yarns 5 (some .int) [(0, 7, 8, 36), (0, 7, 13, 29)] :: WA) { frames := 8, cells := 6, slots := 230, locals := 128 } (Wc g M [.ref x, .int p0, .int p1, .int p2]) (wrQ (S := Int32) g (fun u_ => (some (.int u_))) (fun u_ M_ => lqB (inx p0 4) ((inr p1 (-10) 10 ∧ inr p2 (-10) 10)) (u_ = ar 4 (2 * p0.toNatClampNeg) ∧ RIx g M_ M x tg (sc) (ua ar 4 (upd (upd (ar 4) (2 * p0.toNatClampNeg) p1) (2 * p0.toNatClampNeg + 1) p2))) (u_ = (-101) ∧ M_ = M) (u_ = (-102) ∧ M_ = M))) 6 230 (gA g) := by
  refine ofT (by decide +kernel) (Nat.le_of_ble_eq_true rfl) (fun p e s m args below meth c ls C hr hlocks ht hE hH hl ea => ?_)
  have hl : lv_has ls 5 [(0, .ref x), (1, .int p0), (2, .int p1), (3, .int p2)] := hl
  have hS : va_S (gA g) s.heap s.heap [] := va_S.rf
  obtain ⟨-, iX, -⟩ := id hI
  refine lv_aload_n C.1 C.2.1 dL_yarns_0 rfl (lv_at hl 0 rfl) ?_
  refine lv_iload_n C.1 C.2.1 dL_yarns_1 rfl (lv_at hl 1 rfl) ?_
  refine lv_iload_n C.1 C.2.1 dL_yarns_2 rfl (lv_at hl 2 rfl) ?_
  refine lv_iload_n C.1 C.2.1 dL_yarns_3 rfl (lv_at hl 3 rfl) ?_
  refine xw_go1 (xrunV C hE hH hS (w_yarn hlx hI p0 p1 p2) mv_X5_yarn wm_504 iX.1 rfl rfl hl.1 dL_yarns_4 rfl rfl ⟨rfl, rfl⟩ ⟨Nat.le_of_ble_eq_true rfl, Nat.le_of_ble_eq_true rfl⟩ (Nat.le_of_ble_eq_true rfl) ⟨Nat.le_of_ble_eq_true rfl, Nat.le_of_ble_eq_true rfl⟩) hS (fun E ce q9 H1 locs1 hx9 hz9 ho9 hS9 hce hcv hcl => ?_) (fun u M1 H locs hp hH hS => ?_)
  · rcases hx9 with ⟨rfl, z1⟩ | ⟨rfl, z1, z2⟩
    · refine vx_catch (pc := 4) (name := xIO) C.2.2.2.1 [] ⟨0, 7, 8, 36⟩ [⟨0, 7, 13, 29⟩] (ht.trans rfl) (fun z hz => (List.not_mem_nil hz).elim) (by decide) (by decide) (C.2.2.2.2 _ wm_316) ((hE.2.2.2.2.2.2.2.1 xIO (by decide)).use rfl) hce hcv hcl ?_
      refine lv_astore (lv' := [(4, .ref q9), (0, .ref x), (1, .int p0), (2, .int p1), (3, .int p2)]) C.1 C.2.1 dL_yarns_8 hl (by decide) rfl (fun ls hl => ?_)
      refine lv_bipush (v := -101) C.1 C.2.1 dL_yarns_10 rfl ?_
      exact wr_iret (-101) C hr hlocks (Hw_ext hH ho9) hS9 rfl (Or.inr (Or.inl ⟨z1, rfl, rfl⟩)) (by decide) (by decide) dL_yarns_12
    · refine vx_catch (pc := 4) (name := xIA) C.2.2.2.1 [⟨0, 7, 8, 36⟩] ⟨0, 7, 13, 29⟩ [] (ht.trans rfl) (fun z hz => by rw [List.mem_singleton] at hz; subst hz; exact Or.inr ⟨by decide, xIO, C.2.2.2.2 _ wm_316, hE.2.2.2.2.2.2.1 (xIA, xIO) (by decide)⟩) (by decide) (by decide) (C.2.2.2.2 _ wm_130) ((hE.2.2.2.2.2.2.2.1 xIA (by decide)).use rfl) hce hcv hcl ?_
      refine lv_astore (lv' := [(4, .ref q9), (0, .ref x), (1, .int p0), (2, .int p1), (3, .int p2)]) C.1 C.2.1 dL_yarns_13 hl (by decide) rfl (fun ls hl => ?_)
      refine lv_bipush (v := -102) C.1 C.2.1 dL_yarns_15 rfl ?_
      exact wr_iret (-102) C hr hlocks (Hw_ext hH ho9) hS9 rfl (Or.inr (Or.inr (⟨⟨z1, z2⟩, rfl, rfl⟩))) (by decide) (by decide) dL_yarns_17
  exact wr_iret (ar 4 (2 * p0.toNatClampNeg)) C hr hlocks hH hS rfl (Or.inl ⟨hp.1, rfl, hp.2⟩) (by decide) (by decide) dL_yarns_7
set_option maxHeartbeats 4000000 in
set_option maxRecDepth 100000 in
theorem l_apart {l : Launch} {g : gG} {M : Mp} {x : Nat} {tg : Nat → Nat} {A : Nat → Nat → Nat} {pr br : Nat → Bool} {np : Nat → Nat} {hh : Nat → Nat → Nat} {ne nb no : Nat} {sc : Nat → Int32} {ar : Nat → Nat → Int32} (hlx : l.stackTraces = false) (hI : RI g M x tg A pr br np hh ne nb no sc ar) (p0 p1 : Int32) : Met l yL_two (Cond.codeWith yL_two cL_two 5 (some .int) [(0, 75, 76, 36), (0, 75, 81, 29), (0, 75, 86, 31)] :: WA) { frames := 9, cells := 6, slots := 230, locals := 148 } (Wc g M [.ref x, .int 5, .int p0, .int p1]) (wrQ (S := Int32) g (fun u_ => (some (.int u_))) (fun u_ M_ => lqA ((inx p0 ne ∧ inx p1 ne)) (u_ = zd (ar 1 (2 * p0.toNatClampNeg)) (ar 1 (2 * p0.toNatClampNeg + 1)) (ar 1 (2 * p1.toNatClampNeg)) (ar 1 (2 * p1.toNatClampNeg + 1)) ∧ M_ = M) (u_ = (-101) ∧ M_ = M))) 6 230 (gA g) := by
  refine ofT (by decide +kernel) (Nat.le_of_ble_eq_true rfl) (fun p e s m args below meth c ls C hr hlocks ht hE hH hl ea => ?_)
  have hl : lv_has ls 5 [(0, .ref x), (1, .int 5), (2, .int p0), (3, .int p1)] := hl
  have hS : va_S (gA g) s.heap s.heap [] := va_S.rf
  obtain ⟨-, iX, -⟩ := id hI
  refine lv_iload_n C.1 C.2.1 dL_two_0 rfl (lv_at hl 1 rfl) ?_
  refine lv_if_ne (tgt := 13) C.1 C.2.1 dL_two_1 (by decide) (fun c1 => ?_) (fun c1 => ?_)
  · refine lv_iload_n C.1 C.2.1 dL_two_13 rfl (lv_at hl 1 rfl) ?_
    refine lv_iconst (v := 1) C.1 C.2.1 dL_two_14 rfl ?_
    refine lv_icmp_ne (tgt := 27) C.1 C.2.1 dL_two_15 (by decide) (fun c15 => ?_) (fun c15 => ?_)
    · refine lv_iload_n C.1 C.2.1 dL_two_27 rfl (lv_at hl 1 rfl) ?_
      refine lv_iconst (v := 2) C.1 C.2.1 dL_two_28 rfl ?_
      refine lv_icmp_ne (tgt := 41) C.1 C.2.1 dL_two_29 (by decide) (fun c29 => ?_) (fun c29 => ?_)
      · refine lv_iload_n C.1 C.2.1 dL_two_41 rfl (lv_at hl 1 rfl) ?_
        refine lv_iconst (v := 3) C.1 C.2.1 dL_two_42 rfl ?_
        refine lv_icmp_ne (tgt := 55) C.1 C.2.1 dL_two_43 (by decide) (fun c43 => ?_) (fun c43 => ?_)
        · refine lv_iload_n C.1 C.2.1 dL_two_55 rfl (lv_at hl 1 rfl) ?_
          refine lv_iconst (v := 4) C.1 C.2.1 dL_two_56 rfl ?_
          refine lv_icmp_ne (tgt := 69) C.1 C.2.1 dL_two_57 (by decide) (fun c57 => ?_) (fun c57 => ?_)
          · refine lv_aload_n C.1 C.2.1 dL_two_69 rfl (lv_at hl 0 rfl) ?_
            refine lv_iload_n C.1 C.2.1 dL_two_70 rfl (lv_at hl 2 rfl) ?_
            refine lv_iload_n C.1 C.2.1 dL_two_71 rfl (lv_at hl 3 rfl) ?_
            refine xr_go1 (xrunV C hE hH hS (r_apart hlx hI p0 p1) mv_X5_apart wm_496 iX.1 rfl rfl hl.1 dL_two_72 rfl rfl ⟨rfl, rfl⟩ ⟨Nat.le_of_ble_eq_true rfl, Nat.le_of_ble_eq_true rfl⟩ (Nat.le_of_ble_eq_true rfl) ⟨Nat.le_of_ble_eq_true rfl, Nat.le_of_ble_eq_true rfl⟩) (fun E ce q9 H1 hx9 hz9 ho9 hce hcv hcl => ?_) (fun hp => ?_)
            · rcases hx9 with ⟨rfl, z1⟩
              · refine vx_catch (pc := 72) (name := xIO) C.2.2.2.1 [] ⟨0, 75, 76, 36⟩ [⟨0, 75, 81, 29⟩, ⟨0, 75, 86, 31⟩] (ht.trans rfl) (fun z hz => (List.not_mem_nil hz).elim) (by decide) (by decide) (C.2.2.2.2 _ wm_316) ((hE.2.2.2.2.2.2.2.1 xIO (by decide)).use rfl) hce hcv hcl ?_
                refine lv_astore (lv' := [(4, .ref q9), (0, .ref x), (1, .int 5), (2, .int p0), (3, .int p1)]) C.1 C.2.1 dL_two_76 hl (by decide) rfl (fun ls hl => ?_)
                refine lv_bipush (v := -101) C.1 C.2.1 dL_two_78 rfl ?_
                exact wr_iret (-101) C hr hlocks (Hw_ext hH ho9) ⟨hz9, fun q h _ => ho9 q h, fun _ h => by cases h⟩ rfl (Or.inr (⟨z1, rfl, rfl⟩)) (by decide) (by decide) dL_two_80
            exact wr_iret (zd (ar 1 (2 * p0.toNatClampNeg)) (ar 1 (2 * p0.toNatClampNeg + 1)) (ar 1 (2 * p1.toNatClampNeg)) (ar 1 (2 * p1.toNatClampNeg + 1))) C hr hlocks hH hS rfl (Or.inl ⟨hp, rfl, rfl⟩) (by decide) (by decide) dL_two_75
          · exact absurd c57 (by decide)
        · exact absurd c43 (by decide)
      · exact absurd c29 (by decide)
    · exact absurd c15 (by decide)
  · exact absurd c1 (by decide)
set_option maxHeartbeats 4000000 in
set_option maxRecDepth 100000 in
theorem l_bath {l : Launch} {g : gG} {M : Mp} {x : Nat} {tg : Nat → Nat} {A : Nat → Nat → Nat} {pr br : Nat → Bool} {np : Nat → Nat} {hh : Nat → Nat → Nat} {ne nb no : Nat} {sc : Nat → Int32} {ar : Nat → Nat → Int32} (hlx : l.stackTraces = false) (hI : RI g M x tg A pr br np hh ne nb no sc ar) (p0 p1 : Int32) : Met l yL_two (Cond.codeWith yL_two cL_two 5 (some .int) [(0, 75, 76, 36), (0, 75, 81, 29), (0, 75, 86, 31)] :: WA) { frames := 9, cells := 6, slots := 230, locals := 215 } (Wc g M [.ref x, .int 1, .int p0, .int p1]) (wrQ (S := Int32) g (fun u_ => (some (.int u_))) (fun u_ M_ => lqB ((inx p0 3 ∧ inx p1 ne)) (sc 5 < 10) (u_ = sc 5 ∧ RIx g M_ M x tg (us sc 5 (sc 5 + 1)) (ua (ua (ua ar 6 (upd (ar 6) (sc 5).toNatClampNeg p0)) 7 (upd (ar 7) (sc 5).toNatClampNeg p1)) 8 (upd (ar 8) (sc 5).toNatClampNeg 100))) (u_ = (-101) ∧ M_ = M) (u_ = (-103) ∧ M_ = M))) 6 230 (gA g) := by
  refine ofT (by decide +kernel) (Nat.le_of_ble_eq_true rfl) (fun p e s m args below meth c ls C hr hlocks ht hE hH hl ea => ?_)
  have hl : lv_has ls 5 [(0, .ref x), (1, .int 1), (2, .int p0), (3, .int p1)] := hl
  have hS : va_S (gA g) s.heap s.heap [] := va_S.rf
  obtain ⟨-, iX, -⟩ := id hI
  refine lv_iload_n C.1 C.2.1 dL_two_0 rfl (lv_at hl 1 rfl) ?_
  refine lv_if_ne (tgt := 13) C.1 C.2.1 dL_two_1 (by decide) (fun c1 => ?_) (fun c1 => ?_)
  · refine lv_iload_n C.1 C.2.1 dL_two_13 rfl (lv_at hl 1 rfl) ?_
    refine lv_iconst (v := 1) C.1 C.2.1 dL_two_14 rfl ?_
    refine lv_icmp_ne (tgt := 27) C.1 C.2.1 dL_two_15 (by decide) (fun c15 => ?_) (fun c15 => ?_)
    · exact absurd c15 (by decide)
    · refine lv_aload_n C.1 C.2.1 dL_two_18 rfl (lv_at hl 0 rfl) ?_
      refine lv_iload_n C.1 C.2.1 dL_two_19 rfl (lv_at hl 2 rfl) ?_
      refine lv_iload_n C.1 C.2.1 dL_two_20 rfl (lv_at hl 3 rfl) ?_
      refine xw_go1 (xrunV C hE hH hS (w_bath hlx hI p0 p1) mv_X5_bath wm_340 iX.1 rfl rfl hl.1 dL_two_21 rfl rfl ⟨rfl, rfl⟩ ⟨Nat.le_of_ble_eq_true rfl, Nat.le_of_ble_eq_true rfl⟩ (Nat.le_of_ble_eq_true rfl) ⟨Nat.le_of_ble_eq_true rfl, Nat.le_of_ble_eq_true rfl⟩) hS (fun E ce q9 H1 locs1 hx9 hz9 ho9 hS9 hce hcv hcl => ?_) (fun u M1 H locs hp hH hS => ?_)
      · rcases hx9 with ⟨rfl, z1⟩ | ⟨rfl, z1, z2⟩
        · refine vx_catch (pc := 21) (name := xIO) C.2.2.2.1 [] ⟨0, 75, 76, 36⟩ [⟨0, 75, 81, 29⟩, ⟨0, 75, 86, 31⟩] (ht.trans rfl) (fun z hz => (List.not_mem_nil hz).elim) (by decide) (by decide) (C.2.2.2.2 _ wm_316) ((hE.2.2.2.2.2.2.2.1 xIO (by decide)).use rfl) hce hcv hcl ?_
          refine lv_astore (lv' := [(4, .ref q9), (0, .ref x), (1, .int 1), (2, .int p0), (3, .int p1)]) C.1 C.2.1 dL_two_76 hl (by decide) rfl (fun ls hl => ?_)
          refine lv_bipush (v := -101) C.1 C.2.1 dL_two_78 rfl ?_
          exact wr_iret (-101) C hr hlocks (Hw_ext hH ho9) hS9 rfl (Or.inr (Or.inl ⟨z1, rfl, rfl⟩)) (by decide) (by decide) dL_two_80
        · refine vx_catch (pc := 21) (name := xIS) C.2.2.2.1 [⟨0, 75, 76, 36⟩, ⟨0, 75, 81, 29⟩] ⟨0, 75, 86, 31⟩ [] (ht.trans rfl) (fun z hz => by rcases List.mem_cons.mp hz with rfl | hz; exact Or.inr ⟨by decide, xIO, C.2.2.2.2 _ wm_316, hE.2.2.2.2.2.2.1 (xIS, xIO) (by decide)⟩; rw [List.mem_singleton] at hz; subst hz; exact Or.inr ⟨by decide, xIA, C.2.2.2.2 _ wm_130, hE.2.2.2.2.2.2.1 (xIS, xIA) (by decide)⟩) (by decide) (by decide) (C.2.2.2.2 _ wm_131) ((hE.2.2.2.2.2.2.2.1 xIS (by decide)).use rfl) hce hcv hcl ?_
          refine lv_astore (lv' := [(4, .ref q9), (0, .ref x), (1, .int 1), (2, .int p0), (3, .int p1)]) C.1 C.2.1 dL_two_86 hl (by decide) rfl (fun ls hl => ?_)
          refine lv_bipush (v := -103) C.1 C.2.1 dL_two_88 rfl ?_
          exact wr_iret (-103) C hr hlocks (Hw_ext hH ho9) hS9 rfl (Or.inr (Or.inr (⟨⟨z1, z2⟩, rfl, rfl⟩))) (by decide) (by decide) dL_two_90
      refine lv_goto (tgt := 75) C.1 C.2.1 dL_two_24 (by decide) ?_
      exact wr_iret (sc 5) C hr hlocks hH hS rfl (Or.inl ⟨hp.1, rfl, hp.2⟩) (by decide) (by decide) dL_two_75
  · exact absurd c1 (by decide)
set_option maxHeartbeats 4000000 in
set_option maxRecDepth 100000 in
theorem l_freshen {l : Launch} {g : gG} {M : Mp} {x : Nat} {tg : Nat → Nat} {A : Nat → Nat → Nat} {pr br : Nat → Bool} {np : Nat → Nat} {hh : Nat → Nat → Nat} {ne nb no : Nat} {sc : Nat → Int32} {ar : Nat → Nat → Int32} (hlx : l.stackTraces = false) (hI : RI g M x tg A pr br np hh ne nb no sc ar) (p0 : Int32) : Met l yL_one (Cond.codeWith yL_one cL_one 4 (some .int) [(0, 43, 44, 36)] :: WA) { frames := 9, cells := 6, slots := 230, locals := 145 } (Wc g M [.ref x, .int 0, .int p0]) (wrQ (S := Int32) g (fun u_ => (some (.int u_))) (fun u_ M_ => lqA (inx p0 nb) (u_ = ar 8 p0.toNatClampNeg ∧ RIx g M_ M x tg (sc) (ua ar 8 (upd (ar 8) p0.toNatClampNeg 100))) (u_ = (-101) ∧ M_ = M))) 6 230 (gA g) := by
  refine ofT (by decide +kernel) (Nat.le_of_ble_eq_true rfl) (fun p e s m args below meth c ls C hr hlocks ht hE hH hl ea => ?_)
  have hl : lv_has ls 4 [(0, .ref x), (1, .int 0), (2, .int p0)] := hl
  have hS : va_S (gA g) s.heap s.heap [] := va_S.rf
  obtain ⟨-, iX, -⟩ := id hI
  refine lv_iload_n C.1 C.2.1 dL_one_0 rfl (lv_at hl 1 rfl) ?_
  refine lv_if_ne (tgt := 12) C.1 C.2.1 dL_one_1 (by decide) (fun c1 => ?_) (fun c1 => ?_)
  · exact absurd c1 (by decide)
  · refine lv_aload_n C.1 C.2.1 dL_one_4 rfl (lv_at hl 0 rfl) ?_
    refine lv_iload_n C.1 C.2.1 dL_one_5 rfl (lv_at hl 2 rfl) ?_
    refine xw_go1 (xrunV C hE hH hS (w_freshen hlx hI p0) mv_X5_freshen wm_511 iX.1 rfl rfl hl.1 dL_one_6 rfl rfl ⟨rfl, rfl⟩ ⟨Nat.le_of_ble_eq_true rfl, Nat.le_of_ble_eq_true rfl⟩ (Nat.le_of_ble_eq_true rfl) ⟨Nat.le_of_ble_eq_true rfl, Nat.le_of_ble_eq_true rfl⟩) hS (fun E ce q9 H1 locs1 hx9 hz9 ho9 hS9 hce hcv hcl => ?_) (fun u M1 H locs hp hH hS => ?_)
    · rcases hx9 with ⟨rfl, z1⟩
      · refine vx_catch (pc := 6) (name := xIO) C.2.2.2.1 [] ⟨0, 43, 44, 36⟩ [] (ht.trans rfl) (fun z hz => (List.not_mem_nil hz).elim) (by decide) (by decide) (C.2.2.2.2 _ wm_316) ((hE.2.2.2.2.2.2.2.1 xIO (by decide)).use rfl) hce hcv hcl ?_
        refine lv_astore_n (lv' := [(3, .ref q9), (0, .ref x), (1, .int 0), (2, .int p0)]) C.1 C.2.1 dL_one_44 rfl hl (by decide) rfl (fun ls hl => ?_)
        refine lv_bipush (v := -101) C.1 C.2.1 dL_one_45 rfl ?_
        exact wr_iret (-101) C hr hlocks (Hw_ext hH ho9) hS9 rfl (Or.inr (⟨z1, rfl, rfl⟩)) (by decide) (by decide) dL_one_47
    refine lv_goto (tgt := 43) C.1 C.2.1 dL_one_9 (by decide) ?_
    exact wr_iret (ar 8 p0.toNatClampNeg) C hr hlocks hH hS rfl (Or.inl ⟨hp.1, rfl, hp.2⟩) (by decide) (by decide) dL_one_43
set_option maxHeartbeats 4000000 in
set_option maxRecDepth 100000 in
theorem l_strength {l : Launch} {g : gG} {M : Mp} {x : Nat} {tg : Nat → Nat} {A : Nat → Nat → Nat} {pr br : Nat → Bool} {np : Nat → Nat} {hh : Nat → Nat → Nat} {ne nb no : Nat} {sc : Nat → Int32} {ar : Nat → Nat → Int32} (hlx : l.stackTraces = false) (hI : RI g M x tg A pr br np hh ne nb no sc ar) (p0 : Int32) : Met l yL_one (Cond.codeWith yL_one cL_one 4 (some .int) [(0, 43, 44, 36)] :: WA) { frames := 9, cells := 6, slots := 230, locals := 145 } (Wc g M [.ref x, .int 1, .int p0]) (wrQ (S := Int32) g (fun u_ => (some (.int u_))) (fun u_ M_ => lqA (inx p0 nb) (u_ = ar 8 p0.toNatClampNeg ∧ M_ = M) (u_ = (-101) ∧ M_ = M))) 6 230 (gA g) := by
  refine ofT (by decide +kernel) (Nat.le_of_ble_eq_true rfl) (fun p e s m args below meth c ls C hr hlocks ht hE hH hl ea => ?_)
  have hl : lv_has ls 4 [(0, .ref x), (1, .int 1), (2, .int p0)] := hl
  have hS : va_S (gA g) s.heap s.heap [] := va_S.rf
  obtain ⟨-, iX, -⟩ := id hI
  refine lv_iload_n C.1 C.2.1 dL_one_0 rfl (lv_at hl 1 rfl) ?_
  refine lv_if_ne (tgt := 12) C.1 C.2.1 dL_one_1 (by decide) (fun c1 => ?_) (fun c1 => ?_)
  · refine lv_iload_n C.1 C.2.1 dL_one_12 rfl (lv_at hl 1 rfl) ?_
    refine lv_iconst (v := 1) C.1 C.2.1 dL_one_13 rfl ?_
    refine lv_icmp_ne (tgt := 25) C.1 C.2.1 dL_one_14 (by decide) (fun c14 => ?_) (fun c14 => ?_)
    · exact absurd c14 (by decide)
    · refine lv_aload_n C.1 C.2.1 dL_one_17 rfl (lv_at hl 0 rfl) ?_
      refine lv_iload_n C.1 C.2.1 dL_one_18 rfl (lv_at hl 2 rfl) ?_
      refine xr_go1 (xrunV C hE hH hS (r_strength hlx hI p0) mv_X5_strength wm_519 iX.1 rfl rfl hl.1 dL_one_19 rfl rfl ⟨rfl, rfl⟩ ⟨Nat.le_of_ble_eq_true rfl, Nat.le_of_ble_eq_true rfl⟩ (Nat.le_of_ble_eq_true rfl) ⟨Nat.le_of_ble_eq_true rfl, Nat.le_of_ble_eq_true rfl⟩) (fun E ce q9 H1 hx9 hz9 ho9 hce hcv hcl => ?_) (fun hp => ?_)
      · rcases hx9 with ⟨rfl, z1⟩
        · refine vx_catch (pc := 19) (name := xIO) C.2.2.2.1 [] ⟨0, 43, 44, 36⟩ [] (ht.trans rfl) (fun z hz => (List.not_mem_nil hz).elim) (by decide) (by decide) (C.2.2.2.2 _ wm_316) ((hE.2.2.2.2.2.2.2.1 xIO (by decide)).use rfl) hce hcv hcl ?_
          refine lv_astore_n (lv' := [(3, .ref q9), (0, .ref x), (1, .int 1), (2, .int p0)]) C.1 C.2.1 dL_one_44 rfl hl (by decide) rfl (fun ls hl => ?_)
          refine lv_bipush (v := -101) C.1 C.2.1 dL_one_45 rfl ?_
          exact wr_iret (-101) C hr hlocks (Hw_ext hH ho9) ⟨hz9, fun q h _ => ho9 q h, fun _ h => by cases h⟩ rfl (Or.inr (⟨z1, rfl, rfl⟩)) (by decide) (by decide) dL_one_47
      refine lv_goto (tgt := 43) C.1 C.2.1 dL_one_22 (by decide) ?_
      exact wr_iret (ar 8 p0.toNatClampNeg) C hr hlocks hH hS rfl (Or.inl ⟨hp, rfl, rfl⟩) (by decide) (by decide) dL_one_43
  · exact absurd c1 (by decide)
set_option maxHeartbeats 4000000 in
set_option maxRecDepth 100000 in
theorem l_order {l : Launch} {g : gG} {M : Mp} {x : Nat} {tg : Nat → Nat} {A : Nat → Nat → Nat} {pr br : Nat → Bool} {np : Nat → Nat} {hh : Nat → Nat → Nat} {ne nb no : Nat} {sc : Nat → Int32} {ar : Nat → Nat → Int32} (hlx : l.stackTraces = false) (hI : RI g M x tg A pr br np hh ne nb no sc ar) (p0 p1 p2 : Int32) : Met l yL_orders (Cond.codeWith yL_orders cL_orders 5 (some .int) [(0, 7, 8, 36), (0, 7, 13, 29), (0, 7, 18, 31)] :: WA) { frames := 9, cells := 6, slots := 230, locals := 216 } (Wc g M [.ref x, .int p0, .int p1, .int p2]) (wrQ (S := Int32) g (fun u_ => (some (.int u_))) (fun u_ M_ => lqC ((inx p0 ne ∧ inx p2 4)) (inr p1 1 40) (sc 9 < 40) (u_ = sc 9 ∧ RIx g M_ M x tg (us sc 9 (sc 9 + 1)) (ua (ua (ua ar 10 (upd (ar 10) (sc 9).toNatClampNeg p0)) 11 (upd (ar 11) (sc 9).toNatClampNeg p1)) 12 (upd (ar 12) (sc 9).toNatClampNeg p2))) (u_ = (-101) ∧ M_ = M) (u_ = (-102) ∧ M_ = M) (u_ = (-103) ∧ M_ = M))) 6 230 (gA g) := by
  refine ofT (by decide +kernel) (Nat.le_of_ble_eq_true rfl) (fun p e s m args below meth c ls C hr hlocks ht hE hH hl ea => ?_)
  have hl : lv_has ls 5 [(0, .ref x), (1, .int p0), (2, .int p1), (3, .int p2)] := hl
  have hS : va_S (gA g) s.heap s.heap [] := va_S.rf
  obtain ⟨-, iX, -⟩ := id hI
  refine lv_aload_n C.1 C.2.1 dL_orders_0 rfl (lv_at hl 0 rfl) ?_
  refine lv_iload_n C.1 C.2.1 dL_orders_1 rfl (lv_at hl 1 rfl) ?_
  refine lv_iload_n C.1 C.2.1 dL_orders_2 rfl (lv_at hl 2 rfl) ?_
  refine lv_iload_n C.1 C.2.1 dL_orders_3 rfl (lv_at hl 3 rfl) ?_
  refine xw_go1 (xrunV C hE hH hS (w_order hlx hI p0 p1 p2) mv_X5_order wm_557 iX.1 rfl rfl hl.1 dL_orders_4 rfl rfl ⟨rfl, rfl⟩ ⟨Nat.le_of_ble_eq_true rfl, Nat.le_of_ble_eq_true rfl⟩ (Nat.le_of_ble_eq_true rfl) ⟨Nat.le_of_ble_eq_true rfl, Nat.le_of_ble_eq_true rfl⟩) hS (fun E ce q9 H1 locs1 hx9 hz9 ho9 hS9 hce hcv hcl => ?_) (fun u M1 H locs hp hH hS => ?_)
  · rcases hx9 with ⟨rfl, z1⟩ | ⟨rfl, z1, z2⟩ | ⟨rfl, z1, z2, z3⟩
    · refine vx_catch (pc := 4) (name := xIO) C.2.2.2.1 [] ⟨0, 7, 8, 36⟩ [⟨0, 7, 13, 29⟩, ⟨0, 7, 18, 31⟩] (ht.trans rfl) (fun z hz => (List.not_mem_nil hz).elim) (by decide) (by decide) (C.2.2.2.2 _ wm_316) ((hE.2.2.2.2.2.2.2.1 xIO (by decide)).use rfl) hce hcv hcl ?_
      refine lv_astore (lv' := [(4, .ref q9), (0, .ref x), (1, .int p0), (2, .int p1), (3, .int p2)]) C.1 C.2.1 dL_orders_8 hl (by decide) rfl (fun ls hl => ?_)
      refine lv_bipush (v := -101) C.1 C.2.1 dL_orders_10 rfl ?_
      exact wr_iret (-101) C hr hlocks (Hw_ext hH ho9) hS9 rfl (Or.inr (Or.inl ⟨z1, rfl, rfl⟩)) (by decide) (by decide) dL_orders_12
    · refine vx_catch (pc := 4) (name := xIA) C.2.2.2.1 [⟨0, 7, 8, 36⟩] ⟨0, 7, 13, 29⟩ [⟨0, 7, 18, 31⟩] (ht.trans rfl) (fun z hz => by rw [List.mem_singleton] at hz; subst hz; exact Or.inr ⟨by decide, xIO, C.2.2.2.2 _ wm_316, hE.2.2.2.2.2.2.1 (xIA, xIO) (by decide)⟩) (by decide) (by decide) (C.2.2.2.2 _ wm_130) ((hE.2.2.2.2.2.2.2.1 xIA (by decide)).use rfl) hce hcv hcl ?_
      refine lv_astore (lv' := [(4, .ref q9), (0, .ref x), (1, .int p0), (2, .int p1), (3, .int p2)]) C.1 C.2.1 dL_orders_13 hl (by decide) rfl (fun ls hl => ?_)
      refine lv_bipush (v := -102) C.1 C.2.1 dL_orders_15 rfl ?_
      exact wr_iret (-102) C hr hlocks (Hw_ext hH ho9) hS9 rfl (Or.inr (Or.inr (Or.inl ⟨⟨z1, z2⟩, rfl, rfl⟩))) (by decide) (by decide) dL_orders_17
    · refine vx_catch (pc := 4) (name := xIS) C.2.2.2.1 [⟨0, 7, 8, 36⟩, ⟨0, 7, 13, 29⟩] ⟨0, 7, 18, 31⟩ [] (ht.trans rfl) (fun z hz => by rcases List.mem_cons.mp hz with rfl | hz; exact Or.inr ⟨by decide, xIO, C.2.2.2.2 _ wm_316, hE.2.2.2.2.2.2.1 (xIS, xIO) (by decide)⟩; rw [List.mem_singleton] at hz; subst hz; exact Or.inr ⟨by decide, xIA, C.2.2.2.2 _ wm_130, hE.2.2.2.2.2.2.1 (xIS, xIA) (by decide)⟩) (by decide) (by decide) (C.2.2.2.2 _ wm_131) ((hE.2.2.2.2.2.2.2.1 xIS (by decide)).use rfl) hce hcv hcl ?_
      refine lv_astore (lv' := [(4, .ref q9), (0, .ref x), (1, .int p0), (2, .int p1), (3, .int p2)]) C.1 C.2.1 dL_orders_18 hl (by decide) rfl (fun ls hl => ?_)
      refine lv_bipush (v := -103) C.1 C.2.1 dL_orders_20 rfl ?_
      exact wr_iret (-103) C hr hlocks (Hw_ext hH ho9) hS9 rfl (Or.inr (Or.inr (Or.inr (⟨⟨z1, z2, z3⟩, rfl, rfl⟩)))) (by decide) (by decide) dL_orders_22
  exact wr_iret (sc 9) C hr hlocks hH hS rfl (Or.inl ⟨⟨hp.1.1.1, hp.1.1.2, hp.1.2⟩, rfl, hp.2⟩) (by decide) (by decide) dL_orders_7
set_option maxHeartbeats 4000000 in
set_option maxRecDepth 100000 in
theorem l_place {l : Launch} {g : gG} {M : Mp} {x : Nat} {tg : Nat → Nat} {A : Nat → Nat → Nat} {pr br : Nat → Bool} {np : Nat → Nat} {hh : Nat → Nat → Nat} {ne nb no : Nat} {sc : Nat → Int32} {ar : Nat → Nat → Int32} (hlx : l.stackTraces = false) (hI : RI g M x tg A pr br np hh ne nb no sc ar) (p0 p9 : Int32) : Met l yL_pieces (Cond.codeWith yL_pieces cL_pieces 5 (some .int) [(0, 45, 46, 36), (0, 45, 51, 31), (0, 45, 56, 70)] :: WA) { frames := 10, cells := 6, slots := 230, locals := 258 } (Wc g M [.ref x, .int 0, .int p0, .int p9]) (wrQ (S := Int32) g (fun u_ => (some (.int u_))) (fun u_ M_ => lqC (inx p0 no) (ar 13 p0.toNatClampNeg = 0) (¬ zpl ar p0.toNatClampNeg nb = -1) (u_ = zpl ar p0.toNatClampNeg nb ∧ RIx g M_ M x tg (sc) (zdye ar p0.toNatClampNeg (zpl ar p0.toNatClampNeg nb).toNatClampNeg)) (u_ = (-101) ∧ M_ = M) (u_ = (-102) ∧ M_ = M) (u_ = (-103) ∧ M_ = M))) 6 230 (gA g) := by
  refine ofT (by decide +kernel) (Nat.le_of_ble_eq_true rfl) (fun p e s m args below meth c ls C hr hlocks ht hE hH hl ea => ?_)
  have hl : lv_has ls 5 [(0, .ref x), (1, .int 0), (2, .int p0), (3, .int p9)] := hl
  have hS : va_S (gA g) s.heap s.heap [] := va_S.rf
  obtain ⟨-, iX, -⟩ := id hI
  refine lv_iload_n C.1 C.2.1 dL_pieces_0 rfl (lv_at hl 1 rfl) ?_
  refine lv_if_ne (tgt := 12) C.1 C.2.1 dL_pieces_1 (by decide) (fun c1 => ?_) (fun c1 => ?_)
  · exact absurd c1 (by decide)
  · refine lv_aload_n C.1 C.2.1 dL_pieces_4 rfl (lv_at hl 0 rfl) ?_
    refine lv_iload_n C.1 C.2.1 dL_pieces_5 rfl (lv_at hl 2 rfl) ?_
    refine xw_go1 (xrunV C hE hH hS (w_place hlx hI p0) mv_X5_place wm_609 iX.1 rfl rfl hl.1 dL_pieces_6 rfl rfl ⟨rfl, rfl⟩ ⟨Nat.le_of_ble_eq_true rfl, Nat.le_of_ble_eq_true rfl⟩ (Nat.le_of_ble_eq_true rfl) ⟨Nat.le_of_ble_eq_true rfl, Nat.le_of_ble_eq_true rfl⟩) hS (fun E ce q9 H1 locs1 hx9 hz9 ho9 hS9 hce hcv hcl => ?_) (fun u M1 H locs hp hH hS => ?_)
    · rcases hx9 with ⟨rfl, z1⟩ | ⟨rfl, z1, z2⟩ | ⟨rfl, z1, z2, z3⟩
      · refine vx_catch (pc := 6) (name := xIO) C.2.2.2.1 [] ⟨0, 45, 46, 36⟩ [⟨0, 45, 51, 31⟩, ⟨0, 45, 56, 70⟩] (ht.trans rfl) (fun z hz => (List.not_mem_nil hz).elim) (by decide) (by decide) (C.2.2.2.2 _ wm_316) ((hE.2.2.2.2.2.2.2.1 xIO (by decide)).use rfl) hce hcv hcl ?_
        refine lv_astore (lv' := [(4, .ref q9), (0, .ref x), (1, .int 0), (2, .int p0), (3, .int p9)]) C.1 C.2.1 dL_pieces_46 hl (by decide) rfl (fun ls hl => ?_)
        refine lv_bipush (v := -101) C.1 C.2.1 dL_pieces_48 rfl ?_
        exact wr_iret (-101) C hr hlocks (Hw_ext hH ho9) hS9 rfl (Or.inr (Or.inl ⟨z1, rfl, rfl⟩)) (by decide) (by decide) dL_pieces_50
      · refine vx_catch (pc := 6) (name := xIS) C.2.2.2.1 [⟨0, 45, 46, 36⟩] ⟨0, 45, 51, 31⟩ [⟨0, 45, 56, 70⟩] (ht.trans rfl) (fun z hz => by rw [List.mem_singleton] at hz; subst hz; exact Or.inr ⟨by decide, xIO, C.2.2.2.2 _ wm_316, hE.2.2.2.2.2.2.1 (xIS, xIO) (by decide)⟩) (by decide) (by decide) (C.2.2.2.2 _ wm_131) ((hE.2.2.2.2.2.2.2.1 xIS (by decide)).use rfl) hce hcv hcl ?_
        refine lv_astore (lv' := [(4, .ref q9), (0, .ref x), (1, .int 0), (2, .int p0), (3, .int p9)]) C.1 C.2.1 dL_pieces_51 hl (by decide) rfl (fun ls hl => ?_)
        refine lv_bipush (v := -102) C.1 C.2.1 dL_pieces_53 rfl ?_
        exact wr_iret (-102) C hr hlocks (Hw_ext hH ho9) hS9 rfl (Or.inr (Or.inr (Or.inl ⟨⟨z1, z2⟩, rfl, rfl⟩))) (by decide) (by decide) dL_pieces_55
      · refine vx_catch (pc := 6) (name := xNE) C.2.2.2.1 [⟨0, 45, 46, 36⟩, ⟨0, 45, 51, 31⟩] ⟨0, 45, 56, 70⟩ [] (ht.trans rfl) (fun z hz => by rcases List.mem_cons.mp hz with rfl | hz; exact Or.inr ⟨by decide, xIO, C.2.2.2.2 _ wm_316, hE.2.2.2.2.2.2.1 (xNE, xIO) (by decide)⟩; rw [List.mem_singleton] at hz; subst hz; exact Or.inr ⟨by decide, xIS, C.2.2.2.2 _ wm_131, hE.2.2.2.2.2.2.1 (xNE, xIS) (by decide)⟩) (by decide) (by decide) (C.2.2.2.2 _ wm_608) ((hE.2.2.2.2.2.2.2.1 xNE (by decide)).use rfl) hce hcv hcl ?_
        refine lv_astore (lv' := [(4, .ref q9), (0, .ref x), (1, .int 0), (2, .int p0), (3, .int p9)]) C.1 C.2.1 dL_pieces_56 hl (by decide) rfl (fun ls hl => ?_)
        refine lv_bipush (v := -103) C.1 C.2.1 dL_pieces_58 rfl ?_
        exact wr_iret (-103) C hr hlocks (Hw_ext hH ho9) hS9 rfl (Or.inr (Or.inr (Or.inr (⟨⟨z1, z2, z3⟩, rfl, rfl⟩)))) (by decide) (by decide) dL_pieces_60
    refine lv_goto (tgt := 45) C.1 C.2.1 dL_pieces_9 (by decide) ?_
    exact wr_iret (zpl ar p0.toNatClampNeg nb) C hr hlocks hH hS rfl (Or.inl ⟨hp.1, rfl, hp.2⟩) (by decide) (by decide) dL_pieces_45
set_option maxHeartbeats 4000000 in
set_option maxRecDepth 100000 in
theorem l_dye {l : Launch} {g : gG} {M : Mp} {x : Nat} {tg : Nat → Nat} {A : Nat → Nat → Nat} {pr br : Nat → Bool} {np : Nat → Nat} {hh : Nat → Nat → Nat} {ne nb no : Nat} {sc : Nat → Int32} {ar : Nat → Nat → Int32} (hlx : l.stackTraces = false) (hI : RI g M x tg A pr br np hh ne nb no sc ar) (p0 p1 : Int32) : Met l yL_two (Cond.codeWith yL_two cL_two 5 (some .int) [(0, 75, 76, 36), (0, 75, 81, 29), (0, 75, 86, 31)] :: WA) { frames := 10, cells := 6, slots := 230, locals := 259 } (Wc g M [.ref x, .int 2, .int p0, .int p1]) (wrQ (S := Int32) g (fun u_ => (some (.int u_))) (fun u_ M_ => lqC ((inx p0 no ∧ inx p1 nb)) (ar 7 p1.toNatClampNeg = ar 10 p0.toNatClampNeg) (ar 13 p0.toNatClampNeg = 0) (u_ = zdst ar p0.toNatClampNeg (ar 8 p1.toNatClampNeg) (zw9 ar p1.toNatClampNeg) (zy8 ar p0.toNatClampNeg) (zy9 ar p0.toNatClampNeg) ∧ RIx g M_ M x tg (sc) (zdye ar p0.toNatClampNeg p1.toNatClampNeg)) (u_ = (-101) ∧ M_ = M) (u_ = (-102) ∧ M_ = M) (u_ = (-103) ∧ M_ = M))) 6 230 (gA g) := by
  refine ofT (by decide +kernel) (Nat.le_of_ble_eq_true rfl) (fun p e s m args below meth c ls C hr hlocks ht hE hH hl ea => ?_)
  have hl : lv_has ls 5 [(0, .ref x), (1, .int 2), (2, .int p0), (3, .int p1)] := hl
  have hS : va_S (gA g) s.heap s.heap [] := va_S.rf
  obtain ⟨-, iX, -⟩ := id hI
  refine lv_iload_n C.1 C.2.1 dL_two_0 rfl (lv_at hl 1 rfl) ?_
  refine lv_if_ne (tgt := 13) C.1 C.2.1 dL_two_1 (by decide) (fun c1 => ?_) (fun c1 => ?_)
  · refine lv_iload_n C.1 C.2.1 dL_two_13 rfl (lv_at hl 1 rfl) ?_
    refine lv_iconst (v := 1) C.1 C.2.1 dL_two_14 rfl ?_
    refine lv_icmp_ne (tgt := 27) C.1 C.2.1 dL_two_15 (by decide) (fun c15 => ?_) (fun c15 => ?_)
    · refine lv_iload_n C.1 C.2.1 dL_two_27 rfl (lv_at hl 1 rfl) ?_
      refine lv_iconst (v := 2) C.1 C.2.1 dL_two_28 rfl ?_
      refine lv_icmp_ne (tgt := 41) C.1 C.2.1 dL_two_29 (by decide) (fun c29 => ?_) (fun c29 => ?_)
      · exact absurd c29 (by decide)
      · refine lv_aload_n C.1 C.2.1 dL_two_32 rfl (lv_at hl 0 rfl) ?_
        refine lv_iload_n C.1 C.2.1 dL_two_33 rfl (lv_at hl 2 rfl) ?_
        refine lv_iload_n C.1 C.2.1 dL_two_34 rfl (lv_at hl 3 rfl) ?_
        refine xw_go1 (xrunV C hE hH hS (w_dye hlx hI p0 p1) mv_X5_dye wm_391 iX.1 rfl rfl hl.1 dL_two_35 rfl rfl ⟨rfl, rfl⟩ ⟨Nat.le_of_ble_eq_true rfl, Nat.le_of_ble_eq_true rfl⟩ (Nat.le_of_ble_eq_true rfl) ⟨Nat.le_of_ble_eq_true rfl, Nat.le_of_ble_eq_true rfl⟩) hS (fun E ce q9 H1 locs1 hx9 hz9 ho9 hS9 hce hcv hcl => ?_) (fun u M1 H locs hp hH hS => ?_)
        · rcases hx9 with ⟨rfl, z1⟩ | ⟨rfl, z1, z2⟩ | ⟨rfl, z1, z2, z3⟩
          · refine vx_catch (pc := 35) (name := xIO) C.2.2.2.1 [] ⟨0, 75, 76, 36⟩ [⟨0, 75, 81, 29⟩, ⟨0, 75, 86, 31⟩] (ht.trans rfl) (fun z hz => (List.not_mem_nil hz).elim) (by decide) (by decide) (C.2.2.2.2 _ wm_316) ((hE.2.2.2.2.2.2.2.1 xIO (by decide)).use rfl) hce hcv hcl ?_
            refine lv_astore (lv' := [(4, .ref q9), (0, .ref x), (1, .int 2), (2, .int p0), (3, .int p1)]) C.1 C.2.1 dL_two_76 hl (by decide) rfl (fun ls hl => ?_)
            refine lv_bipush (v := -101) C.1 C.2.1 dL_two_78 rfl ?_
            exact wr_iret (-101) C hr hlocks (Hw_ext hH ho9) hS9 rfl (Or.inr (Or.inl ⟨z1, rfl, rfl⟩)) (by decide) (by decide) dL_two_80
          · refine vx_catch (pc := 35) (name := xIA) C.2.2.2.1 [⟨0, 75, 76, 36⟩] ⟨0, 75, 81, 29⟩ [⟨0, 75, 86, 31⟩] (ht.trans rfl) (fun z hz => by rw [List.mem_singleton] at hz; subst hz; exact Or.inr ⟨by decide, xIO, C.2.2.2.2 _ wm_316, hE.2.2.2.2.2.2.1 (xIA, xIO) (by decide)⟩) (by decide) (by decide) (C.2.2.2.2 _ wm_130) ((hE.2.2.2.2.2.2.2.1 xIA (by decide)).use rfl) hce hcv hcl ?_
            refine lv_astore (lv' := [(4, .ref q9), (0, .ref x), (1, .int 2), (2, .int p0), (3, .int p1)]) C.1 C.2.1 dL_two_81 hl (by decide) rfl (fun ls hl => ?_)
            refine lv_bipush (v := -102) C.1 C.2.1 dL_two_83 rfl ?_
            exact wr_iret (-102) C hr hlocks (Hw_ext hH ho9) hS9 rfl (Or.inr (Or.inr (Or.inl ⟨⟨z1, z2⟩, rfl, rfl⟩))) (by decide) (by decide) dL_two_85
          · refine vx_catch (pc := 35) (name := xIS) C.2.2.2.1 [⟨0, 75, 76, 36⟩, ⟨0, 75, 81, 29⟩] ⟨0, 75, 86, 31⟩ [] (ht.trans rfl) (fun z hz => by rcases List.mem_cons.mp hz with rfl | hz; exact Or.inr ⟨by decide, xIO, C.2.2.2.2 _ wm_316, hE.2.2.2.2.2.2.1 (xIS, xIO) (by decide)⟩; rw [List.mem_singleton] at hz; subst hz; exact Or.inr ⟨by decide, xIA, C.2.2.2.2 _ wm_130, hE.2.2.2.2.2.2.1 (xIS, xIA) (by decide)⟩) (by decide) (by decide) (C.2.2.2.2 _ wm_131) ((hE.2.2.2.2.2.2.2.1 xIS (by decide)).use rfl) hce hcv hcl ?_
            refine lv_astore (lv' := [(4, .ref q9), (0, .ref x), (1, .int 2), (2, .int p0), (3, .int p1)]) C.1 C.2.1 dL_two_86 hl (by decide) rfl (fun ls hl => ?_)
            refine lv_bipush (v := -103) C.1 C.2.1 dL_two_88 rfl ?_
            exact wr_iret (-103) C hr hlocks (Hw_ext hH ho9) hS9 rfl (Or.inr (Or.inr (Or.inr (⟨⟨z1, z2, z3⟩, rfl, rfl⟩)))) (by decide) (by decide) dL_two_90
        refine lv_goto (tgt := 75) C.1 C.2.1 dL_two_38 (by decide) ?_
        exact wr_iret (zdst ar p0.toNatClampNeg (ar 8 p1.toNatClampNeg) (zw9 ar p1.toNatClampNeg) (zy8 ar p0.toNatClampNeg) (zy9 ar p0.toNatClampNeg)) C hr hlocks hH hS rfl (Or.inl ⟨hp.1, rfl, hp.2⟩) (by decide) (by decide) dL_two_75
    · exact absurd c15 (by decide)
  · exact absurd c1 (by decide)
set_option maxHeartbeats 4000000 in
set_option maxRecDepth 100000 in
theorem l_claim {l : Launch} {g : gG} {M : Mp} {x : Nat} {tg : Nat → Nat} {A : Nat → Nat → Nat} {pr br : Nat → Bool} {np : Nat → Nat} {hh : Nat → Nat → Nat} {ne nb no : Nat} {sc : Nat → Int32} {ar : Nat → Nat → Int32} (hlx : l.stackTraces = false) (hI : RI g M x tg A pr br np hh ne nb no sc ar) (p0 p9 : Int32) : Met l yL_pieces (Cond.codeWith yL_pieces cL_pieces 5 (some .int) [(0, 45, 46, 36), (0, 45, 51, 31), (0, 45, 56, 70)] :: WA) { frames := 9, cells := 6, slots := 230, locals := 148 } (Wc g M [.ref x, .int 1, .int p0, .int p9]) (wrQ (S := Int32) g (fun u_ => (some (.int u_))) (fun u_ M_ => lqB (inx p0 no) ((ar 13 p0.toNatClampNeg = 1 ∧ ¬ zdst ar p0.toNatClampNeg (ar 15 p0.toNatClampNeg) (ar 16 p0.toNatClampNeg) (ar 17 p0.toNatClampNeg) (ar 18 p0.toNatClampNeg) ≤ ar 2 (zE ar p0.toNatClampNeg))) (u_ = zbl ar p0.toNatClampNeg ∧ RIx g M_ M x tg (sc) (ua (ua ar 13 (upd (ar 13) p0.toNatClampNeg 2)) 19 (upd (ar 19) (zbix ar p0.toNatClampNeg) (ar 19 (zbix ar p0.toNatClampNeg) + 1)))) (u_ = (-101) ∧ M_ = M) (u_ = (-102) ∧ M_ = M))) 6 230 (gA g) := by
  refine ofT (by decide +kernel) (Nat.le_of_ble_eq_true rfl) (fun p e s m args below meth c ls C hr hlocks ht hE hH hl ea => ?_)
  have hl : lv_has ls 5 [(0, .ref x), (1, .int 1), (2, .int p0), (3, .int p9)] := hl
  have hS : va_S (gA g) s.heap s.heap [] := va_S.rf
  obtain ⟨-, iX, -⟩ := id hI
  refine lv_iload_n C.1 C.2.1 dL_pieces_0 rfl (lv_at hl 1 rfl) ?_
  refine lv_if_ne (tgt := 12) C.1 C.2.1 dL_pieces_1 (by decide) (fun c1 => ?_) (fun c1 => ?_)
  · refine lv_iload_n C.1 C.2.1 dL_pieces_12 rfl (lv_at hl 1 rfl) ?_
    refine lv_iconst (v := 1) C.1 C.2.1 dL_pieces_13 rfl ?_
    refine lv_icmp_ne (tgt := 25) C.1 C.2.1 dL_pieces_14 (by decide) (fun c14 => ?_) (fun c14 => ?_)
    · exact absurd c14 (by decide)
    · refine lv_aload_n C.1 C.2.1 dL_pieces_17 rfl (lv_at hl 0 rfl) ?_
      refine lv_iload_n C.1 C.2.1 dL_pieces_18 rfl (lv_at hl 2 rfl) ?_
      refine xw_go1 (xrunV C hE hH hS (w_claim hlx hI p0) mv_X5_claim wm_638 iX.1 rfl rfl hl.1 dL_pieces_19 rfl rfl ⟨rfl, rfl⟩ ⟨Nat.le_of_ble_eq_true rfl, Nat.le_of_ble_eq_true rfl⟩ (Nat.le_of_ble_eq_true rfl) ⟨Nat.le_of_ble_eq_true rfl, Nat.le_of_ble_eq_true rfl⟩) hS (fun E ce q9 H1 locs1 hx9 hz9 ho9 hS9 hce hcv hcl => ?_) (fun u M1 H locs hp hH hS => ?_)
      · rcases hx9 with ⟨rfl, z1⟩ | ⟨rfl, z1, z2⟩
        · refine vx_catch (pc := 19) (name := xIO) C.2.2.2.1 [] ⟨0, 45, 46, 36⟩ [⟨0, 45, 51, 31⟩, ⟨0, 45, 56, 70⟩] (ht.trans rfl) (fun z hz => (List.not_mem_nil hz).elim) (by decide) (by decide) (C.2.2.2.2 _ wm_316) ((hE.2.2.2.2.2.2.2.1 xIO (by decide)).use rfl) hce hcv hcl ?_
          refine lv_astore (lv' := [(4, .ref q9), (0, .ref x), (1, .int 1), (2, .int p0), (3, .int p9)]) C.1 C.2.1 dL_pieces_46 hl (by decide) rfl (fun ls hl => ?_)
          refine lv_bipush (v := -101) C.1 C.2.1 dL_pieces_48 rfl ?_
          exact wr_iret (-101) C hr hlocks (Hw_ext hH ho9) hS9 rfl (Or.inr (Or.inl ⟨z1, rfl, rfl⟩)) (by decide) (by decide) dL_pieces_50
        · refine vx_catch (pc := 19) (name := xIS) C.2.2.2.1 [⟨0, 45, 46, 36⟩] ⟨0, 45, 51, 31⟩ [⟨0, 45, 56, 70⟩] (ht.trans rfl) (fun z hz => by rw [List.mem_singleton] at hz; subst hz; exact Or.inr ⟨by decide, xIO, C.2.2.2.2 _ wm_316, hE.2.2.2.2.2.2.1 (xIS, xIO) (by decide)⟩) (by decide) (by decide) (C.2.2.2.2 _ wm_131) ((hE.2.2.2.2.2.2.2.1 xIS (by decide)).use rfl) hce hcv hcl ?_
          refine lv_astore (lv' := [(4, .ref q9), (0, .ref x), (1, .int 1), (2, .int p0), (3, .int p9)]) C.1 C.2.1 dL_pieces_51 hl (by decide) rfl (fun ls hl => ?_)
          refine lv_bipush (v := -102) C.1 C.2.1 dL_pieces_53 rfl ?_
          exact wr_iret (-102) C hr hlocks (Hw_ext hH ho9) hS9 rfl (Or.inr (Or.inr (⟨⟨z1, z2⟩, rfl, rfl⟩))) (by decide) (by decide) dL_pieces_55
      refine lv_goto (tgt := 45) C.1 C.2.1 dL_pieces_22 (by decide) ?_
      exact wr_iret (zbl ar p0.toNatClampNeg) C hr hlocks hH hS rfl (Or.inl ⟨hp.1, rfl, hp.2⟩) (by decide) (by decide) dL_pieces_45
  · exact absurd c1 (by decide)
set_option maxHeartbeats 4000000 in
set_option maxRecDepth 100000 in
theorem l_stateOf {l : Launch} {g : gG} {M : Mp} {x : Nat} {tg : Nat → Nat} {A : Nat → Nat → Nat} {pr br : Nat → Bool} {np : Nat → Nat} {hh : Nat → Nat → Nat} {ne nb no : Nat} {sc : Nat → Int32} {ar : Nat → Nat → Int32} (hlx : l.stackTraces = false) (hI : RI g M x tg A pr br np hh ne nb no sc ar) (p0 : Int32) : Met l yL_one (Cond.codeWith yL_one cL_one 4 (some .int) [(0, 43, 44, 36)] :: WA) { frames := 9, cells := 6, slots := 230, locals := 146 } (Wc g M [.ref x, .int 2, .int p0]) (wrQ (S := Int32) g (fun u_ => (some (.int u_))) (fun u_ M_ => lqA (inx p0 no) (u_ = ar 13 p0.toNatClampNeg ∧ M_ = M) (u_ = (-101) ∧ M_ = M))) 6 230 (gA g) := by
  refine ofT (by decide +kernel) (Nat.le_of_ble_eq_true rfl) (fun p e s m args below meth c ls C hr hlocks ht hE hH hl ea => ?_)
  have hl : lv_has ls 4 [(0, .ref x), (1, .int 2), (2, .int p0)] := hl
  have hS : va_S (gA g) s.heap s.heap [] := va_S.rf
  obtain ⟨-, iX, -⟩ := id hI
  refine lv_iload_n C.1 C.2.1 dL_one_0 rfl (lv_at hl 1 rfl) ?_
  refine lv_if_ne (tgt := 12) C.1 C.2.1 dL_one_1 (by decide) (fun c1 => ?_) (fun c1 => ?_)
  · refine lv_iload_n C.1 C.2.1 dL_one_12 rfl (lv_at hl 1 rfl) ?_
    refine lv_iconst (v := 1) C.1 C.2.1 dL_one_13 rfl ?_
    refine lv_icmp_ne (tgt := 25) C.1 C.2.1 dL_one_14 (by decide) (fun c14 => ?_) (fun c14 => ?_)
    · refine lv_iload_n C.1 C.2.1 dL_one_25 rfl (lv_at hl 1 rfl) ?_
      refine lv_iconst (v := 2) C.1 C.2.1 dL_one_26 rfl ?_
      refine lv_icmp_ne (tgt := 38) C.1 C.2.1 dL_one_27 (by decide) (fun c27 => ?_) (fun c27 => ?_)
      · exact absurd c27 (by decide)
      · refine lv_aload_n C.1 C.2.1 dL_one_30 rfl (lv_at hl 0 rfl) ?_
        refine lv_iload_n C.1 C.2.1 dL_one_31 rfl (lv_at hl 2 rfl) ?_
        refine xr_go1 (xrunV C hE hH hS (r_stateOf hlx hI p0) mv_X5_stateOf wm_523 iX.1 rfl rfl hl.1 dL_one_32 rfl rfl ⟨rfl, rfl⟩ ⟨Nat.le_of_ble_eq_true rfl, Nat.le_of_ble_eq_true rfl⟩ (Nat.le_of_ble_eq_true rfl) ⟨Nat.le_of_ble_eq_true rfl, Nat.le_of_ble_eq_true rfl⟩) (fun E ce q9 H1 hx9 hz9 ho9 hce hcv hcl => ?_) (fun hp => ?_)
        · rcases hx9 with ⟨rfl, z1⟩
          · refine vx_catch (pc := 32) (name := xIO) C.2.2.2.1 [] ⟨0, 43, 44, 36⟩ [] (ht.trans rfl) (fun z hz => (List.not_mem_nil hz).elim) (by decide) (by decide) (C.2.2.2.2 _ wm_316) ((hE.2.2.2.2.2.2.2.1 xIO (by decide)).use rfl) hce hcv hcl ?_
            refine lv_astore_n (lv' := [(3, .ref q9), (0, .ref x), (1, .int 2), (2, .int p0)]) C.1 C.2.1 dL_one_44 rfl hl (by decide) rfl (fun ls hl => ?_)
            refine lv_bipush (v := -101) C.1 C.2.1 dL_one_45 rfl ?_
            exact wr_iret (-101) C hr hlocks (Hw_ext hH ho9) ⟨hz9, fun q h _ => ho9 q h, fun _ h => by cases h⟩ rfl (Or.inr (⟨z1, rfl, rfl⟩)) (by decide) (by decide) dL_one_47
        refine lv_goto (tgt := 43) C.1 C.2.1 dL_one_35 (by decide) ?_
        exact wr_iret (ar 13 p0.toNatClampNeg) C hr hlocks hH hS rfl (Or.inl ⟨hp, rfl, rfl⟩) (by decide) (by decide) dL_one_43
    · exact absurd c14 (by decide)
  · exact absurd c1 (by decide)
set_option maxHeartbeats 4000000 in
set_option maxRecDepth 100000 in
theorem l_colour {l : Launch} {g : gG} {M : Mp} {x : Nat} {tg : Nat → Nat} {A : Nat → Nat → Nat} {pr br : Nat → Bool} {np : Nat → Nat} {hh : Nat → Nat → Nat} {ne nb no : Nat} {sc : Nat → Int32} {ar : Nat → Nat → Int32} (hlx : l.stackTraces = false) (hI : RI g M x tg A pr br np hh ne nb no sc ar) (p0 p1 : Int32) : Met l yL_pieces (Cond.codeWith yL_pieces cL_pieces 5 (some .int) [(0, 45, 46, 36), (0, 45, 51, 31), (0, 45, 56, 70)] :: WA) { frames := 9, cells := 6, slots := 230, locals := 148 } (Wc g M [.ref x, .int 2, .int p0, .int p1]) (wrQ (S := Int32) g (fun u_ => (some (.int u_))) (fun u_ M_ => lqB ((inx p0 no ∧ inx p1 2)) (¬ ar 13 p0.toNatClampNeg = 0) (u_ = zcol ar p0.toNatClampNeg p1 ∧ M_ = M) (u_ = (-101) ∧ M_ = M) (u_ = (-102) ∧ M_ = M))) 6 230 (gA g) := by
  refine ofT (by decide +kernel) (Nat.le_of_ble_eq_true rfl) (fun p e s m args below meth c ls C hr hlocks ht hE hH hl ea => ?_)
  have hl : lv_has ls 5 [(0, .ref x), (1, .int 2), (2, .int p0), (3, .int p1)] := hl
  have hS : va_S (gA g) s.heap s.heap [] := va_S.rf
  obtain ⟨-, iX, -⟩ := id hI
  refine lv_iload_n C.1 C.2.1 dL_pieces_0 rfl (lv_at hl 1 rfl) ?_
  refine lv_if_ne (tgt := 12) C.1 C.2.1 dL_pieces_1 (by decide) (fun c1 => ?_) (fun c1 => ?_)
  · refine lv_iload_n C.1 C.2.1 dL_pieces_12 rfl (lv_at hl 1 rfl) ?_
    refine lv_iconst (v := 1) C.1 C.2.1 dL_pieces_13 rfl ?_
    refine lv_icmp_ne (tgt := 25) C.1 C.2.1 dL_pieces_14 (by decide) (fun c14 => ?_) (fun c14 => ?_)
    · refine lv_iload_n C.1 C.2.1 dL_pieces_25 rfl (lv_at hl 1 rfl) ?_
      refine lv_iconst (v := 2) C.1 C.2.1 dL_pieces_26 rfl ?_
      refine lv_icmp_ne (tgt := 39) C.1 C.2.1 dL_pieces_27 (by decide) (fun c27 => ?_) (fun c27 => ?_)
      · exact absurd c27 (by decide)
      · refine lv_aload_n C.1 C.2.1 dL_pieces_30 rfl (lv_at hl 0 rfl) ?_
        refine lv_iload_n C.1 C.2.1 dL_pieces_31 rfl (lv_at hl 2 rfl) ?_
        refine lv_iload_n C.1 C.2.1 dL_pieces_32 rfl (lv_at hl 3 rfl) ?_
        refine xr_go1 (xrunV C hE hH hS (r_colour hlx hI p0 p1) mv_X5_colour wm_656 iX.1 rfl rfl hl.1 dL_pieces_33 rfl rfl ⟨rfl, rfl⟩ ⟨Nat.le_of_ble_eq_true rfl, Nat.le_of_ble_eq_true rfl⟩ (Nat.le_of_ble_eq_true rfl) ⟨Nat.le_of_ble_eq_true rfl, Nat.le_of_ble_eq_true rfl⟩) (fun E ce q9 H1 hx9 hz9 ho9 hce hcv hcl => ?_) (fun hp => ?_)
        · rcases hx9 with ⟨rfl, z1⟩ | ⟨rfl, z1, z2⟩
          · refine vx_catch (pc := 33) (name := xIO) C.2.2.2.1 [] ⟨0, 45, 46, 36⟩ [⟨0, 45, 51, 31⟩, ⟨0, 45, 56, 70⟩] (ht.trans rfl) (fun z hz => (List.not_mem_nil hz).elim) (by decide) (by decide) (C.2.2.2.2 _ wm_316) ((hE.2.2.2.2.2.2.2.1 xIO (by decide)).use rfl) hce hcv hcl ?_
            refine lv_astore (lv' := [(4, .ref q9), (0, .ref x), (1, .int 2), (2, .int p0), (3, .int p1)]) C.1 C.2.1 dL_pieces_46 hl (by decide) rfl (fun ls hl => ?_)
            refine lv_bipush (v := -101) C.1 C.2.1 dL_pieces_48 rfl ?_
            exact wr_iret (-101) C hr hlocks (Hw_ext hH ho9) ⟨hz9, fun q h _ => ho9 q h, fun _ h => by cases h⟩ rfl (Or.inr (Or.inl ⟨z1, rfl, rfl⟩)) (by decide) (by decide) dL_pieces_50
          · refine vx_catch (pc := 33) (name := xIS) C.2.2.2.1 [⟨0, 45, 46, 36⟩] ⟨0, 45, 51, 31⟩ [⟨0, 45, 56, 70⟩] (ht.trans rfl) (fun z hz => by rw [List.mem_singleton] at hz; subst hz; exact Or.inr ⟨by decide, xIO, C.2.2.2.2 _ wm_316, hE.2.2.2.2.2.2.1 (xIS, xIO) (by decide)⟩) (by decide) (by decide) (C.2.2.2.2 _ wm_131) ((hE.2.2.2.2.2.2.2.1 xIS (by decide)).use rfl) hce hcv hcl ?_
            refine lv_astore (lv' := [(4, .ref q9), (0, .ref x), (1, .int 2), (2, .int p0), (3, .int p1)]) C.1 C.2.1 dL_pieces_51 hl (by decide) rfl (fun ls hl => ?_)
            refine lv_bipush (v := -102) C.1 C.2.1 dL_pieces_53 rfl ?_
            exact wr_iret (-102) C hr hlocks (Hw_ext hH ho9) ⟨hz9, fun q h _ => ho9 q h, fun _ h => by cases h⟩ rfl (Or.inr (Or.inr (⟨⟨z1, z2⟩, rfl, rfl⟩))) (by decide) (by decide) dL_pieces_55
        refine lv_goto (tgt := 45) C.1 C.2.1 dL_pieces_36 (by decide) ?_
        exact wr_iret (zcol ar p0.toNatClampNeg p1) C hr hlocks hH hS rfl (Or.inl ⟨hp, rfl, rfl⟩) (by decide) (by decide) dL_pieces_45
    · exact absurd c14 (by decide)
  · exact absurd c1 (by decide)
set_option maxHeartbeats 4000000 in
set_option maxRecDepth 100000 in
theorem l_colourByBath {l : Launch} {g : gG} {M : Mp} {x : Nat} {tg : Nat → Nat} {A : Nat → Nat → Nat} {pr br : Nat → Bool} {np : Nat → Nat} {hh : Nat → Nat → Nat} {ne nb no : Nat} {sc : Nat → Int32} {ar : Nat → Nat → Int32} (hlx : l.stackTraces = false) (hI : RI g M x tg A pr br np hh ne nb no sc ar) (p0 p1 : Int32) : Met l yL_pieces (Cond.codeWith yL_pieces cL_pieces 5 (some .int) [(0, 45, 46, 36), (0, 45, 51, 31), (0, 45, 56, 70)] :: WA) { frames := 9, cells := 6, slots := 230, locals := 148 } (Wc g M [.ref x, .int 3, .int p0, .int p1]) (wrQ (S := Int32) g (fun u_ => (some (.int u_))) (fun u_ M_ => lqB ((inx p0 no ∧ inx p1 2)) (¬ ar 13 p0.toNatClampNeg = 0) (u_ = zcol ar p0.toNatClampNeg p1 ∧ M_ = M) (u_ = (-101) ∧ M_ = M) (u_ = (-102) ∧ M_ = M))) 6 230 (gA g) := by
  refine ofT (by decide +kernel) (Nat.le_of_ble_eq_true rfl) (fun p e s m args below meth c ls C hr hlocks ht hE hH hl ea => ?_)
  have hl : lv_has ls 5 [(0, .ref x), (1, .int 3), (2, .int p0), (3, .int p1)] := hl
  have hS : va_S (gA g) s.heap s.heap [] := va_S.rf
  obtain ⟨-, iX, -⟩ := id hI
  refine lv_iload_n C.1 C.2.1 dL_pieces_0 rfl (lv_at hl 1 rfl) ?_
  refine lv_if_ne (tgt := 12) C.1 C.2.1 dL_pieces_1 (by decide) (fun c1 => ?_) (fun c1 => ?_)
  · refine lv_iload_n C.1 C.2.1 dL_pieces_12 rfl (lv_at hl 1 rfl) ?_
    refine lv_iconst (v := 1) C.1 C.2.1 dL_pieces_13 rfl ?_
    refine lv_icmp_ne (tgt := 25) C.1 C.2.1 dL_pieces_14 (by decide) (fun c14 => ?_) (fun c14 => ?_)
    · refine lv_iload_n C.1 C.2.1 dL_pieces_25 rfl (lv_at hl 1 rfl) ?_
      refine lv_iconst (v := 2) C.1 C.2.1 dL_pieces_26 rfl ?_
      refine lv_icmp_ne (tgt := 39) C.1 C.2.1 dL_pieces_27 (by decide) (fun c27 => ?_) (fun c27 => ?_)
      · refine lv_aload_n C.1 C.2.1 dL_pieces_39 rfl (lv_at hl 0 rfl) ?_
        refine lv_iload_n C.1 C.2.1 dL_pieces_40 rfl (lv_at hl 2 rfl) ?_
        refine lv_iload_n C.1 C.2.1 dL_pieces_41 rfl (lv_at hl 3 rfl) ?_
        refine xr_go1 (xrunV C hE hH hS (r_colourByBath hlx hI p0 p1) mv_X5_colourByBath wm_666 iX.1 rfl rfl hl.1 dL_pieces_42 rfl rfl ⟨rfl, rfl⟩ ⟨Nat.le_of_ble_eq_true rfl, Nat.le_of_ble_eq_true rfl⟩ (Nat.le_of_ble_eq_true rfl) ⟨Nat.le_of_ble_eq_true rfl, Nat.le_of_ble_eq_true rfl⟩) (fun E ce q9 H1 hx9 hz9 ho9 hce hcv hcl => ?_) (fun hp => ?_)
        · rcases hx9 with ⟨rfl, z1⟩ | ⟨rfl, z1, z2⟩
          · refine vx_catch (pc := 42) (name := xIO) C.2.2.2.1 [] ⟨0, 45, 46, 36⟩ [⟨0, 45, 51, 31⟩, ⟨0, 45, 56, 70⟩] (ht.trans rfl) (fun z hz => (List.not_mem_nil hz).elim) (by decide) (by decide) (C.2.2.2.2 _ wm_316) ((hE.2.2.2.2.2.2.2.1 xIO (by decide)).use rfl) hce hcv hcl ?_
            refine lv_astore (lv' := [(4, .ref q9), (0, .ref x), (1, .int 3), (2, .int p0), (3, .int p1)]) C.1 C.2.1 dL_pieces_46 hl (by decide) rfl (fun ls hl => ?_)
            refine lv_bipush (v := -101) C.1 C.2.1 dL_pieces_48 rfl ?_
            exact wr_iret (-101) C hr hlocks (Hw_ext hH ho9) ⟨hz9, fun q h _ => ho9 q h, fun _ h => by cases h⟩ rfl (Or.inr (Or.inl ⟨z1, rfl, rfl⟩)) (by decide) (by decide) dL_pieces_50
          · refine vx_catch (pc := 42) (name := xIS) C.2.2.2.1 [⟨0, 45, 46, 36⟩] ⟨0, 45, 51, 31⟩ [⟨0, 45, 56, 70⟩] (ht.trans rfl) (fun z hz => by rw [List.mem_singleton] at hz; subst hz; exact Or.inr ⟨by decide, xIO, C.2.2.2.2 _ wm_316, hE.2.2.2.2.2.2.1 (xIS, xIO) (by decide)⟩) (by decide) (by decide) (C.2.2.2.2 _ wm_131) ((hE.2.2.2.2.2.2.2.1 xIS (by decide)).use rfl) hce hcv hcl ?_
            refine lv_astore (lv' := [(4, .ref q9), (0, .ref x), (1, .int 3), (2, .int p0), (3, .int p1)]) C.1 C.2.1 dL_pieces_51 hl (by decide) rfl (fun ls hl => ?_)
            refine lv_bipush (v := -102) C.1 C.2.1 dL_pieces_53 rfl ?_
            exact wr_iret (-102) C hr hlocks (Hw_ext hH ho9) ⟨hz9, fun q h _ => ho9 q h, fun _ h => by cases h⟩ rfl (Or.inr (Or.inr (⟨⟨z1, z2⟩, rfl, rfl⟩))) (by decide) (by decide) dL_pieces_55
        exact wr_iret (zcol ar p0.toNatClampNeg p1) C hr hlocks hH hS rfl (Or.inl ⟨hp, rfl, rfl⟩) (by decide) (by decide) dL_pieces_45
      · exact absurd c27 (by decide)
    · exact absurd c14 (by decide)
  · exact absurd c1 (by decide)
set_option maxHeartbeats 4000000 in
set_option maxRecDepth 100000 in
theorem l_blamed {l : Launch} {g : gG} {M : Mp} {x : Nat} {tg : Nat → Nat} {A : Nat → Nat → Nat} {pr br : Nat → Bool} {np : Nat → Nat} {hh : Nat → Nat → Nat} {ne nb no : Nat} {sc : Nat → Int32} {ar : Nat → Nat → Int32} (hlx : l.stackTraces = false) (hI : RI g M x tg A pr br np hh ne nb no sc ar) (p0 p1 : Int32) : Met l yL_two (Cond.codeWith yL_two cL_two 5 (some .int) [(0, 75, 76, 36), (0, 75, 81, 29), (0, 75, 86, 31)] :: WA) { frames := 8, cells := 6, slots := 230, locals := 126 } (Wc g M [.ref x, .int 4, .int p0, .int p1]) (wrQ (S := Int32) g (fun u_ => (some (.int u_))) (fun u_ M_ => lqB (inx p0 3) (inr p1 0 2) (u_ = ar 19 (3 * p0.toNatClampNeg + p1.toNatClampNeg) ∧ M_ = M) (u_ = (-101) ∧ M_ = M) (u_ = (-102) ∧ M_ = M))) 6 230 (gA g) := by
  refine ofT (by decide +kernel) (Nat.le_of_ble_eq_true rfl) (fun p e s m args below meth c ls C hr hlocks ht hE hH hl ea => ?_)
  have hl : lv_has ls 5 [(0, .ref x), (1, .int 4), (2, .int p0), (3, .int p1)] := hl
  have hS : va_S (gA g) s.heap s.heap [] := va_S.rf
  obtain ⟨-, iX, -⟩ := id hI
  refine lv_iload_n C.1 C.2.1 dL_two_0 rfl (lv_at hl 1 rfl) ?_
  refine lv_if_ne (tgt := 13) C.1 C.2.1 dL_two_1 (by decide) (fun c1 => ?_) (fun c1 => ?_)
  · refine lv_iload_n C.1 C.2.1 dL_two_13 rfl (lv_at hl 1 rfl) ?_
    refine lv_iconst (v := 1) C.1 C.2.1 dL_two_14 rfl ?_
    refine lv_icmp_ne (tgt := 27) C.1 C.2.1 dL_two_15 (by decide) (fun c15 => ?_) (fun c15 => ?_)
    · refine lv_iload_n C.1 C.2.1 dL_two_27 rfl (lv_at hl 1 rfl) ?_
      refine lv_iconst (v := 2) C.1 C.2.1 dL_two_28 rfl ?_
      refine lv_icmp_ne (tgt := 41) C.1 C.2.1 dL_two_29 (by decide) (fun c29 => ?_) (fun c29 => ?_)
      · refine lv_iload_n C.1 C.2.1 dL_two_41 rfl (lv_at hl 1 rfl) ?_
        refine lv_iconst (v := 3) C.1 C.2.1 dL_two_42 rfl ?_
        refine lv_icmp_ne (tgt := 55) C.1 C.2.1 dL_two_43 (by decide) (fun c43 => ?_) (fun c43 => ?_)
        · refine lv_iload_n C.1 C.2.1 dL_two_55 rfl (lv_at hl 1 rfl) ?_
          refine lv_iconst (v := 4) C.1 C.2.1 dL_two_56 rfl ?_
          refine lv_icmp_ne (tgt := 69) C.1 C.2.1 dL_two_57 (by decide) (fun c57 => ?_) (fun c57 => ?_)
          · exact absurd c57 (by decide)
          · refine lv_aload_n C.1 C.2.1 dL_two_60 rfl (lv_at hl 0 rfl) ?_
            refine lv_iload_n C.1 C.2.1 dL_two_61 rfl (lv_at hl 2 rfl) ?_
            refine lv_iload_n C.1 C.2.1 dL_two_62 rfl (lv_at hl 3 rfl) ?_
            refine xr_go1 (xrunV C hE hH hS (r_blamed hlx hI p0 p1) mv_X5_blamed wm_492 iX.1 rfl rfl hl.1 dL_two_63 rfl rfl ⟨rfl, rfl⟩ ⟨Nat.le_of_ble_eq_true rfl, Nat.le_of_ble_eq_true rfl⟩ (Nat.le_of_ble_eq_true rfl) ⟨Nat.le_of_ble_eq_true rfl, Nat.le_of_ble_eq_true rfl⟩) (fun E ce q9 H1 hx9 hz9 ho9 hce hcv hcl => ?_) (fun hp => ?_)
            · rcases hx9 with ⟨rfl, z1⟩ | ⟨rfl, z1, z2⟩
              · refine vx_catch (pc := 63) (name := xIO) C.2.2.2.1 [] ⟨0, 75, 76, 36⟩ [⟨0, 75, 81, 29⟩, ⟨0, 75, 86, 31⟩] (ht.trans rfl) (fun z hz => (List.not_mem_nil hz).elim) (by decide) (by decide) (C.2.2.2.2 _ wm_316) ((hE.2.2.2.2.2.2.2.1 xIO (by decide)).use rfl) hce hcv hcl ?_
                refine lv_astore (lv' := [(4, .ref q9), (0, .ref x), (1, .int 4), (2, .int p0), (3, .int p1)]) C.1 C.2.1 dL_two_76 hl (by decide) rfl (fun ls hl => ?_)
                refine lv_bipush (v := -101) C.1 C.2.1 dL_two_78 rfl ?_
                exact wr_iret (-101) C hr hlocks (Hw_ext hH ho9) ⟨hz9, fun q h _ => ho9 q h, fun _ h => by cases h⟩ rfl (Or.inr (Or.inl ⟨z1, rfl, rfl⟩)) (by decide) (by decide) dL_two_80
              · refine vx_catch (pc := 63) (name := xIA) C.2.2.2.1 [⟨0, 75, 76, 36⟩] ⟨0, 75, 81, 29⟩ [⟨0, 75, 86, 31⟩] (ht.trans rfl) (fun z hz => by rw [List.mem_singleton] at hz; subst hz; exact Or.inr ⟨by decide, xIO, C.2.2.2.2 _ wm_316, hE.2.2.2.2.2.2.1 (xIA, xIO) (by decide)⟩) (by decide) (by decide) (C.2.2.2.2 _ wm_130) ((hE.2.2.2.2.2.2.2.1 xIA (by decide)).use rfl) hce hcv hcl ?_
                refine lv_astore (lv' := [(4, .ref q9), (0, .ref x), (1, .int 4), (2, .int p0), (3, .int p1)]) C.1 C.2.1 dL_two_81 hl (by decide) rfl (fun ls hl => ?_)
                refine lv_bipush (v := -102) C.1 C.2.1 dL_two_83 rfl ?_
                exact wr_iret (-102) C hr hlocks (Hw_ext hH ho9) ⟨hz9, fun q h _ => ho9 q h, fun _ h => by cases h⟩ rfl (Or.inr (Or.inr (⟨⟨z1, z2⟩, rfl, rfl⟩))) (by decide) (by decide) dL_two_85
            refine lv_goto (tgt := 75) C.1 C.2.1 dL_two_66 (by decide) ?_
            exact wr_iret (ar 19 (3 * p0.toNatClampNeg + p1.toNatClampNeg)) C hr hlocks hH hS rfl (Or.inl ⟨hp, rfl, rfl⟩) (by decide) (by decide) dL_two_75
        · exact absurd c43 (by decide)
      · exact absurd c29 (by decide)
    · exact absurd c15 (by decide)
  · exact absurd c1 (by decide)
set_option maxHeartbeats 4000000 in
set_option maxRecDepth 100000 in
theorem l_shrinks {l : Launch} {g : gG} {M : Mp} {x : Nat} {tg : Nat → Nat} {A : Nat → Nat → Nat} {pr br : Nat → Bool} {np : Nat → Nat} {hh : Nat → Nat → Nat} {ne nb no : Nat} {sc : Nat → Int32} {ar : Nat → Nat → Int32} (hlx : l.stackTraces = false) (hI : RI g M x tg A pr br np hh ne nb no sc ar) (p0 p1 : Int32) : Met l yL_two (Cond.codeWith yL_two cL_two 5 (some .int) [(0, 75, 76, 36), (0, 75, 81, 29), (0, 75, 86, 31)] :: WA) { frames := 8, cells := 6, slots := 230, locals := 127 } (Wc g M [.ref x, .int 3, .int p0, .int p1]) (wrQ (S := Int32) g (fun u_ => (some (.int u_))) (fun u_ M_ => lqB (inx p0 3) (inr p1 0 90) (u_ = ar 20 p0.toNatClampNeg ∧ RIx g M_ M x tg (sc) (ua ar 20 (upd (ar 20) p0.toNatClampNeg p1))) (u_ = (-101) ∧ M_ = M) (u_ = (-102) ∧ M_ = M))) 6 230 (gA g) := by
  refine ofT (by decide +kernel) (Nat.le_of_ble_eq_true rfl) (fun p e s m args below meth c ls C hr hlocks ht hE hH hl ea => ?_)
  have hl : lv_has ls 5 [(0, .ref x), (1, .int 3), (2, .int p0), (3, .int p1)] := hl
  have hS : va_S (gA g) s.heap s.heap [] := va_S.rf
  obtain ⟨-, iX, -⟩ := id hI
  refine lv_iload_n C.1 C.2.1 dL_two_0 rfl (lv_at hl 1 rfl) ?_
  refine lv_if_ne (tgt := 13) C.1 C.2.1 dL_two_1 (by decide) (fun c1 => ?_) (fun c1 => ?_)
  · refine lv_iload_n C.1 C.2.1 dL_two_13 rfl (lv_at hl 1 rfl) ?_
    refine lv_iconst (v := 1) C.1 C.2.1 dL_two_14 rfl ?_
    refine lv_icmp_ne (tgt := 27) C.1 C.2.1 dL_two_15 (by decide) (fun c15 => ?_) (fun c15 => ?_)
    · refine lv_iload_n C.1 C.2.1 dL_two_27 rfl (lv_at hl 1 rfl) ?_
      refine lv_iconst (v := 2) C.1 C.2.1 dL_two_28 rfl ?_
      refine lv_icmp_ne (tgt := 41) C.1 C.2.1 dL_two_29 (by decide) (fun c29 => ?_) (fun c29 => ?_)
      · refine lv_iload_n C.1 C.2.1 dL_two_41 rfl (lv_at hl 1 rfl) ?_
        refine lv_iconst (v := 3) C.1 C.2.1 dL_two_42 rfl ?_
        refine lv_icmp_ne (tgt := 55) C.1 C.2.1 dL_two_43 (by decide) (fun c43 => ?_) (fun c43 => ?_)
        · exact absurd c43 (by decide)
        · refine lv_aload_n C.1 C.2.1 dL_two_46 rfl (lv_at hl 0 rfl) ?_
          refine lv_iload_n C.1 C.2.1 dL_two_47 rfl (lv_at hl 2 rfl) ?_
          refine lv_iload_n C.1 C.2.1 dL_two_48 rfl (lv_at hl 3 rfl) ?_
          refine xw_go1 (xrunV C hE hH hS (w_shrinks hlx hI p0 p1) mv_X5_shrinks wm_488 iX.1 rfl rfl hl.1 dL_two_49 rfl rfl ⟨rfl, rfl⟩ ⟨Nat.le_of_ble_eq_true rfl, Nat.le_of_ble_eq_true rfl⟩ (Nat.le_of_ble_eq_true rfl) ⟨Nat.le_of_ble_eq_true rfl, Nat.le_of_ble_eq_true rfl⟩) hS (fun E ce q9 H1 locs1 hx9 hz9 ho9 hS9 hce hcv hcl => ?_) (fun u M1 H locs hp hH hS => ?_)
          · rcases hx9 with ⟨rfl, z1⟩ | ⟨rfl, z1, z2⟩
            · refine vx_catch (pc := 49) (name := xIO) C.2.2.2.1 [] ⟨0, 75, 76, 36⟩ [⟨0, 75, 81, 29⟩, ⟨0, 75, 86, 31⟩] (ht.trans rfl) (fun z hz => (List.not_mem_nil hz).elim) (by decide) (by decide) (C.2.2.2.2 _ wm_316) ((hE.2.2.2.2.2.2.2.1 xIO (by decide)).use rfl) hce hcv hcl ?_
              refine lv_astore (lv' := [(4, .ref q9), (0, .ref x), (1, .int 3), (2, .int p0), (3, .int p1)]) C.1 C.2.1 dL_two_76 hl (by decide) rfl (fun ls hl => ?_)
              refine lv_bipush (v := -101) C.1 C.2.1 dL_two_78 rfl ?_
              exact wr_iret (-101) C hr hlocks (Hw_ext hH ho9) hS9 rfl (Or.inr (Or.inl ⟨z1, rfl, rfl⟩)) (by decide) (by decide) dL_two_80
            · refine vx_catch (pc := 49) (name := xIA) C.2.2.2.1 [⟨0, 75, 76, 36⟩] ⟨0, 75, 81, 29⟩ [⟨0, 75, 86, 31⟩] (ht.trans rfl) (fun z hz => by rw [List.mem_singleton] at hz; subst hz; exact Or.inr ⟨by decide, xIO, C.2.2.2.2 _ wm_316, hE.2.2.2.2.2.2.1 (xIA, xIO) (by decide)⟩) (by decide) (by decide) (C.2.2.2.2 _ wm_130) ((hE.2.2.2.2.2.2.2.1 xIA (by decide)).use rfl) hce hcv hcl ?_
              refine lv_astore (lv' := [(4, .ref q9), (0, .ref x), (1, .int 3), (2, .int p0), (3, .int p1)]) C.1 C.2.1 dL_two_81 hl (by decide) rfl (fun ls hl => ?_)
              refine lv_bipush (v := -102) C.1 C.2.1 dL_two_83 rfl ?_
              exact wr_iret (-102) C hr hlocks (Hw_ext hH ho9) hS9 rfl (Or.inr (Or.inr (⟨⟨z1, z2⟩, rfl, rfl⟩))) (by decide) (by decide) dL_two_85
          refine lv_goto (tgt := 75) C.1 C.2.1 dL_two_52 (by decide) ?_
          exact wr_iret (ar 20 p0.toNatClampNeg) C hr hlocks hH hS rfl (Or.inl ⟨hp.1, rfl, hp.2⟩) (by decide) (by decide) dL_two_75
      · exact absurd c29 (by decide)
    · exact absurd c15 (by decide)
  · exact absurd c1 (by decide)
set_option maxHeartbeats 4000000 in
set_option maxRecDepth 100000 in
theorem l_give {l : Launch} {g : gG} {M : Mp} {x : Nat} {tg : Nat → Nat} {A : Nat → Nat → Nat} {pr br : Nat → Bool} {np : Nat → Nat} {hh : Nat → Nat → Nat} {ne nb no : Nat} {sc : Nat → Int32} {ar : Nat → Nat → Int32} (hlx : l.stackTraces = false) (hI : RI g M x tg A pr br np hh ne nb no sc ar) (p0 p1 p2 p3 : Int32) : Met l yL_gives (Cond.codeWith yL_gives cL_gives 6 (some .int) [(0, 9, 10, 36), (0, 9, 15, 29), (0, 9, 20, 31)] :: WA) { frames := 8, cells := 6, slots := 230, locals := 130 } (Wc g M [.ref x, .int p0, .int p1, .int p2, .int p3]) (wrQ (S := Int32) g (fun u_ => (some (.int u_))) (fun u_ M_ => lqC (((inx p0 5 ∧ inx p1 5) ∧ inx p2 3)) ((¬ p0 = p1 ∧ inr p3 1 1000)) (ar 21 (25 * p2.toNatClampNeg + 5 * p1.toNatClampNeg + p0.toNatClampNeg) + zsh p3 (ar 20 p2.toNatClampNeg) ≤ 100000) (u_ = ar 21 (25 * p2.toNatClampNeg + 5 * p1.toNatClampNeg + p0.toNatClampNeg) + zsh p3 (ar 20 p2.toNatClampNeg) ∧ RIx g M_ M x tg (sc) (ua ar 21 (upd (ar 21) (25 * p2.toNatClampNeg + 5 * p1.toNatClampNeg + p0.toNatClampNeg) (ar 21 (25 * p2.toNatClampNeg + 5 * p1.toNatClampNeg + p0.toNatClampNeg) + zsh p3 (ar 20 p2.toNatClampNeg))))) (u_ = (-101) ∧ M_ = M) (u_ = (-102) ∧ M_ = M) (u_ = (-103) ∧ M_ = M))) 6 230 (gA g) := by
  refine ofT (by decide +kernel) (Nat.le_of_ble_eq_true rfl) (fun p e s m args below meth c ls C hr hlocks ht hE hH hl ea => ?_)
  have hl : lv_has ls 6 [(0, .ref x), (1, .int p0), (2, .int p1), (3, .int p2), (4, .int p3)] := hl
  have hS : va_S (gA g) s.heap s.heap [] := va_S.rf
  obtain ⟨-, iX, -⟩ := id hI
  refine lv_aload_n C.1 C.2.1 dL_gives_0 rfl (lv_at hl 0 rfl) ?_
  refine lv_iload_n C.1 C.2.1 dL_gives_1 rfl (lv_at hl 1 rfl) ?_
  refine lv_iload_n C.1 C.2.1 dL_gives_2 rfl (lv_at hl 2 rfl) ?_
  refine lv_iload_n C.1 C.2.1 dL_gives_3 rfl (lv_at hl 3 rfl) ?_
  refine lv_iload C.1 C.2.1 dL_gives_4 (lv_at hl 4 rfl) ?_
  refine xw_go1 (xrunV C hE hH hS (w_give hlx hI p0 p1 p2 p3) mv_X5_give wm_683 iX.1 rfl rfl hl.1 dL_gives_6 rfl rfl ⟨rfl, rfl⟩ ⟨Nat.le_of_ble_eq_true rfl, Nat.le_of_ble_eq_true rfl⟩ (Nat.le_of_ble_eq_true rfl) ⟨Nat.le_of_ble_eq_true rfl, Nat.le_of_ble_eq_true rfl⟩) hS (fun E ce q9 H1 locs1 hx9 hz9 ho9 hS9 hce hcv hcl => ?_) (fun u M1 H locs hp hH hS => ?_)
  · rcases hx9 with ⟨rfl, z1⟩ | ⟨rfl, z1, z2⟩ | ⟨rfl, z1, z2, z3⟩
    · refine vx_catch (pc := 6) (name := xIO) C.2.2.2.1 [] ⟨0, 9, 10, 36⟩ [⟨0, 9, 15, 29⟩, ⟨0, 9, 20, 31⟩] (ht.trans rfl) (fun z hz => (List.not_mem_nil hz).elim) (by decide) (by decide) (C.2.2.2.2 _ wm_316) ((hE.2.2.2.2.2.2.2.1 xIO (by decide)).use rfl) hce hcv hcl ?_
      refine lv_astore (lv' := [(5, .ref q9), (0, .ref x), (1, .int p0), (2, .int p1), (3, .int p2), (4, .int p3)]) C.1 C.2.1 dL_gives_10 hl (by decide) rfl (fun ls hl => ?_)
      refine lv_bipush (v := -101) C.1 C.2.1 dL_gives_12 rfl ?_
      exact wr_iret (-101) C hr hlocks (Hw_ext hH ho9) hS9 rfl (Or.inr (Or.inl ⟨z1, rfl, rfl⟩)) (by decide) (by decide) dL_gives_14
    · refine vx_catch (pc := 6) (name := xIA) C.2.2.2.1 [⟨0, 9, 10, 36⟩] ⟨0, 9, 15, 29⟩ [⟨0, 9, 20, 31⟩] (ht.trans rfl) (fun z hz => by rw [List.mem_singleton] at hz; subst hz; exact Or.inr ⟨by decide, xIO, C.2.2.2.2 _ wm_316, hE.2.2.2.2.2.2.1 (xIA, xIO) (by decide)⟩) (by decide) (by decide) (C.2.2.2.2 _ wm_130) ((hE.2.2.2.2.2.2.2.1 xIA (by decide)).use rfl) hce hcv hcl ?_
      refine lv_astore (lv' := [(5, .ref q9), (0, .ref x), (1, .int p0), (2, .int p1), (3, .int p2), (4, .int p3)]) C.1 C.2.1 dL_gives_15 hl (by decide) rfl (fun ls hl => ?_)
      refine lv_bipush (v := -102) C.1 C.2.1 dL_gives_17 rfl ?_
      exact wr_iret (-102) C hr hlocks (Hw_ext hH ho9) hS9 rfl (Or.inr (Or.inr (Or.inl ⟨⟨z1, z2⟩, rfl, rfl⟩))) (by decide) (by decide) dL_gives_19
    · refine vx_catch (pc := 6) (name := xIS) C.2.2.2.1 [⟨0, 9, 10, 36⟩, ⟨0, 9, 15, 29⟩] ⟨0, 9, 20, 31⟩ [] (ht.trans rfl) (fun z hz => by rcases List.mem_cons.mp hz with rfl | hz; exact Or.inr ⟨by decide, xIO, C.2.2.2.2 _ wm_316, hE.2.2.2.2.2.2.1 (xIS, xIO) (by decide)⟩; rw [List.mem_singleton] at hz; subst hz; exact Or.inr ⟨by decide, xIA, C.2.2.2.2 _ wm_130, hE.2.2.2.2.2.2.1 (xIS, xIA) (by decide)⟩) (by decide) (by decide) (C.2.2.2.2 _ wm_131) ((hE.2.2.2.2.2.2.2.1 xIS (by decide)).use rfl) hce hcv hcl ?_
      refine lv_astore (lv' := [(5, .ref q9), (0, .ref x), (1, .int p0), (2, .int p1), (3, .int p2), (4, .int p3)]) C.1 C.2.1 dL_gives_20 hl (by decide) rfl (fun ls hl => ?_)
      refine lv_bipush (v := -103) C.1 C.2.1 dL_gives_22 rfl ?_
      exact wr_iret (-103) C hr hlocks (Hw_ext hH ho9) hS9 rfl (Or.inr (Or.inr (Or.inr (⟨⟨z1, z2, z3⟩, rfl, rfl⟩)))) (by decide) (by decide) dL_gives_24
  exact wr_iret (ar 21 (25 * p2.toNatClampNeg + 5 * p1.toNatClampNeg + p0.toNatClampNeg) + zsh p3 (ar 20 p2.toNatClampNeg)) C hr hlocks hH hS rfl (Or.inl ⟨hp.1, rfl, hp.2⟩) (by decide) (by decide) dL_gives_9
set_option maxHeartbeats 4000000 in
set_option maxRecDepth 100000 in
theorem l_owes {l : Launch} {g : gG} {M : Mp} {x : Nat} {tg : Nat → Nat} {A : Nat → Nat → Nat} {pr br : Nat → Bool} {np : Nat → Nat} {hh : Nat → Nat → Nat} {ne nb no : Nat} {sc : Nat → Int32} {ar : Nat → Nat → Int32} (hlx : l.stackTraces = false) (hI : RI g M x tg A pr br np hh ne nb no sc ar) (p0 p1 p2 : Int32) : Met l yL_debt (Cond.codeWith yL_debt cL_debt 6 (some .int) [(0, 22, 23, 36)] :: WA) { frames := 8, cells := 6, slots := 230, locals := 126 } (Wc g M [.ref x, .int 0, .int p0, .int p1, .int p2]) (wrQ (S := Int32) g (fun u_ => (some (.int u_))) (fun u_ M_ => lqA (((inx p0 5 ∧ inx p1 5) ∧ inx p2 3)) (u_ = ar 21 (25 * p2.toNatClampNeg + 5 * p0.toNatClampNeg + p1.toNatClampNeg) ∧ M_ = M) (u_ = (-1000000) ∧ M_ = M))) 6 230 (gA g) := by
  refine ofT (by decide +kernel) (Nat.le_of_ble_eq_true rfl) (fun p e s m args below meth c ls C hr hlocks ht hE hH hl ea => ?_)
  have hl : lv_has ls 6 [(0, .ref x), (1, .int 0), (2, .int p0), (3, .int p1), (4, .int p2)] := hl
  have hS : va_S (gA g) s.heap s.heap [] := va_S.rf
  obtain ⟨-, iX, -⟩ := id hI
  refine lv_iload_n C.1 C.2.1 dL_debt_0 rfl (lv_at hl 1 rfl) ?_
  refine lv_if_ne (tgt := 15) C.1 C.2.1 dL_debt_1 (by decide) (fun c1 => ?_) (fun c1 => ?_)
  · exact absurd c1 (by decide)
  · refine lv_aload_n C.1 C.2.1 dL_debt_4 rfl (lv_at hl 0 rfl) ?_
    refine lv_iload_n C.1 C.2.1 dL_debt_5 rfl (lv_at hl 2 rfl) ?_
    refine lv_iload_n C.1 C.2.1 dL_debt_6 rfl (lv_at hl 3 rfl) ?_
    refine lv_iload C.1 C.2.1 dL_debt_7 (lv_at hl 4 rfl) ?_
    refine xr_go1 (xrunV C hE hH hS (r_owes hlx hI p0 p1 p2) mv_X5_owes wm_703 iX.1 rfl rfl hl.1 dL_debt_9 rfl rfl ⟨rfl, rfl⟩ ⟨Nat.le_of_ble_eq_true rfl, Nat.le_of_ble_eq_true rfl⟩ (Nat.le_of_ble_eq_true rfl) ⟨Nat.le_of_ble_eq_true rfl, Nat.le_of_ble_eq_true rfl⟩) (fun E ce q9 H1 hx9 hz9 ho9 hce hcv hcl => ?_) (fun hp => ?_)
    · rcases hx9 with ⟨rfl, z1⟩
      · refine vx_catch (pc := 9) (name := xIO) C.2.2.2.1 [] ⟨0, 22, 23, 36⟩ [] (ht.trans rfl) (fun z hz => (List.not_mem_nil hz).elim) (by decide) (by decide) (C.2.2.2.2 _ wm_316) ((hE.2.2.2.2.2.2.2.1 xIO (by decide)).use rfl) hce hcv hcl ?_
        refine lv_astore (lv' := [(5, .ref q9), (0, .ref x), (1, .int 0), (2, .int p0), (3, .int p1), (4, .int p2)]) C.1 C.2.1 dL_debt_23 hl (by decide) rfl (fun ls hl => ?_)
        refine lv_ldc (v := -1000000) C.1 C.2.1 C.2.2.2.1 (C.2.2.2.2 _ wm_712) dL_debt_25 ?_
        exact wr_iret (-1000000) C hr hlocks (Hw_ext hH ho9) ⟨hz9, fun q h _ => ho9 q h, fun _ h => by cases h⟩ rfl (Or.inr (⟨z1, rfl, rfl⟩)) (by decide) (by decide) dL_debt_27
    refine lv_goto (tgt := 22) C.1 C.2.1 dL_debt_12 (by decide) ?_
    exact wr_iret (ar 21 (25 * p2.toNatClampNeg + 5 * p0.toNatClampNeg + p1.toNatClampNeg)) C hr hlocks hH hS rfl (Or.inl ⟨hp, rfl, rfl⟩) (by decide) (by decide) dL_debt_22
set_option maxHeartbeats 4000000 in
set_option maxRecDepth 100000 in
theorem l_position {l : Launch} {g : gG} {M : Mp} {x : Nat} {tg : Nat → Nat} {A : Nat → Nat → Nat} {pr br : Nat → Bool} {np : Nat → Nat} {hh : Nat → Nat → Nat} {ne nb no : Nat} {sc : Nat → Int32} {ar : Nat → Nat → Int32} (hlx : l.stackTraces = false) (hI : RI g M x tg A pr br np hh ne nb no sc ar) (p0 p9 p1 : Int32) : Met l yL_debt (Cond.codeWith yL_debt cL_debt 6 (some .int) [(0, 22, 23, 36)] :: WA) { frames := 8, cells := 6, slots := 230, locals := 125 } (Wc g M [.ref x, .int 1, .int p0, .int p9, .int p1]) (wrQ (S := Int32) g (fun u_ => (some (.int u_))) (fun u_ M_ => lqA ((inx p0 5 ∧ inx p1 3)) (u_ = zbal (zD ar p1.toNatClampNeg) p0.toNatClampNeg 5 ∧ M_ = M) (u_ = (-1000000) ∧ M_ = M))) 6 230 (gA g) := by
  refine ofT (by decide +kernel) (Nat.le_of_ble_eq_true rfl) (fun p e s m args below meth c ls C hr hlocks ht hE hH hl ea => ?_)
  have hl : lv_has ls 6 [(0, .ref x), (1, .int 1), (2, .int p0), (3, .int p9), (4, .int p1)] := hl
  have hS : va_S (gA g) s.heap s.heap [] := va_S.rf
  obtain ⟨-, iX, -⟩ := id hI
  refine lv_iload_n C.1 C.2.1 dL_debt_0 rfl (lv_at hl 1 rfl) ?_
  refine lv_if_ne (tgt := 15) C.1 C.2.1 dL_debt_1 (by decide) (fun c1 => ?_) (fun c1 => ?_)
  · refine lv_aload_n C.1 C.2.1 dL_debt_15 rfl (lv_at hl 0 rfl) ?_
    refine lv_iload_n C.1 C.2.1 dL_debt_16 rfl (lv_at hl 2 rfl) ?_
    refine lv_iload C.1 C.2.1 dL_debt_17 (lv_at hl 4 rfl) ?_
    refine xr_go1 (xrunV C hE hH hS (r_position hlx hI p0 p1) mv_X5_position wm_707 iX.1 rfl rfl hl.1 dL_debt_19 rfl rfl ⟨rfl, rfl⟩ ⟨Nat.le_of_ble_eq_true rfl, Nat.le_of_ble_eq_true rfl⟩ (Nat.le_of_ble_eq_true rfl) ⟨Nat.le_of_ble_eq_true rfl, Nat.le_of_ble_eq_true rfl⟩) (fun E ce q9 H1 hx9 hz9 ho9 hce hcv hcl => ?_) (fun hp => ?_)
    · rcases hx9 with ⟨rfl, z1⟩
      · refine vx_catch (pc := 19) (name := xIO) C.2.2.2.1 [] ⟨0, 22, 23, 36⟩ [] (ht.trans rfl) (fun z hz => (List.not_mem_nil hz).elim) (by decide) (by decide) (C.2.2.2.2 _ wm_316) ((hE.2.2.2.2.2.2.2.1 xIO (by decide)).use rfl) hce hcv hcl ?_
        refine lv_astore (lv' := [(5, .ref q9), (0, .ref x), (1, .int 1), (2, .int p0), (3, .int p9), (4, .int p1)]) C.1 C.2.1 dL_debt_23 hl (by decide) rfl (fun ls hl => ?_)
        refine lv_ldc (v := -1000000) C.1 C.2.1 C.2.2.2.1 (C.2.2.2.2 _ wm_712) dL_debt_25 ?_
        exact wr_iret (-1000000) C hr hlocks (Hw_ext hH ho9) ⟨hz9, fun q h _ => ho9 q h, fun _ h => by cases h⟩ rfl (Or.inr (⟨z1, rfl, rfl⟩)) (by decide) (by decide) dL_debt_27
    exact wr_iret (zbal (zD ar p1.toNatClampNeg) p0.toNatClampNeg 5) C hr hlocks hH hS rfl (Or.inl ⟨hp, rfl, rfl⟩) (by decide) (by decide) dL_debt_22
  · exact absurd c1 (by decide)
set_option maxHeartbeats 4000000 in
set_option maxRecDepth 100000 in
theorem l_net {l : Launch} {g : gG} {M : Mp} {x : Nat} {tg : Nat → Nat} {A : Nat → Nat → Nat} {pr br : Nat → Bool} {np : Nat → Nat} {hh : Nat → Nat → Nat} {ne nb no : Nat} {sc : Nat → Int32} {ar : Nat → Nat → Int32} (hlx : l.stackTraces = false) (hI : RI g M x tg A pr br np hh ne nb no sc ar) (p0 : Int32) : Met l yL_one (Cond.codeWith yL_one cL_one 4 (some .int) [(0, 43, 44, 36)] :: WA) { frames := 8, cells := 6, slots := 230, locals := 124 } (Wc g M [.ref x, .int 3, .int p0]) (wrQ (S := Int32) g (fun u_ => (some (.int u_))) (fun u_ M_ => lqA (inx p0 3) (u_ = nI (znet 5 ar p0.toNatClampNeg).1 ∧ RIx g M_ M x tg (sc) (ua ar 21 (znetf ar p0.toNatClampNeg))) (u_ = (-101) ∧ M_ = M))) 6 230 (gA g) := by
  refine ofT (by decide +kernel) (Nat.le_of_ble_eq_true rfl) (fun p e s m args below meth c ls C hr hlocks ht hE hH hl ea => ?_)
  have hl : lv_has ls 4 [(0, .ref x), (1, .int 3), (2, .int p0)] := hl
  have hS : va_S (gA g) s.heap s.heap [] := va_S.rf
  obtain ⟨-, iX, -⟩ := id hI
  refine lv_iload_n C.1 C.2.1 dL_one_0 rfl (lv_at hl 1 rfl) ?_
  refine lv_if_ne (tgt := 12) C.1 C.2.1 dL_one_1 (by decide) (fun c1 => ?_) (fun c1 => ?_)
  · refine lv_iload_n C.1 C.2.1 dL_one_12 rfl (lv_at hl 1 rfl) ?_
    refine lv_iconst (v := 1) C.1 C.2.1 dL_one_13 rfl ?_
    refine lv_icmp_ne (tgt := 25) C.1 C.2.1 dL_one_14 (by decide) (fun c14 => ?_) (fun c14 => ?_)
    · refine lv_iload_n C.1 C.2.1 dL_one_25 rfl (lv_at hl 1 rfl) ?_
      refine lv_iconst (v := 2) C.1 C.2.1 dL_one_26 rfl ?_
      refine lv_icmp_ne (tgt := 38) C.1 C.2.1 dL_one_27 (by decide) (fun c27 => ?_) (fun c27 => ?_)
      · refine lv_aload_n C.1 C.2.1 dL_one_38 rfl (lv_at hl 0 rfl) ?_
        refine lv_iload_n C.1 C.2.1 dL_one_39 rfl (lv_at hl 2 rfl) ?_
        refine xw_go1 (xrunV C hE hH hS (w_net hlx hI p0) mv_X5_net wm_527 iX.1 rfl rfl hl.1 dL_one_40 rfl rfl ⟨rfl, rfl⟩ ⟨Nat.le_of_ble_eq_true rfl, Nat.le_of_ble_eq_true rfl⟩ (Nat.le_of_ble_eq_true rfl) ⟨Nat.le_of_ble_eq_true rfl, Nat.le_of_ble_eq_true rfl⟩) hS (fun E ce q9 H1 locs1 hx9 hz9 ho9 hS9 hce hcv hcl => ?_) (fun u M1 H locs hp hH hS => ?_)
        · rcases hx9 with ⟨rfl, z1⟩
          · refine vx_catch (pc := 40) (name := xIO) C.2.2.2.1 [] ⟨0, 43, 44, 36⟩ [] (ht.trans rfl) (fun z hz => (List.not_mem_nil hz).elim) (by decide) (by decide) (C.2.2.2.2 _ wm_316) ((hE.2.2.2.2.2.2.2.1 xIO (by decide)).use rfl) hce hcv hcl ?_
            refine lv_astore_n (lv' := [(3, .ref q9), (0, .ref x), (1, .int 3), (2, .int p0)]) C.1 C.2.1 dL_one_44 rfl hl (by decide) rfl (fun ls hl => ?_)
            refine lv_bipush (v := -101) C.1 C.2.1 dL_one_45 rfl ?_
            exact wr_iret (-101) C hr hlocks (Hw_ext hH ho9) hS9 rfl (Or.inr (⟨z1, rfl, rfl⟩)) (by decide) (by decide) dL_one_47
        exact wr_iret (nI (znet 5 ar p0.toNatClampNeg).1) C hr hlocks hH hS rfl (Or.inl ⟨hp.1, rfl, hp.2⟩) (by decide) (by decide) dL_one_43
      · exact absurd c27 (by decide)
    · exact absurd c14 (by decide)
  · exact absurd c1 (by decide)
