/-! THE MODEL, GOING ON -/
set_option maxHeartbeats 4000000 in
set_option maxRecDepth 100000 in
theorem mw_yarn {l : Launch} {g : gG} {M : Mp} {mo : Nat} {ad : Nat → Nat} {sc : Nat → Int32} {ar : Nat → Nat → Int32} {ne nb no : Nat}  (hI : MI g M mo ad sc ar) (hs0 : sc 0 = nI ne) (hs5 : sc 5 = nI nb) (hs9 : sc 9 = nI no) (hb0 : ne ≤ 12) (hb5 : nb ≤ 10) (hb9 : no ≤ 40) (p0 p1 p2 : Int32) : Met l yX6_yarn (WY yX6_yarn cX6_yarn 5 (some .int)) { frames := 1, cells := 0, slots := 0, locals := 22 } (Wc g M [.ref mo, .int p0, .int p1, .int p2]) (wrQ (S := Int32) g (fun u_ => (some (.int u_))) (fun u_ M_ => MQ2 (inx p0 4) ((inr p1 (-10) 10) ∧ inr p2 (-10) 10) (u_ = (ar 4 (2 * p0.toNatClampNeg)) ∧ MX g M M_ mo ad (us sc 23 0) (ua ar 4 (upd (upd (ar 4) (2 * p0.toNatClampNeg) p1) (2 * p0.toNatClampNeg + 1) p2))) (fun t_ => u_ = 0 ∧ MX g M M_ mo ad (us sc 23 t_) ar))) 0 0 (gA g) := by
  refine ofM (by decide +kernel) (Nat.le_of_ble_eq_true rfl) (fun p e s m args below meth c ls C hr hlocks hin hE hH hl ea => ?_)
  have hl : lv_has ls 5 [(0, .ref mo), (1, .int p0), (2, .int p1), (3, .int p2)] := hl
  have hS : va_S (gA g) s.heap s.heap [] := va_S.rf
  have X0 := MX_rf hI
  refine lv_aload_n C.1 C.2.1 dX6_yarn_0 rfl (lv_at hl 0 rfl) ?_
  refine lv_iload_n C.1 C.2.1 dX6_yarn_1 rfl (lv_at hl 1 rfl) ?_
  refine lv_iconst (v := 0) C.1 C.2.1 dX6_yarn_2 rfl ?_
  refine lv_iconst (v := 3) C.1 C.2.1 dX6_yarn_3 rfl ?_
  refine rd_go1 (runS C hE hH hS (m_isIn p0 0 3) mv_X6_isIn wm_811 hl.1 dX6_yarn_4 rfl rfl ⟨rfl, rfl⟩ ⟨Nat.le_of_ble_eq_true rfl, Nat.le_of_ble_eq_true rfl⟩ (Nat.le_of_ble_eq_true rfl) ⟨Nat.le_of_ble_eq_true rfl, Nat.le_of_ble_eq_true rfl⟩) ?_
  obtain ⟨b1, hb1⟩ : ∃ z : Bool, z = decide (inx p0 4) := ⟨_, rfl⟩
  rw [show bI (decide (inr p0 0 3)) = bI b1 from (bI_iff (ir_ix (n := 4) (by decide) rfl)).trans (by rw [hb1])]
  have J34 : ∀ (b2 : Bool), b2 = decide ((inr p1 (-10) 10) ∧ inr p2 (-10) 10) → ∀ (ls : Array Slot), lv_has ls 5 [(0, .ref mo), (1, .int p0), (2, .int p1), (3, .int p2)] → W p l e { frames := 1, cells := 0, slots := 0, locals := 22 } s m args below meth c s.heap [] 0 0 (MQ below (wrQ (S := Int32) g (fun u_ => (some (.int u_))) (fun u_ M_ => MQ2 (inx p0 4) ((inr p1 (-10) 10) ∧ inr p2 (-10) 10) (u_ = (ar 4 (2 * p0.toNatClampNeg)) ∧ MX g M M_ mo ad (us sc 23 0) (ua ar 4 (upd (upd (ar 4) (2 * p0.toNatClampNeg) p1) (2 * p0.toNatClampNeg + 1) p2))) (fun t_ => u_ = 0 ∧ MX g M M_ mo ad (us sc 23 t_) ar))) args s 0 0 (gA g)) (F0 m 34 ls [.int (bI b2), .int (bI b1), .ref mo]) := by
    intro b2 hb2 ls hl
    refine wr_go1 (runV C hE hH hS (m_mayBoth X0.1 hs0 hs5 hs9 hb0 hb5 hb9 b1 b2) mv_X6_mayBoth wm_814 (MX_m X0) rfl rfl hl.1 dX6_yarn_34 rfl rfl ⟨rfl, rfl⟩ ⟨Nat.le_of_ble_eq_true rfl, Nat.le_of_ble_eq_true rfl⟩ (Nat.le_of_ble_eq_true rfl) ⟨Nat.le_of_ble_eq_true rfl, Nat.le_of_ble_eq_true rfl⟩) hS (fun u1 M2 H locs hM2 hH hS => ?_)
    have X3 := MX_tr X0 hM2
    refine lv_if_ne (tgt := 42) C.1 C.2.1 dX6_yarn_37 (by decide) (fun c37 => ?_) (fun c37 => ?_)
    · obtain ⟨k1, k2, hz0⟩ := m2_t hb1 hb2 c37
      rw [hz0] at X3
      obtain ⟨u, eu, epu⟩ : ∃ z : Nat, z = p0.toNatClampNeg ∧ p0 = nI z := ⟨_, rfl, (inx_nI k1 (by omega)).2⟩
      have ru : u < 4 := by rw [eu]; exact (inx_nI k1 (by omega)).1
      rw [epu] at hl
      refine lv_aload_n C.1 C.2.1 dX6_yarn_42 rfl (lv_at hl 0 rfl) ?_
      refine mget (v := .ref (ad 4)) C hE hH fl_734 (MX_m X3) rfl dX6_yarn_43 ?_
      refine lv_iconst (v := 2) C.1 C.2.1 dX6_yarn_46 rfl ?_
      refine lv_iload_n C.1 C.2.1 dX6_yarn_47 rfl (lv_at hl 1 rfl) ?_
      refine lv_imul C.1 C.2.1 dX6_yarn_48 ?_
      rw [show (2 : Int32) * (nI u) = nI (2 * u) from (nI_m 2 u).symm]
      refine mald (n := 8) (f := (ar 4)) C hE hH (MX_a X3 4 rfl) (vp_in_nI (show (2 * u) < 8 by omega) (by decide)) dX6_yarn_49 ?_
      rw [nI_clamp (show (2 * u) < 2 ^ 31 by omega)]
      refine lv_topi (fun x4 ex4 => ?_)
      refine lv_istore (lv' := [(4, .int x4), (0, .ref mo), (1, .int (nI u)), (2, .int p1), (3, .int p2)]) C.1 C.2.1 dX6_yarn_50 hl (by decide) rfl (fun ls hl => ?_)
      refine lv_aload_n C.1 C.2.1 dX6_yarn_52 rfl (lv_at hl 1 rfl) ?_
      refine mget (v := .ref (ad 4)) C hE hH fl_734 (MX_m X3) rfl dX6_yarn_53 ?_
      refine lv_iconst (v := 2) C.1 C.2.1 dX6_yarn_56 rfl ?_
      refine lv_iload_n C.1 C.2.1 dX6_yarn_57 rfl (lv_at hl 2 rfl) ?_
      refine lv_imul C.1 C.2.1 dX6_yarn_58 ?_
      rw [show (2 : Int32) * (nI u) = nI (2 * u) from (nI_m 2 u).symm]
      refine lv_iload_n C.1 C.2.1 dX6_yarn_59 rfl (lv_at hl 3 rfl) ?_
      refine mast (n := 8) (f := (ar 4)) C hE hH hS (MX_a X3 4 rfl) (vp_in_nI (show (2 * u) < 8 by omega) (by decide)) dX6_yarn_60 (fun H locs hH hS => ?_)
      rw [nI_clamp (show (2 * u) < 2 ^ 31 by omega)] at hH
      obtain ⟨M5, hM5⟩ : ∃ z, z = mu M2 (ad 4) (eI g 8 (upd (ar 4) (2 * u) p1)) := ⟨_, rfl⟩
      have hH : Hw g M5 H := by rw [hM5]; exact hH
      have X6 := MX_ar (k := 4) (N := 8) (f := upd (ar 4) (2 * u) p1) rfl rfl X3
      rw [← hM5] at X6
      refine lv_aload_n C.1 C.2.1 dX6_yarn_61 rfl (lv_at hl 1 rfl) ?_
      refine mget (v := .ref (ad 4)) C hE hH fl_734 (MX_m X6) rfl dX6_yarn_62 ?_
      refine lv_iconst (v := 2) C.1 C.2.1 dX6_yarn_65 rfl ?_
      refine lv_iload_n C.1 C.2.1 dX6_yarn_66 rfl (lv_at hl 2 rfl) ?_
      refine lv_imul C.1 C.2.1 dX6_yarn_67 ?_
      rw [show (2 : Int32) * (nI u) = nI (2 * u) from (nI_m 2 u).symm]
      refine lv_iconst (v := 1) C.1 C.2.1 dX6_yarn_68 rfl ?_
      refine lv_iadd C.1 C.2.1 dX6_yarn_69 ?_
      rw [show (nI (2 * u) : Int32) + 1 = nI ((2 * u) + 1) from (nI_a (2 * u) 1).symm]
      refine lv_iload_n C.1 C.2.1 dX6_yarn_70 rfl (lv_at hl 4 rfl) ?_
      refine mast (n := 8) (f := (upd (ar 4) (2 * u) p1)) C hE hH hS (MX_a X6 4 rfl) (vp_in_nI (show ((2 * u) + 1) < 8 by omega) (by decide)) dX6_yarn_71 (fun H locs hH hS => ?_)
      rw [nI_clamp (show ((2 * u) + 1) < 2 ^ 31 by omega)] at hH
      obtain ⟨M7, hM7⟩ : ∃ z, z = mu M5 (ad 4) (eI g 8 (upd (upd (ar 4) (2 * u) p1) ((2 * u) + 1) p2)) := ⟨_, rfl⟩
      have hH : Hw g M7 H := by rw [hM7]; exact hH
      have X8 := MX_ar (k := 4) (N := 8) (f := upd (upd (ar 4) (2 * u) p1) ((2 * u) + 1) p2) rfl rfl X6
      rw [← hM7] at X8
      refine lv_iload C.1 C.2.1 dX6_yarn_72 (lv_at hl 0 rfl) ?_
      exact wr_iret x4 C hr hlocks hH hS rfl (by rw [← eu]; exact Or.inl ⟨k1, k2, ex4, by have h9 := X8; rw [ua_ua] at h9; exact h9⟩) (by decide) (by decide) dX6_yarn_74
    · refine lv_iconst (v := 0) C.1 C.2.1 dX6_yarn_40 rfl ?_
      exact wr_iret 0 C hr hlocks hH hS rfl (mq2_bad hb1 hb2 c37 ⟨rfl, X3⟩) (by decide) (by decide) dX6_yarn_41
  refine lv_iload_n C.1 C.2.1 dX6_yarn_7 rfl (lv_at hl 2 rfl) ?_
  refine lv_bipush (v := -10) C.1 C.2.1 dX6_yarn_8 rfl ?_
  refine lv_bipush (v := 10) C.1 C.2.1 dX6_yarn_10 rfl ?_
  refine rd_go1 (runS C hE hH hS (m_isIn p1 (-10) 10) mv_X6_isIn wm_811 hl.1 dX6_yarn_12 rfl rfl ⟨rfl, rfl⟩ ⟨Nat.le_of_ble_eq_true rfl, Nat.le_of_ble_eq_true rfl⟩ (Nat.le_of_ble_eq_true rfl) ⟨Nat.le_of_ble_eq_true rfl, Nat.le_of_ble_eq_true rfl⟩) ?_
  refine lv_if_eq (tgt := 33) C.1 C.2.1 dX6_yarn_15 (by decide) (fun c15 => ?_) (fun c15 => ?_)
  · refine lv_iconst (v := 0) C.1 C.2.1 dX6_yarn_33 rfl ?_
    exact J34 false ((decide_eq_false (fun z => (bI_z.mp c15) z.1)).symm) ls hl
  · refine lv_iload_n C.1 C.2.1 dX6_yarn_18 rfl (lv_at hl 3 rfl) ?_
    refine lv_bipush (v := -10) C.1 C.2.1 dX6_yarn_19 rfl ?_
    refine lv_bipush (v := 10) C.1 C.2.1 dX6_yarn_21 rfl ?_
    refine rd_go1 (runS C hE hH hS (m_isIn p2 (-10) 10) mv_X6_isIn wm_811 hl.1 dX6_yarn_23 rfl rfl ⟨rfl, rfl⟩ ⟨Nat.le_of_ble_eq_true rfl, Nat.le_of_ble_eq_true rfl⟩ (Nat.le_of_ble_eq_true rfl) ⟨Nat.le_of_ble_eq_true rfl, Nat.le_of_ble_eq_true rfl⟩) ?_
    refine lv_if_eq (tgt := 33) C.1 C.2.1 dX6_yarn_26 (by decide) (fun c26 => ?_) (fun c26 => ?_)
    · refine lv_iconst (v := 0) C.1 C.2.1 dX6_yarn_33 rfl ?_
      exact J34 false ((decide_eq_false (fun z => (bI_z.mp c26) z.2)).symm) ls hl
    · refine lv_iconst (v := 1) C.1 C.2.1 dX6_yarn_29 rfl ?_
      refine lv_goto (tgt := 34) C.1 C.2.1 dX6_yarn_30 (by decide) ?_
      exact J34 true ((decide_eq_true ⟨(bI_nz c15), bI_nz c26⟩).symm) ls hl
set_option maxHeartbeats 4000000 in
set_option maxRecDepth 100000 in
theorem mw_apart {l : Launch} {g : gG} {M : Mp} {mo : Nat} {ad : Nat → Nat} {sc : Nat → Int32} {ar : Nat → Nat → Int32} {ne nb no : Nat}  (hI : MI g M mo ad sc ar) (hs0 : sc 0 = nI ne) (hs5 : sc 5 = nI nb) (hs9 : sc 9 = nI no) (hb0 : ne ≤ 12) (hb5 : nb ≤ 10) (hb9 : no ≤ 40) (p0 p1 : Int32) : Met l yX6_apart (WY yX6_apart cX6_apart 3 (some .int)) { frames := 2, cells := 0, slots := 0, locals := 43 } (Wc g M [.ref mo, .int p0, .int p1]) (wrQ (S := Int32) g (fun u_ => (some (.int u_))) (fun u_ M_ => MQ1 ((inx p0 ne) ∧ inx p1 ne) (u_ = (zfar (ar 1 (2 * p0.toNatClampNeg)) (ar 1 (2 * p1.toNatClampNeg)) + zfar (ar 1 (2 * p0.toNatClampNeg + 1)) (ar 1 (2 * p1.toNatClampNeg + 1))) ∧ MX g M M_ mo ad (us sc 23 0) (ar)) (fun t_ => u_ = 0 ∧ MX g M M_ mo ad (us sc 23 t_) ar))) 0 0 (gA g) := by
  refine ofM (by decide +kernel) (Nat.le_of_ble_eq_true rfl) (fun p e s m args below meth c ls C hr hlocks hin hE hH hl ea => ?_)
  have hl : lv_has ls 3 [(0, .ref mo), (1, .int p0), (2, .int p1)] := hl
  have hS : va_S (gA g) s.heap s.heap [] := va_S.rf
  have X0 := MX_rf hI
  refine lv_aload_n C.1 C.2.1 dX6_apart_0 rfl (lv_at hl 0 rfl) ?_
  have J22 : ∀ (b1 : Bool), b1 = decide ((inx p0 ne) ∧ inx p1 ne) → ∀ (ls : Array Slot), lv_has ls 3 [(0, .ref mo), (1, .int p0), (2, .int p1)] → W p l e { frames := 2, cells := 0, slots := 0, locals := 43 } s m args below meth c s.heap [] 0 0 (MQ below (wrQ (S := Int32) g (fun u_ => (some (.int u_))) (fun u_ M_ => MQ1 ((inx p0 ne) ∧ inx p1 ne) (u_ = (zfar (ar 1 (2 * p0.toNatClampNeg)) (ar 1 (2 * p1.toNatClampNeg)) + zfar (ar 1 (2 * p0.toNatClampNeg + 1)) (ar 1 (2 * p1.toNatClampNeg + 1))) ∧ MX g M M_ mo ad (us sc 23 0) (ar)) (fun t_ => u_ = 0 ∧ MX g M M_ mo ad (us sc 23 t_) ar))) args s 0 0 (gA g)) (F0 m 22 ls [.int (bI b1), .ref mo]) := by
    intro b1 hb1 ls hl
    refine wr_go1 (runV C hE hH hS (m_may X0.1 hs0 hs5 hs9 hb0 hb5 hb9 b1) mv_X6_may wm_837 (MX_m X0) rfl rfl hl.1 dX6_apart_22 rfl rfl ⟨rfl, rfl⟩ ⟨Nat.le_of_ble_eq_true rfl, Nat.le_of_ble_eq_true rfl⟩ (Nat.le_of_ble_eq_true rfl) ⟨Nat.le_of_ble_eq_true rfl, Nat.le_of_ble_eq_true rfl⟩) hS (fun u1 M2 H locs hM2 hH hS => ?_)
    have X3 := MX_tr X0 hM2
    refine lv_if_ne (tgt := 30) C.1 C.2.1 dX6_apart_25 (by decide) (fun c25 => ?_) (fun c25 => ?_)
    · obtain ⟨k1, hz0⟩ := m1_t hb1 c25
      rw [hz0] at X3
      obtain ⟨u, eu, epu⟩ : ∃ z : Nat, z = p0.toNatClampNeg ∧ p0 = nI z := ⟨_, rfl, (inx_nI k1.1 (by omega)).2⟩
      have ru : u < ne := by rw [eu]; exact (inx_nI k1.1 (by omega)).1
      rw [epu] at hl
      obtain ⟨w, ew, epw⟩ : ∃ z : Nat, z = p1.toNatClampNeg ∧ p1 = nI z := ⟨_, rfl, (inx_nI k1.2 (by omega)).2⟩
      have rw : w < ne := by rw [ew]; exact (inx_nI k1.2 (by omega)).1
      rw [epw] at hl
      refine lv_aload_n C.1 C.2.1 dX6_apart_30 rfl (lv_at hl 0 rfl) ?_
      refine mget (v := .ref (ad 1)) C hE hH fl_731 (MX_m X3) rfl dX6_apart_31 ?_
      refine lv_iconst (v := 2) C.1 C.2.1 dX6_apart_34 rfl ?_
      refine lv_iload_n C.1 C.2.1 dX6_apart_35 rfl (lv_at hl 1 rfl) ?_
      refine lv_imul C.1 C.2.1 dX6_apart_36 ?_
      rw [show (2 : Int32) * (nI u) = nI (2 * u) from (nI_m 2 u).symm]
      refine mald (n := 24) (f := (ar 1)) C hE hH (MX_a X3 1 rfl) (vp_in_nI (show (2 * u) < 24 by omega) (by decide)) dX6_apart_37 ?_
      rw [nI_clamp (show (2 * u) < 2 ^ 31 by omega)]
      refine lv_aload_n C.1 C.2.1 dX6_apart_38 rfl (lv_at hl 0 rfl) ?_
      refine mget (v := .ref (ad 1)) C hE hH fl_731 (MX_m X3) rfl dX6_apart_39 ?_
      refine lv_iconst (v := 2) C.1 C.2.1 dX6_apart_42 rfl ?_
      refine lv_iload_n C.1 C.2.1 dX6_apart_43 rfl (lv_at hl 2 rfl) ?_
      refine lv_imul C.1 C.2.1 dX6_apart_44 ?_
      rw [show (2 : Int32) * (nI w) = nI (2 * w) from (nI_m 2 w).symm]
      refine mald (n := 24) (f := (ar 1)) C hE hH (MX_a X3 1 rfl) (vp_in_nI (show (2 * w) < 24 by omega) (by decide)) dX6_apart_45 ?_
      rw [nI_clamp (show (2 * w) < 2 ^ 31 by omega)]
      refine rd_go1 (runS C hE hH hS (m_far ((ar 1) (2 * u)) ((ar 1) (2 * w))) mv_X6_far wm_841 hl.1 dX6_apart_46 rfl rfl ⟨rfl, rfl⟩ ⟨Nat.le_of_ble_eq_true rfl, Nat.le_of_ble_eq_true rfl⟩ (Nat.le_of_ble_eq_true rfl) ⟨Nat.le_of_ble_eq_true rfl, Nat.le_of_ble_eq_true rfl⟩) ?_
      refine lv_aload_n C.1 C.2.1 dX6_apart_49 rfl (lv_at hl 0 rfl) ?_
      refine mget (v := .ref (ad 1)) C hE hH fl_731 (MX_m X3) rfl dX6_apart_50 ?_
      refine lv_iconst (v := 2) C.1 C.2.1 dX6_apart_53 rfl ?_
      refine lv_iload_n C.1 C.2.1 dX6_apart_54 rfl (lv_at hl 1 rfl) ?_
      refine lv_imul C.1 C.2.1 dX6_apart_55 ?_
      rw [show (2 : Int32) * (nI u) = nI (2 * u) from (nI_m 2 u).symm]
      refine lv_iconst (v := 1) C.1 C.2.1 dX6_apart_56 rfl ?_
      refine lv_iadd C.1 C.2.1 dX6_apart_57 ?_
      rw [show (nI (2 * u) : Int32) + 1 = nI ((2 * u) + 1) from (nI_a (2 * u) 1).symm]
      refine mald (n := 24) (f := (ar 1)) C hE hH (MX_a X3 1 rfl) (vp_in_nI (show ((2 * u) + 1) < 24 by omega) (by decide)) dX6_apart_58 ?_
      rw [nI_clamp (show ((2 * u) + 1) < 2 ^ 31 by omega)]
      refine lv_aload_n C.1 C.2.1 dX6_apart_59 rfl (lv_at hl 0 rfl) ?_
      refine mget (v := .ref (ad 1)) C hE hH fl_731 (MX_m X3) rfl dX6_apart_60 ?_
      refine lv_iconst (v := 2) C.1 C.2.1 dX6_apart_63 rfl ?_
      refine lv_iload_n C.1 C.2.1 dX6_apart_64 rfl (lv_at hl 2 rfl) ?_
      refine lv_imul C.1 C.2.1 dX6_apart_65 ?_
      rw [show (2 : Int32) * (nI w) = nI (2 * w) from (nI_m 2 w).symm]
      refine lv_iconst (v := 1) C.1 C.2.1 dX6_apart_66 rfl ?_
      refine lv_iadd C.1 C.2.1 dX6_apart_67 ?_
      rw [show (nI (2 * w) : Int32) + 1 = nI ((2 * w) + 1) from (nI_a (2 * w) 1).symm]
      refine mald (n := 24) (f := (ar 1)) C hE hH (MX_a X3 1 rfl) (vp_in_nI (show ((2 * w) + 1) < 24 by omega) (by decide)) dX6_apart_68 ?_
      rw [nI_clamp (show ((2 * w) + 1) < 2 ^ 31 by omega)]
      refine rd_go1 (runS C hE hH hS (m_far ((ar 1) ((2 * u) + 1)) ((ar 1) ((2 * w) + 1))) mv_X6_far wm_841 hl.1 dX6_apart_69 rfl rfl ⟨rfl, rfl⟩ ⟨Nat.le_of_ble_eq_true rfl, Nat.le_of_ble_eq_true rfl⟩ (Nat.le_of_ble_eq_true rfl) ⟨Nat.le_of_ble_eq_true rfl, Nat.le_of_ble_eq_true rfl⟩) ?_
      refine lv_iadd C.1 C.2.1 dX6_apart_72 ?_
      exact wr_iret ((zfar ((ar 1) (2 * u)) ((ar 1) (2 * w))) + (zfar ((ar 1) ((2 * u) + 1)) ((ar 1) ((2 * w) + 1)))) C hr hlocks hH hS rfl (by rw [← eu, ← ew]; exact Or.inl ⟨k1, rfl, by have h9 := X3; exact h9⟩) (by decide) (by decide) dX6_apart_73
    · refine lv_iconst (v := 0) C.1 C.2.1 dX6_apart_28 rfl ?_
      exact wr_iret 0 C hr hlocks hH hS rfl (mq1_bad hb1 c25 ⟨rfl, X3⟩) (by decide) (by decide) dX6_apart_29
  refine lv_aload_n C.1 C.2.1 dX6_apart_1 rfl (lv_at hl 0 rfl) ?_
  refine lv_iload_n C.1 C.2.1 dX6_apart_2 rfl (lv_at hl 1 rfl) ?_
  refine rd_go1 (runV C hE hH hS (m_isEntry X0.1 hs0 hs5 hs9 hb0 hb5 hb9 p0) mv_X6_isEntry wm_833 (MX_m X0) rfl rfl hl.1 dX6_apart_3 rfl rfl ⟨rfl, rfl⟩ ⟨Nat.le_of_ble_eq_true rfl, Nat.le_of_ble_eq_true rfl⟩ (Nat.le_of_ble_eq_true rfl) ⟨Nat.le_of_ble_eq_true rfl, Nat.le_of_ble_eq_true rfl⟩) ?_
  refine lv_if_eq (tgt := 21) C.1 C.2.1 dX6_apart_6 (by decide) (fun c6 => ?_) (fun c6 => ?_)
  · refine lv_iconst (v := 0) C.1 C.2.1 dX6_apart_21 rfl ?_
    exact J22 false ((decide_eq_false (fun z => (bI_z.mp c6) z.1)).symm) ls hl
  · refine lv_aload_n C.1 C.2.1 dX6_apart_9 rfl (lv_at hl 0 rfl) ?_
    refine lv_iload_n C.1 C.2.1 dX6_apart_10 rfl (lv_at hl 2 rfl) ?_
    refine rd_go1 (runV C hE hH hS (m_isEntry X0.1 hs0 hs5 hs9 hb0 hb5 hb9 p1) mv_X6_isEntry wm_833 (MX_m X0) rfl rfl hl.1 dX6_apart_11 rfl rfl ⟨rfl, rfl⟩ ⟨Nat.le_of_ble_eq_true rfl, Nat.le_of_ble_eq_true rfl⟩ (Nat.le_of_ble_eq_true rfl) ⟨Nat.le_of_ble_eq_true rfl, Nat.le_of_ble_eq_true rfl⟩) ?_
    refine lv_if_eq (tgt := 21) C.1 C.2.1 dX6_apart_14 (by decide) (fun c14 => ?_) (fun c14 => ?_)
    · refine lv_iconst (v := 0) C.1 C.2.1 dX6_apart_21 rfl ?_
      exact J22 false ((decide_eq_false (fun z => (bI_z.mp c14) z.2)).symm) ls hl
    · refine lv_iconst (v := 1) C.1 C.2.1 dX6_apart_17 rfl ?_
      refine lv_goto (tgt := 22) C.1 C.2.1 dX6_apart_18 (by decide) ?_
      exact J22 true ((decide_eq_true ⟨(bI_nz c6), bI_nz c14⟩).symm) ls hl
set_option maxHeartbeats 4000000 in
set_option maxRecDepth 100000 in
theorem mw_blamed {l : Launch} {g : gG} {M : Mp} {mo : Nat} {ad : Nat → Nat} {sc : Nat → Int32} {ar : Nat → Nat → Int32} {ne nb no : Nat}  (hI : MI g M mo ad sc ar) (hs0 : sc 0 = nI ne) (hs5 : sc 5 = nI nb) (hs9 : sc 9 = nI no) (hb0 : ne ≤ 12) (hb5 : nb ≤ 10) (hb9 : no ≤ 40) (p0 p1 : Int32) : Met l yX6_blamed (WY yX6_blamed cX6_blamed 3 (some .int)) { frames := 2, cells := 0, slots := 0, locals := 42 } (Wc g M [.ref mo, .int p0, .int p1]) (wrQ (S := Int32) g (fun u_ => (some (.int u_))) (fun u_ M_ => MQ2 (inx p0 3) (inr p1 0 2) (u_ = (ar 19 (3 * p0.toNatClampNeg + p1.toNatClampNeg)) ∧ MX g M M_ mo ad (us sc 23 0) (ar)) (fun t_ => u_ = 0 ∧ MX g M M_ mo ad (us sc 23 t_) ar))) 0 0 (gA g) := by
  refine ofM (by decide +kernel) (Nat.le_of_ble_eq_true rfl) (fun p e s m args below meth c ls C hr hlocks hin hE hH hl ea => ?_)
  have hl : lv_has ls 3 [(0, .ref mo), (1, .int p0), (2, .int p1)] := hl
  have hS : va_S (gA g) s.heap s.heap [] := va_S.rf
  have X0 := MX_rf hI
  refine lv_aload_n C.1 C.2.1 dX6_blamed_0 rfl (lv_at hl 0 rfl) ?_
  refine lv_iload_n C.1 C.2.1 dX6_blamed_1 rfl (lv_at hl 1 rfl) ?_
  refine rd_go1 (runS C hE hH hS (m_isThird p0) mv_X6_isThird wm_822 hl.1 dX6_blamed_2 rfl rfl ⟨rfl, rfl⟩ ⟨Nat.le_of_ble_eq_true rfl, Nat.le_of_ble_eq_true rfl⟩ (Nat.le_of_ble_eq_true rfl) ⟨Nat.le_of_ble_eq_true rfl, Nat.le_of_ble_eq_true rfl⟩) ?_
  obtain ⟨b1, hb1⟩ : ∃ z : Bool, z = decide (inx p0 3) := ⟨_, rfl⟩
  rw [← hb1]
  refine lv_iload_n C.1 C.2.1 dX6_blamed_5 rfl (lv_at hl 2 rfl) ?_
  refine lv_iconst (v := 0) C.1 C.2.1 dX6_blamed_6 rfl ?_
  refine lv_iconst (v := 2) C.1 C.2.1 dX6_blamed_7 rfl ?_
  refine rd_go1 (runS C hE hH hS (m_isIn p1 0 2) mv_X6_isIn wm_811 hl.1 dX6_blamed_8 rfl rfl ⟨rfl, rfl⟩ ⟨Nat.le_of_ble_eq_true rfl, Nat.le_of_ble_eq_true rfl⟩ (Nat.le_of_ble_eq_true rfl) ⟨Nat.le_of_ble_eq_true rfl, Nat.le_of_ble_eq_true rfl⟩) ?_
  obtain ⟨b2, hb2⟩ : ∃ z : Bool, z = decide (inr p1 0 2) := ⟨_, rfl⟩
  rw [← hb2]
  refine wr_go1 (runV C hE hH hS (m_mayBoth X0.1 hs0 hs5 hs9 hb0 hb5 hb9 b1 b2) mv_X6_mayBoth wm_814 (MX_m X0) rfl rfl hl.1 dX6_blamed_11 rfl rfl ⟨rfl, rfl⟩ ⟨Nat.le_of_ble_eq_true rfl, Nat.le_of_ble_eq_true rfl⟩ (Nat.le_of_ble_eq_true rfl) ⟨Nat.le_of_ble_eq_true rfl, Nat.le_of_ble_eq_true rfl⟩) hS (fun u1 M2 H locs hM2 hH hS => ?_)
  have X3 := MX_tr X0 hM2
  refine lv_if_eq (tgt := 30) C.1 C.2.1 dX6_blamed_14 (by decide) (fun c14 => ?_) (fun c14 => ?_)
  · refine lv_iconst (v := 0) C.1 C.2.1 dX6_blamed_30 rfl ?_
    exact wr_iret 0 C hr hlocks hH hS rfl (mq2_bad hb1 hb2 c14 ⟨rfl, X3⟩) (by decide) (by decide) dX6_blamed_31
  · obtain ⟨k1, k2, hz0⟩ := m2_t hb1 hb2 c14
    rw [hz0] at X3
    obtain ⟨u, eu, epu⟩ : ∃ z : Nat, z = p0.toNatClampNeg ∧ p0 = nI z := ⟨_, rfl, (inx_nI k1 (by omega)).2⟩
    have ru : u < 3 := by rw [eu]; exact (inx_nI k1 (by omega)).1
    rw [epu] at hl
    obtain ⟨w, ew, epw⟩ : ∃ z : Nat, z = p1.toNatClampNeg ∧ p1 = nI z := ⟨_, rfl, (inx_nI (inr_inx k2) (by omega)).2⟩
    have rw : w < 3 := by rw [ew]; exact (inx_nI (inr_inx k2) (by omega)).1
    rw [epw] at hl
    refine lv_aload_n C.1 C.2.1 dX6_blamed_17 rfl (lv_at hl 0 rfl) ?_
    refine mget (v := .ref (ad 19)) C hE hH fl_749 (MX_m X3) rfl dX6_blamed_18 ?_
    refine lv_iconst (v := 3) C.1 C.2.1 dX6_blamed_21 rfl ?_
    refine lv_iload_n C.1 C.2.1 dX6_blamed_22 rfl (lv_at hl 1 rfl) ?_
    refine lv_imul C.1 C.2.1 dX6_blamed_23 ?_
    rw [show (3 : Int32) * (nI u) = nI (3 * u) from (nI_m 3 u).symm]
    refine lv_iload_n C.1 C.2.1 dX6_blamed_24 rfl (lv_at hl 2 rfl) ?_
    refine lv_iadd C.1 C.2.1 dX6_blamed_25 ?_
    rw [show (nI (3 * u) : Int32) + (nI w) = nI ((3 * u) + w) from (nI_a (3 * u) w).symm]
    refine mald (n := 9) (f := (ar 19)) C hE hH (MX_a X3 19 rfl) (vp_in_nI (show ((3 * u) + w) < 9 by omega) (by decide)) dX6_blamed_26 ?_
    rw [nI_clamp (show ((3 * u) + w) < 2 ^ 31 by omega)]
    refine lv_goto (tgt := 31) C.1 C.2.1 dX6_blamed_27 (by decide) ?_
    exact wr_iret ((ar 19) ((3 * u) + w)) C hr hlocks hH hS rfl (by rw [← eu, ← ew]; exact Or.inl ⟨k1, k2, rfl, by have h9 := X3; exact h9⟩) (by decide) (by decide) dX6_blamed_31
set_option maxHeartbeats 4000000 in
set_option maxRecDepth 100000 in
theorem mw_owes {l : Launch} {g : gG} {M : Mp} {mo : Nat} {ad : Nat → Nat} {sc : Nat → Int32} {ar : Nat → Nat → Int32} {ne nb no : Nat}  (hI : MI g M mo ad sc ar) (hs0 : sc 0 = nI ne) (hs5 : sc 5 = nI nb) (hs9 : sc 9 = nI no) (hb0 : ne ≤ 12) (hb5 : nb ≤ 10) (hb9 : no ≤ 40) (p0 p1 p2 : Int32) : Met l yX6_owes (WY yX6_owes cX6_owes 4 (some .int)) { frames := 2, cells := 0, slots := 0, locals := 42 } (Wc g M [.ref mo, .int p0, .int p1, .int p2]) (wrQ (S := Int32) g (fun u_ => (some (.int u_))) (fun u_ M_ => MQ1 (((inx p0 5) ∧ inx p1 5) ∧ inx p2 3) (u_ = (ar 21 (25 * p2.toNatClampNeg + 5 * p0.toNatClampNeg + p1.toNatClampNeg)) ∧ MX g M M_ mo ad (us sc 23 0) (ar)) (fun t_ => u_ = 0 ∧ MX g M M_ mo ad (us sc 23 t_) ar))) 0 0 (gA g) := by
  refine ofM (by decide +kernel) (Nat.le_of_ble_eq_true rfl) (fun p e s m args below meth c ls C hr hlocks hin hE hH hl ea => ?_)
  have hl : lv_has ls 4 [(0, .ref mo), (1, .int p0), (2, .int p1), (3, .int p2)] := hl
  have hS : va_S (gA g) s.heap s.heap [] := va_S.rf
  have X0 := MX_rf hI
  refine lv_aload_n C.1 C.2.1 dX6_owes_0 rfl (lv_at hl 0 rfl) ?_
  have J27 : ∀ (b1 : Bool), b1 = decide (((inx p0 5) ∧ inx p1 5) ∧ inx p2 3) → ∀ (ls : Array Slot), lv_has ls 4 [(0, .ref mo), (1, .int p0), (2, .int p1), (3, .int p2)] → W p l e { frames := 2, cells := 0, slots := 0, locals := 42 } s m args below meth c s.heap [] 0 0 (MQ below (wrQ (S := Int32) g (fun u_ => (some (.int u_))) (fun u_ M_ => MQ1 (((inx p0 5) ∧ inx p1 5) ∧ inx p2 3) (u_ = (ar 21 (25 * p2.toNatClampNeg + 5 * p0.toNatClampNeg + p1.toNatClampNeg)) ∧ MX g M M_ mo ad (us sc 23 0) (ar)) (fun t_ => u_ = 0 ∧ MX g M M_ mo ad (us sc 23 t_) ar))) args s 0 0 (gA g)) (F0 m 27 ls [.int (bI b1), .ref mo]) := by
    intro b1 hb1 ls hl
    refine wr_go1 (runV C hE hH hS (m_may X0.1 hs0 hs5 hs9 hb0 hb5 hb9 b1) mv_X6_may wm_837 (MX_m X0) rfl rfl hl.1 dX6_owes_27 rfl rfl ⟨rfl, rfl⟩ ⟨Nat.le_of_ble_eq_true rfl, Nat.le_of_ble_eq_true rfl⟩ (Nat.le_of_ble_eq_true rfl) ⟨Nat.le_of_ble_eq_true rfl, Nat.le_of_ble_eq_true rfl⟩) hS (fun u1 M2 H locs hM2 hH hS => ?_)
    have X3 := MX_tr X0 hM2
    refine lv_if_eq (tgt := 51) C.1 C.2.1 dX6_owes_30 (by decide) (fun c30 => ?_) (fun c30 => ?_)
    · refine lv_iconst (v := 0) C.1 C.2.1 dX6_owes_51 rfl ?_
      exact wr_iret 0 C hr hlocks hH hS rfl (mq1_bad hb1 c30 ⟨rfl, X3⟩) (by decide) (by decide) dX6_owes_52
    · obtain ⟨k1, hz0⟩ := m1_t hb1 c30
      rw [hz0] at X3
      obtain ⟨u, eu, epu⟩ : ∃ z : Nat, z = p0.toNatClampNeg ∧ p0 = nI z := ⟨_, rfl, (inx_nI k1.1.1 (by omega)).2⟩
      have ru : u < 5 := by rw [eu]; exact (inx_nI k1.1.1 (by omega)).1
      rw [epu] at hl
      obtain ⟨w, ew, epw⟩ : ∃ z : Nat, z = p1.toNatClampNeg ∧ p1 = nI z := ⟨_, rfl, (inx_nI k1.1.2 (by omega)).2⟩
      have rw : w < 5 := by rw [ew]; exact (inx_nI k1.1.2 (by omega)).1
      rw [epw] at hl
      obtain ⟨v, ev, epv⟩ : ∃ z : Nat, z = p2.toNatClampNeg ∧ p2 = nI z := ⟨_, rfl, (inx_nI k1.2 (by omega)).2⟩
      have rv : v < 3 := by rw [ev]; exact (inx_nI k1.2 (by omega)).1
      rw [epv] at hl
      refine lv_aload_n C.1 C.2.1 dX6_owes_33 rfl (lv_at hl 0 rfl) ?_
      refine mget (v := .ref (ad 21)) C hE hH fl_751 (MX_m X3) rfl dX6_owes_34 ?_
      refine lv_bipush (v := 25) C.1 C.2.1 dX6_owes_37 rfl ?_
      refine lv_iload_n C.1 C.2.1 dX6_owes_39 rfl (lv_at hl 3 rfl) ?_
      refine lv_imul C.1 C.2.1 dX6_owes_40 ?_
      rw [show (25 : Int32) * (nI v) = nI (25 * v) from (nI_m 25 v).symm]
      refine lv_iconst (v := 5) C.1 C.2.1 dX6_owes_41 rfl ?_
      refine lv_iload_n C.1 C.2.1 dX6_owes_42 rfl (lv_at hl 1 rfl) ?_
      refine lv_imul C.1 C.2.1 dX6_owes_43 ?_
      rw [show (5 : Int32) * (nI u) = nI (5 * u) from (nI_m 5 u).symm]
      refine lv_iadd C.1 C.2.1 dX6_owes_44 ?_
      rw [show (nI (25 * v) : Int32) + (nI (5 * u)) = nI ((25 * v) + (5 * u)) from (nI_a (25 * v) (5 * u)).symm]
      refine lv_iload_n C.1 C.2.1 dX6_owes_45 rfl (lv_at hl 2 rfl) ?_
      refine lv_iadd C.1 C.2.1 dX6_owes_46 ?_
      rw [show (nI ((25 * v) + (5 * u)) : Int32) + (nI w) = nI (((25 * v) + (5 * u)) + w) from (nI_a ((25 * v) + (5 * u)) w).symm]
      refine mald (n := 75) (f := (ar 21)) C hE hH (MX_a X3 21 rfl) (vp_in_nI (show (((25 * v) + (5 * u)) + w) < 75 by omega) (by decide)) dX6_owes_47 ?_
      rw [nI_clamp (show (((25 * v) + (5 * u)) + w) < 2 ^ 31 by omega)]
      refine lv_goto (tgt := 52) C.1 C.2.1 dX6_owes_48 (by decide) ?_
      exact wr_iret ((ar 21) (((25 * v) + (5 * u)) + w)) C hr hlocks hH hS rfl (by rw [← eu, ← ew, ← ev]; exact Or.inl ⟨k1, rfl, by have h9 := X3; exact h9⟩) (by decide) (by decide) dX6_owes_52
  refine lv_iload_n C.1 C.2.1 dX6_owes_1 rfl (lv_at hl 1 rfl) ?_
  refine rd_go1 (runS C hE hH hS (m_isPerson p0) mv_X6_isPerson wm_925 hl.1 dX6_owes_2 rfl rfl ⟨rfl, rfl⟩ ⟨Nat.le_of_ble_eq_true rfl, Nat.le_of_ble_eq_true rfl⟩ (Nat.le_of_ble_eq_true rfl) ⟨Nat.le_of_ble_eq_true rfl, Nat.le_of_ble_eq_true rfl⟩) ?_
  refine lv_if_eq (tgt := 26) C.1 C.2.1 dX6_owes_5 (by decide) (fun c5 => ?_) (fun c5 => ?_)
  · refine lv_iconst (v := 0) C.1 C.2.1 dX6_owes_26 rfl ?_
    exact J27 false ((decide_eq_false (fun z => (bI_z.mp c5) z.1.1)).symm) ls hl
  · refine lv_iload_n C.1 C.2.1 dX6_owes_8 rfl (lv_at hl 2 rfl) ?_
    refine rd_go1 (runS C hE hH hS (m_isPerson p1) mv_X6_isPerson wm_925 hl.1 dX6_owes_9 rfl rfl ⟨rfl, rfl⟩ ⟨Nat.le_of_ble_eq_true rfl, Nat.le_of_ble_eq_true rfl⟩ (Nat.le_of_ble_eq_true rfl) ⟨Nat.le_of_ble_eq_true rfl, Nat.le_of_ble_eq_true rfl⟩) ?_
    refine lv_if_eq (tgt := 26) C.1 C.2.1 dX6_owes_12 (by decide) (fun c12 => ?_) (fun c12 => ?_)
    · refine lv_iconst (v := 0) C.1 C.2.1 dX6_owes_26 rfl ?_
      exact J27 false ((decide_eq_false (fun z => (bI_z.mp c12) z.1.2)).symm) ls hl
    · refine lv_iload_n C.1 C.2.1 dX6_owes_15 rfl (lv_at hl 3 rfl) ?_
      refine rd_go1 (runS C hE hH hS (m_isThird p2) mv_X6_isThird wm_822 hl.1 dX6_owes_16 rfl rfl ⟨rfl, rfl⟩ ⟨Nat.le_of_ble_eq_true rfl, Nat.le_of_ble_eq_true rfl⟩ (Nat.le_of_ble_eq_true rfl) ⟨Nat.le_of_ble_eq_true rfl, Nat.le_of_ble_eq_true rfl⟩) ?_
      refine lv_if_eq (tgt := 26) C.1 C.2.1 dX6_owes_19 (by decide) (fun c19 => ?_) (fun c19 => ?_)
      · refine lv_iconst (v := 0) C.1 C.2.1 dX6_owes_26 rfl ?_
        exact J27 false ((decide_eq_false (fun z => (bI_z.mp c19) z.2)).symm) ls hl
      · refine lv_iconst (v := 1) C.1 C.2.1 dX6_owes_22 rfl ?_
        refine lv_goto (tgt := 27) C.1 C.2.1 dX6_owes_23 (by decide) ?_
        exact J27 true ((decide_eq_true ⟨⟨(bI_nz c5), bI_nz c12⟩, bI_nz c19⟩).symm) ls hl
set_option maxHeartbeats 4000000 in
set_option maxRecDepth 100000 in
theorem m_positionOf {l : Launch} {g : gG} {M : Mp} {mo : Nat} {ad : Nat → Nat} {sc : Nat → Int32} {ar : Nat → Nat → Int32} {ne nb no : Nat}  {j k : Nat} (hI : MI g M mo ad sc ar) (hs0 : sc 0 = nI ne) (hs5 : sc 5 = nI nb) (hs9 : sc 9 = nI no) (hb0 : ne ≤ 12) (hb5 : nb ≤ 10) (hb9 : no ≤ 40) (hj : j < 5) (hk : k < 3) : Met l yX6_positionOf (WY yX6_positionOf cX6_positionOf 5 (some .int)) { frames := 0, cells := 0, slots := 0, locals := 0 } (Wc g M [.ref mo, .int (nI j), .int (nI k)]) (rdQ (some (.int (zbal (zD ar k) j 5)))) 0 0 fr0 := by
  refine ofM (by decide +kernel) (Nat.le_of_ble_eq_true rfl) (fun p e s m args below meth c ls C hr hlocks hin hE hH hl ea => ?_)
  have hl : lv_has ls 5 [(0, .ref mo), (1, .int (nI j)), (2, .int (nI k))] := hl
  have hS : va_S (gA g) s.heap s.heap [] := va_S.rf
  have X0 := MX_rf hI
  refine lv_iconst (v := 0) C.1 C.2.1 dX6_positionOf_0 rfl ?_
  refine lv_istore_n (lv' := [(3, .int 0), (0, .ref mo), (1, .int (nI j)), (2, .int (nI k))]) C.1 C.2.1 dX6_positionOf_1 rfl hl (by decide) rfl (fun ls hl => ?_)
  refine lv_iconst (v := 0) C.1 C.2.1 dX6_positionOf_2 rfl ?_
  refine lv_istore (lv' := [(4, .int 0), (3, .int 0), (0, .ref mo), (1, .int (nI j)), (2, .int (nI k))]) C.1 C.2.1 dX6_positionOf_3 hl (by decide) rfl (fun ls hl => ?_)
  have loop5 : ∀ (fu : Nat) (i : Nat) (b2 : Int32), (i ≤ 5) → (5 < i + fu) → (b2 = zbal (zD ar k) j i) →  ∀ (ls : Array Slot), lv_has ls 5 [(0, .ref mo), (1, .int (nI j)), (2, .int (nI k)), (3, .int b2), (4, .int (nI i))] → W p l e { frames := 0, cells := 0, slots := 0, locals := 0 } s m args below meth c s.heap [] 0 0 (MQ below (rdQ (some (.int (zbal (zD ar k) j 5)))) args s 0 0 fr0) (F0 m 5 ls []) := by
    intro fu
    induction fu with
    | zero => intro i b2 hi hfu hb; exact absurd hfu (by omega)
    | succ fu ih =>
      intro i b2 hi hfu hb ls hl
      refine lv_iload C.1 C.2.1 dX6_positionOf_5 (lv_at hl 4 rfl) ?_
      refine lv_iconst (v := 5) C.1 C.2.1 dX6_positionOf_7 rfl ?_
      refine lv_icmp_ge (tgt := 53) C.1 C.2.1 dX6_positionOf_8 (by decide) (fun c8 => ?_) (fun c8 => ?_)
      · refine lv_iload_n C.1 C.2.1 dX6_positionOf_53 rfl (lv_at hl 3 rfl) ?_
        exact rd_iret C hr hlocks (by rw [hb, five_eq hi c8]) dX6_positionOf_54
      · have hi5 : i < 5 := five_lt hi c8
        refine lv_iload_n C.1 C.2.1 dX6_positionOf_11 rfl (lv_at hl 3 rfl) ?_
        refine lv_aload_n C.1 C.2.1 dX6_positionOf_12 rfl (lv_at hl 0 rfl) ?_
        refine mget (v := .ref (ad 21)) C hE hH fl_751 (MX_m X0) rfl dX6_positionOf_13 ?_
        refine lv_bipush (v := 25) C.1 C.2.1 dX6_positionOf_16 rfl ?_
        refine lv_iload_n C.1 C.2.1 dX6_positionOf_18 rfl (lv_at hl 2 rfl) ?_
        refine lv_imul C.1 C.2.1 dX6_positionOf_19 ?_
        rw [show (25 : Int32) * (nI k) = nI (25 * k) from (nI_m 25 k).symm]
        refine lv_iconst (v := 5) C.1 C.2.1 dX6_positionOf_20 rfl ?_
        refine lv_iload C.1 C.2.1 dX6_positionOf_21 (lv_at hl 4 rfl) ?_
        refine lv_imul C.1 C.2.1 dX6_positionOf_23 ?_
        rw [show (5 : Int32) * (nI i) = nI (5 * i) from (nI_m 5 i).symm]
        refine lv_iadd C.1 C.2.1 dX6_positionOf_24 ?_
        rw [show (nI (25 * k) : Int32) + (nI (5 * i)) = nI ((25 * k) + (5 * i)) from (nI_a (25 * k) (5 * i)).symm]
        refine lv_iload_n C.1 C.2.1 dX6_positionOf_25 rfl (lv_at hl 1 rfl) ?_
        refine lv_iadd C.1 C.2.1 dX6_positionOf_26 ?_
        rw [show (nI ((25 * k) + (5 * i)) : Int32) + (nI j) = nI (((25 * k) + (5 * i)) + j) from (nI_a ((25 * k) + (5 * i)) j).symm]
        refine mald (n := 75) (f := (ar 21)) C hE hH (MX_a X0 21 rfl) (vp_in_nI (show (((25 * k) + (5 * i)) + j) < 75 by omega) (by decide)) dX6_positionOf_27 ?_
        rw [nI_clamp (show (((25 * k) + (5 * i)) + j) < 2 ^ 31 by omega)]
        refine lv_aload_n C.1 C.2.1 dX6_positionOf_28 rfl (lv_at hl 0 rfl) ?_
        refine mget (v := .ref (ad 21)) C hE hH fl_751 (MX_m X0) rfl dX6_positionOf_29 ?_
        refine lv_bipush (v := 25) C.1 C.2.1 dX6_positionOf_32 rfl ?_
        refine lv_iload_n C.1 C.2.1 dX6_positionOf_34 rfl (lv_at hl 2 rfl) ?_
        refine lv_imul C.1 C.2.1 dX6_positionOf_35 ?_
        rw [show (25 : Int32) * (nI k) = nI (25 * k) from (nI_m 25 k).symm]
        refine lv_iconst (v := 5) C.1 C.2.1 dX6_positionOf_36 rfl ?_
        refine lv_iload_n C.1 C.2.1 dX6_positionOf_37 rfl (lv_at hl 1 rfl) ?_
        refine lv_imul C.1 C.2.1 dX6_positionOf_38 ?_
        rw [show (5 : Int32) * (nI j) = nI (5 * j) from (nI_m 5 j).symm]
        refine lv_iadd C.1 C.2.1 dX6_positionOf_39 ?_
        rw [show (nI (25 * k) : Int32) + (nI (5 * j)) = nI ((25 * k) + (5 * j)) from (nI_a (25 * k) (5 * j)).symm]
        refine lv_iload C.1 C.2.1 dX6_positionOf_40 (lv_at hl 4 rfl) ?_
        refine lv_iadd C.1 C.2.1 dX6_positionOf_42 ?_
        rw [show (nI ((25 * k) + (5 * j)) : Int32) + (nI i) = nI (((25 * k) + (5 * j)) + i) from (nI_a ((25 * k) + (5 * j)) i).symm]
        refine mald (n := 75) (f := (ar 21)) C hE hH (MX_a X0 21 rfl) (vp_in_nI (show (((25 * k) + (5 * j)) + i) < 75 by omega) (by decide)) dX6_positionOf_43 ?_
        rw [nI_clamp (show (((25 * k) + (5 * j)) + i) < 2 ^ 31 by omega)]
        refine lv_isub C.1 C.2.1 dX6_positionOf_44 ?_
        refine lv_iadd C.1 C.2.1 dX6_positionOf_45 ?_
        refine lv_istore_n (lv' := [(3, .int (b2 + (((ar 21) (((25 * k) + (5 * i)) + j)) - ((ar 21) (((25 * k) + (5 * j)) + i))))), (0, .ref mo), (1, .int (nI j)), (2, .int (nI k)), (4, .int (nI i))]) C.1 C.2.1 dX6_positionOf_46 rfl hl (by decide) rfl (fun ls hl => ?_)
        refine lv_iinc (v := nI (i + 1)) (lv' := [(4, .int (nI (i + 1))), (3, .int (b2 + (((ar 21) (((25 * k) + (5 * i)) + j)) - ((ar 21) (((25 * k) + (5 * j)) + i))))), (0, .ref mo), (1, .int (nI j)), (2, .int (nI k))]) C.1 C.2.1 dX6_positionOf_47 hl (k := 4) rfl (nI_1 i) (by decide) rfl (fun ls hl => ?_)
        refine lv_goto (tgt := 5) C.1 C.2.1 dX6_positionOf_50 (by decide) ?_
        exact ih (i + 1) (b2 + (((ar 21) (((25 * k) + (5 * i)) + j)) - ((ar 21) (((25 * k) + (5 * j)) + i)))) (by omega) (by omega) (by rw [zbal, ← hb]; rfl) ls (lv_sub hl [2, 3, 4, 1, 0] rfl)
  exact loop5 (6) 0 0 (by omega) (by omega) (rfl) _ (lv_sub hl [2, 3, 4, 1, 0] rfl)
set_option maxHeartbeats 4000000 in
set_option maxRecDepth 100000 in
theorem mw_position {l : Launch} {g : gG} {M : Mp} {mo : Nat} {ad : Nat → Nat} {sc : Nat → Int32} {ar : Nat → Nat → Int32} {ne nb no : Nat}  (hI : MI g M mo ad sc ar) (hs0 : sc 0 = nI ne) (hs5 : sc 5 = nI nb) (hs9 : sc 9 = nI no) (hb0 : ne ≤ 12) (hb5 : nb ≤ 10) (hb9 : no ≤ 40) (p0 p1 : Int32) : Met l yX6_position (WY yX6_position cX6_position 3 (some .int)) { frames := 2, cells := 0, slots := 0, locals := 42 } (Wc g M [.ref mo, .int p0, .int p1]) (wrQ (S := Int32) g (fun u_ => (some (.int u_))) (fun u_ M_ => MQ1 ((inx p0 5) ∧ inx p1 3) (u_ = (zbal (zD ar p1.toNatClampNeg) p0.toNatClampNeg 5) ∧ MX g M M_ mo ad (us sc 23 0) (ar)) (fun t_ => u_ = 0 ∧ MX g M M_ mo ad (us sc 23 t_) ar))) 0 0 (gA g) := by
  refine ofM (by decide +kernel) (Nat.le_of_ble_eq_true rfl) (fun p e s m args below meth c ls C hr hlocks hin hE hH hl ea => ?_)
  have hl : lv_has ls 3 [(0, .ref mo), (1, .int p0), (2, .int p1)] := hl
  have hS : va_S (gA g) s.heap s.heap [] := va_S.rf
  have X0 := MX_rf hI
  refine lv_aload_n C.1 C.2.1 dX6_position_0 rfl (lv_at hl 0 rfl) ?_
  have J20 : ∀ (b1 : Bool), b1 = decide ((inx p0 5) ∧ inx p1 3) → ∀ (ls : Array Slot), lv_has ls 3 [(0, .ref mo), (1, .int p0), (2, .int p1)] → W p l e { frames := 2, cells := 0, slots := 0, locals := 42 } s m args below meth c s.heap [] 0 0 (MQ below (wrQ (S := Int32) g (fun u_ => (some (.int u_))) (fun u_ M_ => MQ1 ((inx p0 5) ∧ inx p1 3) (u_ = (zbal (zD ar p1.toNatClampNeg) p0.toNatClampNeg 5) ∧ MX g M M_ mo ad (us sc 23 0) (ar)) (fun t_ => u_ = 0 ∧ MX g M M_ mo ad (us sc 23 t_) ar))) args s 0 0 (gA g)) (F0 m 20 ls [.int (bI b1), .ref mo]) := by
    intro b1 hb1 ls hl
    refine wr_go1 (runV C hE hH hS (m_may X0.1 hs0 hs5 hs9 hb0 hb5 hb9 b1) mv_X6_may wm_837 (MX_m X0) rfl rfl hl.1 dX6_position_20 rfl rfl ⟨rfl, rfl⟩ ⟨Nat.le_of_ble_eq_true rfl, Nat.le_of_ble_eq_true rfl⟩ (Nat.le_of_ble_eq_true rfl) ⟨Nat.le_of_ble_eq_true rfl, Nat.le_of_ble_eq_true rfl⟩) hS (fun u1 M2 H locs hM2 hH hS => ?_)
    have X3 := MX_tr X0 hM2
    refine lv_if_eq (tgt := 35) C.1 C.2.1 dX6_position_23 (by decide) (fun c23 => ?_) (fun c23 => ?_)
    · refine lv_iconst (v := 0) C.1 C.2.1 dX6_position_35 rfl ?_
      exact wr_iret 0 C hr hlocks hH hS rfl (mq1_bad hb1 c23 ⟨rfl, X3⟩) (by decide) (by decide) dX6_position_36
    · obtain ⟨k1, hz0⟩ := m1_t hb1 c23
      rw [hz0] at X3
      obtain ⟨u, eu, epu⟩ : ∃ z : Nat, z = p0.toNatClampNeg ∧ p0 = nI z := ⟨_, rfl, (inx_nI k1.1 (by omega)).2⟩
      have ru : u < 5 := by rw [eu]; exact (inx_nI k1.1 (by omega)).1
      rw [epu] at hl
      obtain ⟨w, ew, epw⟩ : ∃ z : Nat, z = p1.toNatClampNeg ∧ p1 = nI z := ⟨_, rfl, (inx_nI k1.2 (by omega)).2⟩
      have rw : w < 3 := by rw [ew]; exact (inx_nI k1.2 (by omega)).1
      rw [epw] at hl
      refine lv_aload_n C.1 C.2.1 dX6_position_26 rfl (lv_at hl 0 rfl) ?_
      refine lv_iload_n C.1 C.2.1 dX6_position_27 rfl (lv_at hl 1 rfl) ?_
      refine lv_iload_n C.1 C.2.1 dX6_position_28 rfl (lv_at hl 2 rfl) ?_
      refine rd_go1 (runV C hE hH hS (m_positionOf X3.1 hs0 hs5 hs9 hb0 hb5 hb9 (ru) (rw)) mv_X6_positionOf wm_937 (MX_m X3) rfl rfl hl.1 dX6_position_29 rfl rfl ⟨rfl, rfl⟩ ⟨Nat.le_of_ble_eq_true rfl, Nat.le_of_ble_eq_true rfl⟩ (Nat.le_of_ble_eq_true rfl) ⟨Nat.le_of_ble_eq_true rfl, Nat.le_of_ble_eq_true rfl⟩) ?_
      refine lv_goto (tgt := 36) C.1 C.2.1 dX6_position_32 (by decide) ?_
      exact wr_iret (zbal (zD ((ar)) w) u 5) C hr hlocks hH hS rfl (by rw [← eu, ← ew]; exact Or.inl ⟨k1, rfl, by have h9 := X3; exact h9⟩) (by decide) (by decide) dX6_position_36
  refine lv_iload_n C.1 C.2.1 dX6_position_1 rfl (lv_at hl 1 rfl) ?_
  refine rd_go1 (runS C hE hH hS (m_isPerson p0) mv_X6_isPerson wm_925 hl.1 dX6_position_2 rfl rfl ⟨rfl, rfl⟩ ⟨Nat.le_of_ble_eq_true rfl, Nat.le_of_ble_eq_true rfl⟩ (Nat.le_of_ble_eq_true rfl) ⟨Nat.le_of_ble_eq_true rfl, Nat.le_of_ble_eq_true rfl⟩) ?_
  refine lv_if_eq (tgt := 19) C.1 C.2.1 dX6_position_5 (by decide) (fun c5 => ?_) (fun c5 => ?_)
  · refine lv_iconst (v := 0) C.1 C.2.1 dX6_position_19 rfl ?_
    exact J20 false ((decide_eq_false (fun z => (bI_z.mp c5) z.1)).symm) ls hl
  · refine lv_iload_n C.1 C.2.1 dX6_position_8 rfl (lv_at hl 2 rfl) ?_
    refine rd_go1 (runS C hE hH hS (m_isThird p1) mv_X6_isThird wm_822 hl.1 dX6_position_9 rfl rfl ⟨rfl, rfl⟩ ⟨Nat.le_of_ble_eq_true rfl, Nat.le_of_ble_eq_true rfl⟩ (Nat.le_of_ble_eq_true rfl) ⟨Nat.le_of_ble_eq_true rfl, Nat.le_of_ble_eq_true rfl⟩) ?_
    refine lv_if_eq (tgt := 19) C.1 C.2.1 dX6_position_12 (by decide) (fun c12 => ?_) (fun c12 => ?_)
    · refine lv_iconst (v := 0) C.1 C.2.1 dX6_position_19 rfl ?_
      exact J20 false ((decide_eq_false (fun z => (bI_z.mp c12) z.2)).symm) ls hl
    · refine lv_iconst (v := 1) C.1 C.2.1 dX6_position_15 rfl ?_
      refine lv_goto (tgt := 20) C.1 C.2.1 dX6_position_16 (by decide) ?_
      exact J20 true ((decide_eq_true ⟨(bI_nz c5), bI_nz c12⟩).symm) ls hl
