/-! THE MODEL: HOW FAR, AND DYEING -/
def zoff (ar : Nat → Nat → Int32) (u : Nat) (k y1 y2 : Int32) : Int32 := zfar (ar 1 (2 * u) * k / 100 + y1) (ar 1 (2 * u)) + zfar (ar 1 (2 * u + 1) * k / 100 + y2) (ar 1 (2 * u + 1))
def zmw (k w : Int32) : Int32 := if w < k then k - w else 0
def mdye (ar : Nat → Nat → Int32) (o b : Nat) : Nat → Nat → Int32 := ua (ua (ua (ua (ua (ua (ua ar 13 (upd (ar 13) o 1)) 14 (upd (ar 14) o (nI b))) 15 (upd (ar 15) o (ar 8 b))) 16 (upd (ar 16) o (zw9 ar b))) 17 (upd (ar 17) o (zy8 ar o))) 18 (upd (ar 18) o (zy9 ar o))) 8 (upd (ar 8) b (zmw (ar 8 b) (ar 11 o)))
def PO (ar : Nat → Nat → Int32) (ne nb no : Nat) : Prop := (∀ j, j < no → (∃ e, e < ne ∧ ar 10 j = nI e) ∧ (∃ y, y < 4 ∧ ar 12 j = nI y) ∧ (¬ ar 13 j = 0 → ∃ b, b < nb ∧ ar 14 j = nI b)) ∧ ∀ i, i < nb → ∃ d, d < 3 ∧ ar 6 i = nI d
set_option maxHeartbeats 4000000 in
set_option maxRecDepth 100000 in
theorem m_off {l : Launch} {g : gG} {M : Mp} {mo : Nat} {ad : Nat → Nat} {sc : Nat → Int32} {ar : Nat → Nat → Int32} {ne nb no : Nat}  {u : Nat} (hI : MI g M mo ad sc ar) (hs0 : sc 0 = nI ne) (hs5 : sc 5 = nI nb) (hs9 : sc 9 = nI no) (hb0 : ne ≤ 12) (hb5 : nb ≤ 10) (hb9 : no ≤ 40) (hu : u < 12) (k y1 y2 : Int32) : Met l yX6_off (WY yX6_off cX6_off 7 (some .int)) { frames := 1, cells := 0, slots := 0, locals := 21 } (Wc g M [.ref mo, .int (nI u), .int k, .int y1, .int y2]) (rdQ (some (.int (zoff ar u k y1 y2)))) 0 0 fr0 := by
  refine ofM (by decide +kernel) (Nat.le_of_ble_eq_true rfl) (fun p e s m args below meth c ls C hr hlocks hin hE hH hl ea => ?_)
  have hl : lv_has ls 7 [(0, .ref mo), (1, .int (nI u)), (2, .int k), (3, .int y1), (4, .int y2)] := hl
  have hS : va_S (gA g) s.heap s.heap [] := va_S.rf
  have X0 := MX_rf hI
  refine lv_aload_n C.1 C.2.1 dX6_off_0 rfl (lv_at hl 0 rfl) ?_
  refine mget (v := .ref (ad 1)) C hE hH fl_731 (MX_m X0) rfl dX6_off_1 ?_
  refine lv_iconst (v := 2) C.1 C.2.1 dX6_off_4 rfl ?_
  refine lv_iload_n C.1 C.2.1 dX6_off_5 rfl (lv_at hl 1 rfl) ?_
  refine lv_imul C.1 C.2.1 dX6_off_6 ?_
  rw [show (2 : Int32) * (nI u) = nI (2 * u) from (nI_m 2 u).symm]
  refine mald (n := 24) (f := (ar 1)) C hE hH (MX_a X0 1 rfl) (vp_in_nI (show (2 * u) < 24 by omega) (by decide)) dX6_off_7 ?_
  rw [nI_clamp (show (2 * u) < 2 ^ 31 by omega)]
  refine lv_iload_n C.1 C.2.1 dX6_off_8 rfl (lv_at hl 2 rfl) ?_
  refine lv_imul C.1 C.2.1 dX6_off_9 ?_
  refine lv_bipush (v := 100) C.1 C.2.1 dX6_off_10 rfl ?_
  refine lv_idiv C.1 C.2.1 dX6_off_12 (by decide) ?_
  refine lv_iload_n C.1 C.2.1 dX6_off_13 rfl (lv_at hl 3 rfl) ?_
  refine lv_iadd C.1 C.2.1 dX6_off_14 ?_
  refine lv_topi (fun x1 ex1 => ?_)
  refine lv_istore (lv' := [(5, .int x1), (0, .ref mo), (1, .int (nI u)), (2, .int k), (3, .int y1), (4, .int y2)]) C.1 C.2.1 dX6_off_15 hl (by decide) rfl (fun ls hl => ?_)
  refine lv_aload_n C.1 C.2.1 dX6_off_17 rfl (lv_at hl 1 rfl) ?_
  refine mget (v := .ref (ad 1)) C hE hH fl_731 (MX_m X0) rfl dX6_off_18 ?_
  refine lv_iconst (v := 2) C.1 C.2.1 dX6_off_21 rfl ?_
  refine lv_iload_n C.1 C.2.1 dX6_off_22 rfl (lv_at hl 2 rfl) ?_
  refine lv_imul C.1 C.2.1 dX6_off_23 ?_
  rw [show (2 : Int32) * (nI u) = nI (2 * u) from (nI_m 2 u).symm]
  refine lv_iconst (v := 1) C.1 C.2.1 dX6_off_24 rfl ?_
  refine lv_iadd C.1 C.2.1 dX6_off_25 ?_
  rw [show (nI (2 * u) : Int32) + 1 = nI ((2 * u) + 1) from (nI_a (2 * u) 1).symm]
  refine mald (n := 24) (f := (ar 1)) C hE hH (MX_a X0 1 rfl) (vp_in_nI (show ((2 * u) + 1) < 24 by omega) (by decide)) dX6_off_26 ?_
  rw [nI_clamp (show ((2 * u) + 1) < 2 ^ 31 by omega)]
  refine lv_iload_n C.1 C.2.1 dX6_off_27 rfl (lv_at hl 3 rfl) ?_
  refine lv_imul C.1 C.2.1 dX6_off_28 ?_
  refine lv_bipush (v := 100) C.1 C.2.1 dX6_off_29 rfl ?_
  refine lv_idiv C.1 C.2.1 dX6_off_31 (by decide) ?_
  refine lv_iload C.1 C.2.1 dX6_off_32 (lv_at hl 5 rfl) ?_
  refine lv_iadd C.1 C.2.1 dX6_off_34 ?_
  refine lv_topi (fun x2 ex2 => ?_)
  refine lv_istore (lv' := [(6, .int x2), (5, .int x1), (0, .ref mo), (1, .int (nI u)), (2, .int k), (3, .int y1), (4, .int y2)]) C.1 C.2.1 dX6_off_35 hl (by decide) rfl (fun ls hl => ?_)
  refine lv_iload C.1 C.2.1 dX6_off_37 (lv_at hl 1 rfl) ?_
  refine lv_aload_n C.1 C.2.1 dX6_off_39 rfl (lv_at hl 2 rfl) ?_
  refine mget (v := .ref (ad 1)) C hE hH fl_731 (MX_m X0) rfl dX6_off_40 ?_
  refine lv_iconst (v := 2) C.1 C.2.1 dX6_off_43 rfl ?_
  refine lv_iload_n C.1 C.2.1 dX6_off_44 rfl (lv_at hl 3 rfl) ?_
  refine lv_imul C.1 C.2.1 dX6_off_45 ?_
  rw [show (2 : Int32) * (nI u) = nI (2 * u) from (nI_m 2 u).symm]
  refine mald (n := 24) (f := (ar 1)) C hE hH (MX_a X0 1 rfl) (vp_in_nI (show (2 * u) < 24 by omega) (by decide)) dX6_off_46 ?_
  rw [nI_clamp (show (2 * u) < 2 ^ 31 by omega)]
  refine rd_go1 (runS C hE hH hS (m_far x1 ((ar 1) (2 * u))) mv_X6_far wm_841 hl.1 dX6_off_47 rfl rfl ⟨rfl, rfl⟩ ⟨Nat.le_of_ble_eq_true rfl, Nat.le_of_ble_eq_true rfl⟩ (Nat.le_of_ble_eq_true rfl) ⟨Nat.le_of_ble_eq_true rfl, Nat.le_of_ble_eq_true rfl⟩) ?_
  refine lv_iload C.1 C.2.1 dX6_off_50 (lv_at hl 0 rfl) ?_
  refine lv_aload_n C.1 C.2.1 dX6_off_52 rfl (lv_at hl 2 rfl) ?_
  refine mget (v := .ref (ad 1)) C hE hH fl_731 (MX_m X0) rfl dX6_off_53 ?_
  refine lv_iconst (v := 2) C.1 C.2.1 dX6_off_56 rfl ?_
  refine lv_iload_n C.1 C.2.1 dX6_off_57 rfl (lv_at hl 3 rfl) ?_
  refine lv_imul C.1 C.2.1 dX6_off_58 ?_
  rw [show (2 : Int32) * (nI u) = nI (2 * u) from (nI_m 2 u).symm]
  refine lv_iconst (v := 1) C.1 C.2.1 dX6_off_59 rfl ?_
  refine lv_iadd C.1 C.2.1 dX6_off_60 ?_
  rw [show (nI (2 * u) : Int32) + 1 = nI ((2 * u) + 1) from (nI_a (2 * u) 1).symm]
  refine mald (n := 24) (f := (ar 1)) C hE hH (MX_a X0 1 rfl) (vp_in_nI (show ((2 * u) + 1) < 24 by omega) (by decide)) dX6_off_61 ?_
  rw [nI_clamp (show ((2 * u) + 1) < 2 ^ 31 by omega)]
  refine rd_go1 (runS C hE hH hS (m_far x2 ((ar 1) ((2 * u) + 1))) mv_X6_far wm_841 hl.1 dX6_off_62 rfl rfl ⟨rfl, rfl⟩ ⟨Nat.le_of_ble_eq_true rfl, Nat.le_of_ble_eq_true rfl⟩ (Nat.le_of_ble_eq_true rfl) ⟨Nat.le_of_ble_eq_true rfl, Nat.le_of_ble_eq_true rfl⟩) ?_
  refine lv_iadd C.1 C.2.1 dX6_off_65 ?_
  exact rd_iret C hr hlocks (by subst_vars; rfl) dX6_off_66
set_option maxHeartbeats 4000000 in
set_option maxRecDepth 100000 in
theorem m_offOf {l : Launch} {g : gG} {M : Mp} {mo : Nat} {ad : Nat → Nat} {sc : Nat → Int32} {ar : Nat → Nat → Int32} {ne nb no : Nat}  {o : Int32} {u : Nat} (hI : MI g M mo ad sc ar) (hs0 : sc 0 = nI ne) (hs5 : sc 5 = nI nb) (hs9 : sc 9 = nI no) (hb0 : ne ≤ 12) (hb5 : nb ≤ 10) (hb9 : no ≤ 40) (ho : vp_in o 40) (hu : u < 12) (he : ar 10 o.toNatClampNeg = nI u) : Met l yX6_offOf (WY yX6_offOf cX6_offOf 2 (some .int)) { frames := 2, cells := 0, slots := 0, locals := 47 } (Wc g M [.ref mo, .int o]) (rdQ (some (.int (zoff ar u (ar 15 o.toNatClampNeg) (ar 17 o.toNatClampNeg + ar 16 o.toNatClampNeg) (ar 18 o.toNatClampNeg))))) 0 0 fr0 := by
  refine ofM (by decide +kernel) (Nat.le_of_ble_eq_true rfl) (fun p e s m args below meth c ls C hr hlocks hin hE hH hl ea => ?_)
  have hl : lv_has ls 2 [(0, .ref mo), (1, .int o)] := hl
  have hS : va_S (gA g) s.heap s.heap [] := va_S.rf
  have X0 := MX_rf hI
  refine lv_aload_n C.1 C.2.1 dX6_offOf_0 rfl (lv_at hl 0 rfl) ?_
  refine lv_aload_n C.1 C.2.1 dX6_offOf_1 rfl (lv_at hl 0 rfl) ?_
  refine mget (v := .ref (ad 10)) C hE hH fl_740 (MX_m X0) rfl dX6_offOf_2 ?_
  refine lv_iload_n C.1 C.2.1 dX6_offOf_5 rfl (lv_at hl 1 rfl) ?_
  refine mald (n := 40) (f := (ar 10)) C hE hH (MX_a X0 10 rfl) (ho) dX6_offOf_6 ?_
  rw [he]
  refine lv_aload_n C.1 C.2.1 dX6_offOf_7 rfl (lv_at hl 0 rfl) ?_
  refine mget (v := .ref (ad 15)) C hE hH fl_745 (MX_m X0) rfl dX6_offOf_8 ?_
  refine lv_iload_n C.1 C.2.1 dX6_offOf_11 rfl (lv_at hl 1 rfl) ?_
  refine mald (n := 40) (f := (ar 15)) C hE hH (MX_a X0 15 rfl) (ho) dX6_offOf_12 ?_
  refine lv_aload_n C.1 C.2.1 dX6_offOf_13 rfl (lv_at hl 0 rfl) ?_
  refine mget (v := .ref (ad 17)) C hE hH fl_747 (MX_m X0) rfl dX6_offOf_14 ?_
  refine lv_iload_n C.1 C.2.1 dX6_offOf_17 rfl (lv_at hl 1 rfl) ?_
  refine mald (n := 40) (f := (ar 17)) C hE hH (MX_a X0 17 rfl) (ho) dX6_offOf_18 ?_
  refine lv_aload_n C.1 C.2.1 dX6_offOf_19 rfl (lv_at hl 0 rfl) ?_
  refine mget (v := .ref (ad 16)) C hE hH fl_746 (MX_m X0) rfl dX6_offOf_20 ?_
  refine lv_iload_n C.1 C.2.1 dX6_offOf_23 rfl (lv_at hl 1 rfl) ?_
  refine mald (n := 40) (f := (ar 16)) C hE hH (MX_a X0 16 rfl) (ho) dX6_offOf_24 ?_
  refine lv_iadd C.1 C.2.1 dX6_offOf_25 ?_
  refine lv_aload_n C.1 C.2.1 dX6_offOf_26 rfl (lv_at hl 0 rfl) ?_
  refine mget (v := .ref (ad 18)) C hE hH fl_748 (MX_m X0) rfl dX6_offOf_27 ?_
  refine lv_iload_n C.1 C.2.1 dX6_offOf_30 rfl (lv_at hl 1 rfl) ?_
  refine mald (n := 40) (f := (ar 18)) C hE hH (MX_a X0 18 rfl) (ho) dX6_offOf_31 ?_
  refine rd_go1 (runV C hE hH hS (m_off X0.1 hs0 hs5 hs9 hb0 hb5 hb9 (hu) ((ar 15) o.toNatClampNeg) (((ar 17) o.toNatClampNeg) + ((ar 16) o.toNatClampNeg)) ((ar 18) o.toNatClampNeg)) mv_X6_off wm_880 (MX_m X0) rfl rfl hl.1 dX6_offOf_32 rfl rfl ⟨rfl, rfl⟩ ⟨Nat.le_of_ble_eq_true rfl, Nat.le_of_ble_eq_true rfl⟩ (Nat.le_of_ble_eq_true rfl) ⟨Nat.le_of_ble_eq_true rfl, Nat.le_of_ble_eq_true rfl⟩) ?_
  exact rd_iret C hr hlocks (rfl) dX6_offOf_35
set_option maxHeartbeats 4000000 in
set_option maxRecDepth 100000 in
theorem m_offBy {l : Launch} {g : gG} {M : Mp} {mo : Nat} {ad : Nat → Nat} {sc : Nat → Int32} {ar : Nat → Nat → Int32} {ne nb no : Nat}  {o b : Int32} {u y d : Nat} (hI : MI g M mo ad sc ar) (hs0 : sc 0 = nI ne) (hs5 : sc 5 = nI nb) (hs9 : sc 9 = nI no) (hb0 : ne ≤ 12) (hb5 : nb ≤ 10) (hb9 : no ≤ 40) (ho : vp_in o 40) (hb : vp_in b 10) (hy4 : y < 4) (hy : ar 12 o.toNatClampNeg = nI y) (hd3 : d < 3) (hd : ar 6 b.toNatClampNeg = nI d) (hu : u < 12) (he : ar 10 o.toNatClampNeg = nI u) : Met l yX6_offBy (WY yX6_offBy cX6_offBy 4 (some .int)) { frames := 2, cells := 0, slots := 0, locals := 47 } (Wc g M [.ref mo, .int o, .int b]) (rdQ (some (.int (zoff ar u (ar 8 b.toNatClampNeg) (ar 4 (2 * y) + ar 3 d) (ar 4 (2 * y + 1)))))) 0 0 fr0 := by
  refine ofM (by decide +kernel) (Nat.le_of_ble_eq_true rfl) (fun p e s m args below meth c ls C hr hlocks hin hE hH hl ea => ?_)
  have hl : lv_has ls 4 [(0, .ref mo), (1, .int o), (2, .int b)] := hl
  have hS : va_S (gA g) s.heap s.heap [] := va_S.rf
  have X0 := MX_rf hI
  refine lv_aload_n C.1 C.2.1 dX6_offBy_0 rfl (lv_at hl 0 rfl) ?_
  refine mget (v := .ref (ad 12)) C hE hH fl_742 (MX_m X0) rfl dX6_offBy_1 ?_
  refine lv_iload_n C.1 C.2.1 dX6_offBy_4 rfl (lv_at hl 1 rfl) ?_
  refine mald (n := 40) (f := (ar 12)) C hE hH (MX_a X0 12 rfl) (ho) dX6_offBy_5 ?_
  rw [hy]
  refine lv_istore_n (lv' := [(3, .int (nI y)), (0, .ref mo), (1, .int o), (2, .int b)]) C.1 C.2.1 dX6_offBy_6 rfl hl (by decide) rfl (fun ls hl => ?_)
  refine lv_aload_n C.1 C.2.1 dX6_offBy_7 rfl (lv_at hl 1 rfl) ?_
  refine lv_aload_n C.1 C.2.1 dX6_offBy_8 rfl (lv_at hl 1 rfl) ?_
  refine mget (v := .ref (ad 10)) C hE hH fl_740 (MX_m X0) rfl dX6_offBy_9 ?_
  refine lv_iload_n C.1 C.2.1 dX6_offBy_12 rfl (lv_at hl 2 rfl) ?_
  refine mald (n := 40) (f := (ar 10)) C hE hH (MX_a X0 10 rfl) (ho) dX6_offBy_13 ?_
  rw [he]
  refine lv_aload_n C.1 C.2.1 dX6_offBy_14 rfl (lv_at hl 1 rfl) ?_
  refine mget (v := .ref (ad 8)) C hE hH fl_738 (MX_m X0) rfl dX6_offBy_15 ?_
  refine lv_iload_n C.1 C.2.1 dX6_offBy_18 rfl (lv_at hl 3 rfl) ?_
  refine mald (n := 10) (f := (ar 8)) C hE hH (MX_a X0 8 rfl) (hb) dX6_offBy_19 ?_
  refine lv_aload_n C.1 C.2.1 dX6_offBy_20 rfl (lv_at hl 1 rfl) ?_
  refine mget (v := .ref (ad 4)) C hE hH fl_734 (MX_m X0) rfl dX6_offBy_21 ?_
  refine lv_iconst (v := 2) C.1 C.2.1 dX6_offBy_24 rfl ?_
  refine lv_iload_n C.1 C.2.1 dX6_offBy_25 rfl (lv_at hl 0 rfl) ?_
  refine lv_imul C.1 C.2.1 dX6_offBy_26 ?_
  rw [show (2 : Int32) * (nI y) = nI (2 * y) from (nI_m 2 y).symm]
  refine mald (n := 8) (f := (ar 4)) C hE hH (MX_a X0 4 rfl) (vp_in_nI (show (2 * y) < 8 by omega) (by decide)) dX6_offBy_27 ?_
  rw [nI_clamp (show (2 * y) < 2 ^ 31 by omega)]
  refine lv_aload_n C.1 C.2.1 dX6_offBy_28 rfl (lv_at hl 1 rfl) ?_
  refine mget (v := .ref (ad 3)) C hE hH fl_733 (MX_m X0) rfl dX6_offBy_29 ?_
  refine lv_aload_n C.1 C.2.1 dX6_offBy_32 rfl (lv_at hl 1 rfl) ?_
  refine mget (v := .ref (ad 6)) C hE hH fl_736 (MX_m X0) rfl dX6_offBy_33 ?_
  refine lv_iload_n C.1 C.2.1 dX6_offBy_36 rfl (lv_at hl 3 rfl) ?_
  refine mald (n := 10) (f := (ar 6)) C hE hH (MX_a X0 6 rfl) (hb) dX6_offBy_37 ?_
  rw [hd]
  refine mald (n := 3) (f := (ar 3)) C hE hH (MX_a X0 3 rfl) (vp_in_nI (show d < 3 by omega) (by decide)) dX6_offBy_38 ?_
  rw [nI_clamp (show d < 2 ^ 31 by omega)]
  refine lv_iadd C.1 C.2.1 dX6_offBy_39 ?_
  refine lv_aload_n C.1 C.2.1 dX6_offBy_40 rfl (lv_at hl 1 rfl) ?_
  refine mget (v := .ref (ad 4)) C hE hH fl_734 (MX_m X0) rfl dX6_offBy_41 ?_
  refine lv_iconst (v := 2) C.1 C.2.1 dX6_offBy_44 rfl ?_
  refine lv_iload_n C.1 C.2.1 dX6_offBy_45 rfl (lv_at hl 0 rfl) ?_
  refine lv_imul C.1 C.2.1 dX6_offBy_46 ?_
  rw [show (2 : Int32) * (nI y) = nI (2 * y) from (nI_m 2 y).symm]
  refine lv_iconst (v := 1) C.1 C.2.1 dX6_offBy_47 rfl ?_
  refine lv_iadd C.1 C.2.1 dX6_offBy_48 ?_
  rw [show (nI (2 * y) : Int32) + 1 = nI ((2 * y) + 1) from (nI_a (2 * y) 1).symm]
  refine mald (n := 8) (f := (ar 4)) C hE hH (MX_a X0 4 rfl) (vp_in_nI (show ((2 * y) + 1) < 8 by omega) (by decide)) dX6_offBy_49 ?_
  rw [nI_clamp (show ((2 * y) + 1) < 2 ^ 31 by omega)]
  refine rd_go1 (runV C hE hH hS (m_off X0.1 hs0 hs5 hs9 hb0 hb5 hb9 (hu) ((ar 8) b.toNatClampNeg) (((ar 4) (2 * y)) + ((ar 3) d)) ((ar 4) ((2 * y) + 1))) mv_X6_off wm_880 (MX_m X0) rfl rfl hl.1 dX6_offBy_50 rfl rfl ⟨rfl, rfl⟩ ⟨Nat.le_of_ble_eq_true rfl, Nat.le_of_ble_eq_true rfl⟩ (Nat.le_of_ble_eq_true rfl) ⟨Nat.le_of_ble_eq_true rfl, Nat.le_of_ble_eq_true rfl⟩) ?_
  exact rd_iret C hr hlocks (rfl) dX6_offBy_53
set_option maxHeartbeats 4000000 in
set_option maxRecDepth 100000 in
theorem m_dyeIn {l : Launch} {g : gG} {M : Mp} {mo : Nat} {ad : Nat → Nat} {sc : Nat → Int32} {ar : Nat → Nat → Int32} {ne nb no : Nat}  {o b : Int32} {y d : Nat} (hI : MI g M mo ad sc ar) (hs0 : sc 0 = nI ne) (hs5 : sc 5 = nI nb) (hs9 : sc 9 = nI no) (hb0 : ne ≤ 12) (hb5 : nb ≤ 10) (hb9 : no ≤ 40) (ho : vp_in o 40) (hb : vp_in b 10) (hy4 : y < 4) (hy : ar 12 o.toNatClampNeg = nI y) (hd3 : d < 3) (hd : ar 6 b.toNatClampNeg = nI d) (hbn : b = nI b.toNatClampNeg) : Met l yX6_dyeIn (WY yX6_dyeIn cX6_dyeIn 3 none) { frames := 0, cells := 0, slots := 0, locals := 0 } (Wc g M [.ref mo, .int o, .int b]) (wrQ (S := Unit) g (fun u_ => none) (fun u_ M_ => MX g M M_ mo ad sc (mdye ar o.toNatClampNeg b.toNatClampNeg))) 0 0 (gA g) := by
  refine ofM (by decide +kernel) (Nat.le_of_ble_eq_true rfl) (fun p e s m args below meth c ls C hr hlocks hin hE hH hl ea => ?_)
  have hl : lv_has ls 3 [(0, .ref mo), (1, .int o), (2, .int b)] := hl
  have hS : va_S (gA g) s.heap s.heap [] := va_S.rf
  have X0 := MX_rf hI
  have hw9 : zw9 ar b.toNatClampNeg = ar 3 d := by unfold zw9; rw [hd, nI_clamp (by omega)]
  have hy8 : zy8 ar o.toNatClampNeg = ar 4 (2 * y) := by unfold zy8; rw [hy, nI_clamp (by omega)]
  have hy9 : zy9 ar o.toNatClampNeg = ar 4 (2 * y + 1) := by unfold zy9; rw [hy, nI_clamp (by omega)]
  refine lv_aload_n C.1 C.2.1 dX6_dyeIn_0 rfl (lv_at hl 0 rfl) ?_
  refine mget (v := .ref (ad 13)) C hE hH fl_743 (MX_m X0) rfl dX6_dyeIn_1 ?_
  refine lv_iload_n C.1 C.2.1 dX6_dyeIn_4 rfl (lv_at hl 1 rfl) ?_
  refine lv_iconst (v := 1) C.1 C.2.1 dX6_dyeIn_5 rfl ?_
  refine mast (n := 40) (f := (ar 13)) C hE hH hS (MX_a X0 13 rfl) (ho) dX6_dyeIn_6 (fun H locs hH hS => ?_)
  obtain ⟨M1, hM1⟩ : ∃ z, z = mu M (ad 13) (eI g 40 (upd (ar 13) o.toNatClampNeg 1)) := ⟨_, rfl⟩
  have hH : Hw g M1 H := by rw [hM1]; exact hH
  have X2 := MX_ar (k := 13) (N := 40) (f := upd (ar 13) o.toNatClampNeg 1) rfl rfl X0
  rw [← hM1] at X2
  refine lv_aload_n C.1 C.2.1 dX6_dyeIn_7 rfl (lv_at hl 0 rfl) ?_
  refine mget (v := .ref (ad 14)) C hE hH fl_744 (MX_m X2) rfl dX6_dyeIn_8 ?_
  refine lv_iload_n C.1 C.2.1 dX6_dyeIn_11 rfl (lv_at hl 1 rfl) ?_
  refine lv_iload_n C.1 C.2.1 dX6_dyeIn_12 rfl (lv_at hl 2 rfl) ?_
  refine mast (n := 40) (f := (ar 14)) C hE hH hS (MX_a X2 14 rfl) (ho) dX6_dyeIn_13 (fun H locs hH hS => ?_)
  obtain ⟨M3, hM3⟩ : ∃ z, z = mu M1 (ad 14) (eI g 40 (upd (ar 14) o.toNatClampNeg b)) := ⟨_, rfl⟩
  have hH : Hw g M3 H := by rw [hM3]; exact hH
  have X4 := MX_ar (k := 14) (N := 40) (f := upd (ar 14) o.toNatClampNeg b) rfl rfl X2
  rw [← hM3] at X4
  refine lv_aload_n C.1 C.2.1 dX6_dyeIn_14 rfl (lv_at hl 0 rfl) ?_
  refine mget (v := .ref (ad 15)) C hE hH fl_745 (MX_m X4) rfl dX6_dyeIn_15 ?_
  refine lv_iload_n C.1 C.2.1 dX6_dyeIn_18 rfl (lv_at hl 1 rfl) ?_
  refine lv_aload_n C.1 C.2.1 dX6_dyeIn_19 rfl (lv_at hl 0 rfl) ?_
  refine mget (v := .ref (ad 8)) C hE hH fl_738 (MX_m X4) rfl dX6_dyeIn_20 ?_
  refine lv_iload_n C.1 C.2.1 dX6_dyeIn_23 rfl (lv_at hl 2 rfl) ?_
  refine mald (n := 10) (f := (ar 8)) C hE hH (MX_a X4 8 rfl) (hb) dX6_dyeIn_24 ?_
  refine mast (n := 40) (f := (ar 15)) C hE hH hS (MX_a X4 15 rfl) (ho) dX6_dyeIn_25 (fun H locs hH hS => ?_)
  obtain ⟨M5, hM5⟩ : ∃ z, z = mu M3 (ad 15) (eI g 40 (upd (ar 15) o.toNatClampNeg ((ar 8) b.toNatClampNeg))) := ⟨_, rfl⟩
  have hH : Hw g M5 H := by rw [hM5]; exact hH
  have X6 := MX_ar (k := 15) (N := 40) (f := upd (ar 15) o.toNatClampNeg ((ar 8) b.toNatClampNeg)) rfl rfl X4
  rw [← hM5] at X6
  refine lv_aload_n C.1 C.2.1 dX6_dyeIn_26 rfl (lv_at hl 0 rfl) ?_
  refine mget (v := .ref (ad 16)) C hE hH fl_746 (MX_m X6) rfl dX6_dyeIn_27 ?_
  refine lv_iload_n C.1 C.2.1 dX6_dyeIn_30 rfl (lv_at hl 1 rfl) ?_
  refine lv_aload_n C.1 C.2.1 dX6_dyeIn_31 rfl (lv_at hl 0 rfl) ?_
  refine mget (v := .ref (ad 3)) C hE hH fl_733 (MX_m X6) rfl dX6_dyeIn_32 ?_
  refine lv_aload_n C.1 C.2.1 dX6_dyeIn_35 rfl (lv_at hl 0 rfl) ?_
  refine mget (v := .ref (ad 6)) C hE hH fl_736 (MX_m X6) rfl dX6_dyeIn_36 ?_
  refine lv_iload_n C.1 C.2.1 dX6_dyeIn_39 rfl (lv_at hl 2 rfl) ?_
  refine mald (n := 10) (f := (ar 6)) C hE hH (MX_a X6 6 rfl) (hb) dX6_dyeIn_40 ?_
  rw [hd]
  refine mald (n := 3) (f := (ar 3)) C hE hH (MX_a X6 3 rfl) (vp_in_nI (show d < 3 by omega) (by decide)) dX6_dyeIn_41 ?_
  rw [nI_clamp (show d < 2 ^ 31 by omega)]
  refine mast (n := 40) (f := (ar 16)) C hE hH hS (MX_a X6 16 rfl) (ho) dX6_dyeIn_42 (fun H locs hH hS => ?_)
  obtain ⟨M7, hM7⟩ : ∃ z, z = mu M5 (ad 16) (eI g 40 (upd (ar 16) o.toNatClampNeg ((ar 3) d))) := ⟨_, rfl⟩
  have hH : Hw g M7 H := by rw [hM7]; exact hH
  have X8 := MX_ar (k := 16) (N := 40) (f := upd (ar 16) o.toNatClampNeg ((ar 3) d)) rfl rfl X6
  rw [← hM7] at X8
  refine lv_aload_n C.1 C.2.1 dX6_dyeIn_43 rfl (lv_at hl 0 rfl) ?_
  refine mget (v := .ref (ad 17)) C hE hH fl_747 (MX_m X8) rfl dX6_dyeIn_44 ?_
  refine lv_iload_n C.1 C.2.1 dX6_dyeIn_47 rfl (lv_at hl 1 rfl) ?_
  refine lv_aload_n C.1 C.2.1 dX6_dyeIn_48 rfl (lv_at hl 0 rfl) ?_
  refine mget (v := .ref (ad 4)) C hE hH fl_734 (MX_m X8) rfl dX6_dyeIn_49 ?_
  refine lv_iconst (v := 2) C.1 C.2.1 dX6_dyeIn_52 rfl ?_
  refine lv_aload_n C.1 C.2.1 dX6_dyeIn_53 rfl (lv_at hl 0 rfl) ?_
  refine mget (v := .ref (ad 12)) C hE hH fl_742 (MX_m X8) rfl dX6_dyeIn_54 ?_
  refine lv_iload_n C.1 C.2.1 dX6_dyeIn_57 rfl (lv_at hl 1 rfl) ?_
  refine mald (n := 40) (f := (ar 12)) C hE hH (MX_a X8 12 rfl) (ho) dX6_dyeIn_58 ?_
  rw [hy]
  refine lv_imul C.1 C.2.1 dX6_dyeIn_59 ?_
  rw [show (2 : Int32) * (nI y) = nI (2 * y) from (nI_m 2 y).symm]
  refine mald (n := 8) (f := (ar 4)) C hE hH (MX_a X8 4 rfl) (vp_in_nI (show (2 * y) < 8 by omega) (by decide)) dX6_dyeIn_60 ?_
  rw [nI_clamp (show (2 * y) < 2 ^ 31 by omega)]
  refine mast (n := 40) (f := (ar 17)) C hE hH hS (MX_a X8 17 rfl) (ho) dX6_dyeIn_61 (fun H locs hH hS => ?_)
  obtain ⟨M9, hM9⟩ : ∃ z, z = mu M7 (ad 17) (eI g 40 (upd (ar 17) o.toNatClampNeg ((ar 4) (2 * y)))) := ⟨_, rfl⟩
  have hH : Hw g M9 H := by rw [hM9]; exact hH
  have X10 := MX_ar (k := 17) (N := 40) (f := upd (ar 17) o.toNatClampNeg ((ar 4) (2 * y))) rfl rfl X8
  rw [← hM9] at X10
  refine lv_aload_n C.1 C.2.1 dX6_dyeIn_62 rfl (lv_at hl 0 rfl) ?_
  refine mget (v := .ref (ad 18)) C hE hH fl_748 (MX_m X10) rfl dX6_dyeIn_63 ?_
  refine lv_iload_n C.1 C.2.1 dX6_dyeIn_66 rfl (lv_at hl 1 rfl) ?_
  refine lv_aload_n C.1 C.2.1 dX6_dyeIn_67 rfl (lv_at hl 0 rfl) ?_
  refine mget (v := .ref (ad 4)) C hE hH fl_734 (MX_m X10) rfl dX6_dyeIn_68 ?_
  refine lv_iconst (v := 2) C.1 C.2.1 dX6_dyeIn_71 rfl ?_
  refine lv_aload_n C.1 C.2.1 dX6_dyeIn_72 rfl (lv_at hl 0 rfl) ?_
  refine mget (v := .ref (ad 12)) C hE hH fl_742 (MX_m X10) rfl dX6_dyeIn_73 ?_
  refine lv_iload_n C.1 C.2.1 dX6_dyeIn_76 rfl (lv_at hl 1 rfl) ?_
  refine mald (n := 40) (f := (ar 12)) C hE hH (MX_a X10 12 rfl) (ho) dX6_dyeIn_77 ?_
  rw [hy]
  refine lv_imul C.1 C.2.1 dX6_dyeIn_78 ?_
  rw [show (2 : Int32) * (nI y) = nI (2 * y) from (nI_m 2 y).symm]
  refine lv_iconst (v := 1) C.1 C.2.1 dX6_dyeIn_79 rfl ?_
  refine lv_iadd C.1 C.2.1 dX6_dyeIn_80 ?_
  rw [show (nI (2 * y) : Int32) + 1 = nI ((2 * y) + 1) from (nI_a (2 * y) 1).symm]
  refine mald (n := 8) (f := (ar 4)) C hE hH (MX_a X10 4 rfl) (vp_in_nI (show ((2 * y) + 1) < 8 by omega) (by decide)) dX6_dyeIn_81 ?_
  rw [nI_clamp (show ((2 * y) + 1) < 2 ^ 31 by omega)]
  refine mast (n := 40) (f := (ar 18)) C hE hH hS (MX_a X10 18 rfl) (ho) dX6_dyeIn_82 (fun H locs hH hS => ?_)
  obtain ⟨M11, hM11⟩ : ∃ z, z = mu M9 (ad 18) (eI g 40 (upd (ar 18) o.toNatClampNeg ((ar 4) ((2 * y) + 1)))) := ⟨_, rfl⟩
  have hH : Hw g M11 H := by rw [hM11]; exact hH
  have X12 := MX_ar (k := 18) (N := 40) (f := upd (ar 18) o.toNatClampNeg ((ar 4) ((2 * y) + 1))) rfl rfl X10
  rw [← hM11] at X12
  refine lv_aload_n C.1 C.2.1 dX6_dyeIn_83 rfl (lv_at hl 0 rfl) ?_
  refine mget (v := .ref (ad 8)) C hE hH fl_738 (MX_m X12) rfl dX6_dyeIn_84 ?_
  refine lv_iload_n C.1 C.2.1 dX6_dyeIn_87 rfl (lv_at hl 2 rfl) ?_
  refine lv_aload_n C.1 C.2.1 dX6_dyeIn_88 rfl (lv_at hl 0 rfl) ?_
  refine mget (v := .ref (ad 8)) C hE hH fl_738 (MX_m X12) rfl dX6_dyeIn_89 ?_
  refine lv_iload_n C.1 C.2.1 dX6_dyeIn_92 rfl (lv_at hl 2 rfl) ?_
  refine mald (n := 10) (f := (ar 8)) C hE hH (MX_a X12 8 rfl) (hb) dX6_dyeIn_93 ?_
  refine lv_aload_n C.1 C.2.1 dX6_dyeIn_94 rfl (lv_at hl 0 rfl) ?_
  refine mget (v := .ref (ad 11)) C hE hH fl_741 (MX_m X12) rfl dX6_dyeIn_95 ?_
  refine lv_iload_n C.1 C.2.1 dX6_dyeIn_98 rfl (lv_at hl 1 rfl) ?_
  refine mald (n := 40) (f := (ar 11)) C hE hH (MX_a X12 11 rfl) (ho) dX6_dyeIn_99 ?_
  refine lv_icmp_le (tgt := 119) C.1 C.2.1 dX6_dyeIn_100 (by decide) (fun c100 => ?_) (fun c100 => ?_)
  · refine lv_iconst (v := 0) C.1 C.2.1 dX6_dyeIn_119 rfl ?_
    refine mast (n := 10) (f := (ar 8)) C hE hH hS (MX_a X12 8 rfl) (hb) dX6_dyeIn_120 (fun H locs hH hS => ?_)
    obtain ⟨M13, hM13⟩ : ∃ z, z = mu M11 (ad 8) (eI g 10 (upd (ar 8) b.toNatClampNeg 0)) := ⟨_, rfl⟩
    have hH : Hw g M13 H := by rw [hM13]; exact hH
    have X14 := MX_ar (k := 8) (N := 10) (f := upd (ar 8) b.toNatClampNeg 0) rfl rfl X12
    rw [← hM13] at X14
    exact wr_vret () C hr hlocks hH hS rfl (by have h9 := X14; unfold mdye; rw [hw9, hy8, hy9, show nI b.toNatClampNeg = b from hbn.symm, show zmw (ar 8 b.toNatClampNeg) (ar 11 o.toNatClampNeg) = 0 by unfold zmw; first | rw [if_pos (Int32.not_le.mp c100)] | rw [if_neg (Int32.not_lt.mpr c100)]]; exact h9) (by decide) (by decide) dX6_dyeIn_121
  · refine lv_aload_n C.1 C.2.1 dX6_dyeIn_103 rfl (lv_at hl 0 rfl) ?_
    refine mget (v := .ref (ad 8)) C hE hH fl_738 (MX_m X12) rfl dX6_dyeIn_104 ?_
    refine lv_iload_n C.1 C.2.1 dX6_dyeIn_107 rfl (lv_at hl 2 rfl) ?_
    refine mald (n := 10) (f := (ar 8)) C hE hH (MX_a X12 8 rfl) (hb) dX6_dyeIn_108 ?_
    refine lv_aload_n C.1 C.2.1 dX6_dyeIn_109 rfl (lv_at hl 0 rfl) ?_
    refine mget (v := .ref (ad 11)) C hE hH fl_741 (MX_m X12) rfl dX6_dyeIn_110 ?_
    refine lv_iload_n C.1 C.2.1 dX6_dyeIn_113 rfl (lv_at hl 1 rfl) ?_
    refine mald (n := 40) (f := (ar 11)) C hE hH (MX_a X12 11 rfl) (ho) dX6_dyeIn_114 ?_
    refine lv_isub C.1 C.2.1 dX6_dyeIn_115 ?_
    refine lv_goto (tgt := 120) C.1 C.2.1 dX6_dyeIn_116 (by decide) ?_
    refine mast (n := 10) (f := (ar 8)) C hE hH hS (MX_a X12 8 rfl) (hb) dX6_dyeIn_120 (fun H locs hH hS => ?_)
    obtain ⟨M15, hM15⟩ : ∃ z, z = mu M11 (ad 8) (eI g 10 (upd (ar 8) b.toNatClampNeg (((ar 8) b.toNatClampNeg) - ((ar 11) o.toNatClampNeg)))) := ⟨_, rfl⟩
    have hH : Hw g M15 H := by rw [hM15]; exact hH
    have X16 := MX_ar (k := 8) (N := 10) (f := upd (ar 8) b.toNatClampNeg (((ar 8) b.toNatClampNeg) - ((ar 11) o.toNatClampNeg))) rfl rfl X12
    rw [← hM15] at X16
    exact wr_vret () C hr hlocks hH hS rfl (by have h9 := X16; unfold mdye; rw [hw9, hy8, hy9, show nI b.toNatClampNeg = b from hbn.symm, show zmw (ar 8 b.toNatClampNeg) (ar 11 o.toNatClampNeg) = ar 8 b.toNatClampNeg - ar 11 o.toNatClampNeg by unfold zmw; first | rw [if_pos (Int32.not_le.mp c100)] | rw [if_neg (Int32.not_lt.mpr c100)]]; exact h9) (by decide) (by decide) dX6_dyeIn_121
set_option maxHeartbeats 4000000 in
set_option maxRecDepth 100000 in
theorem m_thrown {l : Launch} {g : gG} {M : Mp} {mo : Nat} {ad : Nat → Nat} {sc : Nat → Int32} {ar : Nat → Nat → Int32} {ne nb no : Nat}  (hI : MI g M mo ad sc ar) (hs0 : sc 0 = nI ne) (hs5 : sc 5 = nI nb) (hs9 : sc 9 = nI no) (hb0 : ne ≤ 12) (hb5 : nb ≤ 10) (hb9 : no ≤ 40) : Met l yX6_thrown (WY yX6_thrown cX6_thrown 1 (some .int)) { frames := 0, cells := 0, slots := 0, locals := 0 } (Wc g M [.ref mo]) (rdQ (some (.int (sc 23)))) 0 0 fr0 := by
  refine ofM (by decide +kernel) (Nat.le_of_ble_eq_true rfl) (fun p e s m args below meth c ls C hr hlocks hin hE hH hl ea => ?_)
  have hl : lv_has ls 1 [(0, .ref mo)] := hl
  have hS : va_S (gA g) s.heap s.heap [] := va_S.rf
  have X0 := MX_rf hI
  refine lv_aload_n C.1 C.2.1 dX6_thrown_0 rfl (lv_at hl 0 rfl) ?_
  refine mget (v := .int (sc 23)) C hE hH fl_753 (MX_m X0) rfl dX6_thrown_1 ?_
  exact rd_iret C hr hlocks (rfl) dX6_thrown_4
theorem mdye_off {ar : Nat → Nat → Int32} {o b u : Nat} (he : ar 10 o = nI u) (hu : u < 2 ^ 31) : zoff (mdye ar o b) u (mdye ar o b 15 o) (mdye ar o b 17 o + mdye ar o b 16 o) (mdye ar o b 18 o) = zoff ar (zE ar o) (ar 8 b) (zy8 ar o + zw9 ar b) (zy9 ar o) := by
  rw [zE_at he hu]
  have e1 : mdye ar o b 1 = ar 1 := by unfold mdye; rw [ua_n (by decide), ua_n (by decide), ua_n (by decide), ua_n (by decide), ua_n (by decide), ua_n (by decide), ua_n (by decide)]
  have e15 : mdye ar o b 15 o = ar 8 b := by unfold mdye; rw [ua_n (by decide), ua_n (by decide), ua_n (by decide), ua_n (by decide), ua_s, upd_s]
  have e16 : mdye ar o b 16 o = zw9 ar b := by unfold mdye; rw [ua_n (by decide), ua_n (by decide), ua_n (by decide), ua_s, upd_s]
  have e17 : mdye ar o b 17 o = zy8 ar o := by unfold mdye; rw [ua_n (by decide), ua_n (by decide), ua_s, upd_s]
  have e18 : mdye ar o b 18 o = zy9 ar o := by unfold mdye; rw [ua_n (by decide), ua_s, upd_s]
  unfold zoff
  rw [e1, e15, e16, e17, e18]
set_option maxHeartbeats 4000000 in
set_option maxRecDepth 100000 in
theorem mw_dye {l : Launch} {g : gG} {M : Mp} {mo : Nat} {ad : Nat → Nat} {sc : Nat → Int32} {ar : Nat → Nat → Int32} {ne nb no : Nat}  (hI : MI g M mo ad sc ar) (hs0 : sc 0 = nI ne) (hs5 : sc 5 = nI nb) (hs9 : sc 9 = nI no) (hb0 : ne ≤ 12) (hb5 : nb ≤ 10) (hb9 : no ≤ 40) (hPo : PO ar ne nb no) (p0 p1 : Int32) : Met l yX6_dye (WY yX6_dye cX6_dye 4 (some .int)) { frames := 3, cells := 0, slots := 0, locals := 68 } (Wc g M [.ref mo, .int p0, .int p1]) (wrQ (S := Int32) g (fun u_ => (some (.int u_))) (fun u_ M_ => MQ3 ((inx p0 no) ∧ inx p1 nb) (((inx p0 no) ∧ inx p1 nb) ∧ ar 7 p1.toNatClampNeg = ar 10 p0.toNatClampNeg) (((inx p0 no) ∧ inx p1 nb) ∧ ar 13 p0.toNatClampNeg = 0) (u_ = (zoff ar (zE ar p0.toNatClampNeg) (ar 8 p1.toNatClampNeg) (zy8 ar p0.toNatClampNeg + zw9 ar p1.toNatClampNeg) (zy9 ar p0.toNatClampNeg)) ∧ MX g M M_ mo ad (us sc 23 0) (mdye ar p0.toNatClampNeg p1.toNatClampNeg)) (fun t_ => u_ = 0 ∧ MX g M M_ mo ad (us sc 23 t_) ar))) 0 0 (gA g) := by
  refine ofM (by decide +kernel) (Nat.le_of_ble_eq_true rfl) (fun p e s m args below meth c ls C hr hlocks hin hE hH hl ea => ?_)
  have hl : lv_has ls 4 [(0, .ref mo), (1, .int p0), (2, .int p1)] := hl
  have hS : va_S (gA g) s.heap s.heap [] := va_S.rf
  have X0 := MX_rf hI
  have J21 : ∀ (b1 : Bool), b1 = decide ((inx p0 no) ∧ inx p1 nb) → ∀ (ls : Array Slot), lv_has ls 4 [(0, .ref mo), (1, .int p0), (2, .int p1)] → W p l e { frames := 3, cells := 0, slots := 0, locals := 68 } s m args below meth c s.heap [] 0 0 (MQ below (wrQ (S := Int32) g (fun u_ => (some (.int u_))) (fun u_ M_ => MQ3 ((inx p0 no) ∧ inx p1 nb) (((inx p0 no) ∧ inx p1 nb) ∧ ar 7 p1.toNatClampNeg = ar 10 p0.toNatClampNeg) (((inx p0 no) ∧ inx p1 nb) ∧ ar 13 p0.toNatClampNeg = 0) (u_ = (zoff ar (zE ar p0.toNatClampNeg) (ar 8 p1.toNatClampNeg) (zy8 ar p0.toNatClampNeg + zw9 ar p1.toNatClampNeg) (zy9 ar p0.toNatClampNeg)) ∧ MX g M M_ mo ad (us sc 23 0) (mdye ar p0.toNatClampNeg p1.toNatClampNeg)) (fun t_ => u_ = 0 ∧ MX g M M_ mo ad (us sc 23 t_) ar))) args s 0 0 (gA g)) (F0 m 21 ls [.int (bI b1)]) := by
    intro b1 hb1 ls hl
    refine lv_istore_n (lv' := [(3, .int (bI b1)), (0, .ref mo), (1, .int p0), (2, .int p1)]) C.1 C.2.1 dX6_dye_21 rfl hl (by decide) rfl (fun ls hl => ?_)
    refine lv_aload_n C.1 C.2.1 dX6_dye_22 rfl (lv_at hl 1 rfl) ?_
    refine lv_iload_n C.1 C.2.1 dX6_dye_23 rfl (lv_at hl 0 rfl) ?_
    have J48 : ∀ (b2 : Bool), b2 = decide (((inx p0 no) ∧ inx p1 nb) ∧ ar 7 p1.toNatClampNeg = ar 10 p0.toNatClampNeg) → ∀ (ls : Array Slot), lv_has ls 4 [(3, .int (bI b1)), (0, .ref mo), (1, .int p0), (2, .int p1)] → W p l e { frames := 3, cells := 0, slots := 0, locals := 68 } s m args below meth c s.heap [] 0 0 (MQ below (wrQ (S := Int32) g (fun u_ => (some (.int u_))) (fun u_ M_ => MQ3 ((inx p0 no) ∧ inx p1 nb) (((inx p0 no) ∧ inx p1 nb) ∧ ar 7 p1.toNatClampNeg = ar 10 p0.toNatClampNeg) (((inx p0 no) ∧ inx p1 nb) ∧ ar 13 p0.toNatClampNeg = 0) (u_ = (zoff ar (zE ar p0.toNatClampNeg) (ar 8 p1.toNatClampNeg) (zy8 ar p0.toNatClampNeg + zw9 ar p1.toNatClampNeg) (zy9 ar p0.toNatClampNeg)) ∧ MX g M M_ mo ad (us sc 23 0) (mdye ar p0.toNatClampNeg p1.toNatClampNeg)) (fun t_ => u_ = 0 ∧ MX g M M_ mo ad (us sc 23 t_) ar))) args s 0 0 (gA g)) (F0 m 48 ls [.int (bI b2), .int (bI b1), .ref mo]) := by
      intro b2 hb2 ls hl
      have J66 : ∀ (b3 : Bool), b3 = decide (((inx p0 no) ∧ inx p1 nb) ∧ ar 13 p0.toNatClampNeg = 0) → ∀ (ls : Array Slot), lv_has ls 4 [(3, .int (bI b1)), (0, .ref mo), (1, .int p0), (2, .int p1)] → W p l e { frames := 3, cells := 0, slots := 0, locals := 68 } s m args below meth c s.heap [] 0 0 (MQ below (wrQ (S := Int32) g (fun u_ => (some (.int u_))) (fun u_ M_ => MQ3 ((inx p0 no) ∧ inx p1 nb) (((inx p0 no) ∧ inx p1 nb) ∧ ar 7 p1.toNatClampNeg = ar 10 p0.toNatClampNeg) (((inx p0 no) ∧ inx p1 nb) ∧ ar 13 p0.toNatClampNeg = 0) (u_ = (zoff ar (zE ar p0.toNatClampNeg) (ar 8 p1.toNatClampNeg) (zy8 ar p0.toNatClampNeg + zw9 ar p1.toNatClampNeg) (zy9 ar p0.toNatClampNeg)) ∧ MX g M M_ mo ad (us sc 23 0) (mdye ar p0.toNatClampNeg p1.toNatClampNeg)) (fun t_ => u_ = 0 ∧ MX g M M_ mo ad (us sc 23 t_) ar))) args s 0 0 (gA g)) (F0 m 66 ls [.int (bI b3), .int (bI b2), .int (bI b1), .ref mo]) := by
        intro b3 hb3 ls hl
        refine wr_go1 (runV C hE hH hS (m_mayAll X0.1 hs0 hs5 hs9 hb0 hb5 hb9 b1 b2 b3) mv_X6_mayAll wm_864 (MX_m X0) rfl rfl hl.1 dX6_dye_66 rfl rfl ⟨rfl, rfl⟩ ⟨Nat.le_of_ble_eq_true rfl, Nat.le_of_ble_eq_true rfl⟩ (Nat.le_of_ble_eq_true rfl) ⟨Nat.le_of_ble_eq_true rfl, Nat.le_of_ble_eq_true rfl⟩) hS (fun u1 M2 H locs hM2 hH hS => ?_)
        have X3 := MX_tr X0 hM2
        refine lv_if_ne (tgt := 74) C.1 C.2.1 dX6_dye_69 (by decide) (fun c69 => ?_) (fun c69 => ?_)
        · obtain ⟨k1, k2, k3, hz0⟩ := m3_t hb1 hb2 hb3 c69
          rw [hz0] at X3
          obtain ⟨⟨u, hu, he⟩, ⟨y, hy4, hy⟩, h14⟩ := hPo.1 _ (inx_nI k1.1 (by omega)).1
          obtain ⟨d, hd3, hd⟩ := hPo.2 _ (inx_nI k1.2 (by omega)).1
          refine lv_aload_n C.1 C.2.1 dX6_dye_74 rfl (lv_at hl 1 rfl) ?_
          refine lv_iload_n C.1 C.2.1 dX6_dye_75 rfl (lv_at hl 2 rfl) ?_
          refine lv_iload_n C.1 C.2.1 dX6_dye_76 rfl (lv_at hl 3 rfl) ?_
          refine wr_go0 (runV C hE hH hS (m_dyeIn X3.1 hs0 hs5 hs9 hb0 hb5 hb9 ((vp_up (inx_in k1.1 (by omega)) hb9)) ((vp_up (inx_in k1.2 (by omega)) hb5)) (hy4) (hy) (hd3) (hd) ((inx_nI k1.2 (by omega)).2)) mv_X6_dyeIn wm_884 (MX_m X3) rfl rfl hl.1 dX6_dye_77 rfl rfl ⟨rfl, rfl⟩ ⟨Nat.le_of_ble_eq_true rfl, Nat.le_of_ble_eq_true rfl⟩ (Nat.le_of_ble_eq_true rfl) ⟨Nat.le_of_ble_eq_true rfl, Nat.le_of_ble_eq_true rfl⟩) hS (fun u4 M5 H locs hM5 hH hS => ?_)
          have X6 := MX_tr X3 hM5
          refine lv_aload_n C.1 C.2.1 dX6_dye_80 rfl (lv_at hl 1 rfl) ?_
          refine lv_iload_n C.1 C.2.1 dX6_dye_81 rfl (lv_at hl 2 rfl) ?_
          refine rd_go1 (runV C hE hH hS (m_offOf X6.1 hs0 hs5 hs9 hb0 hb5 hb9 ((vp_up (inx_in k1.1 (by omega)) hb9)) ((by omega)) (he)) mv_X6_offOf wm_892 (MX_m X6) rfl rfl hl.1 dX6_dye_82 rfl rfl ⟨rfl, rfl⟩ ⟨Nat.le_of_ble_eq_true rfl, Nat.le_of_ble_eq_true rfl⟩ (Nat.le_of_ble_eq_true rfl) ⟨Nat.le_of_ble_eq_true rfl, Nat.le_of_ble_eq_true rfl⟩) ?_
          exact wr_iret (zoff (mdye ((ar)) p0.toNatClampNeg p1.toNatClampNeg) u ((mdye ((ar)) p0.toNatClampNeg p1.toNatClampNeg) 15 p0.toNatClampNeg) ((mdye ((ar)) p0.toNatClampNeg p1.toNatClampNeg) 17 p0.toNatClampNeg + (mdye ((ar)) p0.toNatClampNeg p1.toNatClampNeg) 16 p0.toNatClampNeg) ((mdye ((ar)) p0.toNatClampNeg p1.toNatClampNeg) 18 p0.toNatClampNeg)) C hr hlocks hH hS rfl (Or.inl ⟨k1, k2, k3, mdye_off he (by omega), by have h9 := X6; exact h9⟩) (by decide) (by decide) dX6_dye_85
        · refine lv_iconst (v := 0) C.1 C.2.1 dX6_dye_72 rfl ?_
          exact wr_iret 0 C hr hlocks hH hS rfl (mq3_bad hb1 hb2 hb3 c69 ⟨rfl, X3⟩) (by decide) (by decide) dX6_dye_73
      refine lv_iload_n C.1 C.2.1 dX6_dye_48 rfl (lv_at hl 0 rfl) ?_
      refine lv_if_eq (tgt := 65) C.1 C.2.1 dX6_dye_49 (by decide) (fun c49 => ?_) (fun c49 => ?_)
      · refine lv_iconst (v := 0) C.1 C.2.1 dX6_dye_65 rfl ?_
        exact J66 false ((decide_eq_false (fun z => (df hb1 (bf_of c49)) z.1)).symm) ls hl
      · refine lv_aload_n C.1 C.2.1 dX6_dye_52 rfl (lv_at hl 1 rfl) ?_
        refine mget (v := .ref (ad 13)) C hE hH fl_743 (MX_m X0) rfl dX6_dye_53 ?_
        refine lv_iload_n C.1 C.2.1 dX6_dye_56 rfl (lv_at hl 2 rfl) ?_
        refine mald (n := 40) (f := (ar 13)) C hE hH (MX_a X0 13 rfl) (vp_up (inx_in (dt hb1 (bt_of c49)).1 (by omega)) hb9) dX6_dye_57 ?_
        refine lv_if_ne (tgt := 65) C.1 C.2.1 dX6_dye_58 (by decide) (fun c58 => ?_) (fun c58 => ?_)
        · refine lv_iconst (v := 0) C.1 C.2.1 dX6_dye_65 rfl ?_
          exact J66 false ((decide_eq_false (fun z => (c58) z.2)).symm) ls hl
        · refine lv_iconst (v := 1) C.1 C.2.1 dX6_dye_61 rfl ?_
          refine lv_goto (tgt := 66) C.1 C.2.1 dX6_dye_62 (by decide) ?_
          exact J66 true ((decide_eq_true ⟨(dt hb1 (bt_of c49)), c58⟩).symm) ls hl
    refine lv_iload_n C.1 C.2.1 dX6_dye_24 rfl (lv_at hl 0 rfl) ?_
    refine lv_if_eq (tgt := 47) C.1 C.2.1 dX6_dye_25 (by decide) (fun c25 => ?_) (fun c25 => ?_)
    · refine lv_iconst (v := 0) C.1 C.2.1 dX6_dye_47 rfl ?_
      exact J48 false ((decide_eq_false (fun z => (df hb1 (bf_of c25)) z.1)).symm) ls hl
    · refine lv_aload_n C.1 C.2.1 dX6_dye_28 rfl (lv_at hl 1 rfl) ?_
      refine mget (v := .ref (ad 7)) C hE hH fl_737 (MX_m X0) rfl dX6_dye_29 ?_
      refine lv_iload_n C.1 C.2.1 dX6_dye_32 rfl (lv_at hl 3 rfl) ?_
      refine mald (n := 10) (f := (ar 7)) C hE hH (MX_a X0 7 rfl) (vp_up (inx_in (dt hb1 (bt_of c25)).2 (by omega)) hb5) dX6_dye_33 ?_
      refine lv_aload_n C.1 C.2.1 dX6_dye_34 rfl (lv_at hl 1 rfl) ?_
      refine mget (v := .ref (ad 10)) C hE hH fl_740 (MX_m X0) rfl dX6_dye_35 ?_
      refine lv_iload_n C.1 C.2.1 dX6_dye_38 rfl (lv_at hl 2 rfl) ?_
      refine mald (n := 40) (f := (ar 10)) C hE hH (MX_a X0 10 rfl) (vp_up (inx_in (dt hb1 (bt_of c25)).1 (by omega)) hb9) dX6_dye_39 ?_
      refine lv_icmp_ne (tgt := 47) C.1 C.2.1 dX6_dye_40 (by decide) (fun c40 => ?_) (fun c40 => ?_)
      · refine lv_iconst (v := 0) C.1 C.2.1 dX6_dye_47 rfl ?_
        exact J48 false ((decide_eq_false (fun z => (c40) z.2)).symm) ls hl
      · refine lv_iconst (v := 1) C.1 C.2.1 dX6_dye_43 rfl ?_
        refine lv_goto (tgt := 48) C.1 C.2.1 dX6_dye_44 (by decide) ?_
        exact J48 true ((decide_eq_true ⟨(dt hb1 (bt_of c25)), c40⟩).symm) ls hl
  refine lv_aload_n C.1 C.2.1 dX6_dye_0 rfl (lv_at hl 0 rfl) ?_
  refine lv_iload_n C.1 C.2.1 dX6_dye_1 rfl (lv_at hl 1 rfl) ?_
  refine rd_go1 (runV C hE hH hS (m_isOrder X0.1 hs0 hs5 hs9 hb0 hb5 hb9 p0) mv_X6_isOrder wm_872 (MX_m X0) rfl rfl hl.1 dX6_dye_2 rfl rfl ⟨rfl, rfl⟩ ⟨Nat.le_of_ble_eq_true rfl, Nat.le_of_ble_eq_true rfl⟩ (Nat.le_of_ble_eq_true rfl) ⟨Nat.le_of_ble_eq_true rfl, Nat.le_of_ble_eq_true rfl⟩) ?_
  refine lv_if_eq (tgt := 20) C.1 C.2.1 dX6_dye_5 (by decide) (fun c5 => ?_) (fun c5 => ?_)
  · refine lv_iconst (v := 0) C.1 C.2.1 dX6_dye_20 rfl ?_
    exact J21 false ((decide_eq_false (fun z => (bI_z.mp c5) z.1)).symm) ls hl
  · refine lv_aload_n C.1 C.2.1 dX6_dye_8 rfl (lv_at hl 0 rfl) ?_
    refine lv_iload_n C.1 C.2.1 dX6_dye_9 rfl (lv_at hl 2 rfl) ?_
    refine rd_go1 (runV C hE hH hS (m_isBath X0.1 hs0 hs5 hs9 hb0 hb5 hb9 p1) mv_X6_isBath wm_852 (MX_m X0) rfl rfl hl.1 dX6_dye_10 rfl rfl ⟨rfl, rfl⟩ ⟨Nat.le_of_ble_eq_true rfl, Nat.le_of_ble_eq_true rfl⟩ (Nat.le_of_ble_eq_true rfl) ⟨Nat.le_of_ble_eq_true rfl, Nat.le_of_ble_eq_true rfl⟩) ?_
    refine lv_if_eq (tgt := 20) C.1 C.2.1 dX6_dye_13 (by decide) (fun c13 => ?_) (fun c13 => ?_)
    · refine lv_iconst (v := 0) C.1 C.2.1 dX6_dye_20 rfl ?_
      exact J21 false ((decide_eq_false (fun z => (bI_z.mp c13) z.2)).symm) ls hl
    · refine lv_iconst (v := 1) C.1 C.2.1 dX6_dye_16 rfl ?_
      refine lv_goto (tgt := 21) C.1 C.2.1 dX6_dye_17 (by decide) ?_
      exact J21 true ((decide_eq_true ⟨(bI_nz c5), bI_nz c13⟩).symm) ls hl
def zmcol (ar : Nat → Nat → Int32) (o : Nat) (ax : Int32) : Int32 := if ax = 0 then ar 1 (2 * zE ar o) * ar 15 o / 100 + (ar 17 o + ar 16 o) else ar 1 (2 * zE ar o + 1) * ar 15 o / 100 + ar 18 o
set_option maxHeartbeats 4000000 in
set_option maxRecDepth 100000 in
theorem mw_colour {l : Launch} {g : gG} {M : Mp} {mo : Nat} {ad : Nat → Nat} {sc : Nat → Int32} {ar : Nat → Nat → Int32} {ne nb no : Nat}  (hI : MI g M mo ad sc ar) (hs0 : sc 0 = nI ne) (hs5 : sc 5 = nI nb) (hs9 : sc 9 = nI no) (hb0 : ne ≤ 12) (hb5 : nb ≤ 10) (hb9 : no ≤ 40) (hPo : PO ar ne nb no) (p0 p1 : Int32) : Met l yX6_colour (WY yX6_colour cX6_colour 5 (some .int)) { frames := 2, cells := 0, slots := 0, locals := 43 } (Wc g M [.ref mo, .int p0, .int p1]) (wrQ (S := Int32) g (fun u_ => (some (.int u_))) (fun u_ M_ => MQ2 ((inx p0 no) ∧ inx p1 2) (((inx p0 no) ∧ inx p1 2) ∧ ¬ ar 13 p0.toNatClampNeg = 0) (u_ = (zmcol ar p0.toNatClampNeg p1) ∧ MX g M M_ mo ad (us sc 23 0) (ar)) (fun t_ => u_ = 0 ∧ MX g M M_ mo ad (us sc 23 t_) ar))) 0 0 (gA g) := by
  refine ofM (by decide +kernel) (Nat.le_of_ble_eq_true rfl) (fun p e s m args below meth c ls C hr hlocks hin hE hH hl ea => ?_)
  have hl : lv_has ls 5 [(0, .ref mo), (1, .int p0), (2, .int p1)] := hl
  have hS : va_S (gA g) s.heap s.heap [] := va_S.rf
  have X0 := MX_rf hI
  have J22 : ∀ (b1 : Bool), b1 = decide ((inx p0 no) ∧ inx p1 2) → ∀ (ls : Array Slot), lv_has ls 5 [(0, .ref mo), (1, .int p0), (2, .int p1)] → W p l e { frames := 2, cells := 0, slots := 0, locals := 43 } s m args below meth c s.heap [] 0 0 (MQ below (wrQ (S := Int32) g (fun u_ => (some (.int u_))) (fun u_ M_ => MQ2 ((inx p0 no) ∧ inx p1 2) (((inx p0 no) ∧ inx p1 2) ∧ ¬ ar 13 p0.toNatClampNeg = 0) (u_ = (zmcol ar p0.toNatClampNeg p1) ∧ MX g M M_ mo ad (us sc 23 0) (ar)) (fun t_ => u_ = 0 ∧ MX g M M_ mo ad (us sc 23 t_) ar))) args s 0 0 (gA g)) (F0 m 22 ls [.int (bI b1)]) := by
    intro b1 hb1 ls hl
    refine lv_istore_n (lv' := [(3, .int (bI b1)), (0, .ref mo), (1, .int p0), (2, .int p1)]) C.1 C.2.1 dX6_colour_22 rfl hl (by decide) rfl (fun ls hl => ?_)
    refine lv_aload_n C.1 C.2.1 dX6_colour_23 rfl (lv_at hl 1 rfl) ?_
    refine lv_iload_n C.1 C.2.1 dX6_colour_24 rfl (lv_at hl 0 rfl) ?_
    have J43 : ∀ (b2 : Bool), b2 = decide (((inx p0 no) ∧ inx p1 2) ∧ ¬ ar 13 p0.toNatClampNeg = 0) → ∀ (ls : Array Slot), lv_has ls 5 [(3, .int (bI b1)), (0, .ref mo), (1, .int p0), (2, .int p1)] → W p l e { frames := 2, cells := 0, slots := 0, locals := 43 } s m args below meth c s.heap [] 0 0 (MQ below (wrQ (S := Int32) g (fun u_ => (some (.int u_))) (fun u_ M_ => MQ2 ((inx p0 no) ∧ inx p1 2) (((inx p0 no) ∧ inx p1 2) ∧ ¬ ar 13 p0.toNatClampNeg = 0) (u_ = (zmcol ar p0.toNatClampNeg p1) ∧ MX g M M_ mo ad (us sc 23 0) (ar)) (fun t_ => u_ = 0 ∧ MX g M M_ mo ad (us sc 23 t_) ar))) args s 0 0 (gA g)) (F0 m 43 ls [.int (bI b2), .int (bI b1), .ref mo]) := by
      intro b2 hb2 ls hl
      refine wr_go1 (runV C hE hH hS (m_mayBoth X0.1 hs0 hs5 hs9 hb0 hb5 hb9 b1 b2) mv_X6_mayBoth wm_814 (MX_m X0) rfl rfl hl.1 dX6_colour_43 rfl rfl ⟨rfl, rfl⟩ ⟨Nat.le_of_ble_eq_true rfl, Nat.le_of_ble_eq_true rfl⟩ (Nat.le_of_ble_eq_true rfl) ⟨Nat.le_of_ble_eq_true rfl, Nat.le_of_ble_eq_true rfl⟩) hS (fun u1 M2 H locs hM2 hH hS => ?_)
      have X3 := MX_tr X0 hM2
      refine lv_if_ne (tgt := 51) C.1 C.2.1 dX6_colour_46 (by decide) (fun c46 => ?_) (fun c46 => ?_)
      · obtain ⟨k1, k2, hz0⟩ := m2_t hb1 hb2 c46
        rw [hz0] at X3
        obtain ⟨⟨u, hu, he⟩, ⟨y, hy4, hy⟩, h14⟩ := hPo.1 _ (inx_nI k1.1 (by omega)).1
        obtain ⟨w, ew, epw⟩ : ∃ z : Nat, z = p1.toNatClampNeg ∧ p1 = nI z := ⟨_, rfl, (inx_nI k1.2 (by omega)).2⟩
        have rw : w < 2 := by rw [ew]; exact (inx_nI k1.2 (by omega)).1
        rw [epw] at hl
        refine lv_aload_n C.1 C.2.1 dX6_colour_51 rfl (lv_at hl 1 rfl) ?_
        refine mget (v := .ref (ad 1)) C hE hH fl_731 (MX_m X3) rfl dX6_colour_52 ?_
        refine lv_iconst (v := 2) C.1 C.2.1 dX6_colour_55 rfl ?_
        refine lv_aload_n C.1 C.2.1 dX6_colour_56 rfl (lv_at hl 1 rfl) ?_
        refine mget (v := .ref (ad 10)) C hE hH fl_740 (MX_m X3) rfl dX6_colour_57 ?_
        refine lv_iload_n C.1 C.2.1 dX6_colour_60 rfl (lv_at hl 2 rfl) ?_
        refine mald (n := 40) (f := (ar 10)) C hE hH (MX_a X3 10 rfl) ((vp_up (inx_in k1.1 (by omega)) hb9)) dX6_colour_61 ?_
        rw [he]
        refine lv_imul C.1 C.2.1 dX6_colour_62 ?_
        rw [show (2 : Int32) * (nI u) = nI (2 * u) from (nI_m 2 u).symm]
        refine lv_iload_n C.1 C.2.1 dX6_colour_63 rfl (lv_at hl 3 rfl) ?_
        refine lv_iadd C.1 C.2.1 dX6_colour_64 ?_
        rw [show (nI (2 * u) : Int32) + (nI w) = nI ((2 * u) + w) from (nI_a (2 * u) w).symm]
        refine mald (n := 24) (f := (ar 1)) C hE hH (MX_a X3 1 rfl) (vp_in_nI (show ((2 * u) + w) < 24 by omega) (by decide)) dX6_colour_65 ?_
        rw [nI_clamp (show ((2 * u) + w) < 2 ^ 31 by omega)]
        refine lv_aload_n C.1 C.2.1 dX6_colour_66 rfl (lv_at hl 1 rfl) ?_
        refine mget (v := .ref (ad 15)) C hE hH fl_745 (MX_m X3) rfl dX6_colour_67 ?_
        refine lv_iload_n C.1 C.2.1 dX6_colour_70 rfl (lv_at hl 2 rfl) ?_
        refine mald (n := 40) (f := (ar 15)) C hE hH (MX_a X3 15 rfl) ((vp_up (inx_in k1.1 (by omega)) hb9)) dX6_colour_71 ?_
        refine lv_imul C.1 C.2.1 dX6_colour_72 ?_
        refine lv_bipush (v := 100) C.1 C.2.1 dX6_colour_73 rfl ?_
        refine lv_idiv C.1 C.2.1 dX6_colour_75 (by decide) ?_
        refine lv_topi (fun x4 ex4 => ?_)
        refine lv_istore (lv' := [(4, .int x4), (3, .int (bI b1)), (0, .ref mo), (1, .int p0), (2, .int (nI w))]) C.1 C.2.1 dX6_colour_76 hl (by decide) rfl (fun ls hl => ?_)
        refine lv_iload C.1 C.2.1 dX6_colour_78 (lv_at hl 0 rfl) ?_
        refine lv_iload_n C.1 C.2.1 dX6_colour_80 rfl (lv_at hl 4 rfl) ?_
        refine lv_if_ne (tgt := 100) C.1 C.2.1 dX6_colour_81 (by decide) (fun c81 => ?_) (fun c81 => ?_)
        · refine lv_aload_n C.1 C.2.1 dX6_colour_100 rfl (lv_at hl 2 rfl) ?_
          refine mget (v := .ref (ad 18)) C hE hH fl_748 (MX_m X3) rfl dX6_colour_101 ?_
          refine lv_iload_n C.1 C.2.1 dX6_colour_104 rfl (lv_at hl 3 rfl) ?_
          refine mald (n := 40) (f := (ar 18)) C hE hH (MX_a X3 18 rfl) ((vp_up (inx_in k1.1 (by omega)) hb9)) dX6_colour_105 ?_
          refine lv_iadd C.1 C.2.1 dX6_colour_106 ?_
          exact wr_iret (x4 + ((ar 18) p0.toNatClampNeg)) C hr hlocks hH hS rfl (Or.inl ⟨k1, k2, (by
        unfold zmcol
        have e1 : w = 1 := by
          have : w ≠ 0 := fun z => c81 (by rw [z]; rfl)
          omega
        rw [epw, zE_at he (by omega), if_neg c81, ex4, e1]), X3⟩) (by decide) (by decide) dX6_colour_107
        · refine lv_aload_n C.1 C.2.1 dX6_colour_84 rfl (lv_at hl 2 rfl) ?_
          refine mget (v := .ref (ad 17)) C hE hH fl_747 (MX_m X3) rfl dX6_colour_85 ?_
          refine lv_iload_n C.1 C.2.1 dX6_colour_88 rfl (lv_at hl 3 rfl) ?_
          refine mald (n := 40) (f := (ar 17)) C hE hH (MX_a X3 17 rfl) ((vp_up (inx_in k1.1 (by omega)) hb9)) dX6_colour_89 ?_
          refine lv_aload_n C.1 C.2.1 dX6_colour_90 rfl (lv_at hl 2 rfl) ?_
          refine mget (v := .ref (ad 16)) C hE hH fl_746 (MX_m X3) rfl dX6_colour_91 ?_
          refine lv_iload_n C.1 C.2.1 dX6_colour_94 rfl (lv_at hl 3 rfl) ?_
          refine mald (n := 40) (f := (ar 16)) C hE hH (MX_a X3 16 rfl) ((vp_up (inx_in k1.1 (by omega)) hb9)) dX6_colour_95 ?_
          refine lv_iadd C.1 C.2.1 dX6_colour_96 ?_
          refine lv_goto (tgt := 106) C.1 C.2.1 dX6_colour_97 (by decide) ?_
          refine lv_iadd C.1 C.2.1 dX6_colour_106 ?_
          exact wr_iret (x4 + (((ar 17) p0.toNatClampNeg) + ((ar 16) p0.toNatClampNeg))) C hr hlocks hH hS rfl (Or.inl ⟨k1, k2, (by
        unfold zmcol
        rw [epw, zE_at he (by omega), if_pos c81, ex4, nI_inj (a := w) (b := 0) (by omega) (by decide) c81]
        first
        | done
        | rfl), X3⟩) (by decide) (by decide) dX6_colour_107
      · refine lv_iconst (v := 0) C.1 C.2.1 dX6_colour_49 rfl ?_
        exact wr_iret 0 C hr hlocks hH hS rfl (mq2_bad hb1 hb2 c46 ⟨rfl, X3⟩) (by decide) (by decide) dX6_colour_50
    refine lv_iload_n C.1 C.2.1 dX6_colour_25 rfl (lv_at hl 0 rfl) ?_
    refine lv_if_eq (tgt := 42) C.1 C.2.1 dX6_colour_26 (by decide) (fun c26 => ?_) (fun c26 => ?_)
    · refine lv_iconst (v := 0) C.1 C.2.1 dX6_colour_42 rfl ?_
      exact J43 false ((decide_eq_false (fun z => (df hb1 (bf_of c26)) z.1)).symm) ls hl
    · refine lv_aload_n C.1 C.2.1 dX6_colour_29 rfl (lv_at hl 1 rfl) ?_
      refine mget (v := .ref (ad 13)) C hE hH fl_743 (MX_m X0) rfl dX6_colour_30 ?_
      refine lv_iload_n C.1 C.2.1 dX6_colour_33 rfl (lv_at hl 2 rfl) ?_
      refine mald (n := 40) (f := (ar 13)) C hE hH (MX_a X0 13 rfl) (vp_up (inx_in (dt hb1 (bt_of c26)).1 (by omega)) hb9) dX6_colour_34 ?_
      refine lv_if_eq (tgt := 42) C.1 C.2.1 dX6_colour_35 (by decide) (fun c35 => ?_) (fun c35 => ?_)
      · refine lv_iconst (v := 0) C.1 C.2.1 dX6_colour_42 rfl ?_
        exact J43 false ((decide_eq_false (fun z => (not_not_intro c35) z.2)).symm) ls hl
      · refine lv_iconst (v := 1) C.1 C.2.1 dX6_colour_38 rfl ?_
        refine lv_goto (tgt := 43) C.1 C.2.1 dX6_colour_39 (by decide) ?_
        exact J43 true ((decide_eq_true ⟨(dt hb1 (bt_of c26)), c35⟩).symm) ls hl
  refine lv_aload_n C.1 C.2.1 dX6_colour_0 rfl (lv_at hl 0 rfl) ?_
  refine lv_iload_n C.1 C.2.1 dX6_colour_1 rfl (lv_at hl 1 rfl) ?_
  refine rd_go1 (runV C hE hH hS (m_isOrder X0.1 hs0 hs5 hs9 hb0 hb5 hb9 p0) mv_X6_isOrder wm_872 (MX_m X0) rfl rfl hl.1 dX6_colour_2 rfl rfl ⟨rfl, rfl⟩ ⟨Nat.le_of_ble_eq_true rfl, Nat.le_of_ble_eq_true rfl⟩ (Nat.le_of_ble_eq_true rfl) ⟨Nat.le_of_ble_eq_true rfl, Nat.le_of_ble_eq_true rfl⟩) ?_
  refine lv_if_eq (tgt := 21) C.1 C.2.1 dX6_colour_5 (by decide) (fun c5 => ?_) (fun c5 => ?_)
  · refine lv_iconst (v := 0) C.1 C.2.1 dX6_colour_21 rfl ?_
    exact J22 false ((decide_eq_false (fun z => (bI_z.mp c5) z.1)).symm) ls hl
  · refine lv_iload_n C.1 C.2.1 dX6_colour_8 rfl (lv_at hl 2 rfl) ?_
    refine lv_iconst (v := 0) C.1 C.2.1 dX6_colour_9 rfl ?_
    refine lv_iconst (v := 1) C.1 C.2.1 dX6_colour_10 rfl ?_
    refine rd_go1 (runS C hE hH hS (m_isIn p1 0 1) mv_X6_isIn wm_811 hl.1 dX6_colour_11 rfl rfl ⟨rfl, rfl⟩ ⟨Nat.le_of_ble_eq_true rfl, Nat.le_of_ble_eq_true rfl⟩ (Nat.le_of_ble_eq_true rfl) ⟨Nat.le_of_ble_eq_true rfl, Nat.le_of_ble_eq_true rfl⟩) ?_
    refine lv_if_eq (tgt := 21) C.1 C.2.1 dX6_colour_14 (by decide) (fun c14 => ?_) (fun c14 => ?_)
    · refine lv_iconst (v := 0) C.1 C.2.1 dX6_colour_21 rfl ?_
      exact J22 false ((decide_eq_false (fun z => ((fun q => bI_z.mp c14 ((ir_ix (by decide) rfl).mpr q))) z.2)).symm) ls hl
    · refine lv_iconst (v := 1) C.1 C.2.1 dX6_colour_17 rfl ?_
      refine lv_goto (tgt := 22) C.1 C.2.1 dX6_colour_18 (by decide) ?_
      exact J22 true ((decide_eq_true ⟨(bI_nz c5), (ir_ix (by decide) rfl).mp (bI_nz c14)⟩).symm) ls hl
set_option maxHeartbeats 4000000 in
set_option maxRecDepth 100000 in
theorem mw_colourByBath {l : Launch} {g : gG} {M : Mp} {mo : Nat} {ad : Nat → Nat} {sc : Nat → Int32} {ar : Nat → Nat → Int32} {ne nb no : Nat}  (hI : MI g M mo ad sc ar) (hs0 : sc 0 = nI ne) (hs5 : sc 5 = nI nb) (hs9 : sc 9 = nI no) (hb0 : ne ≤ 12) (hb5 : nb ≤ 10) (hb9 : no ≤ 40) (hPo : PO ar ne nb no) (p0 p1 : Int32) : Met l yX6_colourByBath (WY yX6_colourByBath cX6_colourByBath 3 (some .int)) { frames := 3, cells := 0, slots := 0, locals := 67 } (Wc g M [.ref mo, .int p0, .int p1]) (wrQ (S := Int32) g (fun u_ => (some (.int u_))) (fun u_ M_ => MQ2 ((inx p0 no) ∧ inx p1 2) (((inx p0 no) ∧ inx p1 2) ∧ ¬ ar 13 p0.toNatClampNeg = 0) (u_ = (zmcol ar p0.toNatClampNeg p1) ∧ MX g M M_ mo ad (us sc 23 0) (ar)) (fun t_ => u_ = 0 ∧ MX g M M_ mo ad (us sc 23 t_) ar))) 0 0 (gA g) := by
  refine ofM (by decide +kernel) (Nat.le_of_ble_eq_true rfl) (fun p e s m args below meth c ls C hr hlocks hin hE hH hl ea => ?_)
  have hl : lv_has ls 3 [(0, .ref mo), (1, .int p0), (2, .int p1)] := hl
  have hS : va_S (gA g) s.heap s.heap [] := va_S.rf
  have X0 := MX_rf hI
  refine lv_aload_n C.1 C.2.1 dX6_colourByBath_0 rfl (lv_at hl 0 rfl) ?_
  refine lv_iload_n C.1 C.2.1 dX6_colourByBath_1 rfl (lv_at hl 1 rfl) ?_
  refine lv_iload_n C.1 C.2.1 dX6_colourByBath_2 rfl (lv_at hl 2 rfl) ?_
  refine wr_go1 (runV C hE hH hS (mw_colour X0.1 hs0 hs5 hs9 hb0 hb5 hb9 (hPo) p0 p1) mv_X6_colour wm_912 (MX_m X0) rfl rfl hl.1 dX6_colourByBath_3 rfl rfl ⟨rfl, rfl⟩ ⟨Nat.le_of_ble_eq_true rfl, Nat.le_of_ble_eq_true rfl⟩ (Nat.le_of_ble_eq_true rfl) ⟨Nat.le_of_ble_eq_true rfl, Nat.le_of_ble_eq_true rfl⟩) hS (fun u1 M2 H locs hM2 hH hS => ?_)
  exact wr_iret u1 C hr hlocks hH hS rfl (hM2) (by decide) (by decide) dX6_colourByBath_6
def zmbl (ar : Nat → Nat → Int32) (o : Nat) : Int32 := zblame (zoff ar (zE ar o) 100 (ar 17 o + ar 16 o) (ar 18 o)) (zoff ar (zE ar o) (ar 15 o) (ar 17 o) (ar 18 o)) (zoff ar (zE ar o) (ar 15 o) (ar 16 o) 0)
def zmix (ar : Nat → Nat → Int32) (o : Nat) : Nat := 3 * (ar 6 (ar 14 o).toNatClampNeg).toNatClampNeg + (zmbl ar o).toNatClampNeg
def zmof (ar : Nat → Nat → Int32) (o : Nat) : Int32 := zoff ar (zE ar o) (ar 15 o) (ar 17 o + ar 16 o) (ar 18 o)
