/-! THE MODEL: HOW FAR, AND DYEING -/
def zoff (ar : Nat → Nat → Int32) (u : Nat) (k y1 y2 : Int32) : Int32 := zfar (ar 1 (2 * u) * k / 100 + y1) (ar 1 (2 * u)) + zfar (ar 1 (2 * u + 1) * k / 100 + y2) (ar 1 (2 * u + 1))
def zmw (k w : Int32) : Int32 := if w < k then k - w else 0
def mdye (ar : Nat → Nat → Int32) (o b : Nat) : Nat → Nat → Int32 := ua (ua (ua (ua (ua (ua (ua ar 13 (upd (ar 13) o 1)) 14 (upd (ar 14) o (nI b))) 15 (upd (ar 15) o (ar 8 b))) 16 (upd (ar 16) o (zw9 ar b))) 17 (upd (ar 17) o (zy8 ar o))) 18 (upd (ar 18) o (zy9 ar o))) 8 (upd (ar 8) b (zmw (ar 8 b) (ar 11 o)))
def PO (ar : Nat → Nat → Int32) (ne nb no : Nat) : Prop := (∀ j, j < no → (∃ e, e < ne ∧ ar 10 j = nI e) ∧ (∃ y, y < 4 ∧ ar 12 j = nI y) ∧ (¬ ar 13 j = 0 → ∃ b, b < nb ∧ ar 14 j = nI b)) ∧ ∀ i, i < nb → ∃ d, d < 3 ∧ ar 6 i = nI d
set_option maxHeartbeats 4000000 in
set_option maxRecDepth 100000 in
theorem m_off {l : Launch} {g : gG} {M : Mp} {mo : Nat} {ad : Nat → Nat} {sc : Nat → Int32} {ar : Nat → Nat → Int32} {ne nb no : Nat}  {u : Nat} (hI : MI g M mo ad sc ar) (hs0 : sc 0 = nI ne) (hs5 : sc 5 = nI nb) (hs9 : sc 9 = nI no) (hb0 : ne ≤ 12) (hb5 : nb ≤ 10) (hb9 : no ≤ 40) (hu : u < 12) (k y1 y2 : Int32) : Met l yX6_off (WY yX6_off cX6_off 7 (some .int)) { frames := 1, cells := 0, slots := 0, locals := 21 } (Wc g M [.ref mo, .int (nI u), .int k, .int y1, .int y2]) (rdQ (some (.int (zoff ar u k y1 y2)))) 0 0 fr0 := by
  refine ofM (by decide +kernel) (Nat.le_of_ble_eq_true rfl) (fun p e s m args below meth c ls C hr hlocks hin hE hH hl ea => ?_)
  have hl : lv_has ls 7 [(0, .ref mo), (1, .int (nI u)), (2, .int k), (3, .int y1), (4, .int y2)] := hl
  have hS : va_S (gA g) s.heap s.heap [] := va_S.rf
  have X0 := MX_rf hI
  refine lv_aload_n C.1 C.2.1 dX6_off_0 rfl (lv_at hl 0 rfl) ?_
  refine mget (v := .ref (ad 1)) C hE hH fl_731 (MX_m X0) rfl dX6_off_1 ?_
  refine lv_iconst (v := 2) C.1 C.2.1 dX6_off_4 rfl ?_
  refine lv_iload_n C.1 C.2.1 dX6_off_5 rfl (lv_at hl 1 rfl) ?_
  refine lv_imul C.1 C.2.1 dX6_off_6 ?_
  rw [show (2 : Int32) * (nI u) = nI (2 * u) from (nI_m 2 u).symm]
  refine mald (n := 24) (f := (ar 1)) C hE hH (MX_a X0 1 rfl) (vp_in_nI (show (2 * u) < 24 by omega) (by decide)) dX6_off_7 ?_
  rw [nI_clamp (show (2 * u) < 2 ^ 31 by omega)]
  refine lv_iload_n C.1 C.2.1 dX6_off_8 rfl (lv_at hl 2 rfl) ?_
  refine lv_imul C.1 C.2.1 dX6_off_9 ?_
  refine lv_bipush (v := 100) C.1 C.2.1 dX6_off_10 rfl ?_
  refine lv_idiv C.1 C.2.1 dX6_off_12 (by decide) ?_
  refine lv_iload_n C.1 C.2.1 dX6_off_13 rfl (lv_at hl 3 rfl) ?_
  refine lv_iadd C.1 C.2.1 dX6_off_14 ?_
  refine lv_topi (fun x1 ex1 => ?_)
  refine lv_istore (lv' := [(5, .int x1), (0, .ref mo), (1, .int (nI u)), (2, .int k), (3, .int y1), (4, .int y2)]) C.1 C.2.1 dX6_off_15 hl (by decide) rfl (fun ls hl => ?_)
  refine lv_aload_n C.1 C.2.1 dX6_off_17 rfl (lv_at hl 1 rfl) ?_
  refine mget (v := .ref (ad 1)) C hE hH fl_731 (MX_m X0) rfl dX6_off_18 ?_
  refine lv_iconst (v := 2) C.1 C.2.1 dX6_off_21 rfl ?_
  refine lv_iload_n C.1 C.2.1 dX6_off_22 rfl (lv_at hl 2 rfl) ?_
  refine lv_imul C.1 C.2.1 dX6_off_23 ?_
  rw [show (2 : Int32) * (nI u) = nI (2 * u) from (nI_m 2 u).symm]
  refine lv_iconst (v := 1) C.1 C.2.1 dX6_off_24 rfl ?_
  refine lv_iadd C.1 C.2.1 dX6_off_25 ?_
  rw [show (nI (2 * u) : Int32) + 1 = nI ((2 * u) + 1) from (nI_a (2 * u) 1).symm]
  refine mald (n := 24) (f := (ar 1)) C hE hH (MX_a X0 1 rfl) (vp_in_nI (show ((2 * u) + 1) < 24 by omega) (by decide)) dX6_off_26 ?_
  rw [nI_clamp (show ((2 * u) + 1) < 2 ^ 31 by omega)]
  refine lv_iload_n C.1 C.2.1 dX6_off_27 rfl (lv_at hl 3 rfl) ?_
  refine lv_imul C.1 C.2.1 dX6_off_28 ?_
  refine lv_bipush (v := 100) C.1 C.2.1 dX6_off_29 rfl ?_
  refine lv_idiv C.1 C.2.1 dX6_off_31 (by decide) ?_
  refine lv_iload C.1 C.2.1 dX6_off_32 (lv_at hl 5 rfl) ?_
  refine lv_iadd C.1 C.2.1 dX6_off_34 ?_
  refine lv_topi (fun x2 ex2 => ?_)
  refine lv_istore (lv' := [(6, .int x2), (5, .int x1), (0, .ref mo), (1, .int (nI u)), (2, .int k), (3, .int y1), (4, .int y2)]) C.1 C.2.1 dX6_off_35 hl (by decide) rfl (fun ls hl => ?_)
  refine lv_iload C.1 C.2.1 dX6_off_37 (lv_at hl 1 rfl) ?_
  refine lv_aload_n C.1 C.2.1 dX6_off_39 rfl (lv_at hl 2 rfl) ?_
  refine mget (v := .ref (ad 1)) C hE hH fl_731 (MX_m X0) rfl dX6_off_40 ?_
  refine lv_iconst (v := 2) C.1 C.2.1 dX6_off_43 rfl ?_
  refine lv_iload_n C.1 C.2.1 dX6_off_44 rfl (lv_at hl 3 rfl) ?_
  refine lv_imul C.1 C.2.1 dX6_off_45 ?_
  rw [show (2 : Int32) * (nI u) = nI (2 * u) from (nI_m 2 u).symm]
  refine mald (n := 24) (f := (ar 1)) C hE hH (MX_a X0 1 rfl) (vp_in_nI (show (2 * u) < 24 by omega) (by decide)) dX6_off_46 ?_
  rw [nI_clamp (show (2 * u) < 2 ^ 31 by omega)]
  refine rd_go1 (runS C hE hH hS (m_far x1 ((ar 1) (2 * u))) mv_X6_far wm_841 hl.1 dX6_off_47 rfl rfl ⟨rfl, rfl⟩ ⟨Nat.le_of_ble_eq_true rfl, Nat.le_of_ble_eq_true rfl⟩ (Nat.le_of_ble_eq_true rfl) ⟨Nat.le_of_ble_eq_true rfl, Nat.le_of_ble_eq_true rfl⟩) ?_
  refine lv_iload C.1 C.2.1 dX6_off_50 (lv_at hl 0 rfl) ?_
  refine lv_aload_n C.1 C.2.1 dX6_off_52 rfl (lv_at hl 2 rfl) ?_
  refine mget (v := .ref (ad 1)) C hE hH fl_731 (MX_m X0) rfl dX6_off_53 ?_
  refine lv_iconst (v := 2) C.1 C.2.1 dX6_off_56 rfl ?_
  refine lv_iload_n C.1 C.2.1 dX6_off_57 rfl (lv_at hl 3 rfl) ?_
  refine lv_imul C.1 C.2.1 dX6_off_58 ?_
  rw [show (2 : Int32) * (nI u) = nI (2 * u) from (nI_m 2 u).symm]
  refine lv_iconst (v := 1) C.1 C.2.1 dX6_off_59 rfl ?_
  refine lv_iadd C.1 C.2.1 dX6_off_60 ?_
  rw [show (nI (2 * u) : Int32) + 1 = nI ((2 * u) + 1) from (nI_a (2 * u) 1).symm]
  refine mald (n := 24) (f := (ar 1)) C hE hH (MX_a X0 1 rfl) (vp_in_nI (show ((2 * u) + 1) < 24 by omega) (by decide)) dX6_off_61 ?_
  rw [nI_clamp (show ((2 * u) + 1) < 2 ^ 31 by omega)]
  refine rd_go1 (runS C hE hH hS (m_far x2 ((ar 1) ((2 * u) + 1))) mv_X6_far wm_841 hl.1 dX6_off_62 rfl rfl ⟨rfl, rfl⟩ ⟨Nat.le_of_ble_eq_true rfl, Nat.le_of_ble_eq_true rfl⟩ (Nat.le_of_ble_eq_true rfl) ⟨Nat.le_of_ble_eq_true rfl, Nat.le_of_ble_eq_true rfl⟩) ?_
  refine lv_iadd C.1 C.2.1 dX6_off_65 ?_
  exact rd_iret C hr hlocks (rfl) dX6_off_66
set_option maxHeartbeats 4000000 in
set_option maxRecDepth 100000 in
theorem m_offOf {l : Launch} {g : gG} {M : Mp} {mo : Nat} {ad : Nat → Nat} {sc : Nat → Int32} {ar : Nat → Nat → Int32} {ne nb no : Nat}  {o : Int32} {u : Nat} (hI : MI g M mo ad sc ar) (hs0 : sc 0 = nI ne) (hs5 : sc 5 = nI nb) (hs9 : sc 9 = nI no) (hb0 : ne ≤ 12) (hb5 : nb ≤ 10) (hb9 : no ≤ 40) (ho : vp_in o 40) (hu : u < 12) (he : ar 10 o.toNatClampNeg = nI u) : Met l yX6_offOf (WY yX6_offOf cX6_offOf 2 (some .int)) { frames := 2, cells := 0, slots := 0, locals := 47 } (Wc g M [.ref mo, .int o]) (rdQ (some (.int (zoff ar u (ar 15 o.toNatClampNeg) (ar 17 o.toNatClampNeg + ar 16 o.toNatClampNeg) (ar 18 o.toNatClampNeg))))) 0 0 fr0 := by
  refine ofM (by decide +kernel) (Nat.le_of_ble_eq_true rfl) (fun p e s m args below meth c ls C hr hlocks hin hE hH hl ea => ?_)
  have hl : lv_has ls 2 [(0, .ref mo), (1, .int o)] := hl
  have hS : va_S (gA g) s.heap s.heap [] := va_S.rf
  have X0 := MX_rf hI
  refine lv_aload_n C.1 C.2.1 dX6_offOf_0 rfl (lv_at hl 0 rfl) ?_
  refine lv_aload_n C.1 C.2.1 dX6_offOf_1 rfl (lv_at hl 0 rfl) ?_
  refine mget (v := .ref (ad 10)) C hE hH fl_740 (MX_m X0) rfl dX6_offOf_2 ?_
  refine lv_iload_n C.1 C.2.1 dX6_offOf_5 rfl (lv_at hl 1 rfl) ?_
  refine mald (n := 40) (f := (ar 10)) C hE hH (MX_a X0 10 rfl) (ho) dX6_offOf_6 ?_
  rw [he]
  refine lv_aload_n C.1 C.2.1 dX6_offOf_7 rfl (lv_at hl 0 rfl) ?_
  refine mget (v := .ref (ad 15)) C hE hH fl_745 (MX_m X0) rfl dX6_offOf_8 ?_
  refine lv_iload_n C.1 C.2.1 dX6_offOf_11 rfl (lv_at hl 1 rfl) ?_
  refine mald (n := 40) (f := (ar 15)) C hE hH (MX_a X0 15 rfl) (ho) dX6_offOf_12 ?_
  refine lv_aload_n C.1 C.2.1 dX6_offOf_13 rfl (lv_at hl 0 rfl) ?_
  refine mget (v := .ref (ad 17)) C hE hH fl_747 (MX_m X0) rfl dX6_offOf_14 ?_
  refine lv_iload_n C.1 C.2.1 dX6_offOf_17 rfl (lv_at hl 1 rfl) ?_
  refine mald (n := 40) (f := (ar 17)) C hE hH (MX_a X0 17 rfl) (ho) dX6_offOf_18 ?_
  refine lv_aload_n C.1 C.2.1 dX6_offOf_19 rfl (lv_at hl 0 rfl) ?_
  refine mget (v := .ref (ad 16)) C hE hH fl_746 (MX_m X0) rfl dX6_offOf_20 ?_
  refine lv_iload_n C.1 C.2.1 dX6_offOf_23 rfl (lv_at hl 1 rfl) ?_
  refine mald (n := 40) (f := (ar 16)) C hE hH (MX_a X0 16 rfl) (ho) dX6_offOf_24 ?_
  refine lv_iadd C.1 C.2.1 dX6_offOf_25 ?_
  refine lv_aload_n C.1 C.2.1 dX6_offOf_26 rfl (lv_at hl 0 rfl) ?_
  refine mget (v := .ref (ad 18)) C hE hH fl_748 (MX_m X0) rfl dX6_offOf_27 ?_
  refine lv_iload_n C.1 C.2.1 dX6_offOf_30 rfl (lv_at hl 1 rfl) ?_
  refine mald (n := 40) (f := (ar 18)) C hE hH (MX_a X0 18 rfl) (ho) dX6_offOf_31 ?_
  refine rd_go1 (runV C hE hH hS (m_off X0.1 hs0 hs5 hs9 hb0 hb5 hb9 (hu) ((ar 15) o.toNatClampNeg) (((ar 17) o.toNatClampNeg) + ((ar 16) o.toNatClampNeg)) ((ar 18) o.toNatClampNeg)) mv_X6_off wm_880 (MX_m X0) rfl rfl hl.1 dX6_offOf_32 rfl rfl ⟨rfl, rfl⟩ ⟨Nat.le_of_ble_eq_true rfl, Nat.le_of_ble_eq_true rfl⟩ (Nat.le_of_ble_eq_true rfl) ⟨Nat.le_of_ble_eq_true rfl, Nat.le_of_ble_eq_true rfl⟩) ?_
  exact rd_iret C hr hlocks (rfl) dX6_offOf_35
set_option maxHeartbeats 4000000 in
set_option maxRecDepth 100000 in
theorem m_offBy {l : Launch} {g : gG} {M : Mp} {mo : Nat} {ad : Nat → Nat} {sc : Nat → Int32} {ar : Nat → Nat → Int32} {ne nb no : Nat}  {o b : Int32} {u y d : Nat} (hI : MI g M mo ad sc ar) (hs0 : sc 0 = nI ne) (hs5 : sc 5 = nI nb) (hs9 : sc 9 = nI no) (hb0 : ne ≤ 12) (hb5 : nb ≤ 10) (hb9 : no ≤ 40) (ho : vp_in o 40) (hb : vp_in b 10) (hy4 : y < 4) (hy : ar 12 o.toNatClampNeg = nI y) (hd3 : d < 3) (hd : ar 6 b.toNatClampNeg = nI d) (hu : u < 12) (he : ar 10 o.toNatClampNeg = nI u) : Met l yX6_offBy (WY yX6_offBy cX6_offBy 4 (some .int)) { frames := 2, cells := 0, slots := 0, locals := 47 } (Wc g M [.ref mo, .int o, .int b]) (rdQ (some (.int (zoff ar u (ar 8 b.toNatClampNeg) (ar 4 (2 * y) + ar 3 d) (ar 4 (2 * y + 1)))))) 0 0 fr0 := by
  refine ofM (by decide +kernel) (Nat.le_of_ble_eq_true rfl) (fun p e s m args below meth c ls C hr hlocks hin hE hH hl ea => ?_)
  have hl : lv_has ls 4 [(0, .ref mo), (1, .int o), (2, .int b)] := hl
  have hS : va_S (gA g) s.heap s.heap [] := va_S.rf
  have X0 := MX_rf hI
  refine lv_aload_n C.1 C.2.1 dX6_offBy_0 rfl (lv_at hl 0 rfl) ?_
  refine mget (v := .ref (ad 12)) C hE hH fl_742 (MX_m X0) rfl dX6_offBy_1 ?_
  refine lv_iload_n C.1 C.2.1 dX6_offBy_4 rfl (lv_at hl 1 rfl) ?_
  refine mald (n := 40) (f := (ar 12)) C hE hH (MX_a X0 12 rfl) (ho) dX6_offBy_5 ?_
  rw [hy]
  refine lv_istore_n (lv' := [(3, .int (nI y)), (0, .ref mo), (1, .int o), (2, .int b)]) C.1 C.2.1 dX6_offBy_6 rfl hl (by decide) rfl (fun ls hl => ?_)
  refine lv_aload_n C.1 C.2.1 dX6_offBy_7 rfl (lv_at hl 1 rfl) ?_
  refine lv_aload_n C.1 C.2.1 dX6_offBy_8 rfl (lv_at hl 1 rfl) ?_
  refine mget (v := .ref (ad 10)) C hE hH fl_740 (MX_m X0) rfl dX6_offBy_9 ?_
  refine lv_iload_n C.1 C.2.1 dX6_offBy_12 rfl (lv_at hl 2 rfl) ?_
  refine mald (n := 40) (f := (ar 10)) C hE hH (MX_a X0 10 rfl) (ho) dX6_offBy_13 ?_
  rw [he]
  refine lv_aload_n C.1 C.2.1 dX6_offBy_14 rfl (lv_at hl 1 rfl) ?_
  refine mget (v := .ref (ad 8)) C hE hH fl_738 (MX_m X0) rfl dX6_offBy_15 ?_
  refine lv_iload_n C.1 C.2.1 dX6_offBy_18 rfl (lv_at hl 3 rfl) ?_
  refine mald (n := 10) (f := (ar 8)) C hE hH (MX_a X0 8 rfl) (hb) dX6_offBy_19 ?_
  refine lv_aload_n C.1 C.2.1 dX6_offBy_20 rfl (lv_at hl 1 rfl) ?_
  refine mget (v := .ref (ad 4)) C hE hH fl_734 (MX_m X0) rfl dX6_offBy_21 ?_
  refine lv_iconst (v := 2) C.1 C.2.1 dX6_offBy_24 rfl ?_
  refine lv_iload_n C.1 C.2.1 dX6_offBy_25 rfl (lv_at hl 0 rfl) ?_
  refine lv_imul C.1 C.2.1 dX6_offBy_26 ?_
  rw [show (2 : Int32) * (nI y) = nI (2 * y) from (nI_m 2 y).symm]
  refine mald (n := 8) (f := (ar 4)) C hE hH (MX_a X0 4 rfl) (vp_in_nI (show (2 * y) < 8 by omega) (by decide)) dX6_offBy_27 ?_
  rw [nI_clamp (show (2 * y) < 2 ^ 31 by omega)]
  refine lv_aload_n C.1 C.2.1 dX6_offBy_28 rfl (lv_at hl 1 rfl) ?_
  refine mget (v := .ref (ad 3)) C hE hH fl_733 (MX_m X0) rfl dX6_offBy_29 ?_
  refine lv_aload_n C.1 C.2.1 dX6_offBy_32 rfl (lv_at hl 1 rfl) ?_
  refine mget (v := .ref (ad 6)) C hE hH fl_736 (MX_m X0) rfl dX6_offBy_33 ?_
  refine lv_iload_n C.1 C.2.1 dX6_offBy_36 rfl (lv_at hl 3 rfl) ?_
  refine mald (n := 10) (f := (ar 6)) C hE hH (MX_a X0 6 rfl) (hb) dX6_offBy_37 ?_
  rw [hd]
  refine mald (n := 3) (f := (ar 3)) C hE hH (MX_a X0 3 rfl) (vp_in_nI (show d < 3 by omega) (by decide)) dX6_offBy_38 ?_
  rw [nI_clamp (show d < 2 ^ 31 by omega)]
  refine lv_iadd C.1 C.2.1 dX6_offBy_39 ?_
  refine lv_aload_n C.1 C.2.1 dX6_offBy_40 rfl (lv_at hl 1 rfl) ?_
  refine mget (v := .ref (ad 4)) C hE hH fl_734 (MX_m X0) rfl dX6_offBy_41 ?_
  refine lv_iconst (v := 2) C.1 C.2.1 dX6_offBy_44 rfl ?_
  refine lv_iload_n C.1 C.2.1 dX6_offBy_45 rfl (lv_at hl 0 rfl) ?_
  refine lv_imul C.1 C.2.1 dX6_offBy_46 ?_
  rw [show (2 : Int32) * (nI y) = nI (2 * y) from (nI_m 2 y).symm]
  refine lv_iconst (v := 1) C.1 C.2.1 dX6_offBy_47 rfl ?_
  refine lv_iadd C.1 C.2.1 dX6_offBy_48 ?_
  rw [show (nI (2 * y) : Int32) + 1 = nI ((2 * y) + 1) from (nI_a (2 * y) 1).symm]
  refine mald (n := 8) (f := (ar 4)) C hE hH (MX_a X0 4 rfl) (vp_in_nI (show ((2 * y) + 1) < 8 by omega) (by decide)) dX6_offBy_49 ?_
  rw [nI_clamp (show ((2 * y) + 1) < 2 ^ 31 by omega)]
  refine rd_go1 (runV C hE hH hS (m_off X0.1 hs0 hs5 hs9 hb0 hb5 hb9 (hu) ((ar 8) b.toNatClampNeg) (((ar 4) (2 * y)) + ((ar 3) d)) ((ar 4) ((2 * y) + 1))) mv_X6_off wm_880 (MX_m X0) rfl rfl hl.1 dX6_offBy_50 rfl rfl ⟨rfl, rfl⟩ ⟨Nat.le_of_ble_eq_true rfl, Nat.le_of_ble_eq_true rfl⟩ (Nat.le_of_ble_eq_true rfl) ⟨Nat.le_of_ble_eq_true rfl, Nat.le_of_ble_eq_true rfl⟩) ?_
  exact rd_iret C hr hlocks (rfl) dX6_offBy_53
set_option maxHeartbeats 4000000 in
set_option maxRecDepth 100000 in
theorem m_dyeIn {l : Launch} {g : gG} {M : Mp} {mo : Nat} {ad : Nat → Nat} {sc : Nat → Int32} {ar : Nat → Nat → Int32} {ne nb no : Nat}  {o b : Int32} {y d : Nat} (hI : MI g M mo ad sc ar) (hs0 : sc 0 = nI ne) (hs5 : sc 5 = nI nb) (hs9 : sc 9 = nI no) (hb0 : ne ≤ 12) (hb5 : nb ≤ 10) (hb9 : no ≤ 40) (ho : vp_in o 40) (hb : vp_in b 10) (hy4 : y < 4) (hy : ar 12 o.toNatClampNeg = nI y) (hd3 : d < 3) (hd : ar 6 b.toNatClampNeg = nI d) (hbn : b = nI b.toNatClampNeg) : Met l yX6_dyeIn (WY yX6_dyeIn cX6_dyeIn 3 none) { frames := 0, cells := 0, slots := 0, locals := 0 } (Wc g M [.ref mo, .int o, .int b]) (wrQ (S := Unit) g (fun u_ => none) (fun u_ M_ => MX g M M_ mo ad sc (mdye ar o.toNatClampNeg b.toNatClampNeg))) 0 0 (gA g) := by
  refine ofM (by decide +kernel) (Nat.le_of_ble_eq_true rfl) (fun p e s m args below meth c ls C hr hlocks hin hE hH hl ea => ?_)
  have hl : lv_has ls 3 [(0, .ref mo), (1, .int o), (2, .int b)] := hl
  have hS : va_S (gA g) s.heap s.heap [] := va_S.rf
  have X0 := MX_rf hI
  have hw9 : zw9 ar b.toNatClampNeg = ar 3 d := by unfold zw9; rw [hd, nI_clamp (by omega)]
  have hy8 : zy8 ar o.toNatClampNeg = ar 4 (2 * y) := by unfold zy8; rw [hy, nI_clamp (by omega)]
  have hy9 : zy9 ar o.toNatClampNeg = ar 4 (2 * y + 1) := by unfold zy9; rw [hy, nI_clamp (by omega)]
  refine lv_aload_n C.1 C.2.1 dX6_dyeIn_0 rfl (lv_at hl 0 rfl) ?_
  refine mget (v := .ref (ad 13)) C hE hH fl_743 (MX_m X0) rfl dX6_dyeIn_1 ?_
  refine lv_iload_n C.1 C.2.1 dX6_dyeIn_4 rfl (lv_at hl 1 rfl) ?_
  refine lv_iconst (v := 1) C.1 C.2.1 dX6_dyeIn_5 rfl ?_
  refine mast (n := 40) (f := (ar 13)) C hE hH hS (MX_a X0 13 rfl) (ho) dX6_dyeIn_6 (fun H locs hH hS => ?_)
  obtain ⟨M1, hM1⟩ : ∃ z, z = mu M (ad 13) (eI g 40 (upd (ar 13) o.toNatClampNeg 1)) := ⟨_, rfl⟩
  have hH : Hw g M1 H := by rw [hM1]; exact hH
  have X2 := MX_ar (k := 13) (N := 40) (f := upd (ar 13) o.toNatClampNeg 1) rfl rfl X0
  rw [← hM1] at X2
  refine lv_aload_n C.1 C.2.1 dX6_dyeIn_7 rfl (lv_at hl 0 rfl) ?_
  refine mget (v := .ref (ad 14)) C hE hH fl_744 (MX_m X2) rfl dX6_dyeIn_8 ?_
  refine lv_iload_n C.1 C.2.1 dX6_dyeIn_11 rfl (lv_at hl 1 rfl) ?_
  refine lv_iload_n C.1 C.2.1 dX6_dyeIn_12 rfl (lv_at hl 2 rfl) ?_
  refine mast (n := 40) (f := (ar 14)) C hE hH hS (MX_a X2 14 rfl) (ho) dX6_dyeIn_13 (fun H locs hH hS => ?_)
  obtain ⟨M3, hM3⟩ : ∃ z, z = mu M1 (ad 14) (eI g 40 (upd (ar 14) o.toNatClampNeg b)) := ⟨_, rfl⟩
  have hH : Hw g M3 H := by rw [hM3]; exact hH
  have X4 := MX_ar (k := 14) (N := 40) (f := upd (ar 14) o.toNatClampNeg b) rfl rfl X2
  rw [← hM3] at X4
  refine lv_aload_n C.1 C.2.1 dX6_dyeIn_14 rfl (lv_at hl 0 rfl) ?_
  refine mget (v := .ref (ad 15)) C hE hH fl_745 (MX_m X4) rfl dX6_dyeIn_15 ?_
  refine lv_iload_n C.1 C.2.1 dX6_dyeIn_18 rfl (lv_at hl 1 rfl) ?_
  refine lv_aload_n C.1 C.2.1 dX6_dyeIn_19 rfl (lv_at hl 0 rfl) ?_
  refine mget (v := .ref (ad 8)) C hE hH fl_738 (MX_m X4) rfl dX6_dyeIn_20 ?_
  refine lv_iload_n C.1 C.2.1 dX6_dyeIn_23 rfl (lv_at hl 2 rfl) ?_
  refine mald (n := 10) (f := (ar 8)) C hE hH (MX_a X4 8 rfl) (hb) dX6_dyeIn_24 ?_
  refine mast (n := 40) (f := (ar 15)) C hE hH hS (MX_a X4 15 rfl) (ho) dX6_dyeIn_25 (fun H locs hH hS => ?_)
  obtain ⟨M5, hM5⟩ : ∃ z, z = mu M3 (ad 15) (eI g 40 (upd (ar 15) o.toNatClampNeg ((ar 8) b.toNatClampNeg))) := ⟨_, rfl⟩
  have hH : Hw g M5 H := by rw [hM5]; exact hH
  have X6 := MX_ar (k := 15) (N := 40) (f := upd (ar 15) o.toNatClampNeg ((ar 8) b.toNatClampNeg)) rfl rfl X4
  rw [← hM5] at X6
  refine lv_aload_n C.1 C.2.1 dX6_dyeIn_26 rfl (lv_at hl 0 rfl) ?_
  refine mget (v := .ref (ad 16)) C hE hH fl_746 (MX_m X6) rfl dX6_dyeIn_27 ?_
  refine lv_iload_n C.1 C.2.1 dX6_dyeIn_30 rfl (lv_at hl 1 rfl) ?_
  refine lv_aload_n C.1 C.2.1 dX6_dyeIn_31 rfl (lv_at hl 0 rfl) ?_
  refine mget (v := .ref (ad 3)) C hE hH fl_733 (MX_m X6) rfl dX6_dyeIn_32 ?_
  refine lv_aload_n C.1 C.2.1 dX6_dyeIn_35 rfl (lv_at hl 0 rfl) ?_
  refine mget (v := .ref (ad 6)) C hE hH fl_736 (MX_m X6) rfl dX6_dyeIn_36 ?_
  refine lv_iload_n C.1 C.2.1 dX6_dyeIn_39 rfl (lv_at hl 2 rfl) ?_
  refine mald (n := 10) (f := (ar 6)) C hE hH (MX_a X6 6 rfl) (hb) dX6_dyeIn_40 ?_
  rw [hd]
  refine mald (n := 3) (f := (ar 3)) C hE hH (MX_a X6 3 rfl) (vp_in_nI (show d < 3 by omega) (by decide)) dX6_dyeIn_41 ?_
  rw [nI_clamp (show d < 2 ^ 31 by omega)]
  refine mast (n := 40) (f := (ar 16)) C hE hH hS (MX_a X6 16 rfl) (ho) dX6_dyeIn_42 (fun H locs hH hS => ?_)
  obtain ⟨M7, hM7⟩ : ∃ z, z = mu M5 (ad 16) (eI g 40 (upd (ar 16) o.toNatClampNeg ((ar 3) d))) := ⟨_, rfl⟩
  have hH : Hw g M7 H := by rw [hM7]; exact hH
  have X8 := MX_ar (k := 16) (N := 40) (f := upd (ar 16) o.toNatClampNeg ((ar 3) d)) rfl rfl X6
  rw [← hM7] at X8
  refine lv_aload_n C.1 C.2.1 dX6_dyeIn_43 rfl (lv_at hl 0 rfl) ?_
  refine mget (v := .ref (ad 17)) C hE hH fl_747 (MX_m X8) rfl dX6_dyeIn_44 ?_
  refine lv_iload_n C.1 C.2.1 dX6_dyeIn_47 rfl (lv_at hl 1 rfl) ?_
  refine lv_aload_n C.1 C.2.1 dX6_dyeIn_48 rfl (lv_at hl 0 rfl) ?_
  refine mget (v := .ref (ad 4)) C hE hH fl_734 (MX_m X8) rfl dX6_dyeIn_49 ?_
  refine lv_iconst (v := 2) C.1 C.2.1 dX6_dyeIn_52 rfl ?_
  refine lv_aload_n C.1 C.2.1 dX6_dyeIn_53 rfl (lv_at hl 0 rfl) ?_
  refine mget (v := .ref (ad 12)) C hE hH fl_742 (MX_m X8) rfl dX6_dyeIn_54 ?_
  refine lv_iload_n C.1 C.2.1 dX6_dyeIn_57 rfl (lv_at hl 1 rfl) ?_
  refine mald (n := 40) (f := (ar 12)) C hE hH (MX_a X8 12 rfl) (ho) dX6_dyeIn_58 ?_
  rw [hy]
  refine lv_imul C.1 C.2.1 dX6_dyeIn_59 ?_
  rw [show (2 : Int32) * (nI y) = nI (2 * y) from (nI_m 2 y).symm]
  refine mald (n := 8) (f := (ar 4)) C hE hH (MX_a X8 4 rfl) (vp_in_nI (show (2 * y) < 8 by omega) (by decide)) dX6_dyeIn_60 ?_
  rw [nI_clamp (show (2 * y) < 2 ^ 31 by omega)]
  refine mast (n := 40) (f := (ar 17)) C hE hH hS (MX_a X8 17 rfl) (ho) dX6_dyeIn_61 (fun H locs hH hS => ?_)
  obtain ⟨M9, hM9⟩ : ∃ z, z = mu M7 (ad 17) (eI g 40 (upd (ar 17) o.toNatClampNeg ((ar 4) (2 * y)))) := ⟨_, rfl⟩
  have hH : Hw g M9 H := by rw [hM9]; exact hH
  have X10 := MX_ar (k := 17) (N := 40) (f := upd (ar 17) o.toNatClampNeg ((ar 4) (2 * y))) rfl rfl X8
  rw [← hM9] at X10
  refine lv_aload_n C.1 C.2.1 dX6_dyeIn_62 rfl (lv_at hl 0 rfl) ?_
  refine mget (v := .ref (ad 18)) C hE hH fl_748 (MX_m X10) rfl dX6_dyeIn_63 ?_
  refine lv_iload_n C.1 C.2.1 dX6_dyeIn_66 rfl (lv_at hl 1 rfl) ?_
  refine lv_aload_n C.1 C.2.1 dX6_dyeIn_67 rfl (lv_at hl 0 rfl) ?_
  refine mget (v := .ref (ad 4)) C hE hH fl_734 (MX_m X10) rfl dX6_dyeIn_68 ?_
  refine lv_iconst (v := 2) C.1 C.2.1 dX6_dyeIn_71 rfl ?_
  refine lv_aload_n C.1 C.2.1 dX6_dyeIn_72 rfl (lv_at hl 0 rfl) ?_
  refine mget (v := .ref (ad 12)) C hE hH fl_742 (MX_m X10) rfl dX6_dyeIn_73 ?_
  refine lv_iload_n C.1 C.2.1 dX6_dyeIn_76 rfl (lv_at hl 1 rfl) ?_
  refine mald (n := 40) (f := (ar 12)) C hE hH (MX_a X10 12 rfl) (ho) dX6_dyeIn_77 ?_
  rw [hy]
  refine lv_imul C.1 C.2.1 dX6_dyeIn_78 ?_
  rw [show (2 : Int32) * (nI y) = nI (2 * y) from (nI_m 2 y).symm]
  refine lv_iconst (v := 1) C.1 C.2.1 dX6_dyeIn_79 rfl ?_
  refine lv_iadd C.1 C.2.1 dX6_dyeIn_80 ?_
  rw [show (nI (2 * y) : Int32) + 1 = nI ((2 * y) + 1) from (nI_a (2 * y) 1).symm]
  refine mald (n := 8) (f := (ar 4)) C hE hH (MX_a X10 4 rfl) (vp_in_nI (show ((2 * y) + 1) < 8 by omega) (by decide)) dX6_dyeIn_81 ?_
  rw [nI_clamp (show ((2 * y) + 1) < 2 ^ 31 by omega)]
  refine mast (n := 40) (f := (ar 18)) C hE hH hS (MX_a X10 18 rfl) (ho) dX6_dyeIn_82 (fun H locs hH hS => ?_)
  obtain ⟨M11, hM11⟩ : ∃ z, z = mu M9 (ad 18) (eI g 40 (upd (ar 18) o.toNatClampNeg ((ar 4) ((2 * y) + 1)))) := ⟨_, rfl⟩
  have hH : Hw g M11 H := by rw [hM11]; exact hH
  have X12 := MX_ar (k := 18) (N := 40) (f := upd (ar 18) o.toNatClampNeg ((ar 4) ((2 * y) + 1))) rfl rfl X10
  rw [← hM11] at X12
  refine lv_aload_n C.1 C.2.1 dX6_dyeIn_83 rfl (lv_at hl 0 rfl) ?_
  refine mget (v := .ref (ad 8)) C hE hH fl_738 (MX_m X12) rfl dX6_dyeIn_84 ?_
  refine lv_iload_n C.1 C.2.1 dX6_dyeIn_87 rfl (lv_at hl 2 rfl) ?_
  refine lv_aload_n C.1 C.2.1 dX6_dyeIn_88 rfl (lv_at hl 0 rfl) ?_
  refine mget (v := .ref (ad 8)) C hE hH fl_738 (MX_m X12) rfl dX6_dyeIn_89 ?_
  refine lv_iload_n C.1 C.2.1 dX6_dyeIn_92 rfl (lv_at hl 2 rfl) ?_
  refine mald (n := 10) (f := (ar 8)) C hE hH (MX_a X12 8 rfl) (hb) dX6_dyeIn_93 ?_
  refine lv_aload_n C.1 C.2.1 dX6_dyeIn_94 rfl (lv_at hl 0 rfl) ?_
  refine mget (v := .ref (ad 11)) C hE hH fl_741 (MX_m X12) rfl dX6_dyeIn_95 ?_
  refine lv_iload_n C.1 C.2.1 dX6_dyeIn_98 rfl (lv_at hl 1 rfl) ?_
  refine mald (n := 40) (f := (ar 11)) C hE hH (MX_a X12 11 rfl) (ho) dX6_dyeIn_99 ?_
  refine lv_icmp_le (tgt := 119) C.1 C.2.1 dX6_dyeIn_100 (by decide) (fun c100 => ?_) (fun c100 => ?_)
  · refine lv_iconst (v := 0) C.1 C.2.1 dX6_dyeIn_119 rfl ?_
    refine mast (n := 10) (f := (ar 8)) C hE hH hS (MX_a X12 8 rfl) (hb) dX6_dyeIn_120 (fun H locs hH hS => ?_)
    obtain ⟨M13, hM13⟩ : ∃ z, z = mu M11 (ad 8) (eI g 10 (upd (ar 8) b.toNatClampNeg 0)) := ⟨_, rfl⟩
    have hH : Hw g M13 H := by rw [hM13]; exact hH
    have X14 := MX_ar (k := 8) (N := 10) (f := upd (ar 8) b.toNatClampNeg 0) rfl rfl X12
    rw [← hM13] at X14
    exact wr_vret () C hr hlocks hH hS rfl (by have h9 := X14; unfold mdye; rw [hw9, hy8, hy9, show nI b.toNatClampNeg = b from hbn.symm, show zmw (ar 8 b.toNatClampNeg) (ar 11 o.toNatClampNeg) = 0 by unfold zmw; first | rw [if_pos (Int32.not_le.mp c100)] | rw [if_neg (Int32.not_lt.mpr c100)]]; exact h9) (by decide) (by decide) dX6_dyeIn_121
  · refine lv_aload_n C.1 C.2.1 dX6_dyeIn_103 rfl (lv_at hl 0 rfl) ?_
    refine mget (v := .ref (ad 8)) C hE hH fl_738 (MX_m X12) rfl dX6_dyeIn_104 ?_
    refine lv_iload_n C.1 C.2.1 dX6_dyeIn_107 rfl (lv_at hl 2 rfl) ?_
    refine mald (n := 10) (f := (ar 8)) C hE hH (MX_a X12 8 rfl) (hb) dX6_dyeIn_108 ?_
    refine lv_aload_n C.1 C.2.1 dX6_dyeIn_109 rfl (lv_at hl 0 rfl) ?_
    refine mget (v := .ref (ad 11)) C hE hH fl_741 (MX_m X12) rfl dX6_dyeIn_110 ?_
    refine lv_iload_n C.1 C.2.1 dX6_dyeIn_113 rfl (lv_at hl 1 rfl) ?_
    refine mald (n := 40) (f := (ar 11)) C hE hH (MX_a X12 11 rfl) (ho) dX6_dyeIn_114 ?_
    refine lv_isub C.1 C.2.1 dX6_dyeIn_115 ?_
    refine lv_goto (tgt := 120) C.1 C.2.1 dX6_dyeIn_116 (by decide) ?_
    refine mast (n := 10) (f := (ar 8)) C hE hH hS (MX_a X12 8 rfl) (hb) dX6_dyeIn_120 (fun H locs hH hS => ?_)
    obtain ⟨M15, hM15⟩ : ∃ z, z = mu M11 (ad 8) (eI g 10 (upd (ar 8) b.toNatClampNeg (((ar 8) b.toNatClampNeg) - ((ar 11) o.toNatClampNeg)))) := ⟨_, rfl⟩
    have hH : Hw g M15 H := by rw [hM15]; exact hH
    have X16 := MX_ar (k := 8) (N := 10) (f := upd (ar 8) b.toNatClampNeg (((ar 8) b.toNatClampNeg) - ((ar 11) o.toNatClampNeg))) rfl rfl X12
    rw [← hM15] at X16
    exact wr_vret () C hr hlocks hH hS rfl (by have h9 := X16; unfold mdye; rw [hw9, hy8, hy9, show nI b.toNatClampNeg = b from hbn.symm, show zmw (ar 8 b.toNatClampNeg) (ar 11 o.toNatClampNeg) = ar 8 b.toNatClampNeg - ar 11 o.toNatClampNeg by unfold zmw; first | rw [if_pos (Int32.not_le.mp c100)] | rw [if_neg (Int32.not_lt.mpr c100)]]; exact h9) (by decide) (by decide) dX6_dyeIn_121
set_option maxHeartbeats 4000000 in
set_option maxRecDepth 100000 in
theorem m_thrown {l : Launch} {g : gG} {M : Mp} {mo : Nat} {ad : Nat → Nat} {sc : Nat → Int32} {ar : Nat → Nat → Int32} {ne nb no : Nat}  (hI : MI g M mo ad sc ar) (hs0 : sc 0 = nI ne) (hs5 : sc 5 = nI nb) (hs9 : sc 9 = nI no) (hb0 : ne ≤ 12) (hb5 : nb ≤ 10) (hb9 : no ≤ 40) : Met l yX6_thrown (WY yX6_thrown cX6_thrown 1 (some .int)) { frames := 0, cells := 0, slots := 0, locals := 0 } (Wc g M [.ref mo]) (rdQ (some (.int (sc 23)))) 0 0 fr0 := by
  refine ofM (by decide +kernel) (Nat.le_of_ble_eq_true rfl) (fun p e s m args below meth c ls C hr hlocks hin hE hH hl ea => ?_)
  have hl : lv_has ls 1 [(0, .ref mo)] := hl
  have hS : va_S (gA g) s.heap s.heap [] := va_S.rf
  have X0 := MX_rf hI
  refine lv_aload_n C.1 C.2.1 dX6_thrown_0 rfl (lv_at hl 0 rfl) ?_
  refine mget (v := .int (sc 23)) C hE hH fl_753 (MX_m X0) rfl dX6_thrown_1 ?_
  exact rd_iret C hr hlocks (rfl) dX6_thrown_4
