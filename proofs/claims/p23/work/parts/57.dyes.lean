/-! THE LAW: DYES -/
set_option maxHeartbeats 4000000 in
set_option maxRecDepth 100000 in
theorem c_dyes4 {l : Launch} {g : gG} {M : Mp} {la : Nat → Nat} {lf : Nat → Nat → Int32} {k b u y d : Nat} (hL : LI g M la lf) (hk : k < 20) (hb : b < 5) (hu4 : u < 4) (hy4 : y < 4) (hd3 : d < 3) (q0 : lf 4 (5 * (k % 10)) = nI u) (q1 : lf 4 (5 * (k % 10) + 1) = nI y) (he : lf 3 (3 * b + 1) = nI u) (hd : lf 3 (3 * b) = nI d) : Met l yL_dyes (WY yL_dyes cL_dyes 16 none) { frames := 2, cells := 0, slots := 0, locals := 44 } (Wc g M [.ref (la 1), .ref (la 2), .ref (la 3), .ref (la 4), .ref (la 6), .int (nI (5 * (k % 10))), .int (nI k), .int (nI b)]) (wrQ (S := Unit) g (fun u_ => none) (fun u_ M_ => LX g M M_ la (ua (ua (ua lf 6 (upd (upd (upd (lf 6) (3 * k) (zgq (lf 1 (3 * u)) (lf 3 (3 * b + 2)) + lf 2 (3 + 2 * y) + lf 2 d)) (3 * k + 1) (zgq (lf 1 (3 * u + 1)) (lf 3 (3 * b + 2)) + lf 2 (3 + 2 * y + 1) + 0)) (3 * k + 2) (if zap (zgq (lf 1 (3 * u)) (lf 3 (3 * b + 2)) + lf 2 (3 + 2 * y) + lf 2 d) (lf 1 (3 * u)) + zap (zgq (lf 1 (3 * u + 1)) (lf 3 (3 * b + 2)) + lf 2 (3 + 2 * y + 1) + 0) (lf 1 (3 * u + 1)) ≤ lf 1 (3 * u + 2) then (0 : Int32) else zblame (zap (lf 1 (3 * u) + lf 2 (3 + 2 * y) + lf 2 d) (lf 1 (3 * u)) + zap (lf 1 (3 * u + 1) + lf 2 (4 + 2 * y)) (lf 1 (3 * u + 1))) (zap (zgq (lf 1 (3 * u)) (lf 3 (3 * b + 2)) + lf 2 (3 + 2 * y) + lf 2 d - lf 2 d) (lf 1 (3 * u)) + zap (zgq (lf 1 (3 * u + 1)) (lf 3 (3 * b + 2)) + lf 2 (3 + 2 * y + 1) + 0) (lf 1 (3 * u + 1))) (zap (zgq (lf 1 (3 * u)) (lf 3 (3 * b + 2)) + lf 2 (3 + 2 * y) + lf 2 d - lf 2 (3 + 2 * y)) (lf 1 (3 * u)) + zap (zgq (lf 1 (3 * u + 1)) (lf 3 (3 * b + 2)) + lf 2 (3 + 2 * y + 1) + 0 - lf 2 (4 + 2 * y)) (lf 1 (3 * u + 1))) + 1))) 4 (upd (upd (lf 4) (5 * (k % 10) + 3) 1) (5 * (k % 10) + 4) (nI b))) 3 (upd (upd (lf 3) (3 * b + 2) (lf 3 (3 * b + 2) - lf 4 (5 * (k % 10) + 2))) (3 * b + 2) (if 0 ≤ lf 3 (3 * b + 2) - lf 4 (5 * (k % 10) + 2) then lf 3 (3 * b + 2) - lf 4 (5 * (k % 10) + 2) else 0))))) 0 0 (gA g) := by
  refine ofM (by decide +kernel) (Nat.le_of_ble_eq_true rfl) (fun p e s m args below meth c ls C hr hlocks hin hE hH hl ea => ?_)
  have hl : lv_has ls 16 [(0, .ref (la 1)), (1, .ref (la 2)), (2, .ref (la 3)), (3, .ref (la 4)), (4, .ref (la 6)), (5, .int (nI (5 * (k % 10)))), (6, .int (nI k)), (7, .int (nI b))] := hl
  have hS : va_S (gA g) s.heap s.heap [] := va_S.rf
  have hX := LX_rf hL
  refine lv_aload_n C.1 C.2.1 dL_dyes_0 rfl (lv_at hl 3 rfl) ?_
  refine lv_iload C.1 C.2.1 dL_dyes_1 (lv_at hl 5 rfl) ?_
  refine lv_iconst (v := 1) C.1 C.2.1 dL_dyes_3 rfl ?_
  refine lv_iadd C.1 C.2.1 dL_dyes_4 ?_
  rw [show ((nI (5 * (k % 10))) + 1 : Int32) = nI (5 * (k % 10) + 1) from nI_add (5 * (k % 10)) 1]
  refine lald (K := 4) (N := 50) (E := 5 * (k % 10) + 1) (f := (lf 4)) (v := (nI y)) C hE hH hX (by decide) rfl rfl rfl (by omega) (q1) dL_dyes_5 ?_
  refine lv_istore (lv' := [(8, .int (nI y)), (0, .ref (la 1)), (1, .ref (la 2)), (2, .ref (la 3)), (3, .ref (la 4)), (4, .ref (la 6)), (5, .int (nI (5 * (k % 10)))), (6, .int (nI k)), (7, .int (nI b))]) C.1 C.2.1 dL_dyes_6 hl (by decide) rfl (fun ls hl => ?_)
  refine lv_aload_n C.1 C.2.1 dL_dyes_8 rfl (lv_at hl 4 rfl) ?_
  refine lv_iload C.1 C.2.1 dL_dyes_9 (lv_at hl 6 rfl) ?_
  refine lald (K := 4) (N := 50) (E := 5 * (k % 10)) (f := (lf 4)) (v := (nI u)) C hE hH hX (by decide) rfl rfl rfl (by omega) (q0) dL_dyes_11 ?_
  refine lv_istore (lv' := [(9, .int (nI u)), (8, .int (nI y)), (0, .ref (la 1)), (1, .ref (la 2)), (2, .ref (la 3)), (3, .ref (la 4)), (4, .ref (la 6)), (5, .int (nI (5 * (k % 10)))), (6, .int (nI k)), (7, .int (nI b))]) C.1 C.2.1 dL_dyes_12 hl (by decide) rfl (fun ls hl => ?_)
  refine lv_aload_n C.1 C.2.1 dL_dyes_14 rfl (lv_at hl 2 rfl) ?_
  refine lv_aload_n C.1 C.2.1 dL_dyes_15 rfl (lv_at hl 3 rfl) ?_
  refine lv_aload_n C.1 C.2.1 dL_dyes_16 rfl (lv_at hl 4 rfl) ?_
  refine lv_iload C.1 C.2.1 dL_dyes_17 (lv_at hl 9 rfl) ?_
  refine lv_iload C.1 C.2.1 dL_dyes_19 (lv_at hl 1 rfl) ?_
  refine lv_iconst (v := 0) C.1 C.2.1 dL_dyes_21 rfl ?_
  refine rd_go1 (runS C hE hH hS (c_given0 hX.1 (hb) (hy4) (hu4) (he) (hd3) (hd)) mv_L_given wm_593 hl.1 dL_dyes_22 rfl rfl ⟨rfl, rfl⟩ ⟨Nat.le_of_ble_eq_true rfl, Nat.le_of_ble_eq_true rfl⟩ (Nat.le_of_ble_eq_true rfl) ⟨Nat.le_of_ble_eq_true rfl, Nat.le_of_ble_eq_true rfl⟩) ?_
  refine lv_istore (lv' := [(10, .int (zgq (lf 1 (3 * u)) (lf 3 (3 * b + 2)) + lf 2 (3 + 2 * y) + lf 2 d)), (9, .int (nI u)), (8, .int (nI y)), (0, .ref (la 1)), (1, .ref (la 2)), (2, .ref (la 3)), (3, .ref (la 4)), (4, .ref (la 6)), (5, .int (nI (5 * (k % 10)))), (6, .int (nI k)), (7, .int (nI b))]) C.1 C.2.1 dL_dyes_25 hl (by decide) rfl (fun ls hl => ?_)
  refine lv_aload_n C.1 C.2.1 dL_dyes_27 rfl (lv_at hl 3 rfl) ?_
  refine lv_aload_n C.1 C.2.1 dL_dyes_28 rfl (lv_at hl 4 rfl) ?_
  refine lv_aload_n C.1 C.2.1 dL_dyes_29 rfl (lv_at hl 5 rfl) ?_
  refine lv_iload C.1 C.2.1 dL_dyes_30 (lv_at hl 10 rfl) ?_
  refine lv_iload C.1 C.2.1 dL_dyes_32 (lv_at hl 2 rfl) ?_
  refine lv_iconst (v := 1) C.1 C.2.1 dL_dyes_34 rfl ?_
  refine rd_go1 (runS C hE hH hS (c_given1 hX.1 (hb) (hy4) (hu4) (he)) mv_L_given wm_593 hl.1 dL_dyes_35 rfl rfl ⟨rfl, rfl⟩ ⟨Nat.le_of_ble_eq_true rfl, Nat.le_of_ble_eq_true rfl⟩ (Nat.le_of_ble_eq_true rfl) ⟨Nat.le_of_ble_eq_true rfl, Nat.le_of_ble_eq_true rfl⟩) ?_
  refine lv_istore (lv' := [(11, .int (zgq (lf 1 (3 * u + 1)) (lf 3 (3 * b + 2)) + lf 2 (3 + 2 * y + 1) + 0)), (10, .int (zgq (lf 1 (3 * u)) (lf 3 (3 * b + 2)) + lf 2 (3 + 2 * y) + lf 2 d)), (9, .int (nI u)), (8, .int (nI y)), (0, .ref (la 1)), (1, .ref (la 2)), (2, .ref (la 3)), (3, .ref (la 4)), (4, .ref (la 6)), (5, .int (nI (5 * (k % 10)))), (6, .int (nI k)), (7, .int (nI b))]) C.1 C.2.1 dL_dyes_38 hl (by decide) rfl (fun ls hl => ?_)
  refine lv_aload_n C.1 C.2.1 dL_dyes_40 rfl (lv_at hl 4 rfl) ?_
  refine lv_iload C.1 C.2.1 dL_dyes_41 (lv_at hl 2 rfl) ?_
  refine lv_aload_n C.1 C.2.1 dL_dyes_43 rfl (lv_at hl 4 rfl) ?_
  refine lv_iconst (v := 3) C.1 C.2.1 dL_dyes_44 rfl ?_
  refine lv_iload C.1 C.2.1 dL_dyes_45 (lv_at hl 2 rfl) ?_
  refine lv_imul C.1 C.2.1 dL_dyes_47 ?_
  rw [show ((3 : Int32) * (nI u)) = nI (3 * u) from nI_M 3 u]
  refine lald (K := 1) (N := 12) (E := 3 * u) (f := (lf 1)) (v := ((lf 1) (3 * u))) C hE hH hX (by decide) rfl rfl rfl (by omega) (rfl) dL_dyes_48 ?_
  refine lv_aload_n C.1 C.2.1 dL_dyes_49 rfl (lv_at hl 5 rfl) ?_
  refine lv_iconst (v := 3) C.1 C.2.1 dL_dyes_50 rfl ?_
  refine lv_iconst (v := 2) C.1 C.2.1 dL_dyes_51 rfl ?_
  refine lv_iload C.1 C.2.1 dL_dyes_52 (lv_at hl 3 rfl) ?_
  refine lv_imul C.1 C.2.1 dL_dyes_54 ?_
  rw [show ((2 : Int32) * (nI y)) = nI (2 * y) from nI_M 2 y]
  refine lv_iadd C.1 C.2.1 dL_dyes_55 ?_
  rw [show ((3 : Int32) + (nI (2 * y))) = nI (3 + 2 * y) from nI_add 3 (2 * y)]
  refine lald (K := 2) (N := 11) (E := 3 + 2 * y) (f := (lf 2)) (v := ((lf 2) (3 + 2 * y))) C hE hH hX (by decide) rfl rfl rfl (by omega) (rfl) dL_dyes_56 ?_
  refine lv_iadd C.1 C.2.1 dL_dyes_57 ?_
  refine lv_aload_n C.1 C.2.1 dL_dyes_58 rfl (lv_at hl 5 rfl) ?_
  refine lv_aload_n C.1 C.2.1 dL_dyes_59 rfl (lv_at hl 6 rfl) ?_
  refine lv_iconst (v := 3) C.1 C.2.1 dL_dyes_60 rfl ?_
  refine lv_iload C.1 C.2.1 dL_dyes_61 (lv_at hl 11 rfl) ?_
  refine lv_imul C.1 C.2.1 dL_dyes_63 ?_
  rw [show ((3 : Int32) * (nI b)) = nI (3 * b) from nI_M 3 b]
  refine lald (K := 3) (N := 15) (E := 3 * b) (f := (lf 3)) (v := (nI d)) C hE hH hX (by decide) rfl rfl rfl (by omega) (hd) dL_dyes_64 ?_
  refine lald (K := 2) (N := 11) (E := d) (f := (lf 2)) (v := ((lf 2) d)) C hE hH hX (by decide) rfl rfl rfl (by omega) (rfl) dL_dyes_65 ?_
  refine lv_iadd C.1 C.2.1 dL_dyes_66 ?_
  refine lv_aload_n C.1 C.2.1 dL_dyes_67 rfl (lv_at hl 4 rfl) ?_
  refine lv_iconst (v := 3) C.1 C.2.1 dL_dyes_68 rfl ?_
  refine lv_iload C.1 C.2.1 dL_dyes_69 (lv_at hl 2 rfl) ?_
  refine lv_imul C.1 C.2.1 dL_dyes_71 ?_
  rw [show ((3 : Int32) * (nI u)) = nI (3 * u) from nI_M 3 u]
  refine lv_iconst (v := 1) C.1 C.2.1 dL_dyes_72 rfl ?_
  refine lv_iadd C.1 C.2.1 dL_dyes_73 ?_
  rw [show ((nI (3 * u)) + 1 : Int32) = nI (3 * u + 1) from nI_add (3 * u) 1]
  refine lald (K := 1) (N := 12) (E := 3 * u + 1) (f := (lf 1)) (v := ((lf 1) (3 * u + 1))) C hE hH hX (by decide) rfl rfl rfl (by omega) (rfl) dL_dyes_74 ?_
  refine lv_aload_n C.1 C.2.1 dL_dyes_75 rfl (lv_at hl 5 rfl) ?_
  refine lv_iconst (v := 4) C.1 C.2.1 dL_dyes_76 rfl ?_
  refine lv_iconst (v := 2) C.1 C.2.1 dL_dyes_77 rfl ?_
  refine lv_iload C.1 C.2.1 dL_dyes_78 (lv_at hl 3 rfl) ?_
  refine lv_imul C.1 C.2.1 dL_dyes_80 ?_
  rw [show ((2 : Int32) * (nI y)) = nI (2 * y) from nI_M 2 y]
  refine lv_iadd C.1 C.2.1 dL_dyes_81 ?_
  rw [show ((4 : Int32) + (nI (2 * y))) = nI (4 + 2 * y) from nI_add 4 (2 * y)]
  refine lald (K := 2) (N := 11) (E := 4 + 2 * y) (f := (lf 2)) (v := ((lf 2) (4 + 2 * y))) C hE hH hX (by decide) rfl rfl rfl (by omega) (rfl) dL_dyes_82 ?_
  refine lv_iadd C.1 C.2.1 dL_dyes_83 ?_
  refine rd_go1 (runS C hE hH hS (c_off hX.1 (hu4) ((((lf 1) (3 * u)) + ((lf 2) (3 + 2 * y))) + ((lf 2) d)) (((lf 1) (3 * u + 1)) + ((lf 2) (4 + 2 * y)))) mv_L_off wm_596 hl.1 dL_dyes_84 rfl rfl ⟨rfl, rfl⟩ ⟨Nat.le_of_ble_eq_true rfl, Nat.le_of_ble_eq_true rfl⟩ (Nat.le_of_ble_eq_true rfl) ⟨Nat.le_of_ble_eq_true rfl, Nat.le_of_ble_eq_true rfl⟩) ?_
  refine lv_istore (lv' := [(12, .int (zap ((((lf 1) (3 * u)) + ((lf 2) (3 + 2 * y))) + ((lf 2) d)) (lf 1 (3 * u)) + zap (((lf 1) (3 * u + 1)) + ((lf 2) (4 + 2 * y))) (lf 1 (3 * u + 1)))), (11, .int (zgq (lf 1 (3 * u + 1)) (lf 3 (3 * b + 2)) + lf 2 (3 + 2 * y + 1) + 0)), (10, .int (zgq (lf 1 (3 * u)) (lf 3 (3 * b + 2)) + lf 2 (3 + 2 * y) + lf 2 d)), (9, .int (nI u)), (8, .int (nI y)), (0, .ref (la 1)), (1, .ref (la 2)), (2, .ref (la 3)), (3, .ref (la 4)), (4, .ref (la 6)), (5, .int (nI (5 * (k % 10)))), (6, .int (nI k)), (7, .int (nI b))]) C.1 C.2.1 dL_dyes_87 hl (by decide) rfl (fun ls hl => ?_)
  refine lv_aload_n C.1 C.2.1 dL_dyes_89 rfl (lv_at hl 5 rfl) ?_
  refine lv_iload C.1 C.2.1 dL_dyes_90 (lv_at hl 3 rfl) ?_
  refine lv_iload C.1 C.2.1 dL_dyes_92 (lv_at hl 2 rfl) ?_
  refine lv_aload_n C.1 C.2.1 dL_dyes_94 rfl (lv_at hl 6 rfl) ?_
  refine lv_aload_n C.1 C.2.1 dL_dyes_95 rfl (lv_at hl 7 rfl) ?_
  refine lv_iconst (v := 3) C.1 C.2.1 dL_dyes_96 rfl ?_
  refine lv_iload C.1 C.2.1 dL_dyes_97 (lv_at hl 12 rfl) ?_
  refine lv_imul C.1 C.2.1 dL_dyes_99 ?_
  rw [show ((3 : Int32) * (nI b)) = nI (3 * b) from nI_M 3 b]
  refine lald (K := 3) (N := 15) (E := 3 * b) (f := (lf 3)) (v := (nI d)) C hE hH hX (by decide) rfl rfl rfl (by omega) (hd) dL_dyes_100 ?_
  refine lald (K := 2) (N := 11) (E := d) (f := (lf 2)) (v := ((lf 2) d)) C hE hH hX (by decide) rfl rfl rfl (by omega) (rfl) dL_dyes_101 ?_
  refine lv_isub C.1 C.2.1 dL_dyes_102 ?_
  refine lv_iload C.1 C.2.1 dL_dyes_103 (lv_at hl 1 rfl) ?_
  refine rd_go1 (runS C hE hH hS (c_off hX.1 (hu4) ((zgq (lf 1 (3 * u)) (lf 3 (3 * b + 2)) + lf 2 (3 + 2 * y) + lf 2 d) - ((lf 2) d)) (zgq (lf 1 (3 * u + 1)) (lf 3 (3 * b + 2)) + lf 2 (3 + 2 * y + 1) + 0)) mv_L_off wm_596 hl.1 dL_dyes_105 rfl rfl ⟨rfl, rfl⟩ ⟨Nat.le_of_ble_eq_true rfl, Nat.le_of_ble_eq_true rfl⟩ (Nat.le_of_ble_eq_true rfl) ⟨Nat.le_of_ble_eq_true rfl, Nat.le_of_ble_eq_true rfl⟩) ?_
  refine lv_istore (lv' := [(13, .int (zap ((zgq (lf 1 (3 * u)) (lf 3 (3 * b + 2)) + lf 2 (3 + 2 * y) + lf 2 d) - ((lf 2) d)) (lf 1 (3 * u)) + zap (zgq (lf 1 (3 * u + 1)) (lf 3 (3 * b + 2)) + lf 2 (3 + 2 * y + 1) + 0) (lf 1 (3 * u + 1)))), (12, .int (zap ((((lf 1) (3 * u)) + ((lf 2) (3 + 2 * y))) + ((lf 2) d)) (lf 1 (3 * u)) + zap (((lf 1) (3 * u + 1)) + ((lf 2) (4 + 2 * y))) (lf 1 (3 * u + 1)))), (11, .int (zgq (lf 1 (3 * u + 1)) (lf 3 (3 * b + 2)) + lf 2 (3 + 2 * y + 1) + 0)), (10, .int (zgq (lf 1 (3 * u)) (lf 3 (3 * b + 2)) + lf 2 (3 + 2 * y) + lf 2 d)), (9, .int (nI u)), (8, .int (nI y)), (0, .ref (la 1)), (1, .ref (la 2)), (2, .ref (la 3)), (3, .ref (la 4)), (4, .ref (la 6)), (5, .int (nI (5 * (k % 10)))), (6, .int (nI k)), (7, .int (nI b))]) C.1 C.2.1 dL_dyes_108 hl (by decide) rfl (fun ls hl => ?_)
  refine lv_aload_n C.1 C.2.1 dL_dyes_110 rfl (lv_at hl 6 rfl) ?_
  refine lv_iload C.1 C.2.1 dL_dyes_111 (lv_at hl 4 rfl) ?_
  refine lv_iload C.1 C.2.1 dL_dyes_113 (lv_at hl 3 rfl) ?_
  refine lv_aload_n C.1 C.2.1 dL_dyes_115 rfl (lv_at hl 7 rfl) ?_
  refine lv_iconst (v := 3) C.1 C.2.1 dL_dyes_116 rfl ?_
  refine lv_iconst (v := 2) C.1 C.2.1 dL_dyes_117 rfl ?_
  refine lv_iload C.1 C.2.1 dL_dyes_118 (lv_at hl 5 rfl) ?_
  refine lv_imul C.1 C.2.1 dL_dyes_120 ?_
  rw [show ((2 : Int32) * (nI y)) = nI (2 * y) from nI_M 2 y]
  refine lv_iadd C.1 C.2.1 dL_dyes_121 ?_
  rw [show ((3 : Int32) + (nI (2 * y))) = nI (3 + 2 * y) from nI_add 3 (2 * y)]
  refine lald (K := 2) (N := 11) (E := 3 + 2 * y) (f := (lf 2)) (v := ((lf 2) (3 + 2 * y))) C hE hH hX (by decide) rfl rfl rfl (by omega) (rfl) dL_dyes_122 ?_
  refine lv_isub C.1 C.2.1 dL_dyes_123 ?_
  refine lv_iload C.1 C.2.1 dL_dyes_124 (lv_at hl 2 rfl) ?_
  refine lv_aload_n C.1 C.2.1 dL_dyes_126 rfl (lv_at hl 7 rfl) ?_
  refine lv_iconst (v := 4) C.1 C.2.1 dL_dyes_127 rfl ?_
  refine lv_iconst (v := 2) C.1 C.2.1 dL_dyes_128 rfl ?_
  refine lv_iload C.1 C.2.1 dL_dyes_129 (lv_at hl 5 rfl) ?_
  refine lv_imul C.1 C.2.1 dL_dyes_131 ?_
  rw [show ((2 : Int32) * (nI y)) = nI (2 * y) from nI_M 2 y]
  refine lv_iadd C.1 C.2.1 dL_dyes_132 ?_
  rw [show ((4 : Int32) + (nI (2 * y))) = nI (4 + 2 * y) from nI_add 4 (2 * y)]
  refine lald (K := 2) (N := 11) (E := 4 + 2 * y) (f := (lf 2)) (v := ((lf 2) (4 + 2 * y))) C hE hH hX (by decide) rfl rfl rfl (by omega) (rfl) dL_dyes_133 ?_
  refine lv_isub C.1 C.2.1 dL_dyes_134 ?_
  refine rd_go1 (runS C hE hH hS (c_off hX.1 (hu4) ((zgq (lf 1 (3 * u)) (lf 3 (3 * b + 2)) + lf 2 (3 + 2 * y) + lf 2 d) - ((lf 2) (3 + 2 * y))) ((zgq (lf 1 (3 * u + 1)) (lf 3 (3 * b + 2)) + lf 2 (3 + 2 * y + 1) + 0) - ((lf 2) (4 + 2 * y)))) mv_L_off wm_596 hl.1 dL_dyes_135 rfl rfl ⟨rfl, rfl⟩ ⟨Nat.le_of_ble_eq_true rfl, Nat.le_of_ble_eq_true rfl⟩ (Nat.le_of_ble_eq_true rfl) ⟨Nat.le_of_ble_eq_true rfl, Nat.le_of_ble_eq_true rfl⟩) ?_
  refine lv_istore (lv' := [(14, .int (zap ((zgq (lf 1 (3 * u)) (lf 3 (3 * b + 2)) + lf 2 (3 + 2 * y) + lf 2 d) - ((lf 2) (3 + 2 * y))) (lf 1 (3 * u)) + zap ((zgq (lf 1 (3 * u + 1)) (lf 3 (3 * b + 2)) + lf 2 (3 + 2 * y + 1) + 0) - ((lf 2) (4 + 2 * y))) (lf 1 (3 * u + 1)))), (13, .int (zap ((zgq (lf 1 (3 * u)) (lf 3 (3 * b + 2)) + lf 2 (3 + 2 * y) + lf 2 d) - ((lf 2) d)) (lf 1 (3 * u)) + zap (zgq (lf 1 (3 * u + 1)) (lf 3 (3 * b + 2)) + lf 2 (3 + 2 * y + 1) + 0) (lf 1 (3 * u + 1)))), (12, .int (zap ((((lf 1) (3 * u)) + ((lf 2) (3 + 2 * y))) + ((lf 2) d)) (lf 1 (3 * u)) + zap (((lf 1) (3 * u + 1)) + ((lf 2) (4 + 2 * y))) (lf 1 (3 * u + 1)))), (11, .int (zgq (lf 1 (3 * u + 1)) (lf 3 (3 * b + 2)) + lf 2 (3 + 2 * y + 1) + 0)), (10, .int (zgq (lf 1 (3 * u)) (lf 3 (3 * b + 2)) + lf 2 (3 + 2 * y) + lf 2 d)), (9, .int (nI u)), (8, .int (nI y)), (0, .ref (la 1)), (1, .ref (la 2)), (2, .ref (la 3)), (3, .ref (la 4)), (4, .ref (la 6)), (5, .int (nI (5 * (k % 10)))), (6, .int (nI k)), (7, .int (nI b))]) C.1 C.2.1 dL_dyes_138 hl (by decide) rfl (fun ls hl => ?_)
  have J178 : ∀ (v15 : Int32) (h15 : v15 = zblame (zap (lf 1 (3 * u) + lf 2 (3 + 2 * y) + lf 2 d) (lf 1 (3 * u)) + zap (lf 1 (3 * u + 1) + lf 2 (4 + 2 * y)) (lf 1 (3 * u + 1))) (zap (zgq (lf 1 (3 * u)) (lf 3 (3 * b + 2)) + lf 2 (3 + 2 * y) + lf 2 d - lf 2 d) (lf 1 (3 * u)) + zap (zgq (lf 1 (3 * u + 1)) (lf 3 (3 * b + 2)) + lf 2 (3 + 2 * y + 1) + 0) (lf 1 (3 * u + 1))) (zap (zgq (lf 1 (3 * u)) (lf 3 (3 * b + 2)) + lf 2 (3 + 2 * y) + lf 2 d - lf 2 (3 + 2 * y)) (lf 1 (3 * u)) + zap (zgq (lf 1 (3 * u + 1)) (lf 3 (3 * b + 2)) + lf 2 (3 + 2 * y + 1) + 0 - lf 2 (4 + 2 * y)) (lf 1 (3 * u + 1))) + 1) (ls : Array Slot), lv_has ls 16 [(14, .int (zap ((zgq (lf 1 (3 * u)) (lf 3 (3 * b + 2)) + lf 2 (3 + 2 * y) + lf 2 d) - ((lf 2) (3 + 2 * y))) (lf 1 (3 * u)) + zap ((zgq (lf 1 (3 * u + 1)) (lf 3 (3 * b + 2)) + lf 2 (3 + 2 * y + 1) + 0) - ((lf 2) (4 + 2 * y))) (lf 1 (3 * u + 1)))), (13, .int (zap ((zgq (lf 1 (3 * u)) (lf 3 (3 * b + 2)) + lf 2 (3 + 2 * y) + lf 2 d) - ((lf 2) d)) (lf 1 (3 * u)) + zap (zgq (lf 1 (3 * u + 1)) (lf 3 (3 * b + 2)) + lf 2 (3 + 2 * y + 1) + 0) (lf 1 (3 * u + 1)))), (12, .int (zap ((((lf 1) (3 * u)) + ((lf 2) (3 + 2 * y))) + ((lf 2) d)) (lf 1 (3 * u)) + zap (((lf 1) (3 * u + 1)) + ((lf 2) (4 + 2 * y))) (lf 1 (3 * u + 1)))), (11, .int (zgq (lf 1 (3 * u + 1)) (lf 3 (3 * b + 2)) + lf 2 (3 + 2 * y + 1) + 0)), (10, .int (zgq (lf 1 (3 * u)) (lf 3 (3 * b + 2)) + lf 2 (3 + 2 * y) + lf 2 d)), (9, .int (nI u)), (8, .int (nI y)), (0, .ref (la 1)), (1, .ref (la 2)), (2, .ref (la 3)), (3, .ref (la 4)), (4, .ref (la 6)), (5, .int (nI (5 * (k % 10)))), (6, .int (nI k)), (7, .int (nI b))] → W p l e { frames := 2, cells := 0, slots := 0, locals := 44 } s m args below meth c s.heap [] 0 0 (MQ below (wrQ (S := Unit) g (fun u_ => none) (fun u_ M_ => LX g M M_ la (ua (ua (ua lf 6 (upd (upd (upd (lf 6) (3 * k) (zgq (lf 1 (3 * u)) (lf 3 (3 * b + 2)) + lf 2 (3 + 2 * y) + lf 2 d)) (3 * k + 1) (zgq (lf 1 (3 * u + 1)) (lf 3 (3 * b + 2)) + lf 2 (3 + 2 * y + 1) + 0)) (3 * k + 2) (if zap (zgq (lf 1 (3 * u)) (lf 3 (3 * b + 2)) + lf 2 (3 + 2 * y) + lf 2 d) (lf 1 (3 * u)) + zap (zgq (lf 1 (3 * u + 1)) (lf 3 (3 * b + 2)) + lf 2 (3 + 2 * y + 1) + 0) (lf 1 (3 * u + 1)) ≤ lf 1 (3 * u + 2) then (0 : Int32) else zblame (zap (lf 1 (3 * u) + lf 2 (3 + 2 * y) + lf 2 d) (lf 1 (3 * u)) + zap (lf 1 (3 * u + 1) + lf 2 (4 + 2 * y)) (lf 1 (3 * u + 1))) (zap (zgq (lf 1 (3 * u)) (lf 3 (3 * b + 2)) + lf 2 (3 + 2 * y) + lf 2 d - lf 2 d) (lf 1 (3 * u)) + zap (zgq (lf 1 (3 * u + 1)) (lf 3 (3 * b + 2)) + lf 2 (3 + 2 * y + 1) + 0) (lf 1 (3 * u + 1))) (zap (zgq (lf 1 (3 * u)) (lf 3 (3 * b + 2)) + lf 2 (3 + 2 * y) + lf 2 d - lf 2 (3 + 2 * y)) (lf 1 (3 * u)) + zap (zgq (lf 1 (3 * u + 1)) (lf 3 (3 * b + 2)) + lf 2 (3 + 2 * y + 1) + 0 - lf 2 (4 + 2 * y)) (lf 1 (3 * u + 1))) + 1))) 4 (upd (upd (lf 4) (5 * (k % 10) + 3) 1) (5 * (k % 10) + 4) (nI b))) 3 (upd (upd (lf 3) (3 * b + 2) (lf 3 (3 * b + 2) - lf 4 (5 * (k % 10) + 2))) (3 * b + 2) (if 0 ≤ lf 3 (3 * b + 2) - lf 4 (5 * (k % 10) + 2) then lf 3 (3 * b + 2) - lf 4 (5 * (k % 10) + 2) else 0))))) args s 0 0 (gA g)) (F0 m 178 ls [.int v15]) := by
    intro v15 h15 ls hl
    refine lv_istore (lv' := [(15, .int v15), (14, .int (zap ((zgq (lf 1 (3 * u)) (lf 3 (3 * b + 2)) + lf 2 (3 + 2 * y) + lf 2 d) - ((lf 2) (3 + 2 * y))) (lf 1 (3 * u)) + zap ((zgq (lf 1 (3 * u + 1)) (lf 3 (3 * b + 2)) + lf 2 (3 + 2 * y + 1) + 0) - ((lf 2) (4 + 2 * y))) (lf 1 (3 * u + 1)))), (13, .int (zap ((zgq (lf 1 (3 * u)) (lf 3 (3 * b + 2)) + lf 2 (3 + 2 * y) + lf 2 d) - ((lf 2) d)) (lf 1 (3 * u)) + zap (zgq (lf 1 (3 * u + 1)) (lf 3 (3 * b + 2)) + lf 2 (3 + 2 * y + 1) + 0) (lf 1 (3 * u + 1)))), (12, .int (zap ((((lf 1) (3 * u)) + ((lf 2) (3 + 2 * y))) + ((lf 2) d)) (lf 1 (3 * u)) + zap (((lf 1) (3 * u + 1)) + ((lf 2) (4 + 2 * y))) (lf 1 (3 * u + 1)))), (11, .int (zgq (lf 1 (3 * u + 1)) (lf 3 (3 * b + 2)) + lf 2 (3 + 2 * y + 1) + 0)), (10, .int (zgq (lf 1 (3 * u)) (lf 3 (3 * b + 2)) + lf 2 (3 + 2 * y) + lf 2 d)), (9, .int (nI u)), (8, .int (nI y)), (0, .ref (la 1)), (1, .ref (la 2)), (2, .ref (la 3)), (3, .ref (la 4)), (4, .ref (la 6)), (5, .int (nI (5 * (k % 10)))), (6, .int (nI k)), (7, .int (nI b))]) C.1 C.2.1 dL_dyes_178 hl (by decide) rfl (fun ls hl => ?_)
    refine lv_aload C.1 C.2.1 dL_dyes_180 (lv_at hl 12 rfl) ?_
    refine lv_iconst (v := 3) C.1 C.2.1 dL_dyes_182 rfl ?_
    refine lv_iload C.1 C.2.1 dL_dyes_183 (lv_at hl 14 rfl) ?_
    refine lv_imul C.1 C.2.1 dL_dyes_185 ?_
    rw [show ((3 : Int32) * (nI k)) = nI (3 * k) from nI_M 3 k]
    refine lv_iload C.1 C.2.1 dL_dyes_186 (lv_at hl 5 rfl) ?_
    refine last (K := 6) (N := 60) (E := 3 * k) (f := (lf 6)) C hE hH hS hX (by decide) rfl rfl rfl (by omega) dL_dyes_188 (fun M1 H locs hX2 hH hS => ?_)
    refine lv_aload C.1 C.2.1 dL_dyes_189 (lv_at hl 12 rfl) ?_
    refine lv_iconst (v := 3) C.1 C.2.1 dL_dyes_191 rfl ?_
    refine lv_iload C.1 C.2.1 dL_dyes_192 (lv_at hl 14 rfl) ?_
    refine lv_imul C.1 C.2.1 dL_dyes_194 ?_
    rw [show ((3 : Int32) * (nI k)) = nI (3 * k) from nI_M 3 k]
    refine lv_iconst (v := 1) C.1 C.2.1 dL_dyes_195 rfl ?_
    refine lv_iadd C.1 C.2.1 dL_dyes_196 ?_
    rw [show ((nI (3 * k)) + 1 : Int32) = nI (3 * k + 1) from nI_add (3 * k) 1]
    refine lv_iload C.1 C.2.1 dL_dyes_197 (lv_at hl 4 rfl) ?_
    refine last (K := 6) (N := 60) (E := 3 * k + 1) (f := (upd (lf 6) (3 * k) (zgq (lf 1 (3 * u)) (lf 3 (3 * b + 2)) + lf 2 (3 + 2 * y) + lf 2 d))) C hE hH hS hX2 (by decide) rfl rfl rfl (by omega) dL_dyes_199 (fun M3 H locs hX4 hH hS => ?_)
    rw [ua_ua] at hX4
    refine lv_aload C.1 C.2.1 dL_dyes_200 (lv_at hl 12 rfl) ?_
    refine lv_iconst (v := 3) C.1 C.2.1 dL_dyes_202 rfl ?_
    refine lv_iload C.1 C.2.1 dL_dyes_203 (lv_at hl 14 rfl) ?_
    refine lv_imul C.1 C.2.1 dL_dyes_205 ?_
    rw [show ((3 : Int32) * (nI k)) = nI (3 * k) from nI_M 3 k]
    refine lv_iconst (v := 2) C.1 C.2.1 dL_dyes_206 rfl ?_
    refine lv_iadd C.1 C.2.1 dL_dyes_207 ?_
    rw [show ((nI (3 * k)) + 2 : Int32) = nI (3 * k + 2) from nI_add (3 * k) 2]
    refine lv_aload_n C.1 C.2.1 dL_dyes_208 rfl (lv_at hl 8 rfl) ?_
    refine lv_iload C.1 C.2.1 dL_dyes_209 (lv_at hl 6 rfl) ?_
    refine lv_iload C.1 C.2.1 dL_dyes_211 (lv_at hl 5 rfl) ?_
    refine lv_iload C.1 C.2.1 dL_dyes_213 (lv_at hl 4 rfl) ?_
    refine rd_go1 (runS C hE hH hS (c_off hX4.1 (hu4) (zgq (lf 1 (3 * u)) (lf 3 (3 * b + 2)) + lf 2 (3 + 2 * y) + lf 2 d) (zgq (lf 1 (3 * u + 1)) (lf 3 (3 * b + 2)) + lf 2 (3 + 2 * y + 1) + 0)) mv_L_off wm_596 hl.1 dL_dyes_215 rfl rfl ⟨rfl, rfl⟩ ⟨Nat.le_of_ble_eq_true rfl, Nat.le_of_ble_eq_true rfl⟩ (Nat.le_of_ble_eq_true rfl) ⟨Nat.le_of_ble_eq_true rfl, Nat.le_of_ble_eq_true rfl⟩) ?_
    refine lv_aload_n C.1 C.2.1 dL_dyes_218 rfl (lv_at hl 8 rfl) ?_
    refine lv_iconst (v := 3) C.1 C.2.1 dL_dyes_219 rfl ?_
    refine lv_iload C.1 C.2.1 dL_dyes_220 (lv_at hl 6 rfl) ?_
    refine lv_imul C.1 C.2.1 dL_dyes_222 ?_
    rw [show ((3 : Int32) * (nI u)) = nI (3 * u) from nI_M 3 u]
    refine lv_iconst (v := 2) C.1 C.2.1 dL_dyes_223 rfl ?_
    refine lv_iadd C.1 C.2.1 dL_dyes_224 ?_
    rw [show ((nI (3 * u)) + 2 : Int32) = nI (3 * u + 2) from nI_add (3 * u) 2]
    refine lald (K := 1) (N := 12) (E := 3 * u + 2) (f := (lf 1)) (v := ((lf 1) (3 * u + 2))) C hE hH hX4 (by decide) rfl rfl rfl (by omega) (rfl) dL_dyes_225 ?_
    refine lv_icmp_le (tgt := 234) C.1 C.2.1 dL_dyes_226 (by decide) (fun c226 => ?_) (fun c226 => ?_)
    · refine lv_iconst (v := 0) C.1 C.2.1 dL_dyes_234 rfl ?_
      refine last (K := 6) (N := 60) (E := 3 * k + 2) (f := (upd (upd (lf 6) (3 * k) (zgq (lf 1 (3 * u)) (lf 3 (3 * b + 2)) + lf 2 (3 + 2 * y) + lf 2 d)) (3 * k + 1) (zgq (lf 1 (3 * u + 1)) (lf 3 (3 * b + 2)) + lf 2 (3 + 2 * y + 1) + 0))) C hE hH hS hX4 (by decide) rfl rfl rfl (by omega) dL_dyes_235 (fun M5 H locs hX6 hH hS => ?_)
      rw [ua_ua] at hX6
      refine lv_aload_n C.1 C.2.1 dL_dyes_236 rfl (lv_at hl 11 rfl) ?_
      refine lv_iload C.1 C.2.1 dL_dyes_237 (lv_at hl 13 rfl) ?_
      refine lv_iconst (v := 3) C.1 C.2.1 dL_dyes_239 rfl ?_
      refine lv_iadd C.1 C.2.1 dL_dyes_240 ?_
      rw [show ((nI (5 * (k % 10))) + 3 : Int32) = nI (5 * (k % 10) + 3) from nI_add (5 * (k % 10)) 3]
      refine lv_iconst (v := 1) C.1 C.2.1 dL_dyes_241 rfl ?_
      refine last (K := 4) (N := 50) (E := 5 * (k % 10) + 3) (f := (lf 4)) C hE hH hS hX6 (by decide) rfl rfl rfl (by omega) dL_dyes_242 (fun M7 H locs hX8 hH hS => ?_)
      refine lv_aload_n C.1 C.2.1 dL_dyes_243 rfl (lv_at hl 11 rfl) ?_
      refine lv_iload C.1 C.2.1 dL_dyes_244 (lv_at hl 13 rfl) ?_
      refine lv_iconst (v := 4) C.1 C.2.1 dL_dyes_246 rfl ?_
      refine lv_iadd C.1 C.2.1 dL_dyes_247 ?_
      rw [show ((nI (5 * (k % 10))) + 4 : Int32) = nI (5 * (k % 10) + 4) from nI_add (5 * (k % 10)) 4]
      refine lv_iload C.1 C.2.1 dL_dyes_248 (lv_at hl 15 rfl) ?_
      refine last (K := 4) (N := 50) (E := 5 * (k % 10) + 4) (f := (upd (lf 4) (5 * (k % 10) + 3) 1)) C hE hH hS hX8 (by decide) rfl rfl rfl (by omega) dL_dyes_250 (fun M9 H locs hX10 hH hS => ?_)
      rw [ua_ua] at hX10
      refine lv_aload_n C.1 C.2.1 dL_dyes_251 rfl (lv_at hl 10 rfl) ?_
      refine lv_iconst (v := 3) C.1 C.2.1 dL_dyes_252 rfl ?_
      refine lv_iload C.1 C.2.1 dL_dyes_253 (lv_at hl 15 rfl) ?_
      refine lv_imul C.1 C.2.1 dL_dyes_255 ?_
      rw [show ((3 : Int32) * (nI b)) = nI (3 * b) from nI_M 3 b]
      refine lv_iconst (v := 2) C.1 C.2.1 dL_dyes_256 rfl ?_
      refine lv_iadd C.1 C.2.1 dL_dyes_257 ?_
      rw [show ((nI (3 * b)) + 2 : Int32) = nI (3 * b + 2) from nI_add (3 * b) 2]
      refine lv_dup2_11 C.1 C.2.1 dL_dyes_258 rfl rfl ?_
      refine lald (K := 3) (N := 15) (E := 3 * b + 2) (f := (lf 3)) (v := ((lf 3) (3 * b + 2))) C hE hH hX10 (by decide) rfl rfl rfl (by omega) (rfl) dL_dyes_259 ?_
      refine lv_aload_n C.1 C.2.1 dL_dyes_260 rfl (lv_at hl 11 rfl) ?_
      refine lv_iload C.1 C.2.1 dL_dyes_261 (lv_at hl 13 rfl) ?_
      refine lv_iconst (v := 2) C.1 C.2.1 dL_dyes_263 rfl ?_
      refine lv_iadd C.1 C.2.1 dL_dyes_264 ?_
      rw [show ((nI (5 * (k % 10))) + 2 : Int32) = nI (5 * (k % 10) + 2) from nI_add (5 * (k % 10)) 2]
      refine lald (K := 4) (N := 50) (E := 5 * (k % 10) + 2) (f := (upd (upd (lf 4) (5 * (k % 10) + 3) 1) (5 * (k % 10) + 4) (nI b))) (v := ((lf 4) (5 * (k % 10) + 2))) C hE hH hX10 (by decide) rfl rfl rfl (by omega) ((upd_n (by omega)).trans (upd_n (by omega))) dL_dyes_265 ?_
      refine lv_isub C.1 C.2.1 dL_dyes_266 ?_
      refine last (K := 3) (N := 15) (E := 3 * b + 2) (f := (lf 3)) C hE hH hS hX10 (by decide) rfl rfl rfl (by omega) dL_dyes_267 (fun M11 H locs hX12 hH hS => ?_)
      refine lv_aload_n C.1 C.2.1 dL_dyes_268 rfl (lv_at hl 10 rfl) ?_
      refine lv_iconst (v := 3) C.1 C.2.1 dL_dyes_269 rfl ?_
      refine lv_iload C.1 C.2.1 dL_dyes_270 (lv_at hl 15 rfl) ?_
      refine lv_imul C.1 C.2.1 dL_dyes_272 ?_
      rw [show ((3 : Int32) * (nI b)) = nI (3 * b) from nI_M 3 b]
      refine lv_iconst (v := 2) C.1 C.2.1 dL_dyes_273 rfl ?_
      refine lv_iadd C.1 C.2.1 dL_dyes_274 ?_
      rw [show ((nI (3 * b)) + 2 : Int32) = nI (3 * b + 2) from nI_add (3 * b) 2]
      refine lv_aload_n C.1 C.2.1 dL_dyes_275 rfl (lv_at hl 10 rfl) ?_
      refine lv_iconst (v := 3) C.1 C.2.1 dL_dyes_276 rfl ?_
      refine lv_iload C.1 C.2.1 dL_dyes_277 (lv_at hl 15 rfl) ?_
      refine lv_imul C.1 C.2.1 dL_dyes_279 ?_
      rw [show ((3 : Int32) * (nI b)) = nI (3 * b) from nI_M 3 b]
      refine lv_iconst (v := 2) C.1 C.2.1 dL_dyes_280 rfl ?_
      refine lv_iadd C.1 C.2.1 dL_dyes_281 ?_
      rw [show ((nI (3 * b)) + 2 : Int32) = nI (3 * b + 2) from nI_add (3 * b) 2]
      refine lald (K := 3) (N := 15) (E := 3 * b + 2) (f := (upd (lf 3) (3 * b + 2) (((lf 3) (3 * b + 2)) - ((lf 4) (5 * (k % 10) + 2))))) (v := (lf 3 (3 * b + 2) - lf 4 (5 * (k % 10) + 2))) C hE hH hX12 (by decide) rfl rfl rfl (by omega) (upd_s) dL_dyes_282 ?_
      refine lv_if_ge (tgt := 290) C.1 C.2.1 dL_dyes_283 (by decide) (fun c283 => ?_) (fun c283 => ?_)
      · refine lv_aload_n C.1 C.2.1 dL_dyes_290 rfl (lv_at hl 10 rfl) ?_
        refine lv_iconst (v := 3) C.1 C.2.1 dL_dyes_291 rfl ?_
        refine lv_iload C.1 C.2.1 dL_dyes_292 (lv_at hl 15 rfl) ?_
        refine lv_imul C.1 C.2.1 dL_dyes_294 ?_
        rw [show ((3 : Int32) * (nI b)) = nI (3 * b) from nI_M 3 b]
        refine lv_iconst (v := 2) C.1 C.2.1 dL_dyes_295 rfl ?_
        refine lv_iadd C.1 C.2.1 dL_dyes_296 ?_
        rw [show ((nI (3 * b)) + 2 : Int32) = nI (3 * b + 2) from nI_add (3 * b) 2]
        refine lald (K := 3) (N := 15) (E := 3 * b + 2) (f := (upd (lf 3) (3 * b + 2) (((lf 3) (3 * b + 2)) - ((lf 4) (5 * (k % 10) + 2))))) (v := (lf 3 (3 * b + 2) - lf 4 (5 * (k % 10) + 2))) C hE hH hX12 (by decide) rfl rfl rfl (by omega) (upd_s) dL_dyes_297 ?_
        refine last (K := 3) (N := 15) (E := 3 * b + 2) (f := (upd (lf 3) (3 * b + 2) (((lf 3) (3 * b + 2)) - ((lf 4) (5 * (k % 10) + 2))))) C hE hH hS hX12 (by decide) rfl rfl rfl (by omega) dL_dyes_298 (fun M13 H locs hX14 hH hS => ?_)
        rw [ua_ua] at hX14
        exact wr_vret () C hr hlocks hH hS rfl ((by rw [if_pos (show zap (zgq (lf 1 (3 * u)) (lf 3 (3 * b + 2)) + lf 2 (3 + 2 * y) + lf 2 d) (lf 1 (3 * u)) + zap (zgq (lf 1 (3 * u + 1)) (lf 3 (3 * b + 2)) + lf 2 (3 + 2 * y + 1) + 0) (lf 1 (3 * u + 1)) ≤ lf 1 (3 * u + 2) from c226), if_pos (show 0 ≤ lf 3 (3 * b + 2) - lf 4 (5 * (k % 10) + 2) from c283)]; exact hX14)) (by decide) (by decide) dL_dyes_299
      · refine lv_iconst (v := 0) C.1 C.2.1 dL_dyes_286 rfl ?_
        refine lv_goto (tgt := 298) C.1 C.2.1 dL_dyes_287 (by decide) ?_
        refine last (K := 3) (N := 15) (E := 3 * b + 2) (f := (upd (lf 3) (3 * b + 2) (((lf 3) (3 * b + 2)) - ((lf 4) (5 * (k % 10) + 2))))) C hE hH hS hX12 (by decide) rfl rfl rfl (by omega) dL_dyes_298 (fun M15 H locs hX16 hH hS => ?_)
        rw [ua_ua] at hX16
        exact wr_vret () C hr hlocks hH hS rfl ((by rw [if_pos (show zap (zgq (lf 1 (3 * u)) (lf 3 (3 * b + 2)) + lf 2 (3 + 2 * y) + lf 2 d) (lf 1 (3 * u)) + zap (zgq (lf 1 (3 * u + 1)) (lf 3 (3 * b + 2)) + lf 2 (3 + 2 * y + 1) + 0) (lf 1 (3 * u + 1)) ≤ lf 1 (3 * u + 2) from c226), if_neg (show ¬ 0 ≤ lf 3 (3 * b + 2) - lf 4 (5 * (k % 10) + 2) from c283)]; exact hX16)) (by decide) (by decide) dL_dyes_299
    · refine lv_iload C.1 C.2.1 dL_dyes_229 (lv_at hl 0 rfl) ?_
      refine lv_goto (tgt := 235) C.1 C.2.1 dL_dyes_231 (by decide) ?_
      refine last (K := 6) (N := 60) (E := 3 * k + 2) (f := (upd (upd (lf 6) (3 * k) (zgq (lf 1 (3 * u)) (lf 3 (3 * b + 2)) + lf 2 (3 + 2 * y) + lf 2 d)) (3 * k + 1) (zgq (lf 1 (3 * u + 1)) (lf 3 (3 * b + 2)) + lf 2 (3 + 2 * y + 1) + 0))) C hE hH hS hX4 (by decide) rfl rfl rfl (by omega) dL_dyes_235 (fun M17 H locs hX18 hH hS => ?_)
      rw [ua_ua] at hX18
      refine lv_aload_n C.1 C.2.1 dL_dyes_236 rfl (lv_at hl 11 rfl) ?_
      refine lv_iload C.1 C.2.1 dL_dyes_237 (lv_at hl 13 rfl) ?_
      refine lv_iconst (v := 3) C.1 C.2.1 dL_dyes_239 rfl ?_
      refine lv_iadd C.1 C.2.1 dL_dyes_240 ?_
      rw [show ((nI (5 * (k % 10))) + 3 : Int32) = nI (5 * (k % 10) + 3) from nI_add (5 * (k % 10)) 3]
      refine lv_iconst (v := 1) C.1 C.2.1 dL_dyes_241 rfl ?_
      refine last (K := 4) (N := 50) (E := 5 * (k % 10) + 3) (f := (lf 4)) C hE hH hS hX18 (by decide) rfl rfl rfl (by omega) dL_dyes_242 (fun M19 H locs hX20 hH hS => ?_)
      refine lv_aload_n C.1 C.2.1 dL_dyes_243 rfl (lv_at hl 11 rfl) ?_
      refine lv_iload C.1 C.2.1 dL_dyes_244 (lv_at hl 13 rfl) ?_
      refine lv_iconst (v := 4) C.1 C.2.1 dL_dyes_246 rfl ?_
      refine lv_iadd C.1 C.2.1 dL_dyes_247 ?_
      rw [show ((nI (5 * (k % 10))) + 4 : Int32) = nI (5 * (k % 10) + 4) from nI_add (5 * (k % 10)) 4]
      refine lv_iload C.1 C.2.1 dL_dyes_248 (lv_at hl 15 rfl) ?_
      refine last (K := 4) (N := 50) (E := 5 * (k % 10) + 4) (f := (upd (lf 4) (5 * (k % 10) + 3) 1)) C hE hH hS hX20 (by decide) rfl rfl rfl (by omega) dL_dyes_250 (fun M21 H locs hX22 hH hS => ?_)
      rw [ua_ua] at hX22
      refine lv_aload_n C.1 C.2.1 dL_dyes_251 rfl (lv_at hl 10 rfl) ?_
      refine lv_iconst (v := 3) C.1 C.2.1 dL_dyes_252 rfl ?_
      refine lv_iload C.1 C.2.1 dL_dyes_253 (lv_at hl 15 rfl) ?_
      refine lv_imul C.1 C.2.1 dL_dyes_255 ?_
      rw [show ((3 : Int32) * (nI b)) = nI (3 * b) from nI_M 3 b]
      refine lv_iconst (v := 2) C.1 C.2.1 dL_dyes_256 rfl ?_
      refine lv_iadd C.1 C.2.1 dL_dyes_257 ?_
      rw [show ((nI (3 * b)) + 2 : Int32) = nI (3 * b + 2) from nI_add (3 * b) 2]
      refine lv_dup2_11 C.1 C.2.1 dL_dyes_258 rfl rfl ?_
      refine lald (K := 3) (N := 15) (E := 3 * b + 2) (f := (lf 3)) (v := ((lf 3) (3 * b + 2))) C hE hH hX22 (by decide) rfl rfl rfl (by omega) (rfl) dL_dyes_259 ?_
      refine lv_aload_n C.1 C.2.1 dL_dyes_260 rfl (lv_at hl 11 rfl) ?_
      refine lv_iload C.1 C.2.1 dL_dyes_261 (lv_at hl 13 rfl) ?_
      refine lv_iconst (v := 2) C.1 C.2.1 dL_dyes_263 rfl ?_
      refine lv_iadd C.1 C.2.1 dL_dyes_264 ?_
      rw [show ((nI (5 * (k % 10))) + 2 : Int32) = nI (5 * (k % 10) + 2) from nI_add (5 * (k % 10)) 2]
      refine lald (K := 4) (N := 50) (E := 5 * (k % 10) + 2) (f := (upd (upd (lf 4) (5 * (k % 10) + 3) 1) (5 * (k % 10) + 4) (nI b))) (v := ((lf 4) (5 * (k % 10) + 2))) C hE hH hX22 (by decide) rfl rfl rfl (by omega) ((upd_n (by omega)).trans (upd_n (by omega))) dL_dyes_265 ?_
      refine lv_isub C.1 C.2.1 dL_dyes_266 ?_
      refine last (K := 3) (N := 15) (E := 3 * b + 2) (f := (lf 3)) C hE hH hS hX22 (by decide) rfl rfl rfl (by omega) dL_dyes_267 (fun M23 H locs hX24 hH hS => ?_)
      refine lv_aload_n C.1 C.2.1 dL_dyes_268 rfl (lv_at hl 10 rfl) ?_
      refine lv_iconst (v := 3) C.1 C.2.1 dL_dyes_269 rfl ?_
      refine lv_iload C.1 C.2.1 dL_dyes_270 (lv_at hl 15 rfl) ?_
      refine lv_imul C.1 C.2.1 dL_dyes_272 ?_
      rw [show ((3 : Int32) * (nI b)) = nI (3 * b) from nI_M 3 b]
      refine lv_iconst (v := 2) C.1 C.2.1 dL_dyes_273 rfl ?_
      refine lv_iadd C.1 C.2.1 dL_dyes_274 ?_
      rw [show ((nI (3 * b)) + 2 : Int32) = nI (3 * b + 2) from nI_add (3 * b) 2]
      refine lv_aload_n C.1 C.2.1 dL_dyes_275 rfl (lv_at hl 10 rfl) ?_
      refine lv_iconst (v := 3) C.1 C.2.1 dL_dyes_276 rfl ?_
      refine lv_iload C.1 C.2.1 dL_dyes_277 (lv_at hl 15 rfl) ?_
      refine lv_imul C.1 C.2.1 dL_dyes_279 ?_
      rw [show ((3 : Int32) * (nI b)) = nI (3 * b) from nI_M 3 b]
      refine lv_iconst (v := 2) C.1 C.2.1 dL_dyes_280 rfl ?_
      refine lv_iadd C.1 C.2.1 dL_dyes_281 ?_
      rw [show ((nI (3 * b)) + 2 : Int32) = nI (3 * b + 2) from nI_add (3 * b) 2]
      refine lald (K := 3) (N := 15) (E := 3 * b + 2) (f := (upd (lf 3) (3 * b + 2) (((lf 3) (3 * b + 2)) - ((lf 4) (5 * (k % 10) + 2))))) (v := (lf 3 (3 * b + 2) - lf 4 (5 * (k % 10) + 2))) C hE hH hX24 (by decide) rfl rfl rfl (by omega) (upd_s) dL_dyes_282 ?_
      refine lv_if_ge (tgt := 290) C.1 C.2.1 dL_dyes_283 (by decide) (fun c283 => ?_) (fun c283 => ?_)
      · refine lv_aload_n C.1 C.2.1 dL_dyes_290 rfl (lv_at hl 10 rfl) ?_
        refine lv_iconst (v := 3) C.1 C.2.1 dL_dyes_291 rfl ?_
        refine lv_iload C.1 C.2.1 dL_dyes_292 (lv_at hl 15 rfl) ?_
        refine lv_imul C.1 C.2.1 dL_dyes_294 ?_
        rw [show ((3 : Int32) * (nI b)) = nI (3 * b) from nI_M 3 b]
        refine lv_iconst (v := 2) C.1 C.2.1 dL_dyes_295 rfl ?_
        refine lv_iadd C.1 C.2.1 dL_dyes_296 ?_
        rw [show ((nI (3 * b)) + 2 : Int32) = nI (3 * b + 2) from nI_add (3 * b) 2]
        refine lald (K := 3) (N := 15) (E := 3 * b + 2) (f := (upd (lf 3) (3 * b + 2) (((lf 3) (3 * b + 2)) - ((lf 4) (5 * (k % 10) + 2))))) (v := (lf 3 (3 * b + 2) - lf 4 (5 * (k % 10) + 2))) C hE hH hX24 (by decide) rfl rfl rfl (by omega) (upd_s) dL_dyes_297 ?_
        refine last (K := 3) (N := 15) (E := 3 * b + 2) (f := (upd (lf 3) (3 * b + 2) (((lf 3) (3 * b + 2)) - ((lf 4) (5 * (k % 10) + 2))))) C hE hH hS hX24 (by decide) rfl rfl rfl (by omega) dL_dyes_298 (fun M25 H locs hX26 hH hS => ?_)
        rw [ua_ua] at hX26
        exact wr_vret () C hr hlocks hH hS rfl ((by rw [if_neg (show ¬ zap (zgq (lf 1 (3 * u)) (lf 3 (3 * b + 2)) + lf 2 (3 + 2 * y) + lf 2 d) (lf 1 (3 * u)) + zap (zgq (lf 1 (3 * u + 1)) (lf 3 (3 * b + 2)) + lf 2 (3 + 2 * y + 1) + 0) (lf 1 (3 * u + 1)) ≤ lf 1 (3 * u + 2) from c226), ← h15, if_pos (show 0 ≤ lf 3 (3 * b + 2) - lf 4 (5 * (k % 10) + 2) from c283)]; exact hX26)) (by decide) (by decide) dL_dyes_299
      · refine lv_iconst (v := 0) C.1 C.2.1 dL_dyes_286 rfl ?_
        refine lv_goto (tgt := 298) C.1 C.2.1 dL_dyes_287 (by decide) ?_
        refine last (K := 3) (N := 15) (E := 3 * b + 2) (f := (upd (lf 3) (3 * b + 2) (((lf 3) (3 * b + 2)) - ((lf 4) (5 * (k % 10) + 2))))) C hE hH hS hX24 (by decide) rfl rfl rfl (by omega) dL_dyes_298 (fun M27 H locs hX28 hH hS => ?_)
        rw [ua_ua] at hX28
        exact wr_vret () C hr hlocks hH hS rfl ((by rw [if_neg (show ¬ zap (zgq (lf 1 (3 * u)) (lf 3 (3 * b + 2)) + lf 2 (3 + 2 * y) + lf 2 d) (lf 1 (3 * u)) + zap (zgq (lf 1 (3 * u + 1)) (lf 3 (3 * b + 2)) + lf 2 (3 + 2 * y + 1) + 0) (lf 1 (3 * u + 1)) ≤ lf 1 (3 * u + 2) from c226), ← h15, if_neg (show ¬ 0 ≤ lf 3 (3 * b + 2) - lf 4 (5 * (k % 10) + 2) from c283)]; exact hX28)) (by decide) (by decide) dL_dyes_299
  refine lv_iconst (v := 3) C.1 C.2.1 dL_dyes_140 rfl ?_
  refine lv_istore (lv' := [(15, .int 3), (14, .int (zap ((zgq (lf 1 (3 * u)) (lf 3 (3 * b + 2)) + lf 2 (3 + 2 * y) + lf 2 d) - ((lf 2) (3 + 2 * y))) (lf 1 (3 * u)) + zap ((zgq (lf 1 (3 * u + 1)) (lf 3 (3 * b + 2)) + lf 2 (3 + 2 * y + 1) + 0) - ((lf 2) (4 + 2 * y))) (lf 1 (3 * u + 1)))), (13, .int (zap ((zgq (lf 1 (3 * u)) (lf 3 (3 * b + 2)) + lf 2 (3 + 2 * y) + lf 2 d) - ((lf 2) d)) (lf 1 (3 * u)) + zap (zgq (lf 1 (3 * u + 1)) (lf 3 (3 * b + 2)) + lf 2 (3 + 2 * y + 1) + 0) (lf 1 (3 * u + 1)))), (12, .int (zap ((((lf 1) (3 * u)) + ((lf 2) (3 + 2 * y))) + ((lf 2) d)) (lf 1 (3 * u)) + zap (((lf 1) (3 * u + 1)) + ((lf 2) (4 + 2 * y))) (lf 1 (3 * u + 1)))), (11, .int (zgq (lf 1 (3 * u + 1)) (lf 3 (3 * b + 2)) + lf 2 (3 + 2 * y + 1) + 0)), (10, .int (zgq (lf 1 (3 * u)) (lf 3 (3 * b + 2)) + lf 2 (3 + 2 * y) + lf 2 d)), (9, .int (nI u)), (8, .int (nI y)), (0, .ref (la 1)), (1, .ref (la 2)), (2, .ref (la 3)), (3, .ref (la 4)), (4, .ref (la 6)), (5, .int (nI (5 * (k % 10)))), (6, .int (nI k)), (7, .int (nI b))]) C.1 C.2.1 dL_dyes_141 hl (by decide) rfl (fun ls hl => ?_)
  refine lv_iload C.1 C.2.1 dL_dyes_143 (lv_at hl 2 rfl) ?_
  refine lv_iload C.1 C.2.1 dL_dyes_145 (lv_at hl 1 rfl) ?_
  refine lv_icmp_gt (tgt := 154) C.1 C.2.1 dL_dyes_147 (by decide) (fun c147 => ?_) (fun c147 => ?_)
  · refine lv_iload C.1 C.2.1 dL_dyes_154 (lv_at hl 0 rfl) ?_
    refine lv_istore (lv' := [(15, .int 3), (14, .int (zap ((zgq (lf 1 (3 * u)) (lf 3 (3 * b + 2)) + lf 2 (3 + 2 * y) + lf 2 d) - ((lf 2) (3 + 2 * y))) (lf 1 (3 * u)) + zap ((zgq (lf 1 (3 * u + 1)) (lf 3 (3 * b + 2)) + lf 2 (3 + 2 * y + 1) + 0) - ((lf 2) (4 + 2 * y))) (lf 1 (3 * u + 1)))), (13, .int (zap ((zgq (lf 1 (3 * u)) (lf 3 (3 * b + 2)) + lf 2 (3 + 2 * y) + lf 2 d) - ((lf 2) d)) (lf 1 (3 * u)) + zap (zgq (lf 1 (3 * u + 1)) (lf 3 (3 * b + 2)) + lf 2 (3 + 2 * y + 1) + 0) (lf 1 (3 * u + 1)))), (12, .int (zap ((((lf 1) (3 * u)) + ((lf 2) (3 + 2 * y))) + ((lf 2) d)) (lf 1 (3 * u)) + zap (((lf 1) (3 * u + 1)) + ((lf 2) (4 + 2 * y))) (lf 1 (3 * u + 1)))), (11, .int (zgq (lf 1 (3 * u + 1)) (lf 3 (3 * b + 2)) + lf 2 (3 + 2 * y + 1) + 0)), (10, .int (zgq (lf 1 (3 * u)) (lf 3 (3 * b + 2)) + lf 2 (3 + 2 * y) + lf 2 d)), (9, .int (nI u)), (8, .int (nI y)), (0, .ref (la 1)), (1, .ref (la 2)), (2, .ref (la 3)), (3, .ref (la 4)), (4, .ref (la 6)), (5, .int (nI (5 * (k % 10)))), (6, .int (nI k)), (7, .int (nI b))]) C.1 C.2.1 dL_dyes_156 hl (by decide) rfl (fun ls hl => ?_)
    refine lv_iload C.1 C.2.1 dL_dyes_158 (lv_at hl 3 rfl) ?_
    refine lv_iload C.1 C.2.1 dL_dyes_160 (lv_at hl 2 rfl) ?_
    refine lv_icmp_gt (tgt := 176) C.1 C.2.1 dL_dyes_162 (by decide) (fun c162 => ?_) (fun c162 => ?_)
    · refine lv_iload C.1 C.2.1 dL_dyes_176 (lv_at hl 0 rfl) ?_
      exact J178 3 (zbm_3 (Or.inl c162) c147) ls (lv_sub hl [1, 2, 3, 4, 5, 6, 7, 8, 9, 10, 11, 12, 13, 14, 15] rfl)
    · refine lv_iload C.1 C.2.1 dL_dyes_165 (lv_at hl 3 rfl) ?_
      refine lv_iload C.1 C.2.1 dL_dyes_167 (lv_at hl 1 rfl) ?_
      refine lv_icmp_gt (tgt := 176) C.1 C.2.1 dL_dyes_169 (by decide) (fun c169 => ?_) (fun c169 => ?_)
      · refine lv_iload C.1 C.2.1 dL_dyes_176 (lv_at hl 0 rfl) ?_
        exact J178 3 (zbm_3 (Or.inr c169) c147) ls (lv_sub hl [1, 2, 3, 4, 5, 6, 7, 8, 9, 10, 11, 12, 13, 14, 15] rfl)
      · refine lv_iconst (v := 1) C.1 C.2.1 dL_dyes_172 rfl ?_
        refine lv_goto (tgt := 178) C.1 C.2.1 dL_dyes_173 (by decide) ?_
        exact J178 1 (zbm_1 c162 c169) ls (lv_sub hl [1, 2, 3, 4, 5, 6, 7, 8, 9, 10, 11, 12, 13, 14, 15] rfl)
  · refine lv_iconst (v := 2) C.1 C.2.1 dL_dyes_150 rfl ?_
    refine lv_goto (tgt := 156) C.1 C.2.1 dL_dyes_151 (by decide) ?_
    refine lv_istore (lv' := [(15, .int 2), (14, .int (zap ((zgq (lf 1 (3 * u)) (lf 3 (3 * b + 2)) + lf 2 (3 + 2 * y) + lf 2 d) - ((lf 2) (3 + 2 * y))) (lf 1 (3 * u)) + zap ((zgq (lf 1 (3 * u + 1)) (lf 3 (3 * b + 2)) + lf 2 (3 + 2 * y + 1) + 0) - ((lf 2) (4 + 2 * y))) (lf 1 (3 * u + 1)))), (13, .int (zap ((zgq (lf 1 (3 * u)) (lf 3 (3 * b + 2)) + lf 2 (3 + 2 * y) + lf 2 d) - ((lf 2) d)) (lf 1 (3 * u)) + zap (zgq (lf 1 (3 * u + 1)) (lf 3 (3 * b + 2)) + lf 2 (3 + 2 * y + 1) + 0) (lf 1 (3 * u + 1)))), (12, .int (zap ((((lf 1) (3 * u)) + ((lf 2) (3 + 2 * y))) + ((lf 2) d)) (lf 1 (3 * u)) + zap (((lf 1) (3 * u + 1)) + ((lf 2) (4 + 2 * y))) (lf 1 (3 * u + 1)))), (11, .int (zgq (lf 1 (3 * u + 1)) (lf 3 (3 * b + 2)) + lf 2 (3 + 2 * y + 1) + 0)), (10, .int (zgq (lf 1 (3 * u)) (lf 3 (3 * b + 2)) + lf 2 (3 + 2 * y) + lf 2 d)), (9, .int (nI u)), (8, .int (nI y)), (0, .ref (la 1)), (1, .ref (la 2)), (2, .ref (la 3)), (3, .ref (la 4)), (4, .ref (la 6)), (5, .int (nI (5 * (k % 10)))), (6, .int (nI k)), (7, .int (nI b))]) C.1 C.2.1 dL_dyes_156 hl (by decide) rfl (fun ls hl => ?_)
    refine lv_iload C.1 C.2.1 dL_dyes_158 (lv_at hl 3 rfl) ?_
    refine lv_iload C.1 C.2.1 dL_dyes_160 (lv_at hl 2 rfl) ?_
    refine lv_icmp_gt (tgt := 176) C.1 C.2.1 dL_dyes_162 (by decide) (fun c162 => ?_) (fun c162 => ?_)
    · refine lv_iload C.1 C.2.1 dL_dyes_176 (lv_at hl 0 rfl) ?_
      exact J178 2 (zbm_2 (Or.inl c162) c147) ls (lv_sub hl [1, 2, 3, 4, 5, 6, 7, 8, 9, 10, 11, 12, 13, 14, 15] rfl)
    · refine lv_iload C.1 C.2.1 dL_dyes_165 (lv_at hl 3 rfl) ?_
      refine lv_iload C.1 C.2.1 dL_dyes_167 (lv_at hl 1 rfl) ?_
      refine lv_icmp_gt (tgt := 176) C.1 C.2.1 dL_dyes_169 (by decide) (fun c169 => ?_) (fun c169 => ?_)
      · refine lv_iload C.1 C.2.1 dL_dyes_176 (lv_at hl 0 rfl) ?_
        exact J178 2 (zbm_2 (Or.inr c169) c147) ls (lv_sub hl [1, 2, 3, 4, 5, 6, 7, 8, 9, 10, 11, 12, 13, 14, 15] rfl)
      · refine lv_iconst (v := 1) C.1 C.2.1 dL_dyes_172 rfl ?_
        refine lv_goto (tgt := 178) C.1 C.2.1 dL_dyes_173 (by decide) ?_
        exact J178 1 (zbm_1 c162 c169) ls (lv_sub hl [1, 2, 3, 4, 5, 6, 7, 8, 9, 10, 11, 12, 13, 14, 15] rfl)
set_option maxHeartbeats 4000000 in
set_option maxRecDepth 100000 in
theorem c_dyes5 {l : Launch} {g : gG} {M : Mp} {la : Nat → Nat} {lf : Nat → Nat → Int32} {k b u y d : Nat} (hL : LI g M la lf) (hk : k < 20) (hb : b < 5) (hu4 : u < 4) (hy4 : y < 4) (hd3 : d < 3) (q0 : lf 5 (5 * (k % 10)) = nI u) (q1 : lf 5 (5 * (k % 10) + 1) = nI y) (he : lf 3 (3 * b + 1) = nI u) (hd : lf 3 (3 * b) = nI d) : Met l yL_dyes (WY yL_dyes cL_dyes 16 none) { frames := 2, cells := 0, slots := 0, locals := 44 } (Wc g M [.ref (la 1), .ref (la 2), .ref (la 3), .ref (la 5), .ref (la 6), .int (nI (5 * (k % 10))), .int (nI k), .int (nI b)]) (wrQ (S := Unit) g (fun u_ => none) (fun u_ M_ => LX g M M_ la (ua (ua (ua lf 6 (upd (upd (upd (lf 6) (3 * k) (zgq (lf 1 (3 * u)) (lf 3 (3 * b + 2)) + lf 2 (3 + 2 * y) + lf 2 d)) (3 * k + 1) (zgq (lf 1 (3 * u + 1)) (lf 3 (3 * b + 2)) + lf 2 (3 + 2 * y + 1) + 0)) (3 * k + 2) (if zap (zgq (lf 1 (3 * u)) (lf 3 (3 * b + 2)) + lf 2 (3 + 2 * y) + lf 2 d) (lf 1 (3 * u)) + zap (zgq (lf 1 (3 * u + 1)) (lf 3 (3 * b + 2)) + lf 2 (3 + 2 * y + 1) + 0) (lf 1 (3 * u + 1)) ≤ lf 1 (3 * u + 2) then (0 : Int32) else zblame (zap (lf 1 (3 * u) + lf 2 (3 + 2 * y) + lf 2 d) (lf 1 (3 * u)) + zap (lf 1 (3 * u + 1) + lf 2 (4 + 2 * y)) (lf 1 (3 * u + 1))) (zap (zgq (lf 1 (3 * u)) (lf 3 (3 * b + 2)) + lf 2 (3 + 2 * y) + lf 2 d - lf 2 d) (lf 1 (3 * u)) + zap (zgq (lf 1 (3 * u + 1)) (lf 3 (3 * b + 2)) + lf 2 (3 + 2 * y + 1) + 0) (lf 1 (3 * u + 1))) (zap (zgq (lf 1 (3 * u)) (lf 3 (3 * b + 2)) + lf 2 (3 + 2 * y) + lf 2 d - lf 2 (3 + 2 * y)) (lf 1 (3 * u)) + zap (zgq (lf 1 (3 * u + 1)) (lf 3 (3 * b + 2)) + lf 2 (3 + 2 * y + 1) + 0 - lf 2 (4 + 2 * y)) (lf 1 (3 * u + 1))) + 1))) 5 (upd (upd (lf 5) (5 * (k % 10) + 3) 1) (5 * (k % 10) + 4) (nI b))) 3 (upd (upd (lf 3) (3 * b + 2) (lf 3 (3 * b + 2) - lf 5 (5 * (k % 10) + 2))) (3 * b + 2) (if 0 ≤ lf 3 (3 * b + 2) - lf 5 (5 * (k % 10) + 2) then lf 3 (3 * b + 2) - lf 5 (5 * (k % 10) + 2) else 0))))) 0 0 (gA g) := by
  refine ofM (by decide +kernel) (Nat.le_of_ble_eq_true rfl) (fun p e s m args below meth c ls C hr hlocks hin hE hH hl ea => ?_)
  have hl : lv_has ls 16 [(0, .ref (la 1)), (1, .ref (la 2)), (2, .ref (la 3)), (3, .ref (la 5)), (4, .ref (la 6)), (5, .int (nI (5 * (k % 10)))), (6, .int (nI k)), (7, .int (nI b))] := hl
  have hS : va_S (gA g) s.heap s.heap [] := va_S.rf
  have hX := LX_rf hL
  refine lv_aload_n C.1 C.2.1 dL_dyes_0 rfl (lv_at hl 3 rfl) ?_
  refine lv_iload C.1 C.2.1 dL_dyes_1 (lv_at hl 5 rfl) ?_
  refine lv_iconst (v := 1) C.1 C.2.1 dL_dyes_3 rfl ?_
  refine lv_iadd C.1 C.2.1 dL_dyes_4 ?_
  rw [show ((nI (5 * (k % 10))) + 1 : Int32) = nI (5 * (k % 10) + 1) from nI_add (5 * (k % 10)) 1]
  refine lald (K := 5) (N := 50) (E := 5 * (k % 10) + 1) (f := (lf 5)) (v := (nI y)) C hE hH hX (by decide) rfl rfl rfl (by omega) (q1) dL_dyes_5 ?_
  refine lv_istore (lv' := [(8, .int (nI y)), (0, .ref (la 1)), (1, .ref (la 2)), (2, .ref (la 3)), (3, .ref (la 5)), (4, .ref (la 6)), (5, .int (nI (5 * (k % 10)))), (6, .int (nI k)), (7, .int (nI b))]) C.1 C.2.1 dL_dyes_6 hl (by decide) rfl (fun ls hl => ?_)
  refine lv_aload_n C.1 C.2.1 dL_dyes_8 rfl (lv_at hl 4 rfl) ?_
  refine lv_iload C.1 C.2.1 dL_dyes_9 (lv_at hl 6 rfl) ?_
  refine lald (K := 5) (N := 50) (E := 5 * (k % 10)) (f := (lf 5)) (v := (nI u)) C hE hH hX (by decide) rfl rfl rfl (by omega) (q0) dL_dyes_11 ?_
  refine lv_istore (lv' := [(9, .int (nI u)), (8, .int (nI y)), (0, .ref (la 1)), (1, .ref (la 2)), (2, .ref (la 3)), (3, .ref (la 5)), (4, .ref (la 6)), (5, .int (nI (5 * (k % 10)))), (6, .int (nI k)), (7, .int (nI b))]) C.1 C.2.1 dL_dyes_12 hl (by decide) rfl (fun ls hl => ?_)
  refine lv_aload_n C.1 C.2.1 dL_dyes_14 rfl (lv_at hl 2 rfl) ?_
  refine lv_aload_n C.1 C.2.1 dL_dyes_15 rfl (lv_at hl 3 rfl) ?_
  refine lv_aload_n C.1 C.2.1 dL_dyes_16 rfl (lv_at hl 4 rfl) ?_
  refine lv_iload C.1 C.2.1 dL_dyes_17 (lv_at hl 9 rfl) ?_
  refine lv_iload C.1 C.2.1 dL_dyes_19 (lv_at hl 1 rfl) ?_
  refine lv_iconst (v := 0) C.1 C.2.1 dL_dyes_21 rfl ?_
  refine rd_go1 (runS C hE hH hS (c_given0 hX.1 (hb) (hy4) (hu4) (he) (hd3) (hd)) mv_L_given wm_593 hl.1 dL_dyes_22 rfl rfl ⟨rfl, rfl⟩ ⟨Nat.le_of_ble_eq_true rfl, Nat.le_of_ble_eq_true rfl⟩ (Nat.le_of_ble_eq_true rfl) ⟨Nat.le_of_ble_eq_true rfl, Nat.le_of_ble_eq_true rfl⟩) ?_
  refine lv_istore (lv' := [(10, .int (zgq (lf 1 (3 * u)) (lf 3 (3 * b + 2)) + lf 2 (3 + 2 * y) + lf 2 d)), (9, .int (nI u)), (8, .int (nI y)), (0, .ref (la 1)), (1, .ref (la 2)), (2, .ref (la 3)), (3, .ref (la 5)), (4, .ref (la 6)), (5, .int (nI (5 * (k % 10)))), (6, .int (nI k)), (7, .int (nI b))]) C.1 C.2.1 dL_dyes_25 hl (by decide) rfl (fun ls hl => ?_)
  refine lv_aload_n C.1 C.2.1 dL_dyes_27 rfl (lv_at hl 3 rfl) ?_
  refine lv_aload_n C.1 C.2.1 dL_dyes_28 rfl (lv_at hl 4 rfl) ?_
  refine lv_aload_n C.1 C.2.1 dL_dyes_29 rfl (lv_at hl 5 rfl) ?_
  refine lv_iload C.1 C.2.1 dL_dyes_30 (lv_at hl 10 rfl) ?_
  refine lv_iload C.1 C.2.1 dL_dyes_32 (lv_at hl 2 rfl) ?_
  refine lv_iconst (v := 1) C.1 C.2.1 dL_dyes_34 rfl ?_
  refine rd_go1 (runS C hE hH hS (c_given1 hX.1 (hb) (hy4) (hu4) (he)) mv_L_given wm_593 hl.1 dL_dyes_35 rfl rfl ⟨rfl, rfl⟩ ⟨Nat.le_of_ble_eq_true rfl, Nat.le_of_ble_eq_true rfl⟩ (Nat.le_of_ble_eq_true rfl) ⟨Nat.le_of_ble_eq_true rfl, Nat.le_of_ble_eq_true rfl⟩) ?_
  refine lv_istore (lv' := [(11, .int (zgq (lf 1 (3 * u + 1)) (lf 3 (3 * b + 2)) + lf 2 (3 + 2 * y + 1) + 0)), (10, .int (zgq (lf 1 (3 * u)) (lf 3 (3 * b + 2)) + lf 2 (3 + 2 * y) + lf 2 d)), (9, .int (nI u)), (8, .int (nI y)), (0, .ref (la 1)), (1, .ref (la 2)), (2, .ref (la 3)), (3, .ref (la 5)), (4, .ref (la 6)), (5, .int (nI (5 * (k % 10)))), (6, .int (nI k)), (7, .int (nI b))]) C.1 C.2.1 dL_dyes_38 hl (by decide) rfl (fun ls hl => ?_)
  refine lv_aload_n C.1 C.2.1 dL_dyes_40 rfl (lv_at hl 4 rfl) ?_
  refine lv_iload C.1 C.2.1 dL_dyes_41 (lv_at hl 2 rfl) ?_
  refine lv_aload_n C.1 C.2.1 dL_dyes_43 rfl (lv_at hl 4 rfl) ?_
  refine lv_iconst (v := 3) C.1 C.2.1 dL_dyes_44 rfl ?_
  refine lv_iload C.1 C.2.1 dL_dyes_45 (lv_at hl 2 rfl) ?_
  refine lv_imul C.1 C.2.1 dL_dyes_47 ?_
  rw [show ((3 : Int32) * (nI u)) = nI (3 * u) from nI_M 3 u]
  refine lald (K := 1) (N := 12) (E := 3 * u) (f := (lf 1)) (v := ((lf 1) (3 * u))) C hE hH hX (by decide) rfl rfl rfl (by omega) (rfl) dL_dyes_48 ?_
  refine lv_aload_n C.1 C.2.1 dL_dyes_49 rfl (lv_at hl 5 rfl) ?_
  refine lv_iconst (v := 3) C.1 C.2.1 dL_dyes_50 rfl ?_
  refine lv_iconst (v := 2) C.1 C.2.1 dL_dyes_51 rfl ?_
  refine lv_iload C.1 C.2.1 dL_dyes_52 (lv_at hl 3 rfl) ?_
  refine lv_imul C.1 C.2.1 dL_dyes_54 ?_
  rw [show ((2 : Int32) * (nI y)) = nI (2 * y) from nI_M 2 y]
  refine lv_iadd C.1 C.2.1 dL_dyes_55 ?_
  rw [show ((3 : Int32) + (nI (2 * y))) = nI (3 + 2 * y) from nI_add 3 (2 * y)]
  refine lald (K := 2) (N := 11) (E := 3 + 2 * y) (f := (lf 2)) (v := ((lf 2) (3 + 2 * y))) C hE hH hX (by decide) rfl rfl rfl (by omega) (rfl) dL_dyes_56 ?_
  refine lv_iadd C.1 C.2.1 dL_dyes_57 ?_
  refine lv_aload_n C.1 C.2.1 dL_dyes_58 rfl (lv_at hl 5 rfl) ?_
  refine lv_aload_n C.1 C.2.1 dL_dyes_59 rfl (lv_at hl 6 rfl) ?_
  refine lv_iconst (v := 3) C.1 C.2.1 dL_dyes_60 rfl ?_
  refine lv_iload C.1 C.2.1 dL_dyes_61 (lv_at hl 11 rfl) ?_
  refine lv_imul C.1 C.2.1 dL_dyes_63 ?_
  rw [show ((3 : Int32) * (nI b)) = nI (3 * b) from nI_M 3 b]
  refine lald (K := 3) (N := 15) (E := 3 * b) (f := (lf 3)) (v := (nI d)) C hE hH hX (by decide) rfl rfl rfl (by omega) (hd) dL_dyes_64 ?_
  refine lald (K := 2) (N := 11) (E := d) (f := (lf 2)) (v := ((lf 2) d)) C hE hH hX (by decide) rfl rfl rfl (by omega) (rfl) dL_dyes_65 ?_
  refine lv_iadd C.1 C.2.1 dL_dyes_66 ?_
  refine lv_aload_n C.1 C.2.1 dL_dyes_67 rfl (lv_at hl 4 rfl) ?_
  refine lv_iconst (v := 3) C.1 C.2.1 dL_dyes_68 rfl ?_
  refine lv_iload C.1 C.2.1 dL_dyes_69 (lv_at hl 2 rfl) ?_
  refine lv_imul C.1 C.2.1 dL_dyes_71 ?_
  rw [show ((3 : Int32) * (nI u)) = nI (3 * u) from nI_M 3 u]
  refine lv_iconst (v := 1) C.1 C.2.1 dL_dyes_72 rfl ?_
  refine lv_iadd C.1 C.2.1 dL_dyes_73 ?_
  rw [show ((nI (3 * u)) + 1 : Int32) = nI (3 * u + 1) from nI_add (3 * u) 1]
  refine lald (K := 1) (N := 12) (E := 3 * u + 1) (f := (lf 1)) (v := ((lf 1) (3 * u + 1))) C hE hH hX (by decide) rfl rfl rfl (by omega) (rfl) dL_dyes_74 ?_
  refine lv_aload_n C.1 C.2.1 dL_dyes_75 rfl (lv_at hl 5 rfl) ?_
  refine lv_iconst (v := 4) C.1 C.2.1 dL_dyes_76 rfl ?_
  refine lv_iconst (v := 2) C.1 C.2.1 dL_dyes_77 rfl ?_
  refine lv_iload C.1 C.2.1 dL_dyes_78 (lv_at hl 3 rfl) ?_
  refine lv_imul C.1 C.2.1 dL_dyes_80 ?_
  rw [show ((2 : Int32) * (nI y)) = nI (2 * y) from nI_M 2 y]
  refine lv_iadd C.1 C.2.1 dL_dyes_81 ?_
  rw [show ((4 : Int32) + (nI (2 * y))) = nI (4 + 2 * y) from nI_add 4 (2 * y)]
  refine lald (K := 2) (N := 11) (E := 4 + 2 * y) (f := (lf 2)) (v := ((lf 2) (4 + 2 * y))) C hE hH hX (by decide) rfl rfl rfl (by omega) (rfl) dL_dyes_82 ?_
  refine lv_iadd C.1 C.2.1 dL_dyes_83 ?_
  refine rd_go1 (runS C hE hH hS (c_off hX.1 (hu4) ((((lf 1) (3 * u)) + ((lf 2) (3 + 2 * y))) + ((lf 2) d)) (((lf 1) (3 * u + 1)) + ((lf 2) (4 + 2 * y)))) mv_L_off wm_596 hl.1 dL_dyes_84 rfl rfl ⟨rfl, rfl⟩ ⟨Nat.le_of_ble_eq_true rfl, Nat.le_of_ble_eq_true rfl⟩ (Nat.le_of_ble_eq_true rfl) ⟨Nat.le_of_ble_eq_true rfl, Nat.le_of_ble_eq_true rfl⟩) ?_
  refine lv_istore (lv' := [(12, .int (zap ((((lf 1) (3 * u)) + ((lf 2) (3 + 2 * y))) + ((lf 2) d)) (lf 1 (3 * u)) + zap (((lf 1) (3 * u + 1)) + ((lf 2) (4 + 2 * y))) (lf 1 (3 * u + 1)))), (11, .int (zgq (lf 1 (3 * u + 1)) (lf 3 (3 * b + 2)) + lf 2 (3 + 2 * y + 1) + 0)), (10, .int (zgq (lf 1 (3 * u)) (lf 3 (3 * b + 2)) + lf 2 (3 + 2 * y) + lf 2 d)), (9, .int (nI u)), (8, .int (nI y)), (0, .ref (la 1)), (1, .ref (la 2)), (2, .ref (la 3)), (3, .ref (la 5)), (4, .ref (la 6)), (5, .int (nI (5 * (k % 10)))), (6, .int (nI k)), (7, .int (nI b))]) C.1 C.2.1 dL_dyes_87 hl (by decide) rfl (fun ls hl => ?_)
  refine lv_aload_n C.1 C.2.1 dL_dyes_89 rfl (lv_at hl 5 rfl) ?_
  refine lv_iload C.1 C.2.1 dL_dyes_90 (lv_at hl 3 rfl) ?_
  refine lv_iload C.1 C.2.1 dL_dyes_92 (lv_at hl 2 rfl) ?_
  refine lv_aload_n C.1 C.2.1 dL_dyes_94 rfl (lv_at hl 6 rfl) ?_
  refine lv_aload_n C.1 C.2.1 dL_dyes_95 rfl (lv_at hl 7 rfl) ?_
  refine lv_iconst (v := 3) C.1 C.2.1 dL_dyes_96 rfl ?_
  refine lv_iload C.1 C.2.1 dL_dyes_97 (lv_at hl 12 rfl) ?_
  refine lv_imul C.1 C.2.1 dL_dyes_99 ?_
  rw [show ((3 : Int32) * (nI b)) = nI (3 * b) from nI_M 3 b]
  refine lald (K := 3) (N := 15) (E := 3 * b) (f := (lf 3)) (v := (nI d)) C hE hH hX (by decide) rfl rfl rfl (by omega) (hd) dL_dyes_100 ?_
  refine lald (K := 2) (N := 11) (E := d) (f := (lf 2)) (v := ((lf 2) d)) C hE hH hX (by decide) rfl rfl rfl (by omega) (rfl) dL_dyes_101 ?_
  refine lv_isub C.1 C.2.1 dL_dyes_102 ?_
  refine lv_iload C.1 C.2.1 dL_dyes_103 (lv_at hl 1 rfl) ?_
  refine rd_go1 (runS C hE hH hS (c_off hX.1 (hu4) ((zgq (lf 1 (3 * u)) (lf 3 (3 * b + 2)) + lf 2 (3 + 2 * y) + lf 2 d) - ((lf 2) d)) (zgq (lf 1 (3 * u + 1)) (lf 3 (3 * b + 2)) + lf 2 (3 + 2 * y + 1) + 0)) mv_L_off wm_596 hl.1 dL_dyes_105 rfl rfl ⟨rfl, rfl⟩ ⟨Nat.le_of_ble_eq_true rfl, Nat.le_of_ble_eq_true rfl⟩ (Nat.le_of_ble_eq_true rfl) ⟨Nat.le_of_ble_eq_true rfl, Nat.le_of_ble_eq_true rfl⟩) ?_
  refine lv_istore (lv' := [(13, .int (zap ((zgq (lf 1 (3 * u)) (lf 3 (3 * b + 2)) + lf 2 (3 + 2 * y) + lf 2 d) - ((lf 2) d)) (lf 1 (3 * u)) + zap (zgq (lf 1 (3 * u + 1)) (lf 3 (3 * b + 2)) + lf 2 (3 + 2 * y + 1) + 0) (lf 1 (3 * u + 1)))), (12, .int (zap ((((lf 1) (3 * u)) + ((lf 2) (3 + 2 * y))) + ((lf 2) d)) (lf 1 (3 * u)) + zap (((lf 1) (3 * u + 1)) + ((lf 2) (4 + 2 * y))) (lf 1 (3 * u + 1)))), (11, .int (zgq (lf 1 (3 * u + 1)) (lf 3 (3 * b + 2)) + lf 2 (3 + 2 * y + 1) + 0)), (10, .int (zgq (lf 1 (3 * u)) (lf 3 (3 * b + 2)) + lf 2 (3 + 2 * y) + lf 2 d)), (9, .int (nI u)), (8, .int (nI y)), (0, .ref (la 1)), (1, .ref (la 2)), (2, .ref (la 3)), (3, .ref (la 5)), (4, .ref (la 6)), (5, .int (nI (5 * (k % 10)))), (6, .int (nI k)), (7, .int (nI b))]) C.1 C.2.1 dL_dyes_108 hl (by decide) rfl (fun ls hl => ?_)
  refine lv_aload_n C.1 C.2.1 dL_dyes_110 rfl (lv_at hl 6 rfl) ?_
  refine lv_iload C.1 C.2.1 dL_dyes_111 (lv_at hl 4 rfl) ?_
  refine lv_iload C.1 C.2.1 dL_dyes_113 (lv_at hl 3 rfl) ?_
  refine lv_aload_n C.1 C.2.1 dL_dyes_115 rfl (lv_at hl 7 rfl) ?_
  refine lv_iconst (v := 3) C.1 C.2.1 dL_dyes_116 rfl ?_
  refine lv_iconst (v := 2) C.1 C.2.1 dL_dyes_117 rfl ?_
  refine lv_iload C.1 C.2.1 dL_dyes_118 (lv_at hl 5 rfl) ?_
  refine lv_imul C.1 C.2.1 dL_dyes_120 ?_
  rw [show ((2 : Int32) * (nI y)) = nI (2 * y) from nI_M 2 y]
  refine lv_iadd C.1 C.2.1 dL_dyes_121 ?_
  rw [show ((3 : Int32) + (nI (2 * y))) = nI (3 + 2 * y) from nI_add 3 (2 * y)]
  refine lald (K := 2) (N := 11) (E := 3 + 2 * y) (f := (lf 2)) (v := ((lf 2) (3 + 2 * y))) C hE hH hX (by decide) rfl rfl rfl (by omega) (rfl) dL_dyes_122 ?_
  refine lv_isub C.1 C.2.1 dL_dyes_123 ?_
  refine lv_iload C.1 C.2.1 dL_dyes_124 (lv_at hl 2 rfl) ?_
  refine lv_aload_n C.1 C.2.1 dL_dyes_126 rfl (lv_at hl 7 rfl) ?_
  refine lv_iconst (v := 4) C.1 C.2.1 dL_dyes_127 rfl ?_
  refine lv_iconst (v := 2) C.1 C.2.1 dL_dyes_128 rfl ?_
  refine lv_iload C.1 C.2.1 dL_dyes_129 (lv_at hl 5 rfl) ?_
  refine lv_imul C.1 C.2.1 dL_dyes_131 ?_
  rw [show ((2 : Int32) * (nI y)) = nI (2 * y) from nI_M 2 y]
  refine lv_iadd C.1 C.2.1 dL_dyes_132 ?_
  rw [show ((4 : Int32) + (nI (2 * y))) = nI (4 + 2 * y) from nI_add 4 (2 * y)]
  refine lald (K := 2) (N := 11) (E := 4 + 2 * y) (f := (lf 2)) (v := ((lf 2) (4 + 2 * y))) C hE hH hX (by decide) rfl rfl rfl (by omega) (rfl) dL_dyes_133 ?_
  refine lv_isub C.1 C.2.1 dL_dyes_134 ?_
  refine rd_go1 (runS C hE hH hS (c_off hX.1 (hu4) ((zgq (lf 1 (3 * u)) (lf 3 (3 * b + 2)) + lf 2 (3 + 2 * y) + lf 2 d) - ((lf 2) (3 + 2 * y))) ((zgq (lf 1 (3 * u + 1)) (lf 3 (3 * b + 2)) + lf 2 (3 + 2 * y + 1) + 0) - ((lf 2) (4 + 2 * y)))) mv_L_off wm_596 hl.1 dL_dyes_135 rfl rfl ⟨rfl, rfl⟩ ⟨Nat.le_of_ble_eq_true rfl, Nat.le_of_ble_eq_true rfl⟩ (Nat.le_of_ble_eq_true rfl) ⟨Nat.le_of_ble_eq_true rfl, Nat.le_of_ble_eq_true rfl⟩) ?_
  refine lv_istore (lv' := [(14, .int (zap ((zgq (lf 1 (3 * u)) (lf 3 (3 * b + 2)) + lf 2 (3 + 2 * y) + lf 2 d) - ((lf 2) (3 + 2 * y))) (lf 1 (3 * u)) + zap ((zgq (lf 1 (3 * u + 1)) (lf 3 (3 * b + 2)) + lf 2 (3 + 2 * y + 1) + 0) - ((lf 2) (4 + 2 * y))) (lf 1 (3 * u + 1)))), (13, .int (zap ((zgq (lf 1 (3 * u)) (lf 3 (3 * b + 2)) + lf 2 (3 + 2 * y) + lf 2 d) - ((lf 2) d)) (lf 1 (3 * u)) + zap (zgq (lf 1 (3 * u + 1)) (lf 3 (3 * b + 2)) + lf 2 (3 + 2 * y + 1) + 0) (lf 1 (3 * u + 1)))), (12, .int (zap ((((lf 1) (3 * u)) + ((lf 2) (3 + 2 * y))) + ((lf 2) d)) (lf 1 (3 * u)) + zap (((lf 1) (3 * u + 1)) + ((lf 2) (4 + 2 * y))) (lf 1 (3 * u + 1)))), (11, .int (zgq (lf 1 (3 * u + 1)) (lf 3 (3 * b + 2)) + lf 2 (3 + 2 * y + 1) + 0)), (10, .int (zgq (lf 1 (3 * u)) (lf 3 (3 * b + 2)) + lf 2 (3 + 2 * y) + lf 2 d)), (9, .int (nI u)), (8, .int (nI y)), (0, .ref (la 1)), (1, .ref (la 2)), (2, .ref (la 3)), (3, .ref (la 5)), (4, .ref (la 6)), (5, .int (nI (5 * (k % 10)))), (6, .int (nI k)), (7, .int (nI b))]) C.1 C.2.1 dL_dyes_138 hl (by decide) rfl (fun ls hl => ?_)
  have J178 : ∀ (v15 : Int32) (h15 : v15 = zblame (zap (lf 1 (3 * u) + lf 2 (3 + 2 * y) + lf 2 d) (lf 1 (3 * u)) + zap (lf 1 (3 * u + 1) + lf 2 (4 + 2 * y)) (lf 1 (3 * u + 1))) (zap (zgq (lf 1 (3 * u)) (lf 3 (3 * b + 2)) + lf 2 (3 + 2 * y) + lf 2 d - lf 2 d) (lf 1 (3 * u)) + zap (zgq (lf 1 (3 * u + 1)) (lf 3 (3 * b + 2)) + lf 2 (3 + 2 * y + 1) + 0) (lf 1 (3 * u + 1))) (zap (zgq (lf 1 (3 * u)) (lf 3 (3 * b + 2)) + lf 2 (3 + 2 * y) + lf 2 d - lf 2 (3 + 2 * y)) (lf 1 (3 * u)) + zap (zgq (lf 1 (3 * u + 1)) (lf 3 (3 * b + 2)) + lf 2 (3 + 2 * y + 1) + 0 - lf 2 (4 + 2 * y)) (lf 1 (3 * u + 1))) + 1) (ls : Array Slot), lv_has ls 16 [(14, .int (zap ((zgq (lf 1 (3 * u)) (lf 3 (3 * b + 2)) + lf 2 (3 + 2 * y) + lf 2 d) - ((lf 2) (3 + 2 * y))) (lf 1 (3 * u)) + zap ((zgq (lf 1 (3 * u + 1)) (lf 3 (3 * b + 2)) + lf 2 (3 + 2 * y + 1) + 0) - ((lf 2) (4 + 2 * y))) (lf 1 (3 * u + 1)))), (13, .int (zap ((zgq (lf 1 (3 * u)) (lf 3 (3 * b + 2)) + lf 2 (3 + 2 * y) + lf 2 d) - ((lf 2) d)) (lf 1 (3 * u)) + zap (zgq (lf 1 (3 * u + 1)) (lf 3 (3 * b + 2)) + lf 2 (3 + 2 * y + 1) + 0) (lf 1 (3 * u + 1)))), (12, .int (zap ((((lf 1) (3 * u)) + ((lf 2) (3 + 2 * y))) + ((lf 2) d)) (lf 1 (3 * u)) + zap (((lf 1) (3 * u + 1)) + ((lf 2) (4 + 2 * y))) (lf 1 (3 * u + 1)))), (11, .int (zgq (lf 1 (3 * u + 1)) (lf 3 (3 * b + 2)) + lf 2 (3 + 2 * y + 1) + 0)), (10, .int (zgq (lf 1 (3 * u)) (lf 3 (3 * b + 2)) + lf 2 (3 + 2 * y) + lf 2 d)), (9, .int (nI u)), (8, .int (nI y)), (0, .ref (la 1)), (1, .ref (la 2)), (2, .ref (la 3)), (3, .ref (la 5)), (4, .ref (la 6)), (5, .int (nI (5 * (k % 10)))), (6, .int (nI k)), (7, .int (nI b))] → W p l e { frames := 2, cells := 0, slots := 0, locals := 44 } s m args below meth c s.heap [] 0 0 (MQ below (wrQ (S := Unit) g (fun u_ => none) (fun u_ M_ => LX g M M_ la (ua (ua (ua lf 6 (upd (upd (upd (lf 6) (3 * k) (zgq (lf 1 (3 * u)) (lf 3 (3 * b + 2)) + lf 2 (3 + 2 * y) + lf 2 d)) (3 * k + 1) (zgq (lf 1 (3 * u + 1)) (lf 3 (3 * b + 2)) + lf 2 (3 + 2 * y + 1) + 0)) (3 * k + 2) (if zap (zgq (lf 1 (3 * u)) (lf 3 (3 * b + 2)) + lf 2 (3 + 2 * y) + lf 2 d) (lf 1 (3 * u)) + zap (zgq (lf 1 (3 * u + 1)) (lf 3 (3 * b + 2)) + lf 2 (3 + 2 * y + 1) + 0) (lf 1 (3 * u + 1)) ≤ lf 1 (3 * u + 2) then (0 : Int32) else zblame (zap (lf 1 (3 * u) + lf 2 (3 + 2 * y) + lf 2 d) (lf 1 (3 * u)) + zap (lf 1 (3 * u + 1) + lf 2 (4 + 2 * y)) (lf 1 (3 * u + 1))) (zap (zgq (lf 1 (3 * u)) (lf 3 (3 * b + 2)) + lf 2 (3 + 2 * y) + lf 2 d - lf 2 d) (lf 1 (3 * u)) + zap (zgq (lf 1 (3 * u + 1)) (lf 3 (3 * b + 2)) + lf 2 (3 + 2 * y + 1) + 0) (lf 1 (3 * u + 1))) (zap (zgq (lf 1 (3 * u)) (lf 3 (3 * b + 2)) + lf 2 (3 + 2 * y) + lf 2 d - lf 2 (3 + 2 * y)) (lf 1 (3 * u)) + zap (zgq (lf 1 (3 * u + 1)) (lf 3 (3 * b + 2)) + lf 2 (3 + 2 * y + 1) + 0 - lf 2 (4 + 2 * y)) (lf 1 (3 * u + 1))) + 1))) 5 (upd (upd (lf 5) (5 * (k % 10) + 3) 1) (5 * (k % 10) + 4) (nI b))) 3 (upd (upd (lf 3) (3 * b + 2) (lf 3 (3 * b + 2) - lf 5 (5 * (k % 10) + 2))) (3 * b + 2) (if 0 ≤ lf 3 (3 * b + 2) - lf 5 (5 * (k % 10) + 2) then lf 3 (3 * b + 2) - lf 5 (5 * (k % 10) + 2) else 0))))) args s 0 0 (gA g)) (F0 m 178 ls [.int v15]) := by
    intro v15 h15 ls hl
    refine lv_istore (lv' := [(15, .int v15), (14, .int (zap ((zgq (lf 1 (3 * u)) (lf 3 (3 * b + 2)) + lf 2 (3 + 2 * y) + lf 2 d) - ((lf 2) (3 + 2 * y))) (lf 1 (3 * u)) + zap ((zgq (lf 1 (3 * u + 1)) (lf 3 (3 * b + 2)) + lf 2 (3 + 2 * y + 1) + 0) - ((lf 2) (4 + 2 * y))) (lf 1 (3 * u + 1)))), (13, .int (zap ((zgq (lf 1 (3 * u)) (lf 3 (3 * b + 2)) + lf 2 (3 + 2 * y) + lf 2 d) - ((lf 2) d)) (lf 1 (3 * u)) + zap (zgq (lf 1 (3 * u + 1)) (lf 3 (3 * b + 2)) + lf 2 (3 + 2 * y + 1) + 0) (lf 1 (3 * u + 1)))), (12, .int (zap ((((lf 1) (3 * u)) + ((lf 2) (3 + 2 * y))) + ((lf 2) d)) (lf 1 (3 * u)) + zap (((lf 1) (3 * u + 1)) + ((lf 2) (4 + 2 * y))) (lf 1 (3 * u + 1)))), (11, .int (zgq (lf 1 (3 * u + 1)) (lf 3 (3 * b + 2)) + lf 2 (3 + 2 * y + 1) + 0)), (10, .int (zgq (lf 1 (3 * u)) (lf 3 (3 * b + 2)) + lf 2 (3 + 2 * y) + lf 2 d)), (9, .int (nI u)), (8, .int (nI y)), (0, .ref (la 1)), (1, .ref (la 2)), (2, .ref (la 3)), (3, .ref (la 5)), (4, .ref (la 6)), (5, .int (nI (5 * (k % 10)))), (6, .int (nI k)), (7, .int (nI b))]) C.1 C.2.1 dL_dyes_178 hl (by decide) rfl (fun ls hl => ?_)
    refine lv_aload C.1 C.2.1 dL_dyes_180 (lv_at hl 12 rfl) ?_
    refine lv_iconst (v := 3) C.1 C.2.1 dL_dyes_182 rfl ?_
    refine lv_iload C.1 C.2.1 dL_dyes_183 (lv_at hl 14 rfl) ?_
    refine lv_imul C.1 C.2.1 dL_dyes_185 ?_
    rw [show ((3 : Int32) * (nI k)) = nI (3 * k) from nI_M 3 k]
    refine lv_iload C.1 C.2.1 dL_dyes_186 (lv_at hl 5 rfl) ?_
    refine last (K := 6) (N := 60) (E := 3 * k) (f := (lf 6)) C hE hH hS hX (by decide) rfl rfl rfl (by omega) dL_dyes_188 (fun M1 H locs hX2 hH hS => ?_)
    refine lv_aload C.1 C.2.1 dL_dyes_189 (lv_at hl 12 rfl) ?_
    refine lv_iconst (v := 3) C.1 C.2.1 dL_dyes_191 rfl ?_
    refine lv_iload C.1 C.2.1 dL_dyes_192 (lv_at hl 14 rfl) ?_
    refine lv_imul C.1 C.2.1 dL_dyes_194 ?_
    rw [show ((3 : Int32) * (nI k)) = nI (3 * k) from nI_M 3 k]
    refine lv_iconst (v := 1) C.1 C.2.1 dL_dyes_195 rfl ?_
    refine lv_iadd C.1 C.2.1 dL_dyes_196 ?_
    rw [show ((nI (3 * k)) + 1 : Int32) = nI (3 * k + 1) from nI_add (3 * k) 1]
    refine lv_iload C.1 C.2.1 dL_dyes_197 (lv_at hl 4 rfl) ?_
    refine last (K := 6) (N := 60) (E := 3 * k + 1) (f := (upd (lf 6) (3 * k) (zgq (lf 1 (3 * u)) (lf 3 (3 * b + 2)) + lf 2 (3 + 2 * y) + lf 2 d))) C hE hH hS hX2 (by decide) rfl rfl rfl (by omega) dL_dyes_199 (fun M3 H locs hX4 hH hS => ?_)
    rw [ua_ua] at hX4
    refine lv_aload C.1 C.2.1 dL_dyes_200 (lv_at hl 12 rfl) ?_
    refine lv_iconst (v := 3) C.1 C.2.1 dL_dyes_202 rfl ?_
    refine lv_iload C.1 C.2.1 dL_dyes_203 (lv_at hl 14 rfl) ?_
    refine lv_imul C.1 C.2.1 dL_dyes_205 ?_
    rw [show ((3 : Int32) * (nI k)) = nI (3 * k) from nI_M 3 k]
    refine lv_iconst (v := 2) C.1 C.2.1 dL_dyes_206 rfl ?_
    refine lv_iadd C.1 C.2.1 dL_dyes_207 ?_
    rw [show ((nI (3 * k)) + 2 : Int32) = nI (3 * k + 2) from nI_add (3 * k) 2]
    refine lv_aload_n C.1 C.2.1 dL_dyes_208 rfl (lv_at hl 8 rfl) ?_
    refine lv_iload C.1 C.2.1 dL_dyes_209 (lv_at hl 6 rfl) ?_
    refine lv_iload C.1 C.2.1 dL_dyes_211 (lv_at hl 5 rfl) ?_
    refine lv_iload C.1 C.2.1 dL_dyes_213 (lv_at hl 4 rfl) ?_
    refine rd_go1 (runS C hE hH hS (c_off hX4.1 (hu4) (zgq (lf 1 (3 * u)) (lf 3 (3 * b + 2)) + lf 2 (3 + 2 * y) + lf 2 d) (zgq (lf 1 (3 * u + 1)) (lf 3 (3 * b + 2)) + lf 2 (3 + 2 * y + 1) + 0)) mv_L_off wm_596 hl.1 dL_dyes_215 rfl rfl ⟨rfl, rfl⟩ ⟨Nat.le_of_ble_eq_true rfl, Nat.le_of_ble_eq_true rfl⟩ (Nat.le_of_ble_eq_true rfl) ⟨Nat.le_of_ble_eq_true rfl, Nat.le_of_ble_eq_true rfl⟩) ?_
    refine lv_aload_n C.1 C.2.1 dL_dyes_218 rfl (lv_at hl 8 rfl) ?_
    refine lv_iconst (v := 3) C.1 C.2.1 dL_dyes_219 rfl ?_
    refine lv_iload C.1 C.2.1 dL_dyes_220 (lv_at hl 6 rfl) ?_
    refine lv_imul C.1 C.2.1 dL_dyes_222 ?_
    rw [show ((3 : Int32) * (nI u)) = nI (3 * u) from nI_M 3 u]
    refine lv_iconst (v := 2) C.1 C.2.1 dL_dyes_223 rfl ?_
    refine lv_iadd C.1 C.2.1 dL_dyes_224 ?_
    rw [show ((nI (3 * u)) + 2 : Int32) = nI (3 * u + 2) from nI_add (3 * u) 2]
    refine lald (K := 1) (N := 12) (E := 3 * u + 2) (f := (lf 1)) (v := ((lf 1) (3 * u + 2))) C hE hH hX4 (by decide) rfl rfl rfl (by omega) (rfl) dL_dyes_225 ?_
    refine lv_icmp_le (tgt := 234) C.1 C.2.1 dL_dyes_226 (by decide) (fun c226 => ?_) (fun c226 => ?_)
    · refine lv_iconst (v := 0) C.1 C.2.1 dL_dyes_234 rfl ?_
      refine last (K := 6) (N := 60) (E := 3 * k + 2) (f := (upd (upd (lf 6) (3 * k) (zgq (lf 1 (3 * u)) (lf 3 (3 * b + 2)) + lf 2 (3 + 2 * y) + lf 2 d)) (3 * k + 1) (zgq (lf 1 (3 * u + 1)) (lf 3 (3 * b + 2)) + lf 2 (3 + 2 * y + 1) + 0))) C hE hH hS hX4 (by decide) rfl rfl rfl (by omega) dL_dyes_235 (fun M5 H locs hX6 hH hS => ?_)
      rw [ua_ua] at hX6
      refine lv_aload_n C.1 C.2.1 dL_dyes_236 rfl (lv_at hl 11 rfl) ?_
      refine lv_iload C.1 C.2.1 dL_dyes_237 (lv_at hl 13 rfl) ?_
      refine lv_iconst (v := 3) C.1 C.2.1 dL_dyes_239 rfl ?_
      refine lv_iadd C.1 C.2.1 dL_dyes_240 ?_
      rw [show ((nI (5 * (k % 10))) + 3 : Int32) = nI (5 * (k % 10) + 3) from nI_add (5 * (k % 10)) 3]
      refine lv_iconst (v := 1) C.1 C.2.1 dL_dyes_241 rfl ?_
      refine last (K := 5) (N := 50) (E := 5 * (k % 10) + 3) (f := (lf 5)) C hE hH hS hX6 (by decide) rfl rfl rfl (by omega) dL_dyes_242 (fun M7 H locs hX8 hH hS => ?_)
      refine lv_aload_n C.1 C.2.1 dL_dyes_243 rfl (lv_at hl 11 rfl) ?_
      refine lv_iload C.1 C.2.1 dL_dyes_244 (lv_at hl 13 rfl) ?_
      refine lv_iconst (v := 4) C.1 C.2.1 dL_dyes_246 rfl ?_
      refine lv_iadd C.1 C.2.1 dL_dyes_247 ?_
      rw [show ((nI (5 * (k % 10))) + 4 : Int32) = nI (5 * (k % 10) + 4) from nI_add (5 * (k % 10)) 4]
      refine lv_iload C.1 C.2.1 dL_dyes_248 (lv_at hl 15 rfl) ?_
      refine last (K := 5) (N := 50) (E := 5 * (k % 10) + 4) (f := (upd (lf 5) (5 * (k % 10) + 3) 1)) C hE hH hS hX8 (by decide) rfl rfl rfl (by omega) dL_dyes_250 (fun M9 H locs hX10 hH hS => ?_)
      rw [ua_ua] at hX10
      refine lv_aload_n C.1 C.2.1 dL_dyes_251 rfl (lv_at hl 10 rfl) ?_
      refine lv_iconst (v := 3) C.1 C.2.1 dL_dyes_252 rfl ?_
      refine lv_iload C.1 C.2.1 dL_dyes_253 (lv_at hl 15 rfl) ?_
      refine lv_imul C.1 C.2.1 dL_dyes_255 ?_
      rw [show ((3 : Int32) * (nI b)) = nI (3 * b) from nI_M 3 b]
      refine lv_iconst (v := 2) C.1 C.2.1 dL_dyes_256 rfl ?_
      refine lv_iadd C.1 C.2.1 dL_dyes_257 ?_
      rw [show ((nI (3 * b)) + 2 : Int32) = nI (3 * b + 2) from nI_add (3 * b) 2]
      refine lv_dup2_11 C.1 C.2.1 dL_dyes_258 rfl rfl ?_
      refine lald (K := 3) (N := 15) (E := 3 * b + 2) (f := (lf 3)) (v := ((lf 3) (3 * b + 2))) C hE hH hX10 (by decide) rfl rfl rfl (by omega) (rfl) dL_dyes_259 ?_
      refine lv_aload_n C.1 C.2.1 dL_dyes_260 rfl (lv_at hl 11 rfl) ?_
      refine lv_iload C.1 C.2.1 dL_dyes_261 (lv_at hl 13 rfl) ?_
      refine lv_iconst (v := 2) C.1 C.2.1 dL_dyes_263 rfl ?_
      refine lv_iadd C.1 C.2.1 dL_dyes_264 ?_
      rw [show ((nI (5 * (k % 10))) + 2 : Int32) = nI (5 * (k % 10) + 2) from nI_add (5 * (k % 10)) 2]
      refine lald (K := 5) (N := 50) (E := 5 * (k % 10) + 2) (f := (upd (upd (lf 5) (5 * (k % 10) + 3) 1) (5 * (k % 10) + 4) (nI b))) (v := ((lf 5) (5 * (k % 10) + 2))) C hE hH hX10 (by decide) rfl rfl rfl (by omega) ((upd_n (by omega)).trans (upd_n (by omega))) dL_dyes_265 ?_
      refine lv_isub C.1 C.2.1 dL_dyes_266 ?_
      refine last (K := 3) (N := 15) (E := 3 * b + 2) (f := (lf 3)) C hE hH hS hX10 (by decide) rfl rfl rfl (by omega) dL_dyes_267 (fun M11 H locs hX12 hH hS => ?_)
      refine lv_aload_n C.1 C.2.1 dL_dyes_268 rfl (lv_at hl 10 rfl) ?_
      refine lv_iconst (v := 3) C.1 C.2.1 dL_dyes_269 rfl ?_
      refine lv_iload C.1 C.2.1 dL_dyes_270 (lv_at hl 15 rfl) ?_
      refine lv_imul C.1 C.2.1 dL_dyes_272 ?_
      rw [show ((3 : Int32) * (nI b)) = nI (3 * b) from nI_M 3 b]
      refine lv_iconst (v := 2) C.1 C.2.1 dL_dyes_273 rfl ?_
      refine lv_iadd C.1 C.2.1 dL_dyes_274 ?_
      rw [show ((nI (3 * b)) + 2 : Int32) = nI (3 * b + 2) from nI_add (3 * b) 2]
      refine lv_aload_n C.1 C.2.1 dL_dyes_275 rfl (lv_at hl 10 rfl) ?_
      refine lv_iconst (v := 3) C.1 C.2.1 dL_dyes_276 rfl ?_
      refine lv_iload C.1 C.2.1 dL_dyes_277 (lv_at hl 15 rfl) ?_
      refine lv_imul C.1 C.2.1 dL_dyes_279 ?_
      rw [show ((3 : Int32) * (nI b)) = nI (3 * b) from nI_M 3 b]
      refine lv_iconst (v := 2) C.1 C.2.1 dL_dyes_280 rfl ?_
      refine lv_iadd C.1 C.2.1 dL_dyes_281 ?_
      rw [show ((nI (3 * b)) + 2 : Int32) = nI (3 * b + 2) from nI_add (3 * b) 2]
      refine lald (K := 3) (N := 15) (E := 3 * b + 2) (f := (upd (lf 3) (3 * b + 2) (((lf 3) (3 * b + 2)) - ((lf 5) (5 * (k % 10) + 2))))) (v := (lf 3 (3 * b + 2) - lf 5 (5 * (k % 10) + 2))) C hE hH hX12 (by decide) rfl rfl rfl (by omega) (upd_s) dL_dyes_282 ?_
      refine lv_if_ge (tgt := 290) C.1 C.2.1 dL_dyes_283 (by decide) (fun c283 => ?_) (fun c283 => ?_)
      · refine lv_aload_n C.1 C.2.1 dL_dyes_290 rfl (lv_at hl 10 rfl) ?_
        refine lv_iconst (v := 3) C.1 C.2.1 dL_dyes_291 rfl ?_
        refine lv_iload C.1 C.2.1 dL_dyes_292 (lv_at hl 15 rfl) ?_
        refine lv_imul C.1 C.2.1 dL_dyes_294 ?_
        rw [show ((3 : Int32) * (nI b)) = nI (3 * b) from nI_M 3 b]
        refine lv_iconst (v := 2) C.1 C.2.1 dL_dyes_295 rfl ?_
        refine lv_iadd C.1 C.2.1 dL_dyes_296 ?_
        rw [show ((nI (3 * b)) + 2 : Int32) = nI (3 * b + 2) from nI_add (3 * b) 2]
        refine lald (K := 3) (N := 15) (E := 3 * b + 2) (f := (upd (lf 3) (3 * b + 2) (((lf 3) (3 * b + 2)) - ((lf 5) (5 * (k % 10) + 2))))) (v := (lf 3 (3 * b + 2) - lf 5 (5 * (k % 10) + 2))) C hE hH hX12 (by decide) rfl rfl rfl (by omega) (upd_s) dL_dyes_297 ?_
        refine last (K := 3) (N := 15) (E := 3 * b + 2) (f := (upd (lf 3) (3 * b + 2) (((lf 3) (3 * b + 2)) - ((lf 5) (5 * (k % 10) + 2))))) C hE hH hS hX12 (by decide) rfl rfl rfl (by omega) dL_dyes_298 (fun M13 H locs hX14 hH hS => ?_)
        rw [ua_ua] at hX14
        exact wr_vret () C hr hlocks hH hS rfl ((by rw [if_pos (show zap (zgq (lf 1 (3 * u)) (lf 3 (3 * b + 2)) + lf 2 (3 + 2 * y) + lf 2 d) (lf 1 (3 * u)) + zap (zgq (lf 1 (3 * u + 1)) (lf 3 (3 * b + 2)) + lf 2 (3 + 2 * y + 1) + 0) (lf 1 (3 * u + 1)) ≤ lf 1 (3 * u + 2) from c226), if_pos (show 0 ≤ lf 3 (3 * b + 2) - lf 5 (5 * (k % 10) + 2) from c283)]; exact hX14)) (by decide) (by decide) dL_dyes_299
      · refine lv_iconst (v := 0) C.1 C.2.1 dL_dyes_286 rfl ?_
        refine lv_goto (tgt := 298) C.1 C.2.1 dL_dyes_287 (by decide) ?_
        refine last (K := 3) (N := 15) (E := 3 * b + 2) (f := (upd (lf 3) (3 * b + 2) (((lf 3) (3 * b + 2)) - ((lf 5) (5 * (k % 10) + 2))))) C hE hH hS hX12 (by decide) rfl rfl rfl (by omega) dL_dyes_298 (fun M15 H locs hX16 hH hS => ?_)
        rw [ua_ua] at hX16
        exact wr_vret () C hr hlocks hH hS rfl ((by rw [if_pos (show zap (zgq (lf 1 (3 * u)) (lf 3 (3 * b + 2)) + lf 2 (3 + 2 * y) + lf 2 d) (lf 1 (3 * u)) + zap (zgq (lf 1 (3 * u + 1)) (lf 3 (3 * b + 2)) + lf 2 (3 + 2 * y + 1) + 0) (lf 1 (3 * u + 1)) ≤ lf 1 (3 * u + 2) from c226), if_neg (show ¬ 0 ≤ lf 3 (3 * b + 2) - lf 5 (5 * (k % 10) + 2) from c283)]; exact hX16)) (by decide) (by decide) dL_dyes_299
    · refine lv_iload C.1 C.2.1 dL_dyes_229 (lv_at hl 0 rfl) ?_
      refine lv_goto (tgt := 235) C.1 C.2.1 dL_dyes_231 (by decide) ?_
      refine last (K := 6) (N := 60) (E := 3 * k + 2) (f := (upd (upd (lf 6) (3 * k) (zgq (lf 1 (3 * u)) (lf 3 (3 * b + 2)) + lf 2 (3 + 2 * y) + lf 2 d)) (3 * k + 1) (zgq (lf 1 (3 * u + 1)) (lf 3 (3 * b + 2)) + lf 2 (3 + 2 * y + 1) + 0))) C hE hH hS hX4 (by decide) rfl rfl rfl (by omega) dL_dyes_235 (fun M17 H locs hX18 hH hS => ?_)
      rw [ua_ua] at hX18
      refine lv_aload_n C.1 C.2.1 dL_dyes_236 rfl (lv_at hl 11 rfl) ?_
      refine lv_iload C.1 C.2.1 dL_dyes_237 (lv_at hl 13 rfl) ?_
      refine lv_iconst (v := 3) C.1 C.2.1 dL_dyes_239 rfl ?_
      refine lv_iadd C.1 C.2.1 dL_dyes_240 ?_
      rw [show ((nI (5 * (k % 10))) + 3 : Int32) = nI (5 * (k % 10) + 3) from nI_add (5 * (k % 10)) 3]
      refine lv_iconst (v := 1) C.1 C.2.1 dL_dyes_241 rfl ?_
      refine last (K := 5) (N := 50) (E := 5 * (k % 10) + 3) (f := (lf 5)) C hE hH hS hX18 (by decide) rfl rfl rfl (by omega) dL_dyes_242 (fun M19 H locs hX20 hH hS => ?_)
      refine lv_aload_n C.1 C.2.1 dL_dyes_243 rfl (lv_at hl 11 rfl) ?_
      refine lv_iload C.1 C.2.1 dL_dyes_244 (lv_at hl 13 rfl) ?_
      refine lv_iconst (v := 4) C.1 C.2.1 dL_dyes_246 rfl ?_
      refine lv_iadd C.1 C.2.1 dL_dyes_247 ?_
      rw [show ((nI (5 * (k % 10))) + 4 : Int32) = nI (5 * (k % 10) + 4) from nI_add (5 * (k % 10)) 4]
      refine lv_iload C.1 C.2.1 dL_dyes_248 (lv_at hl 15 rfl) ?_
      refine last (K := 5) (N := 50) (E := 5 * (k % 10) + 4) (f := (upd (lf 5) (5 * (k % 10) + 3) 1)) C hE hH hS hX20 (by decide) rfl rfl rfl (by omega) dL_dyes_250 (fun M21 H locs hX22 hH hS => ?_)
      rw [ua_ua] at hX22
      refine lv_aload_n C.1 C.2.1 dL_dyes_251 rfl (lv_at hl 10 rfl) ?_
      refine lv_iconst (v := 3) C.1 C.2.1 dL_dyes_252 rfl ?_
      refine lv_iload C.1 C.2.1 dL_dyes_253 (lv_at hl 15 rfl) ?_
      refine lv_imul C.1 C.2.1 dL_dyes_255 ?_
      rw [show ((3 : Int32) * (nI b)) = nI (3 * b) from nI_M 3 b]
      refine lv_iconst (v := 2) C.1 C.2.1 dL_dyes_256 rfl ?_
      refine lv_iadd C.1 C.2.1 dL_dyes_257 ?_
      rw [show ((nI (3 * b)) + 2 : Int32) = nI (3 * b + 2) from nI_add (3 * b) 2]
      refine lv_dup2_11 C.1 C.2.1 dL_dyes_258 rfl rfl ?_
      refine lald (K := 3) (N := 15) (E := 3 * b + 2) (f := (lf 3)) (v := ((lf 3) (3 * b + 2))) C hE hH hX22 (by decide) rfl rfl rfl (by omega) (rfl) dL_dyes_259 ?_
      refine lv_aload_n C.1 C.2.1 dL_dyes_260 rfl (lv_at hl 11 rfl) ?_
      refine lv_iload C.1 C.2.1 dL_dyes_261 (lv_at hl 13 rfl) ?_
      refine lv_iconst (v := 2) C.1 C.2.1 dL_dyes_263 rfl ?_
      refine lv_iadd C.1 C.2.1 dL_dyes_264 ?_
      rw [show ((nI (5 * (k % 10))) + 2 : Int32) = nI (5 * (k % 10) + 2) from nI_add (5 * (k % 10)) 2]
      refine lald (K := 5) (N := 50) (E := 5 * (k % 10) + 2) (f := (upd (upd (lf 5) (5 * (k % 10) + 3) 1) (5 * (k % 10) + 4) (nI b))) (v := ((lf 5) (5 * (k % 10) + 2))) C hE hH hX22 (by decide) rfl rfl rfl (by omega) ((upd_n (by omega)).trans (upd_n (by omega))) dL_dyes_265 ?_
      refine lv_isub C.1 C.2.1 dL_dyes_266 ?_
      refine last (K := 3) (N := 15) (E := 3 * b + 2) (f := (lf 3)) C hE hH hS hX22 (by decide) rfl rfl rfl (by omega) dL_dyes_267 (fun M23 H locs hX24 hH hS => ?_)
      refine lv_aload_n C.1 C.2.1 dL_dyes_268 rfl (lv_at hl 10 rfl) ?_
      refine lv_iconst (v := 3) C.1 C.2.1 dL_dyes_269 rfl ?_
      refine lv_iload C.1 C.2.1 dL_dyes_270 (lv_at hl 15 rfl) ?_
      refine lv_imul C.1 C.2.1 dL_dyes_272 ?_
      rw [show ((3 : Int32) * (nI b)) = nI (3 * b) from nI_M 3 b]
      refine lv_iconst (v := 2) C.1 C.2.1 dL_dyes_273 rfl ?_
      refine lv_iadd C.1 C.2.1 dL_dyes_274 ?_
      rw [show ((nI (3 * b)) + 2 : Int32) = nI (3 * b + 2) from nI_add (3 * b) 2]
      refine lv_aload_n C.1 C.2.1 dL_dyes_275 rfl (lv_at hl 10 rfl) ?_
      refine lv_iconst (v := 3) C.1 C.2.1 dL_dyes_276 rfl ?_
      refine lv_iload C.1 C.2.1 dL_dyes_277 (lv_at hl 15 rfl) ?_
      refine lv_imul C.1 C.2.1 dL_dyes_279 ?_
      rw [show ((3 : Int32) * (nI b)) = nI (3 * b) from nI_M 3 b]
      refine lv_iconst (v := 2) C.1 C.2.1 dL_dyes_280 rfl ?_
      refine lv_iadd C.1 C.2.1 dL_dyes_281 ?_
      rw [show ((nI (3 * b)) + 2 : Int32) = nI (3 * b + 2) from nI_add (3 * b) 2]
      refine lald (K := 3) (N := 15) (E := 3 * b + 2) (f := (upd (lf 3) (3 * b + 2) (((lf 3) (3 * b + 2)) - ((lf 5) (5 * (k % 10) + 2))))) (v := (lf 3 (3 * b + 2) - lf 5 (5 * (k % 10) + 2))) C hE hH hX24 (by decide) rfl rfl rfl (by omega) (upd_s) dL_dyes_282 ?_
      refine lv_if_ge (tgt := 290) C.1 C.2.1 dL_dyes_283 (by decide) (fun c283 => ?_) (fun c283 => ?_)
      · refine lv_aload_n C.1 C.2.1 dL_dyes_290 rfl (lv_at hl 10 rfl) ?_
        refine lv_iconst (v := 3) C.1 C.2.1 dL_dyes_291 rfl ?_
        refine lv_iload C.1 C.2.1 dL_dyes_292 (lv_at hl 15 rfl) ?_
        refine lv_imul C.1 C.2.1 dL_dyes_294 ?_
        rw [show ((3 : Int32) * (nI b)) = nI (3 * b) from nI_M 3 b]
        refine lv_iconst (v := 2) C.1 C.2.1 dL_dyes_295 rfl ?_
        refine lv_iadd C.1 C.2.1 dL_dyes_296 ?_
        rw [show ((nI (3 * b)) + 2 : Int32) = nI (3 * b + 2) from nI_add (3 * b) 2]
        refine lald (K := 3) (N := 15) (E := 3 * b + 2) (f := (upd (lf 3) (3 * b + 2) (((lf 3) (3 * b + 2)) - ((lf 5) (5 * (k % 10) + 2))))) (v := (lf 3 (3 * b + 2) - lf 5 (5 * (k % 10) + 2))) C hE hH hX24 (by decide) rfl rfl rfl (by omega) (upd_s) dL_dyes_297 ?_
        refine last (K := 3) (N := 15) (E := 3 * b + 2) (f := (upd (lf 3) (3 * b + 2) (((lf 3) (3 * b + 2)) - ((lf 5) (5 * (k % 10) + 2))))) C hE hH hS hX24 (by decide) rfl rfl rfl (by omega) dL_dyes_298 (fun M25 H locs hX26 hH hS => ?_)
        rw [ua_ua] at hX26
        exact wr_vret () C hr hlocks hH hS rfl ((by rw [if_neg (show ¬ zap (zgq (lf 1 (3 * u)) (lf 3 (3 * b + 2)) + lf 2 (3 + 2 * y) + lf 2 d) (lf 1 (3 * u)) + zap (zgq (lf 1 (3 * u + 1)) (lf 3 (3 * b + 2)) + lf 2 (3 + 2 * y + 1) + 0) (lf 1 (3 * u + 1)) ≤ lf 1 (3 * u + 2) from c226), ← h15, if_pos (show 0 ≤ lf 3 (3 * b + 2) - lf 5 (5 * (k % 10) + 2) from c283)]; exact hX26)) (by decide) (by decide) dL_dyes_299
      · refine lv_iconst (v := 0) C.1 C.2.1 dL_dyes_286 rfl ?_
        refine lv_goto (tgt := 298) C.1 C.2.1 dL_dyes_287 (by decide) ?_
        refine last (K := 3) (N := 15) (E := 3 * b + 2) (f := (upd (lf 3) (3 * b + 2) (((lf 3) (3 * b + 2)) - ((lf 5) (5 * (k % 10) + 2))))) C hE hH hS hX24 (by decide) rfl rfl rfl (by omega) dL_dyes_298 (fun M27 H locs hX28 hH hS => ?_)
        rw [ua_ua] at hX28
        exact wr_vret () C hr hlocks hH hS rfl ((by rw [if_neg (show ¬ zap (zgq (lf 1 (3 * u)) (lf 3 (3 * b + 2)) + lf 2 (3 + 2 * y) + lf 2 d) (lf 1 (3 * u)) + zap (zgq (lf 1 (3 * u + 1)) (lf 3 (3 * b + 2)) + lf 2 (3 + 2 * y + 1) + 0) (lf 1 (3 * u + 1)) ≤ lf 1 (3 * u + 2) from c226), ← h15, if_neg (show ¬ 0 ≤ lf 3 (3 * b + 2) - lf 5 (5 * (k % 10) + 2) from c283)]; exact hX28)) (by decide) (by decide) dL_dyes_299
  refine lv_iconst (v := 3) C.1 C.2.1 dL_dyes_140 rfl ?_
  refine lv_istore (lv' := [(15, .int 3), (14, .int (zap ((zgq (lf 1 (3 * u)) (lf 3 (3 * b + 2)) + lf 2 (3 + 2 * y) + lf 2 d) - ((lf 2) (3 + 2 * y))) (lf 1 (3 * u)) + zap ((zgq (lf 1 (3 * u + 1)) (lf 3 (3 * b + 2)) + lf 2 (3 + 2 * y + 1) + 0) - ((lf 2) (4 + 2 * y))) (lf 1 (3 * u + 1)))), (13, .int (zap ((zgq (lf 1 (3 * u)) (lf 3 (3 * b + 2)) + lf 2 (3 + 2 * y) + lf 2 d) - ((lf 2) d)) (lf 1 (3 * u)) + zap (zgq (lf 1 (3 * u + 1)) (lf 3 (3 * b + 2)) + lf 2 (3 + 2 * y + 1) + 0) (lf 1 (3 * u + 1)))), (12, .int (zap ((((lf 1) (3 * u)) + ((lf 2) (3 + 2 * y))) + ((lf 2) d)) (lf 1 (3 * u)) + zap (((lf 1) (3 * u + 1)) + ((lf 2) (4 + 2 * y))) (lf 1 (3 * u + 1)))), (11, .int (zgq (lf 1 (3 * u + 1)) (lf 3 (3 * b + 2)) + lf 2 (3 + 2 * y + 1) + 0)), (10, .int (zgq (lf 1 (3 * u)) (lf 3 (3 * b + 2)) + lf 2 (3 + 2 * y) + lf 2 d)), (9, .int (nI u)), (8, .int (nI y)), (0, .ref (la 1)), (1, .ref (la 2)), (2, .ref (la 3)), (3, .ref (la 5)), (4, .ref (la 6)), (5, .int (nI (5 * (k % 10)))), (6, .int (nI k)), (7, .int (nI b))]) C.1 C.2.1 dL_dyes_141 hl (by decide) rfl (fun ls hl => ?_)
  refine lv_iload C.1 C.2.1 dL_dyes_143 (lv_at hl 2 rfl) ?_
  refine lv_iload C.1 C.2.1 dL_dyes_145 (lv_at hl 1 rfl) ?_
  refine lv_icmp_gt (tgt := 154) C.1 C.2.1 dL_dyes_147 (by decide) (fun c147 => ?_) (fun c147 => ?_)
  · refine lv_iload C.1 C.2.1 dL_dyes_154 (lv_at hl 0 rfl) ?_
    refine lv_istore (lv' := [(15, .int 3), (14, .int (zap ((zgq (lf 1 (3 * u)) (lf 3 (3 * b + 2)) + lf 2 (3 + 2 * y) + lf 2 d) - ((lf 2) (3 + 2 * y))) (lf 1 (3 * u)) + zap ((zgq (lf 1 (3 * u + 1)) (lf 3 (3 * b + 2)) + lf 2 (3 + 2 * y + 1) + 0) - ((lf 2) (4 + 2 * y))) (lf 1 (3 * u + 1)))), (13, .int (zap ((zgq (lf 1 (3 * u)) (lf 3 (3 * b + 2)) + lf 2 (3 + 2 * y) + lf 2 d) - ((lf 2) d)) (lf 1 (3 * u)) + zap (zgq (lf 1 (3 * u + 1)) (lf 3 (3 * b + 2)) + lf 2 (3 + 2 * y + 1) + 0) (lf 1 (3 * u + 1)))), (12, .int (zap ((((lf 1) (3 * u)) + ((lf 2) (3 + 2 * y))) + ((lf 2) d)) (lf 1 (3 * u)) + zap (((lf 1) (3 * u + 1)) + ((lf 2) (4 + 2 * y))) (lf 1 (3 * u + 1)))), (11, .int (zgq (lf 1 (3 * u + 1)) (lf 3 (3 * b + 2)) + lf 2 (3 + 2 * y + 1) + 0)), (10, .int (zgq (lf 1 (3 * u)) (lf 3 (3 * b + 2)) + lf 2 (3 + 2 * y) + lf 2 d)), (9, .int (nI u)), (8, .int (nI y)), (0, .ref (la 1)), (1, .ref (la 2)), (2, .ref (la 3)), (3, .ref (la 5)), (4, .ref (la 6)), (5, .int (nI (5 * (k % 10)))), (6, .int (nI k)), (7, .int (nI b))]) C.1 C.2.1 dL_dyes_156 hl (by decide) rfl (fun ls hl => ?_)
    refine lv_iload C.1 C.2.1 dL_dyes_158 (lv_at hl 3 rfl) ?_
    refine lv_iload C.1 C.2.1 dL_dyes_160 (lv_at hl 2 rfl) ?_
    refine lv_icmp_gt (tgt := 176) C.1 C.2.1 dL_dyes_162 (by decide) (fun c162 => ?_) (fun c162 => ?_)
    · refine lv_iload C.1 C.2.1 dL_dyes_176 (lv_at hl 0 rfl) ?_
      exact J178 3 (zbm_3 (Or.inl c162) c147) ls (lv_sub hl [1, 2, 3, 4, 5, 6, 7, 8, 9, 10, 11, 12, 13, 14, 15] rfl)
    · refine lv_iload C.1 C.2.1 dL_dyes_165 (lv_at hl 3 rfl) ?_
      refine lv_iload C.1 C.2.1 dL_dyes_167 (lv_at hl 1 rfl) ?_
      refine lv_icmp_gt (tgt := 176) C.1 C.2.1 dL_dyes_169 (by decide) (fun c169 => ?_) (fun c169 => ?_)
      · refine lv_iload C.1 C.2.1 dL_dyes_176 (lv_at hl 0 rfl) ?_
        exact J178 3 (zbm_3 (Or.inr c169) c147) ls (lv_sub hl [1, 2, 3, 4, 5, 6, 7, 8, 9, 10, 11, 12, 13, 14, 15] rfl)
      · refine lv_iconst (v := 1) C.1 C.2.1 dL_dyes_172 rfl ?_
        refine lv_goto (tgt := 178) C.1 C.2.1 dL_dyes_173 (by decide) ?_
        exact J178 1 (zbm_1 c162 c169) ls (lv_sub hl [1, 2, 3, 4, 5, 6, 7, 8, 9, 10, 11, 12, 13, 14, 15] rfl)
  · refine lv_iconst (v := 2) C.1 C.2.1 dL_dyes_150 rfl ?_
    refine lv_goto (tgt := 156) C.1 C.2.1 dL_dyes_151 (by decide) ?_
    refine lv_istore (lv' := [(15, .int 2), (14, .int (zap ((zgq (lf 1 (3 * u)) (lf 3 (3 * b + 2)) + lf 2 (3 + 2 * y) + lf 2 d) - ((lf 2) (3 + 2 * y))) (lf 1 (3 * u)) + zap ((zgq (lf 1 (3 * u + 1)) (lf 3 (3 * b + 2)) + lf 2 (3 + 2 * y + 1) + 0) - ((lf 2) (4 + 2 * y))) (lf 1 (3 * u + 1)))), (13, .int (zap ((zgq (lf 1 (3 * u)) (lf 3 (3 * b + 2)) + lf 2 (3 + 2 * y) + lf 2 d) - ((lf 2) d)) (lf 1 (3 * u)) + zap (zgq (lf 1 (3 * u + 1)) (lf 3 (3 * b + 2)) + lf 2 (3 + 2 * y + 1) + 0) (lf 1 (3 * u + 1)))), (12, .int (zap ((((lf 1) (3 * u)) + ((lf 2) (3 + 2 * y))) + ((lf 2) d)) (lf 1 (3 * u)) + zap (((lf 1) (3 * u + 1)) + ((lf 2) (4 + 2 * y))) (lf 1 (3 * u + 1)))), (11, .int (zgq (lf 1 (3 * u + 1)) (lf 3 (3 * b + 2)) + lf 2 (3 + 2 * y + 1) + 0)), (10, .int (zgq (lf 1 (3 * u)) (lf 3 (3 * b + 2)) + lf 2 (3 + 2 * y) + lf 2 d)), (9, .int (nI u)), (8, .int (nI y)), (0, .ref (la 1)), (1, .ref (la 2)), (2, .ref (la 3)), (3, .ref (la 5)), (4, .ref (la 6)), (5, .int (nI (5 * (k % 10)))), (6, .int (nI k)), (7, .int (nI b))]) C.1 C.2.1 dL_dyes_156 hl (by decide) rfl (fun ls hl => ?_)
    refine lv_iload C.1 C.2.1 dL_dyes_158 (lv_at hl 3 rfl) ?_
    refine lv_iload C.1 C.2.1 dL_dyes_160 (lv_at hl 2 rfl) ?_
    refine lv_icmp_gt (tgt := 176) C.1 C.2.1 dL_dyes_162 (by decide) (fun c162 => ?_) (fun c162 => ?_)
    · refine lv_iload C.1 C.2.1 dL_dyes_176 (lv_at hl 0 rfl) ?_
      exact J178 2 (zbm_2 (Or.inl c162) c147) ls (lv_sub hl [1, 2, 3, 4, 5, 6, 7, 8, 9, 10, 11, 12, 13, 14, 15] rfl)
    · refine lv_iload C.1 C.2.1 dL_dyes_165 (lv_at hl 3 rfl) ?_
      refine lv_iload C.1 C.2.1 dL_dyes_167 (lv_at hl 1 rfl) ?_
      refine lv_icmp_gt (tgt := 176) C.1 C.2.1 dL_dyes_169 (by decide) (fun c169 => ?_) (fun c169 => ?_)
      · refine lv_iload C.1 C.2.1 dL_dyes_176 (lv_at hl 0 rfl) ?_
        exact J178 2 (zbm_2 (Or.inr c169) c147) ls (lv_sub hl [1, 2, 3, 4, 5, 6, 7, 8, 9, 10, 11, 12, 13, 14, 15] rfl)
      · refine lv_iconst (v := 1) C.1 C.2.1 dL_dyes_172 rfl ?_
        refine lv_goto (tgt := 178) C.1 C.2.1 dL_dyes_173 (by decide) ?_
        exact J178 1 (zbm_1 c162 c169) ls (lv_sub hl [1, 2, 3, 4, 5, 6, 7, 8, 9, 10, 11, 12, 13, 14, 15] rfl)
