/-! THE LAW'S SMALL METHODS -/
set_option maxHeartbeats 4000000 in
set_option maxRecDepth 100000 in
theorem c_some {l : Launch} {g : gG} {M : Mp} {n : Int32} {N : Nat} (hn : n = nI N) (h0 : 0 < N) (h1 : N < 2 ^ 31) (v : Int32) : Met l yL_some (WY yL_some cL_some 2 (some .int)) { frames := 0, cells := 0, slots := 0, locals := 0 } (Wc g M [.int v, .int n]) (rdQ (some (.int (zsm v n)))) 0 0 fr0 := by
  refine ofM (by decide +kernel) (Nat.le_of_ble_eq_true rfl) (fun p e s m args below meth c ls C hr hlocks hin hE hH hl ea => ?_)
  have hl : lv_has ls 2 [(0, .int v), (1, .int n)] := hl
  have hS : va_S (gA g) s.heap s.heap [] := va_S.rf
  refine lv_iload_n C.1 C.2.1 dL_some_0 rfl (lv_at hl 0 rfl) ?_
  refine lv_iconst (v := 2) C.1 C.2.1 dL_some_1 rfl ?_
  refine lv_iushr C.1 C.2.1 dL_some_2 rfl ?_
  refine lv_iload_n C.1 C.2.1 dL_some_3 rfl (lv_at hl 1 rfl) ?_
  refine lv_irem C.1 C.2.1 dL_some_4 (nI_n0 hn h0 h1) ?_
  exact rd_iret C hr hlocks (rfl) dL_some_5
set_option maxHeartbeats 4000000 in
set_option maxRecDepth 100000 in
theorem c_apart {l : Launch} {g : gG} {M : Mp}  (a1 b1 : Int32) : Met l yL_apart (WY yL_apart cL_apart 2 (some .int)) { frames := 0, cells := 0, slots := 0, locals := 0 } (Wc g M [.int a1, .int b1]) (rdQ (some (.int (zap a1 b1)))) 0 0 fr0 := by
  refine ofM (by decide +kernel) (Nat.le_of_ble_eq_true rfl) (fun p e s m args below meth c ls C hr hlocks hin hE hH hl ea => ?_)
  have hl : lv_has ls 2 [(0, .int a1), (1, .int b1)] := hl
  have hS : va_S (gA g) s.heap s.heap [] := va_S.rf
  refine lv_iload_n C.1 C.2.1 dL_apart_0 rfl (lv_at hl 0 rfl) ?_
  refine lv_iload_n C.1 C.2.1 dL_apart_1 rfl (lv_at hl 1 rfl) ?_
  refine lv_icmp_ge (tgt := 11) C.1 C.2.1 dL_apart_2 (by decide) (fun c2 => ?_) (fun c2 => ?_)
  · refine lv_iload_n C.1 C.2.1 dL_apart_11 rfl (lv_at hl 0 rfl) ?_
    refine lv_iload_n C.1 C.2.1 dL_apart_12 rfl (lv_at hl 1 rfl) ?_
    refine lv_isub C.1 C.2.1 dL_apart_13 ?_
    exact rd_iret C hr hlocks ((if_pos c2).symm) dL_apart_14
  · refine lv_iload_n C.1 C.2.1 dL_apart_5 rfl (lv_at hl 1 rfl) ?_
    refine lv_iload_n C.1 C.2.1 dL_apart_6 rfl (lv_at hl 0 rfl) ?_
    refine lv_isub C.1 C.2.1 dL_apart_7 ?_
    refine lv_goto (tgt := 14) C.1 C.2.1 dL_apart_8 (by decide) ?_
    exact rd_iret C hr hlocks ((if_neg c2).symm) dL_apart_14
set_option maxHeartbeats 4000000 in
set_option maxRecDepth 100000 in
theorem c_off {l : Launch} {g : gG} {M : Mp} {la : Nat → Nat} {lf : Nat → Nat → Int32} {u : Nat} (hL : LI g M la lf) (hu : u < 4) (a1 b1 : Int32) : Met l yL_off (WY yL_off cL_off 4 (some .int)) { frames := 1, cells := 0, slots := 0, locals := 21 } (Wc g M [.ref (la 1), .int (nI u), .int a1, .int b1]) (rdQ (some (.int (zap a1 (lf 1 (3 * u)) + zap b1 (lf 1 (3 * u + 1)))))) 0 0 fr0 := by
  refine ofM (by decide +kernel) (Nat.le_of_ble_eq_true rfl) (fun p e s m args below meth c ls C hr hlocks hin hE hH hl ea => ?_)
  have hl : lv_has ls 4 [(0, .ref (la 1)), (1, .int (nI u)), (2, .int a1), (3, .int b1)] := hl
  have hS : va_S (gA g) s.heap s.heap [] := va_S.rf
  have hX := LX_rf hL
  refine lv_iload_n C.1 C.2.1 dL_off_0 rfl (lv_at hl 2 rfl) ?_
  refine lv_aload_n C.1 C.2.1 dL_off_1 rfl (lv_at hl 0 rfl) ?_
  refine lv_iconst (v := 3) C.1 C.2.1 dL_off_2 rfl ?_
  refine lv_iload_n C.1 C.2.1 dL_off_3 rfl (lv_at hl 1 rfl) ?_
  refine lv_imul C.1 C.2.1 dL_off_4 ?_
  rw [show ((3 : Int32) * (nI u)) = nI (3 * u) from nI_M 3 u]
  refine lald (K := 1) (N := 12) (E := 3 * u) (f := (lf 1)) (v := ((lf 1) (3 * u))) C hE hH hX (by decide) rfl rfl rfl (by omega) (rfl) dL_off_5 ?_
  refine rd_go1 (runS C hE hH hS (c_apart a1 ((lf 1) (3 * u))) mv_L_apart wm_599 hl.1 dL_off_6 rfl rfl ⟨rfl, rfl⟩ ⟨Nat.le_of_ble_eq_true rfl, Nat.le_of_ble_eq_true rfl⟩ (Nat.le_of_ble_eq_true rfl) ⟨Nat.le_of_ble_eq_true rfl, Nat.le_of_ble_eq_true rfl⟩) ?_
  refine lv_iload_n C.1 C.2.1 dL_off_9 rfl (lv_at hl 3 rfl) ?_
  refine lv_aload_n C.1 C.2.1 dL_off_10 rfl (lv_at hl 0 rfl) ?_
  refine lv_iconst (v := 3) C.1 C.2.1 dL_off_11 rfl ?_
  refine lv_iload_n C.1 C.2.1 dL_off_12 rfl (lv_at hl 1 rfl) ?_
  refine lv_imul C.1 C.2.1 dL_off_13 ?_
  rw [show ((3 : Int32) * (nI u)) = nI (3 * u) from nI_M 3 u]
  refine lv_iconst (v := 1) C.1 C.2.1 dL_off_14 rfl ?_
  refine lv_iadd C.1 C.2.1 dL_off_15 ?_
  rw [show ((nI (3 * u)) + 1 : Int32) = nI (3 * u + 1) from nI_add (3 * u) 1]
  refine lald (K := 1) (N := 12) (E := 3 * u + 1) (f := (lf 1)) (v := ((lf 1) (3 * u + 1))) C hE hH hX (by decide) rfl rfl rfl (by omega) (rfl) dL_off_16 ?_
  refine rd_go1 (runS C hE hH hS (c_apart b1 ((lf 1) (3 * u + 1))) mv_L_apart wm_599 hl.1 dL_off_17 rfl rfl ⟨rfl, rfl⟩ ⟨Nat.le_of_ble_eq_true rfl, Nat.le_of_ble_eq_true rfl⟩ (Nat.le_of_ble_eq_true rfl) ⟨Nat.le_of_ble_eq_true rfl, Nat.le_of_ble_eq_true rfl⟩) ?_
  refine lv_iadd C.1 C.2.1 dL_off_20 ?_
  exact rd_iret C hr hlocks (rfl) dL_off_21
set_option maxHeartbeats 4000000 in
set_option maxRecDepth 100000 in
theorem c_given0 {l : Launch} {g : gG} {M : Mp} {la : Nat → Nat} {lf : Nat → Nat → Int32} {b y u d : Nat} (hL : LI g M la lf) (hb : b < 5) (hy : y < 4) (he4 : u < 4) (he : lf 3 (3 * b + 1) = nI u) (hd3 : d < 3) (hd : lf 3 (3 * b) = nI d) : Met l yL_given (WY yL_given cL_given 7 (some .int)) { frames := 0, cells := 0, slots := 0, locals := 0 } (Wc g M [.ref (la 1), .ref (la 2), .ref (la 3), .int (nI b), .int (nI y), .int 0]) (rdQ (some (.int (zgq (lf 1 (3 * u)) (lf 3 (3 * b + 2)) + lf 2 (3 + 2 * y) + lf 2 d)))) 0 0 fr0 := by
  refine ofM (by decide +kernel) (Nat.le_of_ble_eq_true rfl) (fun p e s m args below meth c ls C hr hlocks hin hE hH hl ea => ?_)
  have hl : lv_has ls 7 [(0, .ref (la 1)), (1, .ref (la 2)), (2, .ref (la 3)), (3, .int (nI b)), (4, .int (nI y)), (5, .int 0)] := hl
  have hS : va_S (gA g) s.heap s.heap [] := va_S.rf
  have hX := LX_rf hL
  refine lv_aload_n C.1 C.2.1 dL_given_0 rfl (lv_at hl 0 rfl) ?_
  refine lv_iconst (v := 3) C.1 C.2.1 dL_given_1 rfl ?_
  refine lv_aload_n C.1 C.2.1 dL_given_2 rfl (lv_at hl 2 rfl) ?_
  refine lv_iconst (v := 3) C.1 C.2.1 dL_given_3 rfl ?_
  refine lv_iload_n C.1 C.2.1 dL_given_4 rfl (lv_at hl 3 rfl) ?_
  refine lv_imul C.1 C.2.1 dL_given_5 ?_
  rw [show ((3 : Int32) * (nI b)) = nI (3 * b) from nI_M 3 b]
  refine lv_iconst (v := 1) C.1 C.2.1 dL_given_6 rfl ?_
  refine lv_iadd C.1 C.2.1 dL_given_7 ?_
  rw [show ((nI (3 * b)) + 1 : Int32) = nI (3 * b + 1) from nI_add (3 * b) 1]
  refine lald (K := 3) (N := 15) (E := 3 * b + 1) (f := (lf 3)) (v := (nI u)) C hE hH hX (by decide) rfl rfl rfl (by omega) (he) dL_given_8 ?_
  refine lv_imul C.1 C.2.1 dL_given_9 ?_
  rw [show ((3 : Int32) * (nI u)) = nI (3 * u) from nI_M 3 u]
  refine lv_iload C.1 C.2.1 dL_given_10 (lv_at hl 5 rfl) ?_
  refine lv_iadd C.1 C.2.1 dL_given_12 ?_
  rw [show ((nI (3 * u)) + 0 : Int32) = nI (3 * u + 0) from nI_add (3 * u) 0]
  refine lald (K := 1) (N := 12) (E := 3 * u + 0) (f := (lf 1)) (v := ((lf 1) (3 * u + 0))) C hE hH hX (by decide) rfl rfl rfl (by omega) (rfl) dL_given_13 ?_
  refine lv_aload_n C.1 C.2.1 dL_given_14 rfl (lv_at hl 2 rfl) ?_
  refine lv_iconst (v := 3) C.1 C.2.1 dL_given_15 rfl ?_
  refine lv_iload_n C.1 C.2.1 dL_given_16 rfl (lv_at hl 3 rfl) ?_
  refine lv_imul C.1 C.2.1 dL_given_17 ?_
  rw [show ((3 : Int32) * (nI b)) = nI (3 * b) from nI_M 3 b]
  refine lv_iconst (v := 2) C.1 C.2.1 dL_given_18 rfl ?_
  refine lv_iadd C.1 C.2.1 dL_given_19 ?_
  rw [show ((nI (3 * b)) + 2 : Int32) = nI (3 * b + 2) from nI_add (3 * b) 2]
  refine lald (K := 3) (N := 15) (E := 3 * b + 2) (f := (lf 3)) (v := ((lf 3) (3 * b + 2))) C hE hH hX (by decide) rfl rfl rfl (by omega) (rfl) dL_given_20 ?_
  refine lv_imul C.1 C.2.1 dL_given_21 ?_
  refine lv_istore (lv' := [(6, .int (((lf 1) (3 * u + 0)) * ((lf 3) (3 * b + 2)))), (0, .ref (la 1)), (1, .ref (la 2)), (2, .ref (la 3)), (3, .int (nI b)), (4, .int (nI y)), (5, .int 0)]) C.1 C.2.1 dL_given_22 hl (by decide) rfl (fun ls hl => ?_)
  refine lv_iload C.1 C.2.1 dL_given_24 (lv_at hl 0 rfl) ?_
  refine lv_iload C.1 C.2.1 dL_given_26 (lv_at hl 0 rfl) ?_
  refine lv_bipush (v := 100) C.1 C.2.1 dL_given_28 rfl ?_
  refine lv_irem C.1 C.2.1 dL_given_30 (by decide) ?_
  refine lv_isub C.1 C.2.1 dL_given_31 ?_
  refine lv_bipush (v := 100) C.1 C.2.1 dL_given_32 rfl ?_
  refine lv_idiv C.1 C.2.1 dL_given_34 (by decide) ?_
  refine lv_aload_n C.1 C.2.1 dL_given_35 rfl (lv_at hl 2 rfl) ?_
  refine lv_iconst (v := 3) C.1 C.2.1 dL_given_36 rfl ?_
  refine lv_iconst (v := 2) C.1 C.2.1 dL_given_37 rfl ?_
  refine lv_iload C.1 C.2.1 dL_given_38 (lv_at hl 5 rfl) ?_
  refine lv_imul C.1 C.2.1 dL_given_40 ?_
  rw [show ((2 : Int32) * (nI y)) = nI (2 * y) from nI_M 2 y]
  refine lv_iadd C.1 C.2.1 dL_given_41 ?_
  rw [show ((3 : Int32) + (nI (2 * y))) = nI (3 + 2 * y) from nI_add 3 (2 * y)]
  refine lv_iload C.1 C.2.1 dL_given_42 (lv_at hl 6 rfl) ?_
  refine lv_iadd C.1 C.2.1 dL_given_44 ?_
  rw [show ((nI (3 + 2 * y)) + 0 : Int32) = nI (3 + 2 * y + 0) from nI_add (3 + 2 * y) 0]
  refine lald (K := 2) (N := 11) (E := 3 + 2 * y + 0) (f := (lf 2)) (v := ((lf 2) (3 + 2 * y + 0))) C hE hH hX (by decide) rfl rfl rfl (by omega) (rfl) dL_given_45 ?_
  refine lv_iadd C.1 C.2.1 dL_given_46 ?_
  refine lv_iload C.1 C.2.1 dL_given_47 (lv_at hl 6 rfl) ?_
  refine lv_if_ne (tgt := 62) C.1 C.2.1 dL_given_49 (by decide) (fun c49 => ?_) (fun c49 => ?_)
  · exact absurd c49 (by decide)
  · refine lv_aload_n C.1 C.2.1 dL_given_52 rfl (lv_at hl 2 rfl) ?_
    refine lv_aload_n C.1 C.2.1 dL_given_53 rfl (lv_at hl 3 rfl) ?_
    refine lv_iconst (v := 3) C.1 C.2.1 dL_given_54 rfl ?_
    refine lv_iload_n C.1 C.2.1 dL_given_55 rfl (lv_at hl 4 rfl) ?_
    refine lv_imul C.1 C.2.1 dL_given_56 ?_
    rw [show ((3 : Int32) * (nI b)) = nI (3 * b) from nI_M 3 b]
    refine lald (K := 3) (N := 15) (E := 3 * b) (f := (lf 3)) (v := (nI d)) C hE hH hX (by decide) rfl rfl rfl (by omega) (hd) dL_given_57 ?_
    refine lald (K := 2) (N := 11) (E := d) (f := (lf 2)) (v := ((lf 2) d)) C hE hH hX (by decide) rfl rfl rfl (by omega) (rfl) dL_given_58 ?_
    refine lv_goto (tgt := 63) C.1 C.2.1 dL_given_59 (by decide) ?_
    refine lv_iadd C.1 C.2.1 dL_given_63 ?_
    exact rd_iret C hr hlocks (rfl) dL_given_64
set_option maxHeartbeats 4000000 in
set_option maxRecDepth 100000 in
theorem c_given1 {l : Launch} {g : gG} {M : Mp} {la : Nat → Nat} {lf : Nat → Nat → Int32} {b y u : Nat} (hL : LI g M la lf) (hb : b < 5) (hy : y < 4) (he4 : u < 4) (he : lf 3 (3 * b + 1) = nI u) : Met l yL_given (WY yL_given cL_given 7 (some .int)) { frames := 0, cells := 0, slots := 0, locals := 0 } (Wc g M [.ref (la 1), .ref (la 2), .ref (la 3), .int (nI b), .int (nI y), .int 1]) (rdQ (some (.int (zgq (lf 1 (3 * u + 1)) (lf 3 (3 * b + 2)) + lf 2 (3 + 2 * y + 1) + 0)))) 0 0 fr0 := by
  refine ofM (by decide +kernel) (Nat.le_of_ble_eq_true rfl) (fun p e s m args below meth c ls C hr hlocks hin hE hH hl ea => ?_)
  have hl : lv_has ls 7 [(0, .ref (la 1)), (1, .ref (la 2)), (2, .ref (la 3)), (3, .int (nI b)), (4, .int (nI y)), (5, .int 1)] := hl
  have hS : va_S (gA g) s.heap s.heap [] := va_S.rf
  have hX := LX_rf hL
  refine lv_aload_n C.1 C.2.1 dL_given_0 rfl (lv_at hl 0 rfl) ?_
  refine lv_iconst (v := 3) C.1 C.2.1 dL_given_1 rfl ?_
  refine lv_aload_n C.1 C.2.1 dL_given_2 rfl (lv_at hl 2 rfl) ?_
  refine lv_iconst (v := 3) C.1 C.2.1 dL_given_3 rfl ?_
  refine lv_iload_n C.1 C.2.1 dL_given_4 rfl (lv_at hl 3 rfl) ?_
  refine lv_imul C.1 C.2.1 dL_given_5 ?_
  rw [show ((3 : Int32) * (nI b)) = nI (3 * b) from nI_M 3 b]
  refine lv_iconst (v := 1) C.1 C.2.1 dL_given_6 rfl ?_
  refine lv_iadd C.1 C.2.1 dL_given_7 ?_
  rw [show ((nI (3 * b)) + 1 : Int32) = nI (3 * b + 1) from nI_add (3 * b) 1]
  refine lald (K := 3) (N := 15) (E := 3 * b + 1) (f := (lf 3)) (v := (nI u)) C hE hH hX (by decide) rfl rfl rfl (by omega) (he) dL_given_8 ?_
  refine lv_imul C.1 C.2.1 dL_given_9 ?_
  rw [show ((3 : Int32) * (nI u)) = nI (3 * u) from nI_M 3 u]
  refine lv_iload C.1 C.2.1 dL_given_10 (lv_at hl 5 rfl) ?_
  refine lv_iadd C.1 C.2.1 dL_given_12 ?_
  rw [show ((nI (3 * u)) + 1 : Int32) = nI (3 * u + 1) from nI_add (3 * u) 1]
  refine lald (K := 1) (N := 12) (E := 3 * u + 1) (f := (lf 1)) (v := ((lf 1) (3 * u + 1))) C hE hH hX (by decide) rfl rfl rfl (by omega) (rfl) dL_given_13 ?_
  refine lv_aload_n C.1 C.2.1 dL_given_14 rfl (lv_at hl 2 rfl) ?_
  refine lv_iconst (v := 3) C.1 C.2.1 dL_given_15 rfl ?_
  refine lv_iload_n C.1 C.2.1 dL_given_16 rfl (lv_at hl 3 rfl) ?_
  refine lv_imul C.1 C.2.1 dL_given_17 ?_
  rw [show ((3 : Int32) * (nI b)) = nI (3 * b) from nI_M 3 b]
  refine lv_iconst (v := 2) C.1 C.2.1 dL_given_18 rfl ?_
  refine lv_iadd C.1 C.2.1 dL_given_19 ?_
  rw [show ((nI (3 * b)) + 2 : Int32) = nI (3 * b + 2) from nI_add (3 * b) 2]
  refine lald (K := 3) (N := 15) (E := 3 * b + 2) (f := (lf 3)) (v := ((lf 3) (3 * b + 2))) C hE hH hX (by decide) rfl rfl rfl (by omega) (rfl) dL_given_20 ?_
  refine lv_imul C.1 C.2.1 dL_given_21 ?_
  refine lv_istore (lv' := [(6, .int (((lf 1) (3 * u + 1)) * ((lf 3) (3 * b + 2)))), (0, .ref (la 1)), (1, .ref (la 2)), (2, .ref (la 3)), (3, .int (nI b)), (4, .int (nI y)), (5, .int 1)]) C.1 C.2.1 dL_given_22 hl (by decide) rfl (fun ls hl => ?_)
  refine lv_iload C.1 C.2.1 dL_given_24 (lv_at hl 0 rfl) ?_
  refine lv_iload C.1 C.2.1 dL_given_26 (lv_at hl 0 rfl) ?_
  refine lv_bipush (v := 100) C.1 C.2.1 dL_given_28 rfl ?_
  refine lv_irem C.1 C.2.1 dL_given_30 (by decide) ?_
  refine lv_isub C.1 C.2.1 dL_given_31 ?_
  refine lv_bipush (v := 100) C.1 C.2.1 dL_given_32 rfl ?_
  refine lv_idiv C.1 C.2.1 dL_given_34 (by decide) ?_
  refine lv_aload_n C.1 C.2.1 dL_given_35 rfl (lv_at hl 2 rfl) ?_
  refine lv_iconst (v := 3) C.1 C.2.1 dL_given_36 rfl ?_
  refine lv_iconst (v := 2) C.1 C.2.1 dL_given_37 rfl ?_
  refine lv_iload C.1 C.2.1 dL_given_38 (lv_at hl 5 rfl) ?_
  refine lv_imul C.1 C.2.1 dL_given_40 ?_
  rw [show ((2 : Int32) * (nI y)) = nI (2 * y) from nI_M 2 y]
  refine lv_iadd C.1 C.2.1 dL_given_41 ?_
  rw [show ((3 : Int32) + (nI (2 * y))) = nI (3 + 2 * y) from nI_add 3 (2 * y)]
  refine lv_iload C.1 C.2.1 dL_given_42 (lv_at hl 6 rfl) ?_
  refine lv_iadd C.1 C.2.1 dL_given_44 ?_
  rw [show ((nI (3 + 2 * y)) + 1 : Int32) = nI (3 + 2 * y + 1) from nI_add (3 + 2 * y) 1]
  refine lald (K := 2) (N := 11) (E := 3 + 2 * y + 1) (f := (lf 2)) (v := ((lf 2) (3 + 2 * y + 1))) C hE hH hX (by decide) rfl rfl rfl (by omega) (rfl) dL_given_45 ?_
  refine lv_iadd C.1 C.2.1 dL_given_46 ?_
  refine lv_iload C.1 C.2.1 dL_given_47 (lv_at hl 6 rfl) ?_
  refine lv_if_ne (tgt := 62) C.1 C.2.1 dL_given_49 (by decide) (fun c49 => ?_) (fun c49 => ?_)
  · refine lv_iconst (v := 0) C.1 C.2.1 dL_given_62 rfl ?_
    refine lv_iadd C.1 C.2.1 dL_given_63 ?_
    exact rd_iret C hr hlocks (rfl) dL_given_64
  · exact absurd c49 (by decide)
set_option maxHeartbeats 4000000 in
set_option maxRecDepth 100000 in
theorem c_offBy {l : Launch} {g : gG} {M : Mp} {la : Nat → Nat} {lf : Nat → Nat → Int32} {b y u d : Nat} (hL : LI g M la lf) (hb : b < 5) (hy : y < 4) (he4 : u < 4) (he : lf 3 (3 * b + 1) = nI u) (hd3 : d < 3) (hd : lf 3 (3 * b) = nI d) : Met l yL_offBy (WY yL_offBy cL_offBy 5 (some .int)) { frames := 2, cells := 0, slots := 0, locals := 44 } (Wc g M [.ref (la 1), .ref (la 2), .ref (la 3), .int (nI b), .int (nI y)]) (rdQ (some (.int (zap (zgq (lf 1 (3 * u)) (lf 3 (3 * b + 2)) + lf 2 (3 + 2 * y) + lf 2 d) (lf 1 (3 * u)) + zap (zgq (lf 1 (3 * u + 1)) (lf 3 (3 * b + 2)) + lf 2 (3 + 2 * y + 1) + 0) (lf 1 (3 * u + 1)))))) 0 0 fr0 := by
  refine ofM (by decide +kernel) (Nat.le_of_ble_eq_true rfl) (fun p e s m args below meth c ls C hr hlocks hin hE hH hl ea => ?_)
  have hl : lv_has ls 5 [(0, .ref (la 1)), (1, .ref (la 2)), (2, .ref (la 3)), (3, .int (nI b)), (4, .int (nI y))] := hl
  have hS : va_S (gA g) s.heap s.heap [] := va_S.rf
  have hX := LX_rf hL
  refine lv_aload_n C.1 C.2.1 dL_offBy_0 rfl (lv_at hl 0 rfl) ?_
  refine lv_aload_n C.1 C.2.1 dL_offBy_1 rfl (lv_at hl 2 rfl) ?_
  refine lv_iconst (v := 3) C.1 C.2.1 dL_offBy_2 rfl ?_
  refine lv_iload_n C.1 C.2.1 dL_offBy_3 rfl (lv_at hl 3 rfl) ?_
  refine lv_imul C.1 C.2.1 dL_offBy_4 ?_
  rw [show ((3 : Int32) * (nI b)) = nI (3 * b) from nI_M 3 b]
  refine lv_iconst (v := 1) C.1 C.2.1 dL_offBy_5 rfl ?_
  refine lv_iadd C.1 C.2.1 dL_offBy_6 ?_
  rw [show ((nI (3 * b)) + 1 : Int32) = nI (3 * b + 1) from nI_add (3 * b) 1]
  refine lald (K := 3) (N := 15) (E := 3 * b + 1) (f := (lf 3)) (v := (nI u)) C hE hH hX (by decide) rfl rfl rfl (by omega) (he) dL_offBy_7 ?_
  refine lv_aload_n C.1 C.2.1 dL_offBy_8 rfl (lv_at hl 0 rfl) ?_
  refine lv_aload_n C.1 C.2.1 dL_offBy_9 rfl (lv_at hl 1 rfl) ?_
  refine lv_aload_n C.1 C.2.1 dL_offBy_10 rfl (lv_at hl 2 rfl) ?_
  refine lv_iload_n C.1 C.2.1 dL_offBy_11 rfl (lv_at hl 3 rfl) ?_
  refine lv_iload C.1 C.2.1 dL_offBy_12 (lv_at hl 4 rfl) ?_
  refine lv_iconst (v := 0) C.1 C.2.1 dL_offBy_14 rfl ?_
  refine rd_go1 (runS C hE hH hS (c_given0 hX.1 (hb) (hy) (he4) (he) (hd3) (hd)) mv_L_given wm_593 hl.1 dL_offBy_15 rfl rfl ⟨rfl, rfl⟩ ⟨Nat.le_of_ble_eq_true rfl, Nat.le_of_ble_eq_true rfl⟩ (Nat.le_of_ble_eq_true rfl) ⟨Nat.le_of_ble_eq_true rfl, Nat.le_of_ble_eq_true rfl⟩) ?_
  refine lv_aload_n C.1 C.2.1 dL_offBy_18 rfl (lv_at hl 0 rfl) ?_
  refine lv_aload_n C.1 C.2.1 dL_offBy_19 rfl (lv_at hl 1 rfl) ?_
  refine lv_aload_n C.1 C.2.1 dL_offBy_20 rfl (lv_at hl 2 rfl) ?_
  refine lv_iload_n C.1 C.2.1 dL_offBy_21 rfl (lv_at hl 3 rfl) ?_
  refine lv_iload C.1 C.2.1 dL_offBy_22 (lv_at hl 4 rfl) ?_
  refine lv_iconst (v := 1) C.1 C.2.1 dL_offBy_24 rfl ?_
  refine rd_go1 (runS C hE hH hS (c_given1 hX.1 (hb) (hy) (he4) (he)) mv_L_given wm_593 hl.1 dL_offBy_25 rfl rfl ⟨rfl, rfl⟩ ⟨Nat.le_of_ble_eq_true rfl, Nat.le_of_ble_eq_true rfl⟩ (Nat.le_of_ble_eq_true rfl) ⟨Nat.le_of_ble_eq_true rfl, Nat.le_of_ble_eq_true rfl⟩) ?_
  refine rd_go1 (runS C hE hH hS (c_off hX.1 (he4) (zgq (lf 1 (3 * u)) (lf 3 (3 * b + 2)) + lf 2 (3 + 2 * y) + lf 2 d) (zgq (lf 1 (3 * u + 1)) (lf 3 (3 * b + 2)) + lf 2 (3 + 2 * y + 1) + 0)) mv_L_off wm_596 hl.1 dL_offBy_28 rfl rfl ⟨rfl, rfl⟩ ⟨Nat.le_of_ble_eq_true rfl, Nat.le_of_ble_eq_true rfl⟩ (Nat.le_of_ble_eq_true rfl) ⟨Nat.le_of_ble_eq_true rfl, Nat.le_of_ble_eq_true rfl⟩) ?_
  exact rd_iret C hr hlocks (rfl) dL_offBy_31
set_option maxHeartbeats 4000000 in
set_option maxRecDepth 100000 in
theorem c_position {l : Launch} {g : gG} {M : Mp} {la : Nat → Nat} {lf : Nat → Nat → Int32} {q r : Nat} (hL : LI g M la lf) (hq : q < 2) (hr5 : r < 5) : Met l yL_position (WY yL_position cL_position 5 (some .int)) { frames := 0, cells := 0, slots := 0, locals := 0 } (Wc g M [.ref (la 8), .int (nI q), .int (nI r)]) (rdQ (some (.int (zps (lf 8) q r 25)))) 0 0 fr0 := by
  refine ofM (by decide +kernel) (Nat.le_of_ble_eq_true rfl) (fun p e s m args below meth c ls C hr hlocks hin hE hH hl ea => ?_)
  have hl : lv_has ls 5 [(0, .ref (la 8)), (1, .int (nI q)), (2, .int (nI r))] := hl
  have hS : va_S (gA g) s.heap s.heap [] := va_S.rf
  have hX := LX_rf hL
  refine lv_iconst (v := 0) C.1 C.2.1 dL_position_0 rfl ?_
  refine lv_istore_n (lv' := [(3, .int 0), (0, .ref (la 8)), (1, .int (nI q)), (2, .int (nI r))]) C.1 C.2.1 dL_position_1 rfl hl (by decide) rfl (fun ls hl => ?_)
  refine lv_iconst (v := 0) C.1 C.2.1 dL_position_2 rfl ?_
  refine lv_istore (lv' := [(4, .int 0), (3, .int 0), (0, .ref (la 8)), (1, .int (nI q)), (2, .int (nI r))]) C.1 C.2.1 dL_position_3 hl (by decide) rfl (fun ls hl => ?_)
  have loop5 : ∀ (fu : Nat) (i : Nat) (b2 : Int32), (i ≤ 25) → (25 < i + fu) → (b2 = zps (lf 8) q r i) →  ∀ (ls : Array Slot), lv_has ls 5 [(0, .ref (la 8)), (1, .int (nI q)), (2, .int (nI r)), (3, .int b2), (4, .int (nI i))] → W p l e { frames := 0, cells := 0, slots := 0, locals := 0 } s m args below meth c s.heap [] 0 0 (MQ below (rdQ (some (.int (zps (lf 8) q r 25)))) args s 0 0 fr0) (F0 m 5 ls []) := by
    intro fu
    induction fu with
    | zero => intro i b2 hi hfu hb; exact absurd hfu (by omega)
    | succ fu ih =>
      intro i b2 hi hfu hb ls hl
      refine lv_iload C.1 C.2.1 dL_position_5 (lv_at hl 4 rfl) ?_
      refine lv_bipush (v := 25) C.1 C.2.1 dL_position_7 rfl ?_
      refine lv_icmp_ge (tgt := 64) C.1 C.2.1 dL_position_9 (by decide) (fun c9 => ?_) (fun c9 => ?_)
      · have n9 : 25 ≤ i := (nI_leI (a := 25) (b := i) (by omega) (by omega)).mp c9
        refine lv_iload_n C.1 C.2.1 dL_position_64 rfl (lv_at hl 3 rfl) ?_
        exact rd_iret C hr hlocks (by rw [hb, show i = 25 by omega]) dL_position_65
      · have n9 : ¬ 25 ≤ i := fun z => c9 ((nI_leI (a := 25) (b := i) (by omega) (by omega)).mpr z)
        refine lv_iload_n C.1 C.2.1 dL_position_12 rfl (lv_at hl 3 rfl) ?_
        refine lv_iload C.1 C.2.1 dL_position_13 (lv_at hl 4 rfl) ?_
        refine lv_iconst (v := 5) C.1 C.2.1 dL_position_15 rfl ?_
        refine lv_irem C.1 C.2.1 dL_position_16 (by decide) ?_
        rw [show ((nI i) - (nI i) / 5 * 5 : Int32) = nI (i % 5) from nI_R (a := i) (b := 5) (by omega) (by omega) (by omega)]
        refine lv_iload_n C.1 C.2.1 dL_position_17 rfl (lv_at hl 2 rfl) ?_
        refine lv_icmp_ne (tgt := 33) C.1 C.2.1 dL_position_18 (by decide) (fun c18 => ?_) (fun c18 => ?_)
        · have n18 : ¬ (i % 5) = r := fun z => c18 (congrArg nI z)
          refine lv_iconst (v := 0) C.1 C.2.1 dL_position_33 rfl ?_
          refine lv_iload C.1 C.2.1 dL_position_34 (lv_at hl 4 rfl) ?_
          refine lv_iconst (v := 5) C.1 C.2.1 dL_position_36 rfl ?_
          refine lv_idiv C.1 C.2.1 dL_position_37 (by decide) ?_
          rw [show ((nI i) / 5 : Int32) = nI (i / 5) from nI_D (a := i) (b := 5) (by omega) (by omega) (by omega)]
          refine lv_iload_n C.1 C.2.1 dL_position_38 rfl (lv_at hl 2 rfl) ?_
          refine lv_icmp_ne (tgt := 54) C.1 C.2.1 dL_position_39 (by decide) (fun c39 => ?_) (fun c39 => ?_)
          · have n39 : ¬ (i / 5) = r := fun z => c39 (congrArg nI z)
            refine lv_iconst (v := 0) C.1 C.2.1 dL_position_54 rfl ?_
            refine lv_isub C.1 C.2.1 dL_position_55 ?_
            refine lv_iadd C.1 C.2.1 dL_position_56 ?_
            refine lv_istore_n (lv' := [(3, .int (b2 + (0 - 0))), (0, .ref (la 8)), (1, .int (nI q)), (2, .int (nI r)), (4, .int (nI i))]) C.1 C.2.1 dL_position_57 rfl hl (by decide) rfl (fun ls hl => ?_)
            refine lv_iinc (v := nI (i + 1)) (lv' := [(4, .int (nI (i + 1))), (3, .int (b2 + (0 - 0))), (0, .ref (la 8)), (1, .int (nI q)), (2, .int (nI r))]) C.1 C.2.1 dL_position_58 hl (k := 4) rfl (nI_1 i) (by decide) rfl (fun ls hl => ?_)
            refine lv_goto (tgt := 5) C.1 C.2.1 dL_position_61 (by decide) ?_
            exact ih (i + 1) (b2 + (0 - 0)) (by omega) (by omega) (by rw [zps, if_neg n18, if_neg n39, ← hb]) ls (lv_sub hl [2, 3, 4, 1, 0] rfl)
          · have n39 : (i / 5) = r := nI_inj (by omega) (by omega) c39
            refine lv_aload_n C.1 C.2.1 dL_position_42 rfl (lv_at hl 0 rfl) ?_
            refine lv_bipush (v := 25) C.1 C.2.1 dL_position_43 rfl ?_
            refine lv_iload_n C.1 C.2.1 dL_position_45 rfl (lv_at hl 1 rfl) ?_
            refine lv_imul C.1 C.2.1 dL_position_46 ?_
            rw [show ((25 : Int32) * (nI q)) = nI (25 * q) from nI_M 25 q]
            refine lv_iload C.1 C.2.1 dL_position_47 (lv_at hl 4 rfl) ?_
            refine lv_iadd C.1 C.2.1 dL_position_49 ?_
            rw [show ((nI (25 * q)) + (nI i) : Int32) = nI (25 * q + i) from nI_add (25 * q) i]
            refine lald (K := 8) (N := 50) (E := 25 * q + i) (f := (lf 8)) (v := ((lf 8) (25 * q + i))) C hE hH hX (by decide) rfl rfl rfl (by omega) (rfl) dL_position_50 ?_
            refine lv_goto (tgt := 55) C.1 C.2.1 dL_position_51 (by decide) ?_
            refine lv_isub C.1 C.2.1 dL_position_55 ?_
            refine lv_iadd C.1 C.2.1 dL_position_56 ?_
            refine lv_istore_n (lv' := [(3, .int (b2 + (0 - ((lf 8) (25 * q + i))))), (0, .ref (la 8)), (1, .int (nI q)), (2, .int (nI r)), (4, .int (nI i))]) C.1 C.2.1 dL_position_57 rfl hl (by decide) rfl (fun ls hl => ?_)
            refine lv_iinc (v := nI (i + 1)) (lv' := [(4, .int (nI (i + 1))), (3, .int (b2 + (0 - ((lf 8) (25 * q + i))))), (0, .ref (la 8)), (1, .int (nI q)), (2, .int (nI r))]) C.1 C.2.1 dL_position_58 hl (k := 4) rfl (nI_1 i) (by decide) rfl (fun ls hl => ?_)
            refine lv_goto (tgt := 5) C.1 C.2.1 dL_position_61 (by decide) ?_
            exact ih (i + 1) (b2 + (0 - ((lf 8) (25 * q + i)))) (by omega) (by omega) (by rw [zps, if_neg n18, if_pos n39, ← hb]) ls (lv_sub hl [2, 3, 4, 1, 0] rfl)
        · have n18 : (i % 5) = r := nI_inj (by omega) (by omega) c18
          refine lv_aload_n C.1 C.2.1 dL_position_21 rfl (lv_at hl 0 rfl) ?_
          refine lv_bipush (v := 25) C.1 C.2.1 dL_position_22 rfl ?_
          refine lv_iload_n C.1 C.2.1 dL_position_24 rfl (lv_at hl 1 rfl) ?_
          refine lv_imul C.1 C.2.1 dL_position_25 ?_
          rw [show ((25 : Int32) * (nI q)) = nI (25 * q) from nI_M 25 q]
          refine lv_iload C.1 C.2.1 dL_position_26 (lv_at hl 4 rfl) ?_
          refine lv_iadd C.1 C.2.1 dL_position_28 ?_
          rw [show ((nI (25 * q)) + (nI i) : Int32) = nI (25 * q + i) from nI_add (25 * q) i]
          refine lald (K := 8) (N := 50) (E := 25 * q + i) (f := (lf 8)) (v := ((lf 8) (25 * q + i))) C hE hH hX (by decide) rfl rfl rfl (by omega) (rfl) dL_position_29 ?_
          refine lv_goto (tgt := 34) C.1 C.2.1 dL_position_30 (by decide) ?_
          refine lv_iload C.1 C.2.1 dL_position_34 (lv_at hl 4 rfl) ?_
          refine lv_iconst (v := 5) C.1 C.2.1 dL_position_36 rfl ?_
          refine lv_idiv C.1 C.2.1 dL_position_37 (by decide) ?_
          rw [show ((nI i) / 5 : Int32) = nI (i / 5) from nI_D (a := i) (b := 5) (by omega) (by omega) (by omega)]
          refine lv_iload_n C.1 C.2.1 dL_position_38 rfl (lv_at hl 2 rfl) ?_
          refine lv_icmp_ne (tgt := 54) C.1 C.2.1 dL_position_39 (by decide) (fun c39 => ?_) (fun c39 => ?_)
          · have n39 : ¬ (i / 5) = r := fun z => c39 (congrArg nI z)
            refine lv_iconst (v := 0) C.1 C.2.1 dL_position_54 rfl ?_
            refine lv_isub C.1 C.2.1 dL_position_55 ?_
            refine lv_iadd C.1 C.2.1 dL_position_56 ?_
            refine lv_istore_n (lv' := [(3, .int (b2 + (((lf 8) (25 * q + i)) - 0))), (0, .ref (la 8)), (1, .int (nI q)), (2, .int (nI r)), (4, .int (nI i))]) C.1 C.2.1 dL_position_57 rfl hl (by decide) rfl (fun ls hl => ?_)
            refine lv_iinc (v := nI (i + 1)) (lv' := [(4, .int (nI (i + 1))), (3, .int (b2 + (((lf 8) (25 * q + i)) - 0))), (0, .ref (la 8)), (1, .int (nI q)), (2, .int (nI r))]) C.1 C.2.1 dL_position_58 hl (k := 4) rfl (nI_1 i) (by decide) rfl (fun ls hl => ?_)
            refine lv_goto (tgt := 5) C.1 C.2.1 dL_position_61 (by decide) ?_
            exact ih (i + 1) (b2 + (((lf 8) (25 * q + i)) - 0)) (by omega) (by omega) (by rw [zps, if_pos n18, if_neg n39, ← hb]) ls (lv_sub hl [2, 3, 4, 1, 0] rfl)
          · have n39 : (i / 5) = r := nI_inj (by omega) (by omega) c39
            refine lv_aload_n C.1 C.2.1 dL_position_42 rfl (lv_at hl 0 rfl) ?_
            refine lv_bipush (v := 25) C.1 C.2.1 dL_position_43 rfl ?_
            refine lv_iload_n C.1 C.2.1 dL_position_45 rfl (lv_at hl 1 rfl) ?_
            refine lv_imul C.1 C.2.1 dL_position_46 ?_
            rw [show ((25 : Int32) * (nI q)) = nI (25 * q) from nI_M 25 q]
            refine lv_iload C.1 C.2.1 dL_position_47 (lv_at hl 4 rfl) ?_
            refine lv_iadd C.1 C.2.1 dL_position_49 ?_
            rw [show ((nI (25 * q)) + (nI i) : Int32) = nI (25 * q + i) from nI_add (25 * q) i]
            refine lald (K := 8) (N := 50) (E := 25 * q + i) (f := (lf 8)) (v := ((lf 8) (25 * q + i))) C hE hH hX (by decide) rfl rfl rfl (by omega) (rfl) dL_position_50 ?_
            refine lv_goto (tgt := 55) C.1 C.2.1 dL_position_51 (by decide) ?_
            refine lv_isub C.1 C.2.1 dL_position_55 ?_
            refine lv_iadd C.1 C.2.1 dL_position_56 ?_
            refine lv_istore_n (lv' := [(3, .int (b2 + (((lf 8) (25 * q + i)) - ((lf 8) (25 * q + i))))), (0, .ref (la 8)), (1, .int (nI q)), (2, .int (nI r)), (4, .int (nI i))]) C.1 C.2.1 dL_position_57 rfl hl (by decide) rfl (fun ls hl => ?_)
            refine lv_iinc (v := nI (i + 1)) (lv' := [(4, .int (nI (i + 1))), (3, .int (b2 + (((lf 8) (25 * q + i)) - ((lf 8) (25 * q + i))))), (0, .ref (la 8)), (1, .int (nI q)), (2, .int (nI r))]) C.1 C.2.1 dL_position_58 hl (k := 4) rfl (nI_1 i) (by decide) rfl (fun ls hl => ?_)
            refine lv_goto (tgt := 5) C.1 C.2.1 dL_position_61 (by decide) ?_
            exact ih (i + 1) (b2 + (((lf 8) (25 * q + i)) - ((lf 8) (25 * q + i)))) (by omega) (by omega) (by rw [zps, if_pos n18, if_pos n39, ← hb]) ls (lv_sub hl [2, 3, 4, 1, 0] rfl)
  exact loop5 (26) 0 0 (by omega) (by omega) (rfl) _ (lv_sub hl [2, 3, 4, 1, 0] rfl)
