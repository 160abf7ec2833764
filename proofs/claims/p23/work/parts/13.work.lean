/-! THE RING'S OWN WORKERS -/
theorem bI_z {Q : Prop} [Decidable Q] : bI (decide Q) = 0 ↔ ¬ Q := by
  by_cases h : Q
  · rw [← bI_t h]; exact ⟨fun z => absurd z (by decide), fun z => absurd h z⟩
  · rw [← bI_f h]; exact ⟨fun _ => h, fun _ => rfl⟩
theorem bI_nz {Q : Prop} [Decidable Q] (h : ¬ bI (decide Q) = 0) : Q := Decidable.not_not.mp (fun z => h (bI_z.mpr z))
theorem bI_z2 {b : Bool} : bI b = 0 ↔ b = false := by cases b <;> simp [bI]
theorem Lst_nI {g : gG} {M : Mp} {a d k : Nat} {f : Nat → Nat} {j : Nat} (h : Lst g M a d k f) (hk : k < 2 ^ 31) (hj : j < k) : ∃ (n : Nat) (row : Nat → Option Nat), M d = some (eQ g 2 n row) ∧ vp_in (nI j) n ∧ row (nI j).toNatClampNeg = some (f j) := by
  obtain ⟨md, -, h⟩ := h
  obtain ⟨n, row, h1, h2, h3, -⟩ := Lst_at h hk (nI_pos (by omega)) ((nI_ltI (by omega) hk).mpr hj)
  rw [nI_clamp (by omega)] at h3
  exact ⟨n, row, h1, h2, by rw [nI_clamp (by omega)]; exact h3⟩
/-- the bath that is right and weakest, the lowest of several -/
def zbest (rt : Nat → Bool) (st : Nat → Int32) : Nat → Int32 × Int32
  | 0 => (-1, 101)
  | i + 1 => if st i < (zbest rt st i).2 ∧ rt i = true then (nI i, st i) else zbest rt st i
/-- the strength behind i pieces; and what the next one meets -/
def zst (pr : Nat → Bool) (pw : Nat → Int32) : Nat → Int32
  | 0 => 100
  | i + 1 => zw (if pr i = true then 100 else zst pr pw i) (pw i)
def zat (pr : Nat → Bool) (pw : Nat → Int32) (i : Nat) : Int32 := if pr i = true then 100 else zst pr pw i
set_option maxHeartbeats 4000000 in
set_option maxRecDepth 100000 in
theorem c_isRight {l : Launch} {g : gG} {M : Mp} {x eL bL oL wa yf ys bl cl : Nat} {b o : Nat} {on ow oy oc : Int32} {oe : Nat} {pv : Value}{bd : Int32} {be : Nat} {bs : Int32} {br : Bool} {bp : Nat} {n f h t n8 f8 q8 t8 : Int32} {fw ff fs : Nat → Int32} (h0 : M x = some (eO 6 [.ref eL, .ref bL, .ref oL, .ref wa, .ref yf, .ref ys, .ref bl, .ref cl])) (h1 : M b = some (eO 1 [.int bd, .ref be, .int bs, .int (bI br), .ref bp])) (h2 : M o = some (eO 4 [.int on, .ref oe, .int ow, .int oy, pv, .int oc])) (h3 : M be = some (eO 3 [.int n, .int f, .int h, .int t])) (h4 : M oe = some (eO 3 [.int n8, .int f8, .int q8, .int t8])) (h5 : M wa = some (eI g 3 fw)) (h6 : M yf = some (eI g 4 ff)) (h7 : M ys = some (eI g 4 fs)) (hbd : vp_in bd 3) (hoy : vp_in oy 4) : Met l yX5_isRight (WY yX5_isRight cX5_isRight 4 (some .boolean)) { frames := 3, cells := 0, slots := 0, locals := 60 } (Wc g M [.ref x, .ref b, .ref o]) (rdQ (some (.int (bI (decide (n = n8 ∧ zod f h bs (fw bd.toNatClampNeg) (ff oy.toNatClampNeg) (fs oy.toNatClampNeg) ≤ t)))))) 0 0 fr0 := by
  refine ofM (by decide +kernel) (Nat.le_of_ble_eq_true rfl) (fun p e s m args below meth c ls C hr hlocks hin hE hH hl ea => ?_)
  have hl : lv_has ls 4 [(0, .ref x), (1, .ref b), (2, .ref o)] := hl
  have hS : va_S (gA g) s.heap s.heap [] := va_S.rf
  refine lv_aload_n C.1 C.2.1 dX5_isRight_0 rfl (lv_at hl 1 rfl) ?_
  refine lv_aload_n C.1 C.2.1 dX5_isRight_1 rfl (lv_at hl 2 rfl) ?_
  refine mget C hE hH fl_570 h2 rfl dX5_isRight_2 ?_
  refine rd_go1 (runV C hE hH hS (c_B_isFor h1 h3 h4) mv_X0_isFor wm_404 h1 rfl rfl hl.1 dX5_isRight_5 rfl rfl ⟨rfl, rfl⟩ ⟨Nat.le_of_ble_eq_true rfl, Nat.le_of_ble_eq_true rfl⟩ (Nat.le_of_ble_eq_true rfl) ⟨Nat.le_of_ble_eq_true rfl, Nat.le_of_ble_eq_true rfl⟩) ?_
  refine lv_if_ne (tgt := 13) C.1 C.2.1 dX5_isRight_8 (by decide) (fun c8 => ?_) (fun c8 => ?_)
  · refine lv_aload_n C.1 C.2.1 dX5_isRight_13 rfl (lv_at hl 1 rfl) ?_
    refine mget C hE hH fl_373 h1 rfl dX5_isRight_14 ?_
    refine lv_aload_n C.1 C.2.1 dX5_isRight_17 rfl (lv_at hl 1 rfl) ?_
    refine mget C hE hH fl_376 h1 rfl dX5_isRight_18 ?_
    refine lv_aload_n C.1 C.2.1 dX5_isRight_21 rfl (lv_at hl 0 rfl) ?_
    refine mget C hE hH fl_95 h0 rfl dX5_isRight_22 ?_
    refine lv_aload_n C.1 C.2.1 dX5_isRight_25 rfl (lv_at hl 1 rfl) ?_
    refine mget C hE hH fl_371 h1 rfl dX5_isRight_26 ?_
    refine mald C hE hH h5 hbd dX5_isRight_29 ?_
    refine lv_aload_n C.1 C.2.1 dX5_isRight_30 rfl (lv_at hl 0 rfl) ?_
    refine mget C hE hH fl_96 h0 rfl dX5_isRight_31 ?_
    refine lv_aload_n C.1 C.2.1 dX5_isRight_34 rfl (lv_at hl 2 rfl) ?_
    refine mget C hE hH fl_574 h2 rfl dX5_isRight_35 ?_
    refine mald C hE hH h6 hoy dX5_isRight_38 ?_
    refine lv_aload_n C.1 C.2.1 dX5_isRight_39 rfl (lv_at hl 0 rfl) ?_
    refine mget C hE hH fl_97 h0 rfl dX5_isRight_40 ?_
    refine lv_aload_n C.1 C.2.1 dX5_isRight_43 rfl (lv_at hl 2 rfl) ?_
    refine mget C hE hH fl_574 h2 rfl dX5_isRight_44 ?_
    refine mald C hE hH h7 hoy dX5_isRight_47 ?_
    refine rd_go1 (runV C hE hH hS (c_E_distanceOfDyed h3 bs (fw bd.toNatClampNeg) (ff oy.toNatClampNeg) (fs oy.toNatClampNeg)) mv_X2_distanceOfDyed wm_621 h3 rfl rfl hl.1 dX5_isRight_48 rfl rfl ⟨rfl, rfl⟩ ⟨Nat.le_of_ble_eq_true rfl, Nat.le_of_ble_eq_true rfl⟩ (Nat.le_of_ble_eq_true rfl) ⟨Nat.le_of_ble_eq_true rfl, Nat.le_of_ble_eq_true rfl⟩) ?_
    refine lv_topi (fun x1 ex1 => ?_)
    refine lv_istore_n (lv' := [(3, .int x1), (0, .ref x), (1, .ref b), (2, .ref o)]) C.1 C.2.1 dX5_isRight_51 rfl hl (by decide) rfl (fun ls hl => ?_)
    refine lv_iload_n C.1 C.2.1 dX5_isRight_52 rfl (lv_at hl 0 rfl) ?_
    refine lv_aload_n C.1 C.2.1 dX5_isRight_53 rfl (lv_at hl 2 rfl) ?_
    refine mget C hE hH fl_373 h1 rfl dX5_isRight_54 ?_
    refine mget C hE hH fl_245 h3 rfl dX5_isRight_57 ?_
    refine lv_icmp_gt (tgt := 67) C.1 C.2.1 dX5_isRight_60 (by decide) (fun c60 => ?_) (fun c60 => ?_)
    · refine lv_iconst (v := 0) C.1 C.2.1 dX5_isRight_67 rfl ?_
      exact rd_zret C hr hlocks (rfl) (bI_f (fun z => absurd c60 (Int32.not_lt.mpr (by rw [ex1]; exact z.2)))) dX5_isRight_68
    · refine lv_iconst (v := 1) C.1 C.2.1 dX5_isRight_63 rfl ?_
      refine lv_goto (tgt := 68) C.1 C.2.1 dX5_isRight_64 (by decide) ?_
      exact rd_zret C hr hlocks (rfl) (bI_t ⟨bI_nz c8, by rw [← ex1]; exact Int32.not_lt.mp c60⟩) dX5_isRight_68
  · refine lv_iconst (v := 0) C.1 C.2.1 dX5_isRight_11 rfl ?_
    exact rd_zret C hr hlocks (rfl) (bI_f (fun z => bI_z.mp c8 z.1)) dX5_isRight_12
set_option maxHeartbeats 4000000 in
set_option maxRecDepth 100000 in
theorem c_weakest {l : Launch} {g : gG} {M : Mp} {x eL bL oL wa yf ys bl cl : Nat} {o dd k : Nat} {f be bp : Nat → Nat} {bd bs bn bf bh bt : Nat → Int32} {br : Nat → Bool} {on ow oy oc : Int32} {oe : Nat} {pv : Value} {n8 f8 q8 t8 : Int32} {fw ff fs : Nat → Int32} (h0 : M x = some (eO 6 [.ref eL, .ref bL, .ref oL, .ref wa, .ref yf, .ref ys, .ref bl, .ref cl])) (h1 : M o = some (eO 4 [.int on, .ref oe, .int ow, .int oy, pv, .int oc])) (h2 : M oe = some (eO 3 [.int n8, .int f8, .int q8, .int t8])) (h3 : M wa = some (eI g 3 fw)) (h4 : M yf = some (eI g 4 ff)) (h5 : M ys = some (eI g 4 fs)) (hL : Lst g M bL dd k f) (hk : k < 2 ^ 31) (hB : ∀ i, i < k → M (f i) = some (eO 1 [.int (bd i), .ref (be i), .int (bs i), .int (bI (br i)), .ref (bp i)])) (hEn : ∀ i, i < k → M (be i) = some (eO 3 [.int (bn i), .int (bf i), .int (bh i), .int (bt i)])) (hbd : ∀ i, i < k → vp_in (bd i) 3) (hoy : vp_in oy 4) : Met l yX5_weakestRightBath (WY yX5_weakestRightBath cX5_weakestRightBath 6 (some .int)) { frames := 4, cells := 0, slots := 0, locals := 83 } (Wc g M [.ref x, .ref o]) (rdQ (some (.int ((zbest (fun i => decide (bn i = n8 ∧ zod (bf i) (bh i) (bs i) (fw (bd i).toNatClampNeg) (ff oy.toNatClampNeg) (fs oy.toNatClampNeg) ≤ bt i)) bs k).1)))) 0 0 fr0 := by
  refine ofM (by decide +kernel) (Nat.le_of_ble_eq_true rfl) (fun p e s m args below meth c ls C hr hlocks hin hE hH hl ea => ?_)
  have hl : lv_has ls 6 [(0, .ref x), (1, .ref o)] := hl
  have hS : va_S (gA g) s.heap s.heap [] := va_S.rf
  obtain ⟨md9, hL0, hL1⟩ := id hL
  refine lv_iconst (v := -1) C.1 C.2.1 dX5_weakestRightBath_0 rfl ?_
  refine lv_istore_n (lv' := [(2, .int (-1)), (0, .ref x), (1, .ref o)]) C.1 C.2.1 dX5_weakestRightBath_1 rfl hl (by decide) rfl (fun ls hl => ?_)
  refine lv_bipush (v := 101) C.1 C.2.1 dX5_weakestRightBath_2 rfl ?_
  refine lv_istore_n (lv' := [(3, .int 101), (2, .int (-1)), (0, .ref x), (1, .ref o)]) C.1 C.2.1 dX5_weakestRightBath_4 rfl hl (by decide) rfl (fun ls hl => ?_)
  refine lv_iconst (v := 0) C.1 C.2.1 dX5_weakestRightBath_5 rfl ?_
  refine lv_istore (lv' := [(4, .int 0), (3, .int 101), (2, .int (-1)), (0, .ref x), (1, .ref o)]) C.1 C.2.1 dX5_weakestRightBath_6 hl (by decide) rfl (fun ls hl => ?_)
  have loop8 : ∀ (fu : Nat) (i : Nat) (b2 b3 : Int32), (i ≤ k) → (k < i + fu) → (b2 = (zbest (fun i => decide (bn i = n8 ∧ zod (bf i) (bh i) (bs i) (fw (bd i).toNatClampNeg) (ff oy.toNatClampNeg) (fs oy.toNatClampNeg) ≤ bt i)) bs i).1) → (b3 = (zbest (fun i => decide (bn i = n8 ∧ zod (bf i) (bh i) (bs i) (fw (bd i).toNatClampNeg) (ff oy.toNatClampNeg) (fs oy.toNatClampNeg) ≤ bt i)) bs i).2) →  ∀ (ls : Array Slot), lv_has ls 6 [(0, .ref x), (1, .ref o), (2, .int b2), (3, .int b3), (4, .int (nI i))] → W p l e { frames := 4, cells := 0, slots := 0, locals := 83 } s m args below meth c s.heap [] 0 0 (MQ below (rdQ (some (.int ((zbest (fun i => decide (bn i = n8 ∧ zod (bf i) (bh i) (bs i) (fw (bd i).toNatClampNeg) (ff oy.toNatClampNeg) (fs oy.toNatClampNeg) ≤ bt i)) bs k).1)))) args s 0 0 fr0) (F0 m 8 ls []) := by
    intro fu
    induction fu with
    | zero => intro i b2 b3 hi hfu hw1 hw2; exact absurd hfu (by omega)
    | succ fu ih =>
      intro i b2 b3 hi hfu hw1 hw2 ls hl
      refine lv_iload C.1 C.2.1 dX5_weakestRightBath_8 (lv_at hl 4 rfl) ?_
      refine lv_aload_n C.1 C.2.1 dX5_weakestRightBath_10 rfl (lv_at hl 0 rfl) ?_
      refine mget C hE hH fl_93 h0 rfl dX5_weakestRightBath_11 ?_
      refine rd_go1 (runV C hE hH hS (c_L_size hL0) mv_Jx4a65c_size_8abf5 wm_208 hL0 rfl rfl hl.1 dX5_weakestRightBath_14 rfl rfl ⟨rfl, rfl⟩ ⟨Nat.le_of_ble_eq_true rfl, Nat.le_of_ble_eq_true rfl⟩ (Nat.le_of_ble_eq_true rfl) ⟨Nat.le_of_ble_eq_true rfl, Nat.le_of_ble_eq_true rfl⟩) ?_
      refine lv_icmp_ge (tgt := 68) C.1 C.2.1 dX5_weakestRightBath_17 (by decide) (fun c17 => ?_) (fun c17 => ?_)
      · refine lv_iload_n C.1 C.2.1 dX5_weakestRightBath_68 rfl (lv_at hl 2 rfl) ?_
        exact rd_iret C hr hlocks (by rw [hw1, show i = k from Nat.le_antisymm hi (Nat.not_lt.mp (fun z => absurd ((nI_ltI (by omega) hk).mpr z) (Int32.not_lt.mpr c17)))]) dX5_weakestRightBath_69
      · refine lv_aload_n C.1 C.2.1 dX5_weakestRightBath_20 rfl (lv_at hl 0 rfl) ?_
        refine mget C hE hH fl_93 h0 rfl dX5_weakestRightBath_21 ?_
        refine lv_iload C.1 C.2.1 dX5_weakestRightBath_24 (lv_at hl 4 rfl) ?_
        have hi9 : i < k := (nI_ltI (by omega) hk).mp (Int32.not_le.mp c17)
        obtain ⟨n9, row9, hd9, hv9, hy9⟩ := Lst_nI hL hk hi9
        have hB9 := hB i hi9
        have hEn9 := hEn i hi9
        refine rd_go1 (runV C hE hH hS (c_L_get hL0 hd9 (hv9) (hy9) (nI_pos (by omega)) ((nI_ltI (by omega) hk).mpr hi9)) mv_Jx4a65c_get_915e3 wm_348 hL0 rfl rfl hl.1 dX5_weakestRightBath_26 rfl rfl ⟨rfl, rfl⟩ ⟨Nat.le_of_ble_eq_true rfl, Nat.le_of_ble_eq_true rfl⟩ (Nat.le_of_ble_eq_true rfl) ⟨Nat.le_of_ble_eq_true rfl, Nat.le_of_ble_eq_true rfl⟩) ?_
        refine va_castS C.1 C.2.1 C.2.2.2.1 (C.2.2.2.2 _ wm_362) (hE.1.1 1 _ rfl).2 (m_recv hE hH hB9 (ci := 1) rfl) dX5_weakestRightBath_29 ?_
        refine lv_astore (lv' := [(5, .ref (f i)), (0, .ref x), (1, .ref o), (2, .int b2), (3, .int b3), (4, .int (nI i))]) C.1 C.2.1 dX5_weakestRightBath_32 hl (by decide) rfl (fun ls hl => ?_)
        refine lv_aload C.1 C.2.1 dX5_weakestRightBath_34 (lv_at hl 0 rfl) ?_
        refine mget C hE hH fl_376 hB9 rfl dX5_weakestRightBath_36 ?_
        refine lv_iload_n C.1 C.2.1 dX5_weakestRightBath_39 rfl (lv_at hl 4 rfl) ?_
        refine lv_icmp_ge (tgt := 62) C.1 C.2.1 dX5_weakestRightBath_40 (by decide) (fun c40 => ?_) (fun c40 => ?_)
        · refine lv_iinc (v := nI (i + 1)) (lv' := [(4, .int (nI (i + 1))), (5, .ref (f i)), (0, .ref x), (1, .ref o), (2, .int b2), (3, .int b3)]) C.1 C.2.1 dX5_weakestRightBath_62 hl (k := 5) rfl (nI_1 i) (by decide) rfl (fun ls hl => ?_)
          refine lv_goto (tgt := 8) C.1 C.2.1 dX5_weakestRightBath_65 (by decide) ?_
          exact ih (i + 1) b2 b3 (by omega) (by omega) (by rw [zbest, if_neg (fun z => absurd z.1 (Int32.not_lt.mpr (by rw [← hw2]; exact c40)))]; exact hw1) (by rw [zbest, if_neg (fun z => absurd z.1 (Int32.not_lt.mpr (by rw [← hw2]; exact c40)))]; exact hw2) ls (lv_sub hl [2, 3, 4, 5, 0] rfl)
        · refine lv_aload_n C.1 C.2.1 dX5_weakestRightBath_43 rfl (lv_at hl 1 rfl) ?_
          refine lv_aload C.1 C.2.1 dX5_weakestRightBath_44 (lv_at hl 0 rfl) ?_
          refine lv_aload_n C.1 C.2.1 dX5_weakestRightBath_46 rfl (lv_at hl 2 rfl) ?_
          refine rd_go1 (runV C hE hH hS (c_isRight h0 hB9 h1 hEn9 h2 h3 h4 h5 (hbd i hi9) (hoy)) mv_X5_isRight wm_617 h0 rfl rfl hl.1 dX5_weakestRightBath_47 rfl rfl ⟨rfl, rfl⟩ ⟨Nat.le_of_ble_eq_true rfl, Nat.le_of_ble_eq_true rfl⟩ (Nat.le_of_ble_eq_true rfl) ⟨Nat.le_of_ble_eq_true rfl, Nat.le_of_ble_eq_true rfl⟩) ?_
          refine lv_if_eq (tgt := 62) C.1 C.2.1 dX5_weakestRightBath_50 (by decide) (fun c50 => ?_) (fun c50 => ?_)
          · refine lv_iinc (v := nI (i + 1)) (lv' := [(4, .int (nI (i + 1))), (5, .ref (f i)), (0, .ref x), (1, .ref o), (2, .int b2), (3, .int b3)]) C.1 C.2.1 dX5_weakestRightBath_62 hl (k := 5) rfl (nI_1 i) (by decide) rfl (fun ls hl => ?_)
            refine lv_goto (tgt := 8) C.1 C.2.1 dX5_weakestRightBath_65 (by decide) ?_
            exact ih (i + 1) b2 b3 (by omega) (by omega) (by rw [zbest, if_neg (fun z => bI_z.mp c50 (of_decide_eq_true z.2))]; exact hw1) (by rw [zbest, if_neg (fun z => bI_z.mp c50 (of_decide_eq_true z.2))]; exact hw2) ls (lv_sub hl [2, 3, 4, 5, 0] rfl)
          · refine lv_iload C.1 C.2.1 dX5_weakestRightBath_53 (lv_at hl 5 rfl) ?_
            refine lv_istore_n (lv' := [(2, .int (nI i)), (5, .ref (f i)), (0, .ref x), (1, .ref o), (3, .int b3), (4, .int (nI i))]) C.1 C.2.1 dX5_weakestRightBath_55 rfl hl (by decide) rfl (fun ls hl => ?_)
            refine lv_aload C.1 C.2.1 dX5_weakestRightBath_56 (lv_at hl 1 rfl) ?_
            refine mget C hE hH fl_376 hB9 rfl dX5_weakestRightBath_58 ?_
            refine lv_istore_n (lv' := [(3, .int (bs i)), (2, .int (nI i)), (5, .ref (f i)), (0, .ref x), (1, .ref o), (4, .int (nI i))]) C.1 C.2.1 dX5_weakestRightBath_61 rfl hl (by decide) rfl (fun ls hl => ?_)
            refine lv_iinc (v := nI (i + 1)) (lv' := [(4, .int (nI (i + 1))), (3, .int (bs i)), (2, .int (nI i)), (5, .ref (f i)), (0, .ref x), (1, .ref o)]) C.1 C.2.1 dX5_weakestRightBath_62 hl (k := 5) rfl (nI_1 i) (by decide) rfl (fun ls hl => ?_)
            refine lv_goto (tgt := 8) C.1 C.2.1 dX5_weakestRightBath_65 (by decide) ?_
            exact ih (i + 1) (nI i) (bs i) (by omega) (by omega) (by rw [zbest, if_pos ⟨by rw [← hw2]; exact Int32.not_le.mp c40, decide_eq_true (bI_nz c50)⟩]) (by rw [zbest, if_pos ⟨by rw [← hw2]; exact Int32.not_le.mp c40, decide_eq_true (bI_nz c50)⟩]) ls (lv_sub hl [4, 5, 2, 1, 0] rfl)
  exact loop8 (k + 1) 0 (-1) 101 (Nat.zero_le k) (by omega) (rfl) (rfl) _ (lv_sub hl [3, 4, 2, 1, 0] rfl)
set_option maxHeartbeats 4000000 in
set_option maxRecDepth 100000 in
theorem c_followedTo {l : Launch} {g : gG} {M : Mp} {a dd k j0 : Nat} {x : Int32} {f pe pb : Nat → Nat} {pn pw ps wt y1 y2 : Nat → Int32} {pr : Nat → Bool} {bd : Int32} {be : Nat} {bs : Int32} {br : Bool} {bp : Nat} (h0 : M a = some (eO 1 [.int bd, .ref be, .int bs, .int (bI br), .ref bp])) (hL : Lst g M bp dd k f) (hk : k < 2 ^ 31) (hP : ∀ i, i < k → M (f i) = some (eO 5 [.int (pn i), .ref (pe i), .int (pw i), .ref (pb i), .int (bI (pr i)), .int (ps i), .int (wt i), .int (y1 i), .int (y2 i)])) (hj : j0 < k) (he : pn j0 = x) (hne : ∀ j, j < j0 → pn j ≠ x) : Met l yX0_followedTo (WY yX0_followedTo cX0_followedTo 5 (some .int)) { frames := 3, cells := 0, slots := 0, locals := 64 } (Wc g M [.ref a, .int x]) (rdQ (some (.int (zat pr pw j0)))) 0 0 fr0 := by
  refine ofM (by decide +kernel) (Nat.le_of_ble_eq_true rfl) (fun p e s m args below meth c ls C hr hlocks hin hE hH hl ea => ?_)
  have hl : lv_has ls 5 [(0, .ref a), (1, .int x)] := hl
  have hS : va_S (gA g) s.heap s.heap [] := va_S.rf
  obtain ⟨md9, hL0, hL1⟩ := id hL
  refine lv_bipush (v := 100) C.1 C.2.1 dX0_followedTo_0 rfl ?_
  refine lv_istore_n (lv' := [(2, .int 100), (0, .ref a), (1, .int x)]) C.1 C.2.1 dX0_followedTo_2 rfl hl (by decide) rfl (fun ls hl => ?_)
  refine lv_iconst (v := 0) C.1 C.2.1 dX0_followedTo_3 rfl ?_
  refine lv_istore_n (lv' := [(3, .int 0), (2, .int 100), (0, .ref a), (1, .int x)]) C.1 C.2.1 dX0_followedTo_4 rfl hl (by decide) rfl (fun ls hl => ?_)
  have loop5 : ∀ (fu : Nat) (i : Nat) (b2 : Int32), (i ≤ j0) → (k < i + fu) → (b2 = zst pr pw i) →  ∀ (ls : Array Slot), lv_has ls 5 [(0, .ref a), (1, .int x), (2, .int b2), (3, .int (nI i))] → W p l e { frames := 3, cells := 0, slots := 0, locals := 64 } s m args below meth c s.heap [] 0 0 (MQ below (rdQ (some (.int (zat pr pw j0)))) args s 0 0 fr0) (F0 m 5 ls []) := by
    intro fu
    induction fu with
    | zero => intro i b2 hi hfu hst; exact absurd hfu (by omega)
    | succ fu ih =>
      intro i b2 hi hfu hst ls hl
      refine lv_iload_n C.1 C.2.1 dX0_followedTo_5 rfl (lv_at hl 3 rfl) ?_
      refine lv_aload_n C.1 C.2.1 dX0_followedTo_6 rfl (lv_at hl 0 rfl) ?_
      refine mget C hE hH fl_379 h0 rfl dX0_followedTo_7 ?_
      refine rd_go1 (runV C hE hH hS (c_L_size hL0) mv_Jx4a65c_size_8abf5 wm_674 hL0 rfl rfl hl.1 dX0_followedTo_10 rfl rfl ⟨rfl, rfl⟩ ⟨Nat.le_of_ble_eq_true rfl, Nat.le_of_ble_eq_true rfl⟩ (Nat.le_of_ble_eq_true rfl) ⟨Nat.le_of_ble_eq_true rfl, Nat.le_of_ble_eq_true rfl⟩) ?_
      refine lv_icmp_ge (tgt := 67) C.1 C.2.1 dX0_followedTo_13 (by decide) (fun c13 => ?_) (fun c13 => ?_)
      · exact absurd ((nI_leI (by omega) (by omega)).mp c13) (by omega)
      · refine lv_aload_n C.1 C.2.1 dX0_followedTo_16 rfl (lv_at hl 0 rfl) ?_
        refine mget C hE hH fl_379 h0 rfl dX0_followedTo_17 ?_
        refine lv_iload_n C.1 C.2.1 dX0_followedTo_20 rfl (lv_at hl 3 rfl) ?_
        have hi9 : i < k := by omega
        obtain ⟨n9, row9, hd9, hv9, hy9⟩ := Lst_nI hL hk hi9
        have hP9 := hP i hi9
        refine rd_go1 (runV C hE hH hS (c_L_get hL0 hd9 (hv9) (hy9) (nI_pos (by omega)) ((nI_ltI (by omega) hk).mpr hi9)) mv_Jx4a65c_get_915e3 wm_675 hL0 rfl rfl hl.1 dX0_followedTo_21 rfl rfl ⟨rfl, rfl⟩ ⟨Nat.le_of_ble_eq_true rfl, Nat.le_of_ble_eq_true rfl⟩ (Nat.le_of_ble_eq_true rfl) ⟨Nat.le_of_ble_eq_true rfl, Nat.le_of_ble_eq_true rfl⟩) ?_
        refine va_castS C.1 C.2.1 C.2.2.2.1 (C.2.2.2.2 _ wm_676) (hE.1.1 5 _ rfl).2 (m_recv hE hH hP9 (ci := 5) rfl) dX0_followedTo_24 ?_
        refine lv_astore (lv' := [(4, .ref (f i)), (0, .ref a), (1, .int x), (2, .int b2), (3, .int (nI i))]) C.1 C.2.1 dX0_followedTo_27 hl (by decide) rfl (fun ls hl => ?_)
        refine lv_aload C.1 C.2.1 dX0_followedTo_29 (lv_at hl 0 rfl) ?_
        refine mget C hE hH fl_431 hP9 rfl dX0_followedTo_31 ?_
        refine lv_if_eq (tgt := 40) C.1 C.2.1 dX0_followedTo_34 (by decide) (fun c34 => ?_) (fun c34 => ?_)
        · refine lv_aload C.1 C.2.1 dX0_followedTo_40 (lv_at hl 0 rfl) ?_
          refine mget C hE hH fl_424 hP9 rfl dX0_followedTo_42 ?_
          refine lv_iload_n C.1 C.2.1 dX0_followedTo_45 rfl (lv_at hl 2 rfl) ?_
          refine lv_icmp_ne (tgt := 51) C.1 C.2.1 dX0_followedTo_46 (by decide) (fun c46 => ?_) (fun c46 => ?_)
          · refine lv_iload_n C.1 C.2.1 dX0_followedTo_51 rfl (lv_at hl 3 rfl) ?_
            refine lv_aload C.1 C.2.1 dX0_followedTo_52 (lv_at hl 0 rfl) ?_
            refine mget C hE hH fl_427 hP9 rfl dX0_followedTo_54 ?_
            refine rd_go1 (runSN C hE hH hS (c_weakened b2 (pw i)) mv_X5_weakened hE.2.2.2.2.2.2.2.2.1.2 hl.1 dX0_followedTo_57 rfl rfl ⟨rfl, rfl⟩ ⟨Nat.le_of_ble_eq_true rfl, Nat.le_of_ble_eq_true rfl⟩ (Nat.le_of_ble_eq_true rfl) ⟨Nat.le_of_ble_eq_true rfl, Nat.le_of_ble_eq_true rfl⟩) ?_
            refine lv_istore_n (lv' := [(2, .int (zw b2 (pw i))), (4, .ref (f i)), (0, .ref a), (1, .int x), (3, .int (nI i))]) C.1 C.2.1 dX0_followedTo_60 rfl hl (by decide) rfl (fun ls hl => ?_)
            refine lv_iinc (v := nI (i + 1)) (lv' := [(3, .int (nI (i + 1))), (2, .int (zw b2 (pw i))), (4, .ref (f i)), (0, .ref a), (1, .int x)]) C.1 C.2.1 dX0_followedTo_61 hl (k := 4) rfl (nI_1 i) (by decide) rfl (fun ls hl => ?_)
            refine lv_goto (tgt := 5) C.1 C.2.1 dX0_followedTo_64 (by decide) ?_
            have hlt : i < j0 := by
              rcases Nat.lt_or_ge i j0 with q | q
              · exact q
              · exact absurd (by rw [show i = j0 by omega]; exact he) c46
            exact ih (i + 1) (zw b2 (pw i)) (by omega) (by omega) (by rw [zst, if_neg (by intro z; rw [bI_z2.mp c34] at z; cases z), ← hst]) ls (lv_sub hl [3, 4, 1, 0] rfl)
          · refine lv_iload_n C.1 C.2.1 dX0_followedTo_49 rfl (lv_at hl 3 rfl) ?_
            exact rd_iret C hr hlocks (by have e0 : i = j0 := Decidable.byContradiction (fun z => hne i (by omega) c46); subst e0; rw [zat, if_neg (by intro z; rw [bI_z2.mp c34] at z; cases z)]; exact hst) dX0_followedTo_50
        · refine lv_bipush (v := 100) C.1 C.2.1 dX0_followedTo_37 rfl ?_
          refine lv_istore_n (lv' := [(2, .int 100), (4, .ref (f i)), (0, .ref a), (1, .int x), (3, .int (nI i))]) C.1 C.2.1 dX0_followedTo_39 rfl hl (by decide) rfl (fun ls hl => ?_)
          refine lv_aload C.1 C.2.1 dX0_followedTo_40 (lv_at hl 1 rfl) ?_
          refine mget C hE hH fl_424 hP9 rfl dX0_followedTo_42 ?_
          refine lv_iload_n C.1 C.2.1 dX0_followedTo_45 rfl (lv_at hl 3 rfl) ?_
          refine lv_icmp_ne (tgt := 51) C.1 C.2.1 dX0_followedTo_46 (by decide) (fun c46 => ?_) (fun c46 => ?_)
          · refine lv_iload_n C.1 C.2.1 dX0_followedTo_51 rfl (lv_at hl 0 rfl) ?_
            refine lv_aload C.1 C.2.1 dX0_followedTo_52 (lv_at hl 1 rfl) ?_
            refine mget C hE hH fl_427 hP9 rfl dX0_followedTo_54 ?_
            refine rd_go1 (runSN C hE hH hS (c_weakened 100 (pw i)) mv_X5_weakened hE.2.2.2.2.2.2.2.2.1.2 hl.1 dX0_followedTo_57 rfl rfl ⟨rfl, rfl⟩ ⟨Nat.le_of_ble_eq_true rfl, Nat.le_of_ble_eq_true rfl⟩ (Nat.le_of_ble_eq_true rfl) ⟨Nat.le_of_ble_eq_true rfl, Nat.le_of_ble_eq_true rfl⟩) ?_
            refine lv_istore_n (lv' := [(2, .int (zw 100 (pw i))), (4, .ref (f i)), (0, .ref a), (1, .int x), (3, .int (nI i))]) C.1 C.2.1 dX0_followedTo_60 rfl hl (by decide) rfl (fun ls hl => ?_)
            refine lv_iinc (v := nI (i + 1)) (lv' := [(3, .int (nI (i + 1))), (2, .int (zw 100 (pw i))), (4, .ref (f i)), (0, .ref a), (1, .int x)]) C.1 C.2.1 dX0_followedTo_61 hl (k := 4) rfl (nI_1 i) (by decide) rfl (fun ls hl => ?_)
            refine lv_goto (tgt := 5) C.1 C.2.1 dX0_followedTo_64 (by decide) ?_
            have hlt : i < j0 := by
              rcases Nat.lt_or_ge i j0 with q | q
              · exact q
              · exact absurd (by rw [show i = j0 by omega]; exact he) c46
            exact ih (i + 1) (zw 100 (pw i)) (by omega) (by omega) (by rw [zst, if_pos (by cases e : pr i with | true => rfl | false => exact absurd (bI_z2.mpr e) c34)]) ls (lv_sub hl [3, 4, 1, 0] rfl)
          · refine lv_iload_n C.1 C.2.1 dX0_followedTo_49 rfl (lv_at hl 0 rfl) ?_
            exact rd_iret C hr hlocks (by have e0 : i = j0 := Decidable.byContradiction (fun z => hne i (by omega) c46); subst e0; rw [zat, if_pos (by cases e : pr i with | true => rfl | false => exact absurd (bI_z2.mpr e) c34)]) dX0_followedTo_50
  exact loop5 (k + 1) 0 100 (Nat.zero_le _) (by omega) (rfl) _ (lv_sub hl [2, 3, 1, 0] rfl)
set_option maxHeartbeats 4000000 in
set_option maxRecDepth 100000 in
theorem c_reqWait {l : Launch} {g : gG} {M : Mp} {o : Nat} {on ow oy oc : Int32} {oe : Nat} {po : Option Nat} (hlx : l.stackTraces = false) (h0 : M o = some (eO 4 [.int on, .ref oe, .int ow, .int oy, (va_rf po), .int oc])) : vx_Met l yX5_requireWaiting (WY yX5_requireWaiting cX5_requireWaiting 1 none) { frames := 6, cells := 1, slots := 6, locals := 82 } (Wc g M [.ref o]) (xrQ (po = none) none) (xQ (fun E_ => E_ = xIS ∧ ¬ po = none)) 1 6 fr0 := by
  refine ofX (by decide +kernel) (Nat.le_of_ble_eq_true rfl) (fun p e s m args below meth c ls C hr hlocks hout hE hH hl ea => ?_)
  have hl : lv_has ls 1 [(0, .ref o)] := hl
  have hS : va_S (gA g) s.heap s.heap [] := va_S.rf
  cases po with
  | none =>
    refine lv_aload_n C.1 C.2.1 dX5_requireWaiting_0 rfl (lv_at hl 0 rfl) ?_
    refine mget C hE hH fl_575 h0 rfl dX5_requireWaiting_1 ?_
    refine lv_ifnullN (tgt := 17) C.1 C.2.1 dX5_requireWaiting_4 (by decide) ?_
    exact xr_vret C hr hlocks (rfl)  (by decide) (by decide) dX5_requireWaiting_17
  | some q9 =>
    refine lv_aload_n C.1 C.2.1 dX5_requireWaiting_0 rfl (lv_at hl 0 rfl) ?_
    refine mget C hE hH fl_575 h0 rfl dX5_requireWaiting_1 ?_
    refine lv_ifnull C.1 C.2.1 dX5_requireWaiting_4 ?_
    exact x_throw C hlx hout hlocks hE tw_156_214_160 hl.1 (⟨rfl, fun z => by cases z⟩) dX5_requireWaiting_7 dX5_requireWaiting_10 dX5_requireWaiting_11 dX5_requireWaiting_13 dX5_requireWaiting_16 (by decide) (Nat.le_of_ble_eq_true rfl) (by decide) (by decide) (by decide) (by decide)
set_option maxHeartbeats 4000000 in
set_option maxRecDepth 100000 in
theorem c_pieceOf {l : Launch} {g : gG} {M : Mp} {o : Nat} {on ow oy oc : Int32} {oe : Nat} {po : Option Nat} (hlx : l.stackTraces = false) (h0 : M o = some (eO 4 [.int on, .ref oe, .int ow, .int oy, (va_rf po), .int oc])) : vx_Met l yX5_pieceOf (WY yX5_pieceOf cX5_pieceOf 2 (some (.object "DyeRing$Piece"))) { frames := 6, cells := 1, slots := 6, locals := 82 } (Wc g M [.ref o]) (xrQ (po ≠ none) (some (.ref (po.getD 0)))) (xQ (fun E_ => E_ = xIS ∧ ¬ po ≠ none)) 1 6 fr0 := by
  refine ofX (by decide +kernel) (Nat.le_of_ble_eq_true rfl) (fun p e s m args below meth c ls C hr hlocks hout hE hH hl ea => ?_)
  have hl : lv_has ls 2 [(0, .ref o)] := hl
  have hS : va_S (gA g) s.heap s.heap [] := va_S.rf
  cases po with
  | none =>
    refine lv_aload_n C.1 C.2.1 dX5_pieceOf_0 rfl (lv_at hl 0 rfl) ?_
    refine mget C hE hH fl_575 h0 rfl dX5_pieceOf_1 ?_
    refine lv_astore_nN (lv' := [(1, .null), (0, .ref o)]) C.1 C.2.1 dX5_pieceOf_4 rfl hl (by decide) rfl (fun ls hl => ?_)
    refine lv_aload_nN C.1 C.2.1 dX5_pieceOf_5 rfl (lv_at hl 0 rfl) ?_
    refine lv_ifnonnullN C.1 C.2.1 dX5_pieceOf_6 ?_
    exact x_throw C hlx hout hlocks hE tw_156_216_160 hl.1 (⟨rfl, fun z => z rfl⟩) dX5_pieceOf_9 dX5_pieceOf_12 dX5_pieceOf_13 dX5_pieceOf_15 dX5_pieceOf_18 (by decide) (Nat.le_of_ble_eq_true rfl) (by decide) (by decide) (by decide) (by decide)
  | some q9 =>
    refine lv_aload_n C.1 C.2.1 dX5_pieceOf_0 rfl (lv_at hl 0 rfl) ?_
    refine mget C hE hH fl_575 h0 rfl dX5_pieceOf_1 ?_
    refine lv_astore_n (lv' := [(1, .ref q9), (0, .ref o)]) C.1 C.2.1 dX5_pieceOf_4 rfl hl (by decide) rfl (fun ls hl => ?_)
    refine lv_aload_n C.1 C.2.1 dX5_pieceOf_5 rfl (lv_at hl 0 rfl) ?_
    refine lv_ifnonnull (tgt := 19) C.1 C.2.1 dX5_pieceOf_6 (by decide) ?_
    refine lv_aload_n C.1 C.2.1 dX5_pieceOf_19 rfl (lv_at hl 0 rfl) ?_
    exact xr_aret C hr hlocks (by first | exact Or.inl ⟨_, rfl⟩ | exact Or.inr ⟨_, rfl⟩) (fun z => by cases z) (rfl) (by decide) (by decide) dX5_pieceOf_20
theorem gE_ed {g : gG} {s : State} (h : gE g s) : ¬ g.1 ≤ g.2.2.2 0 := h.2.2.1.out
theorem gE_cas {g : gG} {x : String} (hx : x ∈ gOb) : ∀ s : State, gE g s → va_Nw (.castable x "java/lang/Object") s := fun s h => h.2.2.2.2.2.2.2.2.2.2.2.2.1 x hx
theorem Lst_keep {g : gG} {M M' : Mp} {a d k : Nat} {f : Nat → Nat} (h : Lst g M a d k f) (ha : M' a = M a) (hd : M' d = M d) : Lst g M' a d k f := by
  obtain ⟨md, h1, h2⟩ := h
  exact ⟨md, ha.trans h1, h2.imp (fun z => ⟨z.1, z.2.1, hd.trans z.2.2⟩) (fun ⟨n, row, z⟩ => ⟨n, row, hd.trans z.1, z.2⟩)⟩
theorem Lst_new {g : gG} {M : Mp} {a d k q : Nat} {f : Nat → Nat} {e : va_E} (h : Lst g M a d k f) (hq : M q = none) (hg : g.1 ≤ q) (hed : ¬ g.1 ≤ g.2.2.2 0) : Lst g (mu M q e) a d k f := by
  obtain ⟨md, h1, h2⟩ := id h
  refine Lst_keep h (mu_n (m_new hq h1)) (mu_n ?_)
  rcases h2 with ⟨-, rfl, -⟩ | ⟨n, row, z, -⟩
  · exact fun z => hed (z ▸ hg)
  · exact m_new hq z
theorem Lst_mu {g : gG} {M : Mp} {a d k b : Nat} {f : Nat → Nat} {x e : va_E} (h : Lst g M a d k f) (hb : M b = some x) (hx : ∀ fs, x ≠ eO 0 fs) (hx2 : ∀ n r, x ≠ eQ g 2 n r) : Lst g (mu M b e) a d k f := by
  obtain ⟨md, h1, h2⟩ := id h
  refine Lst_keep h (mu_n (m_ne hb h1 (hx _)).symm) (mu_n ?_)
  rcases h2 with ⟨-, -, hn⟩ | ⟨n, row, z, -⟩
  · exact (m_new hn hb).symm
  · exact (m_ne hb z (hx2 _ _)).symm
set_option maxHeartbeats 4000000 in
set_option maxRecDepth 100000 in
theorem c_take {l : Launch} {g : gG} {M : Mp} {a p0 dd k : Nat} {f : Nat → Nat} {pn : Int32} {pe : Nat} {pw : Int32} {pb : Nat} {pr : Bool} {ps wt y1 y2 : Int32}{bd : Int32} {be : Nat} {bs : Int32} {br : Bool} {bp : Nat} (h0 : M a = some (eO 1 [.int bd, .ref be, .int bs, .int (bI br), .ref bp])) (h1 : M p0 = some (eO 5 [.int pn, .ref pe, .int pw, .ref pb, .int (bI pr), .int ps, .int wt, .int y1, .int y2])) (hL : Lst g M bp dd k f) (hk : k ≤ 100) (hel : ∀ j, j < k → ∃ vs, M (f j) = some (eO 5 vs)) : Met l yX0_take (WY yX0_take cX0_take 2 none) { frames := 7, cells := 1, slots := 200, locals := 191 } (Wc g M [.ref a, .ref p0]) (wrQ (S := Unit) g (fun u_ => none) (fun u_ M_ => ∃ M1, ladd g M bp dd k p0 f M1 ∧ M_ = mu M1 a (eO 1 [.int bd, .ref be, .int (zw bs pw), .int 0, .ref bp]))) 1 200 (gA g) := by
  refine ofM (by decide +kernel) (Nat.le_of_ble_eq_true rfl) (fun p e s m args below meth c ls C hr hlocks hin hE hH hl ea => ?_)
  have hl : lv_has ls 2 [(0, .ref a), (1, .ref p0)] := hl
  have hS : va_S (gA g) s.heap s.heap [] := va_S.rf
  obtain ⟨md9, hL0, -⟩ := id hL
  refine lv_aload_n C.1 C.2.1 dX0_take_0 rfl (lv_at hl 0 rfl) ?_
  refine mget C hE hH fl_379 h0 rfl dX0_take_1 ?_
  refine lv_aload_n C.1 C.2.1 dX0_take_4 rfl (lv_at hl 1 rfl) ?_
  refine wr_go1 (runV C hE hH hS (c_add (r := (RX4, TX4, 9)) hL hk h1 rfl (gE_cas (x := "DyeRing$Piece") (by decide)) (by decide) hel) mv_Jx4a65c_add_9ea2d wm_460 hL0 rfl rfl hl.1 dX0_take_5 rfl rfl ⟨rfl, rfl⟩ ⟨Nat.le_of_ble_eq_true rfl, Nat.le_of_ble_eq_true rfl⟩ (Nat.le_of_ble_eq_true rfl) ⟨Nat.le_of_ble_eq_true rfl, Nat.le_of_ble_eq_true rfl⟩) hS (fun u1 M2 H locs hM2 hH hS => ?_)
  have f3 : M2 a = some (eO 1 [.int bd, .ref be, .int bs, .int (bI br), .ref bp]) := ladd_keep hL hM2 h0 (by intro fs z; cases z) (by intro n r z; cases z)
  have f4 : M2 p0 = some (eO 5 [.int pn, .ref pe, .int pw, .ref pb, .int (bI pr), .int ps, .int wt, .int y1, .int y2]) := ladd_keep hL hM2 h1 (by intro fs z; cases z) (by intro n r z; cases z)
  refine lv_pop C.1 C.2.1 dX0_take_8 rfl ?_
  refine lv_aload_n C.1 C.2.1 dX0_take_9 rfl (lv_at hl 0 rfl) ?_
  refine lv_aload_n C.1 C.2.1 dX0_take_10 rfl (lv_at hl 0 rfl) ?_
  refine mget C hE hH fl_374 f3 rfl dX0_take_11 ?_
  refine lv_aload_n C.1 C.2.1 dX0_take_14 rfl (lv_at hl 1 rfl) ?_
  refine mget C hE hH fl_427 f4 rfl dX0_take_15 ?_
  refine rd_go1 (runSN C hE hH hS (c_weakened bs pw) mv_X5_weakened hE.2.2.2.2.2.2.2.2.1.2 hl.1 dX0_take_18 rfl rfl ⟨rfl, rfl⟩ ⟨Nat.le_of_ble_eq_true rfl, Nat.le_of_ble_eq_true rfl⟩ (Nat.le_of_ble_eq_true rfl) ⟨Nat.le_of_ble_eq_true rfl, Nat.le_of_ble_eq_true rfl⟩) ?_
  refine mput (fs' := [.int bd, .ref be, .int (zw bs pw), .int (bI br), .ref bp]) C hE hH hS fl_374 f3 rfl rfl rfl (Nat.le_of_ble_eq_true rfl) dX0_take_21 (fun H locs hH hS => ?_)
  obtain ⟨M5, hM5⟩ : ∃ z, z = mu M2 a (eO 1 [.int bd, .ref be, .int (zw bs pw), .int (bI br), .ref bp]) := ⟨_, rfl⟩
  have hH : Hw g M5 H := by rw [hM5]; exact hH
  have f6 : M5 a = some (eO 1 [.int bd, .ref be, .int (zw bs pw), .int (bI br), .ref bp]) := by rw [hM5]; exact mu_s
  have f7 : M5 p0 = some (eO 5 [.int pn, .ref pe, .int pw, .ref pb, .int (bI pr), .int ps, .int wt, .int y1, .int y2]) := by rw [hM5]; exact (mu_n (m_ne f4 f3 (by first | (intro z; cases z; done) | exact ne_IQ | exact ne_IQ.symm | exact ne_LI | exact ne_LI.symm | (intro z; cases z; omega) | (intro z; cases z; contradiction) | exact (fun z => by cases z)))).trans f4
  refine lv_aload_n C.1 C.2.1 dX0_take_24 rfl (lv_at hl 0 rfl) ?_
  refine lv_iconst (v := 0) C.1 C.2.1 dX0_take_25 rfl ?_
  refine mput (fs' := [.int bd, .ref be, .int (zw bs pw), .int 0, .ref bp]) C hE hH hS fl_378 f6 rfl rfl rfl (Nat.le_of_ble_eq_true rfl) dX0_take_26 (fun H locs hH hS => ?_)
  obtain ⟨M8, hM8⟩ : ∃ z, z = mu M5 a (eO 1 [.int bd, .ref be, .int (zw bs pw), .int 0, .ref bp]) := ⟨_, rfl⟩
  have hH : Hw g M8 H := by rw [hM8]; exact hH
  have f9 : M8 a = some (eO 1 [.int bd, .ref be, .int (zw bs pw), .int 0, .ref bp]) := by rw [hM8]; exact mu_s
  have f10 : M8 p0 = some (eO 5 [.int pn, .ref pe, .int pw, .ref pb, .int (bI pr), .int ps, .int wt, .int y1, .int y2]) := by rw [hM8]; exact (mu_n (m_ne f7 f6 (by first | (intro z; cases z; done) | exact ne_IQ | exact ne_IQ.symm | exact ne_LI | exact ne_LI.symm | (intro z; cases z; omega) | (intro z; cases z; contradiction) | exact (fun z => by cases z)))).trans f7
  exact wr_vret () C hr hlocks hH hS rfl (⟨M2, hM2, by (rw [hM8, hM5]) <;> simp only [mu_mu]⟩) (by decide) (by decide) dX0_take_29
set_option maxHeartbeats 4000000 in
set_option maxRecDepth 100000 in
theorem c_dyeIn {l : Launch} {g : gG} {M : Mp} {x eL bL oL wa yf ys bl cl : Nat} {o b dd k : Nat} {f : Nat → Nat} {on ow oy : Int32} {oe : Nat} {oc : Bool} {bd : Int32} {be : Nat} {bs : Int32} {br : Bool} {bp : Nat}{fw ff fs : Nat → Int32} (h0 : M x = some (eO 6 [.ref eL, .ref bL, .ref oL, .ref wa, .ref yf, .ref ys, .ref bl, .ref cl])) (h1 : M o = some (eO 4 [.int on, .ref oe, .int ow, .int oy, .null, .int (bI oc)])) (h2 : M b = some (eO 1 [.int bd, .ref be, .int bs, .int (bI br), .ref bp])) (h3 : M wa = some (eI g 3 fw)) (h4 : M yf = some (eI g 4 ff)) (h5 : M ys = some (eI g 4 fs)) (hbd : vp_in bd 3) (hoy : vp_in oy 4) (hL : Lst g M bp dd k f) (hk : k ≤ 100) (hel : ∀ j, j < k → ∃ vs, M (f j) = some (eO 5 vs)) : Met l yX5_dyeIn (WY yX5_dyeIn cX5_dyeIn 4 (some (.object "DyeRing$Piece"))) { frames := 8, cells := 2, slots := 209, locals := 212 } (Wc g M [.ref x, .ref o, .ref b]) (wrQ (S := Nat) g (fun u_ => (some (.ref u_))) (fun u_ M_ => M u_ = none ∧ g.1 ≤ u_ ∧ ∃ M1, ladd g (mu (mu M u_ (eO 5 [.int on, .ref oe, .int ow, .ref b, .int (bI br), .int bs, .int (fw bd.toNatClampNeg), .int (ff oy.toNatClampNeg), .int (fs oy.toNatClampNeg)])) o (eO 4 [.int on, .ref oe, .int ow, .int oy, .ref u_, .int (bI oc)])) bp dd k u_ f M1 ∧ M_ = mu M1 b (eO 1 [.int bd, .ref be, .int (zw bs ow), .int 0, .ref bp]))) 2 209 (gA g) := by
  refine ofM (by decide +kernel) (Nat.le_of_ble_eq_true rfl) (fun p e s m args below meth c ls C hr hlocks hin hE hH hl ea => ?_)
  have hl : lv_has ls 4 [(0, .ref x), (1, .ref o), (2, .ref b)] := hl
  have hS : va_S (gA g) s.heap s.heap [] := va_S.rf
  refine mnew (C := C) (hE := hE) (hH := hH) (hS := hS) (F := cb_RX4) (h1 := wm_417) (h2 := wm_418) (h3 := wm_32) (by decide) (by decide) dX5_dyeIn_0 (fun q1 H nq1 gq1 hH hS => ?_)
  obtain ⟨M2, hM2⟩ : ∃ z, z = mu M q1 (eO 5 [.int 0, .null, .int 0, .null, .int 0, .int 0, .int 0, .int 0, .int 0]) := ⟨_, rfl⟩
  have hH : Hw g M2 H := by rw [hM2]; exact hH
  have f3 : M2 q1 = some (eO 5 [.int 0, .null, .int 0, .null, .int 0, .int 0, .int 0, .int 0, .int 0]) := by rw [hM2]; exact mu_s
  have f4 : M2 x = some (eO 6 [.ref eL, .ref bL, .ref oL, .ref wa, .ref yf, .ref ys, .ref bl, .ref cl]) := by rw [hM2]; exact (mu_n (m_new nq1 h0)).trans h0
  have f5 : M2 o = some (eO 4 [.int on, .ref oe, .int ow, .int oy, .null, .int (bI oc)]) := by rw [hM2]; exact (mu_n (m_new nq1 h1)).trans h1
  have f6 : M2 b = some (eO 1 [.int bd, .ref be, .int bs, .int (bI br), .ref bp]) := by rw [hM2]; exact (mu_n (m_new nq1 h2)).trans h2
  have f7 : M2 wa = some (eI g 3 fw) := by rw [hM2]; exact (mu_n (m_new nq1 h3)).trans h3
  have f8 : M2 yf = some (eI g 4 ff) := by rw [hM2]; exact (mu_n (m_new nq1 h4)).trans h4
  have f9 : M2 ys = some (eI g 4 fs) := by rw [hM2]; exact (mu_n (m_new nq1 h5)).trans h5
  refine lv_dup C.1 C.2.1 dX5_dyeIn_3 rfl ?_
  refine lv_aload_n C.1 C.2.1 dX5_dyeIn_4 rfl (lv_at hl 1 rfl) ?_
  refine lv_aload_n C.1 C.2.1 dX5_dyeIn_5 rfl (lv_at hl 2 rfl) ?_
  refine lv_aload_n C.1 C.2.1 dX5_dyeIn_6 rfl (lv_at hl 0 rfl) ?_
  refine mget C hE hH fl_95 f4 rfl dX5_dyeIn_7 ?_
  refine lv_aload_n C.1 C.2.1 dX5_dyeIn_10 rfl (lv_at hl 2 rfl) ?_
  refine mget C hE hH fl_371 f6 rfl dX5_dyeIn_11 ?_
  refine mald C hE hH f7 hbd dX5_dyeIn_14 ?_
  refine lv_aload_n C.1 C.2.1 dX5_dyeIn_15 rfl (lv_at hl 0 rfl) ?_
  refine mget C hE hH fl_96 f4 rfl dX5_dyeIn_16 ?_
  refine lv_aload_n C.1 C.2.1 dX5_dyeIn_19 rfl (lv_at hl 1 rfl) ?_
  refine mget C hE hH fl_574 f5 rfl dX5_dyeIn_20 ?_
  refine mald C hE hH f8 hoy dX5_dyeIn_23 ?_
  refine lv_aload_n C.1 C.2.1 dX5_dyeIn_24 rfl (lv_at hl 0 rfl) ?_
  refine mget C hE hH fl_97 f4 rfl dX5_dyeIn_25 ?_
  refine lv_aload_n C.1 C.2.1 dX5_dyeIn_28 rfl (lv_at hl 1 rfl) ?_
  refine mget C hE hH fl_574 f5 rfl dX5_dyeIn_29 ?_
  refine mald C hE hH f9 hoy dX5_dyeIn_32 ?_
  refine wr_go0 (runI C hE hH hS (c_P_init f3 f5 f6 (fw bd.toNatClampNeg) (ff oy.toNatClampNeg) (fs oy.toNatClampNeg)) mv_X4_init wm_419 hl.1 dX5_dyeIn_33 rfl rfl ⟨rfl, rfl⟩ ⟨Nat.le_of_ble_eq_true rfl, Nat.le_of_ble_eq_true rfl⟩ (Nat.le_of_ble_eq_true rfl) ⟨Nat.le_of_ble_eq_true rfl, Nat.le_of_ble_eq_true rfl⟩) hS (fun u10 M11 H locs hM11 hH hS => ?_)
  have f12 : M11 q1 = some (eO 5 [.int on, .ref oe, .int ow, .ref b, .int (bI br), .int bs, .int (fw bd.toNatClampNeg), .int (ff oy.toNatClampNeg), .int (fs oy.toNatClampNeg)]) := by rw [hM11]; exact mu_s
  have f13 : M11 x = some (eO 6 [.ref eL, .ref bL, .ref oL, .ref wa, .ref yf, .ref ys, .ref bl, .ref cl]) := by rw [hM11]; exact (mu_n (m_new nq1 h0)).trans f4
  have f14 : M11 o = some (eO 4 [.int on, .ref oe, .int ow, .int oy, .null, .int (bI oc)]) := by rw [hM11]; exact (mu_n (m_new nq1 h1)).trans f5
  have f15 : M11 b = some (eO 1 [.int bd, .ref be, .int bs, .int (bI br), .ref bp]) := by rw [hM11]; exact (mu_n (m_new nq1 h2)).trans f6
  have f16 : M11 wa = some (eI g 3 fw) := by rw [hM11]; exact (mu_n (m_new nq1 h3)).trans f7
  have f17 : M11 yf = some (eI g 4 ff) := by rw [hM11]; exact (mu_n (m_new nq1 h4)).trans f8
  have f18 : M11 ys = some (eI g 4 fs) := by rw [hM11]; exact (mu_n (m_new nq1 h5)).trans f9
  refine lv_astore_n (lv' := [(3, .ref q1), (0, .ref x), (1, .ref o), (2, .ref b)]) C.1 C.2.1 dX5_dyeIn_36 rfl hl (by decide) rfl (fun ls hl => ?_)
  refine lv_aload_n C.1 C.2.1 dX5_dyeIn_37 rfl (lv_at hl 2 rfl) ?_
  refine lv_aload_n C.1 C.2.1 dX5_dyeIn_38 rfl (lv_at hl 0 rfl) ?_
  refine mput (fs' := [.int on, .ref oe, .int ow, .int oy, .ref q1, .int (bI oc)]) C hE hH hS fl_575 f14 rfl rfl rfl (Nat.le_of_ble_eq_true rfl) dX5_dyeIn_39 (fun H locs hH hS => ?_)
  obtain ⟨M19, hM19⟩ : ∃ z, z = mu M11 o (eO 4 [.int on, .ref oe, .int ow, .int oy, .ref q1, .int (bI oc)]) := ⟨_, rfl⟩
  have hH : Hw g M19 H := by rw [hM19]; exact hH
  have f20 : M19 o = some (eO 4 [.int on, .ref oe, .int ow, .int oy, .ref q1, .int (bI oc)]) := by rw [hM19]; exact mu_s
  have f21 : M19 x = some (eO 6 [.ref eL, .ref bL, .ref oL, .ref wa, .ref yf, .ref ys, .ref bl, .ref cl]) := by rw [hM19]; exact (mu_n (m_ne f13 f14 (by first | (intro z; cases z; done) | exact ne_IQ | exact ne_IQ.symm | exact ne_LI | exact ne_LI.symm | (intro z; cases z; omega) | (intro z; cases z; contradiction) | exact (fun z => by cases z)))).trans f13
  have f22 : M19 b = some (eO 1 [.int bd, .ref be, .int bs, .int (bI br), .ref bp]) := by rw [hM19]; exact (mu_n (m_ne f15 f14 (by first | (intro z; cases z; done) | exact ne_IQ | exact ne_IQ.symm | exact ne_LI | exact ne_LI.symm | (intro z; cases z; omega) | (intro z; cases z; contradiction) | exact (fun z => by cases z)))).trans f15
  have f23 : M19 wa = some (eI g 3 fw) := by rw [hM19]; exact (mu_n (m_ne f16 f14 (by first | (intro z; cases z; done) | exact ne_IQ | exact ne_IQ.symm | exact ne_LI | exact ne_LI.symm | (intro z; cases z; omega) | (intro z; cases z; contradiction) | exact (fun z => by cases z)))).trans f16
  have f24 : M19 yf = some (eI g 4 ff) := by rw [hM19]; exact (mu_n (m_ne f17 f14 (by first | (intro z; cases z; done) | exact ne_IQ | exact ne_IQ.symm | exact ne_LI | exact ne_LI.symm | (intro z; cases z; omega) | (intro z; cases z; contradiction) | exact (fun z => by cases z)))).trans f17
  have f25 : M19 ys = some (eI g 4 fs) := by rw [hM19]; exact (mu_n (m_ne f18 f14 (by first | (intro z; cases z; done) | exact ne_IQ | exact ne_IQ.symm | exact ne_LI | exact ne_LI.symm | (intro z; cases z; omega) | (intro z; cases z; contradiction) | exact (fun z => by cases z)))).trans f18
  have f26 : M19 q1 = some (eO 5 [.int on, .ref oe, .int ow, .ref b, .int (bI br), .int bs, .int (fw bd.toNatClampNeg), .int (ff oy.toNatClampNeg), .int (fs oy.toNatClampNeg)]) := by rw [hM19]; exact (mu_n ((m_new nq1 h1)).symm).trans f12
  refine lv_aload_n C.1 C.2.1 dX5_dyeIn_42 rfl (lv_at hl 3 rfl) ?_
  refine lv_aload_n C.1 C.2.1 dX5_dyeIn_43 rfl (lv_at hl 0 rfl) ?_
  have hL2 := Lst_new (e := eO 5 [.int 0, .null, .int 0, .null, .int 0, .int 0, .int 0, .int 0, .int 0]) hL nq1 gq1 (gE_ed hE)
  rw [← hM2] at hL2
  have hM5 : M11 = mu M q1 (eO 5 [.int on, .ref oe, .int ow, .ref b, .int (bI br), .int bs, .int (fw bd.toNatClampNeg), .int (ff oy.toNatClampNeg), .int (fs oy.toNatClampNeg)]) := by rw [hM11, hM2, mu_mu]
  have hL3 : Lst g M11 bp dd k f := by rw [hM5]; exact Lst_new hL nq1 gq1 (gE_ed hE)
  have hL4 : Lst g M19 bp dd k f := by rw [hM19]; exact Lst_mu hL3 f14 (by intro fs z; cases z) (by intro n r z; cases z)
  have hel4 : ∀ j, j < k → ∃ vs, M19 (f j) = some (eO 5 vs) := fun j hj => by obtain ⟨vs, hv⟩ := hel j hj; exact ⟨vs, by rw [hM19, mu_n (m_ne (by rw [hM5, mu_n (m_new nq1 hv)]; exact hv) f14 (by intro z; cases z)), hM5, mu_n (m_new nq1 hv)]; exact hv⟩
  refine wr_go0 (runV C hE hH hS (c_take f22 f26 (hL4) (hk) (hel4)) mv_X0_take wm_456 f22 rfl rfl hl.1 dX5_dyeIn_44 rfl rfl ⟨rfl, rfl⟩ ⟨Nat.le_of_ble_eq_true rfl, Nat.le_of_ble_eq_true rfl⟩ (Nat.le_of_ble_eq_true rfl) ⟨Nat.le_of_ble_eq_true rfl, Nat.le_of_ble_eq_true rfl⟩) hS (fun u27 M28 H locs hM28 hH hS => ?_)
  refine lv_aload_n C.1 C.2.1 dX5_dyeIn_47 rfl (lv_at hl 0 rfl) ?_
  exact wr_aret q1 C hr hlocks (by first | exact Or.inl ⟨_, rfl⟩ | exact Or.inr ⟨_, rfl⟩) hH hS rfl (⟨nq1, gq1, by have h9 := hM28; rw [hM19, hM5] at h9; exact h9⟩) (by decide) (by decide) dX5_dyeIn_48
