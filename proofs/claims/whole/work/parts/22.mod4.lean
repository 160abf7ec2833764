/-! THE MODEL: CLAIM, PLACE, GIVE -/
set_option maxHeartbeats 4000000 in
set_option maxRecDepth 100000 in
theorem mw_claim {l : Launch} {g : gG} {M : Mp} {mo : Nat} {ad : Nat → Nat} {sc : Nat → Int32} {ar : Nat → Nat → Int32} {ne nb no : Nat}  (hI : MI g M mo ad sc ar) (hs0 : sc 0 = nI ne) (hs5 : sc 5 = nI nb) (hs9 : sc 9 = nI no) (hb0 : ne ≤ 12) (hb5 : nb ≤ 10) (hb9 : no ≤ 40) (hPo : PO ar ne nb no) (p0 : Int32) : Met l yX6_claim (WY yX6_claim cX6_claim 8 (some .int)) { frames := 3, cells := 0, slots := 0, locals := 68 } (Wc g M [.ref mo, .int p0]) (wrQ (S := Int32) g (fun u_ => (some (.int u_))) (fun u_ M_ => MQ2 (inx p0 no) (((inx p0 no) ∧ ar 13 p0.toNatClampNeg = 1) ∧ ¬ zmof ar p0.toNatClampNeg ≤ ar 2 (zE ar p0.toNatClampNeg)) (u_ = (zmbl ar p0.toNatClampNeg) ∧ MX g M M_ mo ad (us sc 23 0) (ua (ua ar 13 (upd (ar 13) p0.toNatClampNeg 2)) 19 (upd (ar 19) (zmix ar p0.toNatClampNeg) (ar 19 (zmix ar p0.toNatClampNeg) + 1)))) (fun t_ => u_ = 0 ∧ MX g M M_ mo ad (us sc 23 t_) ar))) 0 0 (gA g) := by
  refine ofM (by decide +kernel) (Nat.le_of_ble_eq_true rfl) (fun p e s m args below meth c ls C hr hlocks hin hE hH hl ea => ?_)
  have hl : lv_has ls 8 [(0, .ref mo), (1, .int p0)] := hl
  have hS : va_S (gA g) s.heap s.heap [] := va_S.rf
  have X0 := MX_rf hI
  refine lv_aload_n C.1 C.2.1 dX6_claim_0 rfl (lv_at hl 0 rfl) ?_
  refine lv_iload_n C.1 C.2.1 dX6_claim_1 rfl (lv_at hl 1 rfl) ?_
  refine rd_go1 (runV C hE hH hS (m_isOrder X0.1 hs0 hs5 hs9 hb0 hb5 hb9 p0) mv_X6_isOrder wm_872 (MX_m X0) rfl rfl hl.1 dX6_claim_2 rfl rfl ⟨rfl, rfl⟩ ⟨Nat.le_of_ble_eq_true rfl, Nat.le_of_ble_eq_true rfl⟩ (Nat.le_of_ble_eq_true rfl) ⟨Nat.le_of_ble_eq_true rfl, Nat.le_of_ble_eq_true rfl⟩) ?_
  obtain ⟨b1, hb1⟩ : ∃ z : Bool, z = decide (inx p0 no) := ⟨_, rfl⟩
  rw [← hb1]
  refine lv_istore_n (lv' := [(2, .int (bI b1)), (0, .ref mo), (1, .int p0)]) C.1 C.2.1 dX6_claim_5 rfl hl (by decide) rfl (fun ls hl => ?_)
  refine lv_aload_n C.1 C.2.1 dX6_claim_6 rfl (lv_at hl 1 rfl) ?_
  refine lv_iload_n C.1 C.2.1 dX6_claim_7 rfl (lv_at hl 0 rfl) ?_
  have J46 : ∀ (b2 : Bool), b2 = decide (((inx p0 no) ∧ ar 13 p0.toNatClampNeg = 1) ∧ ¬ zmof ar p0.toNatClampNeg ≤ ar 2 (zE ar p0.toNatClampNeg)) → ∀ (ls : Array Slot), lv_has ls 8 [(2, .int (bI b1)), (0, .ref mo), (1, .int p0)] → W p l e { frames := 3, cells := 0, slots := 0, locals := 68 } s m args below meth c s.heap [] 0 0 (MQ below (wrQ (S := Int32) g (fun u_ => (some (.int u_))) (fun u_ M_ => MQ2 (inx p0 no) (((inx p0 no) ∧ ar 13 p0.toNatClampNeg = 1) ∧ ¬ zmof ar p0.toNatClampNeg ≤ ar 2 (zE ar p0.toNatClampNeg)) (u_ = (zmbl ar p0.toNatClampNeg) ∧ MX g M M_ mo ad (us sc 23 0) (ua (ua ar 13 (upd (ar 13) p0.toNatClampNeg 2)) 19 (upd (ar 19) (zmix ar p0.toNatClampNeg) (ar 19 (zmix ar p0.toNatClampNeg) + 1)))) (fun t_ => u_ = 0 ∧ MX g M M_ mo ad (us sc 23 t_) ar))) args s 0 0 (gA g)) (F0 m 46 ls [.int (bI b2), .int (bI b1), .ref mo]) := by
    intro b2 hb2 ls hl
    refine wr_go1 (runV C hE hH hS (m_mayBoth X0.1 hs0 hs5 hs9 hb0 hb5 hb9 b1 b2) mv_X6_mayBoth wm_814 (MX_m X0) rfl rfl hl.1 dX6_claim_46 rfl rfl ⟨rfl, rfl⟩ ⟨Nat.le_of_ble_eq_true rfl, Nat.le_of_ble_eq_true rfl⟩ (Nat.le_of_ble_eq_true rfl) ⟨Nat.le_of_ble_eq_true rfl, Nat.le_of_ble_eq_true rfl⟩) hS (fun u1 M2 H locs hM2 hH hS => ?_)
    have X3 := MX_tr X0 hM2
    refine lv_if_ne (tgt := 54) C.1 C.2.1 dX6_claim_49 (by decide) (fun c49 => ?_) (fun c49 => ?_)
    · obtain ⟨k1, k2, hz0⟩ := m2_t hb1 hb2 c49
      rw [hz0] at X3
      obtain ⟨⟨u, hu, he⟩, ⟨y, hy4, hy⟩, h14⟩ := hPo.1 _ (inx_nI k1 (by omega)).1
      obtain ⟨b9, hb9x, h14b⟩ := h14 (by rw [k2.1.2]; decide)
      obtain ⟨d, hd3, h6⟩ := hPo.2 _ hb9x
      refine lv_aload_n C.1 C.2.1 dX6_claim_54 rfl (lv_at hl 1 rfl) ?_
      refine mget (v := .ref (ad 10)) C hE hH fl_740 (MX_m X3) rfl dX6_claim_55 ?_
      refine lv_iload_n C.1 C.2.1 dX6_claim_58 rfl (lv_at hl 2 rfl) ?_
      refine mald (n := 40) (f := (ar 10)) C hE hH (MX_a X3 10 rfl) ((vp_up (inx_in k1 (by omega)) hb9)) dX6_claim_59 ?_
      rw [he]
      refine lv_istore_n (lv' := [(3, .int (nI u)), (2, .int (bI b1)), (0, .ref mo), (1, .int p0)]) C.1 C.2.1 dX6_claim_60 rfl hl (by decide) rfl (fun ls hl => ?_)
      refine lv_aload_n C.1 C.2.1 dX6_claim_61 rfl (lv_at hl 2 rfl) ?_
      refine lv_iload_n C.1 C.2.1 dX6_claim_62 rfl (lv_at hl 0 rfl) ?_
      refine lv_bipush (v := 100) C.1 C.2.1 dX6_claim_63 rfl ?_
      refine lv_aload_n C.1 C.2.1 dX6_claim_65 rfl (lv_at hl 2 rfl) ?_
      refine mget (v := .ref (ad 17)) C hE hH fl_747 (MX_m X3) rfl dX6_claim_66 ?_
      refine lv_iload_n C.1 C.2.1 dX6_claim_69 rfl (lv_at hl 3 rfl) ?_
      refine mald (n := 40) (f := (ar 17)) C hE hH (MX_a X3 17 rfl) ((vp_up (inx_in k1 (by omega)) hb9)) dX6_claim_70 ?_
      refine lv_aload_n C.1 C.2.1 dX6_claim_71 rfl (lv_at hl 2 rfl) ?_
      refine mget (v := .ref (ad 16)) C hE hH fl_746 (MX_m X3) rfl dX6_claim_72 ?_
      refine lv_iload_n C.1 C.2.1 dX6_claim_75 rfl (lv_at hl 3 rfl) ?_
      refine mald (n := 40) (f := (ar 16)) C hE hH (MX_a X3 16 rfl) ((vp_up (inx_in k1 (by omega)) hb9)) dX6_claim_76 ?_
      refine lv_iadd C.1 C.2.1 dX6_claim_77 ?_
      refine lv_aload_n C.1 C.2.1 dX6_claim_78 rfl (lv_at hl 2 rfl) ?_
      refine mget (v := .ref (ad 18)) C hE hH fl_748 (MX_m X3) rfl dX6_claim_79 ?_
      refine lv_iload_n C.1 C.2.1 dX6_claim_82 rfl (lv_at hl 3 rfl) ?_
      refine mald (n := 40) (f := (ar 18)) C hE hH (MX_a X3 18 rfl) ((vp_up (inx_in k1 (by omega)) hb9)) dX6_claim_83 ?_
      refine rd_go1 (runV C hE hH hS (m_off X3.1 hs0 hs5 hs9 hb0 hb5 hb9 ((by omega)) 100 (((ar 17) p0.toNatClampNeg) + ((ar 16) p0.toNatClampNeg)) ((ar 18) p0.toNatClampNeg)) mv_X6_off wm_880 (MX_m X3) rfl rfl hl.1 dX6_claim_84 rfl rfl ⟨rfl, rfl⟩ ⟨Nat.le_of_ble_eq_true rfl, Nat.le_of_ble_eq_true rfl⟩ (Nat.le_of_ble_eq_true rfl) ⟨Nat.le_of_ble_eq_true rfl, Nat.le_of_ble_eq_true rfl⟩) ?_
      refine lv_topi (fun x4 ex4 => ?_)
      refine lv_istore (lv' := [(4, .int x4), (3, .int (nI u)), (2, .int (bI b1)), (0, .ref mo), (1, .int p0)]) C.1 C.2.1 dX6_claim_87 hl (by decide) rfl (fun ls hl => ?_)
      refine lv_aload_n C.1 C.2.1 dX6_claim_89 rfl (lv_at hl 3 rfl) ?_
      refine lv_iload_n C.1 C.2.1 dX6_claim_90 rfl (lv_at hl 1 rfl) ?_
      refine lv_aload_n C.1 C.2.1 dX6_claim_91 rfl (lv_at hl 3 rfl) ?_
      refine mget (v := .ref (ad 15)) C hE hH fl_745 (MX_m X3) rfl dX6_claim_92 ?_
      refine lv_iload_n C.1 C.2.1 dX6_claim_95 rfl (lv_at hl 4 rfl) ?_
      refine mald (n := 40) (f := (ar 15)) C hE hH (MX_a X3 15 rfl) ((vp_up (inx_in k1 (by omega)) hb9)) dX6_claim_96 ?_
      refine lv_aload_n C.1 C.2.1 dX6_claim_97 rfl (lv_at hl 3 rfl) ?_
      refine mget (v := .ref (ad 17)) C hE hH fl_747 (MX_m X3) rfl dX6_claim_98 ?_
      refine lv_iload_n C.1 C.2.1 dX6_claim_101 rfl (lv_at hl 4 rfl) ?_
      refine mald (n := 40) (f := (ar 17)) C hE hH (MX_a X3 17 rfl) ((vp_up (inx_in k1 (by omega)) hb9)) dX6_claim_102 ?_
      refine lv_aload_n C.1 C.2.1 dX6_claim_103 rfl (lv_at hl 3 rfl) ?_
      refine mget (v := .ref (ad 18)) C hE hH fl_748 (MX_m X3) rfl dX6_claim_104 ?_
      refine lv_iload_n C.1 C.2.1 dX6_claim_107 rfl (lv_at hl 4 rfl) ?_
      refine mald (n := 40) (f := (ar 18)) C hE hH (MX_a X3 18 rfl) ((vp_up (inx_in k1 (by omega)) hb9)) dX6_claim_108 ?_
      refine rd_go1 (runV C hE hH hS (m_off X3.1 hs0 hs5 hs9 hb0 hb5 hb9 ((by omega)) ((ar 15) p0.toNatClampNeg) ((ar 17) p0.toNatClampNeg) ((ar 18) p0.toNatClampNeg)) mv_X6_off wm_880 (MX_m X3) rfl rfl hl.1 dX6_claim_109 rfl rfl ⟨rfl, rfl⟩ ⟨Nat.le_of_ble_eq_true rfl, Nat.le_of_ble_eq_true rfl⟩ (Nat.le_of_ble_eq_true rfl) ⟨Nat.le_of_ble_eq_true rfl, Nat.le_of_ble_eq_true rfl⟩) ?_
      refine lv_topi (fun x5 ex5 => ?_)
      refine lv_istore (lv' := [(5, .int x5), (4, .int x4), (3, .int (nI u)), (2, .int (bI b1)), (0, .ref mo), (1, .int p0)]) C.1 C.2.1 dX6_claim_112 hl (by decide) rfl (fun ls hl => ?_)
      refine lv_aload_n C.1 C.2.1 dX6_claim_114 rfl (lv_at hl 4 rfl) ?_
      refine lv_iload_n C.1 C.2.1 dX6_claim_115 rfl (lv_at hl 2 rfl) ?_
      refine lv_aload_n C.1 C.2.1 dX6_claim_116 rfl (lv_at hl 4 rfl) ?_
      refine mget (v := .ref (ad 15)) C hE hH fl_745 (MX_m X3) rfl dX6_claim_117 ?_
      refine lv_iload_n C.1 C.2.1 dX6_claim_120 rfl (lv_at hl 5 rfl) ?_
      refine mald (n := 40) (f := (ar 15)) C hE hH (MX_a X3 15 rfl) ((vp_up (inx_in k1 (by omega)) hb9)) dX6_claim_121 ?_
      refine lv_aload_n C.1 C.2.1 dX6_claim_122 rfl (lv_at hl 4 rfl) ?_
      refine mget (v := .ref (ad 16)) C hE hH fl_746 (MX_m X3) rfl dX6_claim_123 ?_
      refine lv_iload_n C.1 C.2.1 dX6_claim_126 rfl (lv_at hl 5 rfl) ?_
      refine mald (n := 40) (f := (ar 16)) C hE hH (MX_a X3 16 rfl) ((vp_up (inx_in k1 (by omega)) hb9)) dX6_claim_127 ?_
      refine lv_iconst (v := 0) C.1 C.2.1 dX6_claim_128 rfl ?_
      refine rd_go1 (runV C hE hH hS (m_off X3.1 hs0 hs5 hs9 hb0 hb5 hb9 ((by omega)) ((ar 15) p0.toNatClampNeg) ((ar 16) p0.toNatClampNeg) 0) mv_X6_off wm_880 (MX_m X3) rfl rfl hl.1 dX6_claim_129 rfl rfl ⟨rfl, rfl⟩ ⟨Nat.le_of_ble_eq_true rfl, Nat.le_of_ble_eq_true rfl⟩ (Nat.le_of_ble_eq_true rfl) ⟨Nat.le_of_ble_eq_true rfl, Nat.le_of_ble_eq_true rfl⟩) ?_
      refine lv_topi (fun x6 ex6 => ?_)
      refine lv_istore (lv' := [(6, .int x6), (5, .int x5), (4, .int x4), (3, .int (nI u)), (2, .int (bI b1)), (0, .ref mo), (1, .int p0)]) C.1 C.2.1 dX6_claim_132 hl (by decide) rfl (fun ls hl => ?_)
      refine lv_iload C.1 C.2.1 dX6_claim_134 (lv_at hl 2 rfl) ?_
      refine lv_iload C.1 C.2.1 dX6_claim_136 (lv_at hl 1 rfl) ?_
      refine lv_icmp_gt (tgt := 152) C.1 C.2.1 dX6_claim_138 (by decide) (fun c138 => ?_) (fun c138 => ?_)
      · refine lv_iload C.1 C.2.1 dX6_claim_152 (lv_at hl 1 rfl) ?_
        refine lv_iload C.1 C.2.1 dX6_claim_154 (lv_at hl 0 rfl) ?_
        refine lv_icmp_gt (tgt := 163) C.1 C.2.1 dX6_claim_156 (by decide) (fun c156 => ?_) (fun c156 => ?_)
        · refine lv_iconst (v := 2) C.1 C.2.1 dX6_claim_163 rfl ?_
          refine lv_istore (lv' := [(7, .int 2), (6, .int x6), (5, .int x5), (4, .int x4), (3, .int (nI u)), (2, .int (bI b1)), (0, .ref mo), (1, .int p0)]) C.1 C.2.1 dX6_claim_164 hl (by decide) rfl (fun ls hl => ?_)
          refine lv_aload_n C.1 C.2.1 dX6_claim_166 rfl (lv_at hl 6 rfl) ?_
          refine mget (v := .ref (ad 13)) C hE hH fl_743 (MX_m X3) rfl dX6_claim_167 ?_
          refine lv_iload_n C.1 C.2.1 dX6_claim_170 rfl (lv_at hl 7 rfl) ?_
          refine lv_iconst (v := 2) C.1 C.2.1 dX6_claim_171 rfl ?_
          refine mast (n := 40) (f := (ar 13)) C hE hH hS (MX_a X3 13 rfl) ((vp_up (inx_in k1 (by omega)) hb9)) dX6_claim_172 (fun H locs hH hS => ?_)
          obtain ⟨M7, hM7⟩ : ∃ z, z = mu M2 (ad 13) (eI g 40 (upd (ar 13) p0.toNatClampNeg 2)) := ⟨_, rfl⟩
          have hH : Hw g M7 H := by rw [hM7]; exact hH
          have X8 := MX_ar (k := 13) (N := 40) (f := upd (ar 13) p0.toNatClampNeg 2) rfl rfl X3
          rw [← hM7] at X8
          refine lv_aload_n C.1 C.2.1 dX6_claim_173 rfl (lv_at hl 6 rfl) ?_
          refine mget (v := .ref (ad 19)) C hE hH fl_749 (MX_m X8) rfl dX6_claim_174 ?_
          refine lv_iconst (v := 3) C.1 C.2.1 dX6_claim_177 rfl ?_
          refine lv_aload_n C.1 C.2.1 dX6_claim_178 rfl (lv_at hl 6 rfl) ?_
          refine mget (v := .ref (ad 6)) C hE hH fl_736 (MX_m X8) rfl dX6_claim_179 ?_
          refine lv_aload_n C.1 C.2.1 dX6_claim_182 rfl (lv_at hl 6 rfl) ?_
          refine mget (v := .ref (ad 14)) C hE hH fl_744 (MX_m X8) rfl dX6_claim_183 ?_
          refine lv_iload_n C.1 C.2.1 dX6_claim_186 rfl (lv_at hl 7 rfl) ?_
          refine mald (n := 40) (f := (ar 14)) C hE hH (MX_a X8 14 rfl) ((vp_up (inx_in k1 (by omega)) hb9)) dX6_claim_187 ?_
          rw [h14b]
          refine mald (n := 10) (f := (ar 6)) C hE hH (MX_a X8 6 rfl) (vp_in_nI (show b9 < 10 by omega) (by decide)) dX6_claim_188 ?_
          rw [nI_clamp (show b9 < 2 ^ 31 by omega)]
          rw [h6]
          refine lv_imul C.1 C.2.1 dX6_claim_189 ?_
          rw [show (3 : Int32) * (nI d) = nI (3 * d) from (nI_m 3 d).symm]
          refine lv_iload C.1 C.2.1 dX6_claim_190 (lv_at hl 0 rfl) ?_
          refine lv_iadd C.1 C.2.1 dX6_claim_192 ?_
          rw [show (nI (3 * d) : Int32) + 2 = nI ((3 * d) + 2) from (nI_a (3 * d) 2).symm]
          refine lv_dup2_11 C.1 C.2.1 dX6_claim_193 rfl rfl ?_
          refine mald (n := 9) (f := (ar 19)) C hE hH (MX_a X8 19 rfl) (vp_in_nI (show ((3 * d) + 2) < 9 by omega) (by decide)) dX6_claim_194 ?_
          rw [nI_clamp (show ((3 * d) + 2) < 2 ^ 31 by omega)]
          refine lv_iconst (v := 1) C.1 C.2.1 dX6_claim_195 rfl ?_
          refine lv_iadd C.1 C.2.1 dX6_claim_196 ?_
          refine mast (n := 9) (f := (ar 19)) C hE hH hS (MX_a X8 19 rfl) (vp_in_nI (show ((3 * d) + 2) < 9 by omega) (by decide)) dX6_claim_197 (fun H locs hH hS => ?_)
          rw [nI_clamp (show ((3 * d) + 2) < 2 ^ 31 by omega)] at hH
          obtain ⟨M9, hM9⟩ : ∃ z, z = mu M7 (ad 19) (eI g 9 (upd (ar 19) ((3 * d) + 2) (((ar 19) ((3 * d) + 2)) + 1))) := ⟨_, rfl⟩
          have hH : Hw g M9 H := by rw [hM9]; exact hH
          have X10 := MX_ar (k := 19) (N := 9) (f := upd (ar 19) ((3 * d) + 2) (((ar 19) ((3 * d) + 2)) + 1)) rfl rfl X8
          rw [← hM9] at X10
          refine lv_iload C.1 C.2.1 dX6_claim_198 (lv_at hl 0 rfl) ?_
          exact wr_iret 2 C hr hlocks hH hS rfl (by
        have hbl : zmbl ar p0.toNatClampNeg = 2 := by
          unfold zmbl zblame
          rw [zE_at he (by omega), ← ex4, ← ex5, ← ex6]
          rw [if_neg (fun z => Int32.not_lt.mpr z.1 c138), if_neg (fun z => Int32.not_lt.mpr z c156)]
        have hix : zmix ar p0.toNatClampNeg = 3 * d + 2 := by
          unfold zmix
          rw [hbl, h14b, nI_clamp (by omega), h6, nI_clamp (by omega)]
          rfl
        exact Or.inl ⟨k1, k2, hbl.symm, by rw [hix]; exact X10⟩) (by decide) (by decide) dX6_claim_200
        · refine lv_iconst (v := 1) C.1 C.2.1 dX6_claim_159 rfl ?_
          refine lv_goto (tgt := 164) C.1 C.2.1 dX6_claim_160 (by decide) ?_
          refine lv_istore (lv' := [(7, .int 1), (6, .int x6), (5, .int x5), (4, .int x4), (3, .int (nI u)), (2, .int (bI b1)), (0, .ref mo), (1, .int p0)]) C.1 C.2.1 dX6_claim_164 hl (by decide) rfl (fun ls hl => ?_)
          refine lv_aload_n C.1 C.2.1 dX6_claim_166 rfl (lv_at hl 6 rfl) ?_
          refine mget (v := .ref (ad 13)) C hE hH fl_743 (MX_m X3) rfl dX6_claim_167 ?_
          refine lv_iload_n C.1 C.2.1 dX6_claim_170 rfl (lv_at hl 7 rfl) ?_
          refine lv_iconst (v := 2) C.1 C.2.1 dX6_claim_171 rfl ?_
          refine mast (n := 40) (f := (ar 13)) C hE hH hS (MX_a X3 13 rfl) ((vp_up (inx_in k1 (by omega)) hb9)) dX6_claim_172 (fun H locs hH hS => ?_)
          obtain ⟨M11, hM11⟩ : ∃ z, z = mu M2 (ad 13) (eI g 40 (upd (ar 13) p0.toNatClampNeg 2)) := ⟨_, rfl⟩
          have hH : Hw g M11 H := by rw [hM11]; exact hH
          have X12 := MX_ar (k := 13) (N := 40) (f := upd (ar 13) p0.toNatClampNeg 2) rfl rfl X3
          rw [← hM11] at X12
          refine lv_aload_n C.1 C.2.1 dX6_claim_173 rfl (lv_at hl 6 rfl) ?_
          refine mget (v := .ref (ad 19)) C hE hH fl_749 (MX_m X12) rfl dX6_claim_174 ?_
          refine lv_iconst (v := 3) C.1 C.2.1 dX6_claim_177 rfl ?_
          refine lv_aload_n C.1 C.2.1 dX6_claim_178 rfl (lv_at hl 6 rfl) ?_
          refine mget (v := .ref (ad 6)) C hE hH fl_736 (MX_m X12) rfl dX6_claim_179 ?_
          refine lv_aload_n C.1 C.2.1 dX6_claim_182 rfl (lv_at hl 6 rfl) ?_
          refine mget (v := .ref (ad 14)) C hE hH fl_744 (MX_m X12) rfl dX6_claim_183 ?_
          refine lv_iload_n C.1 C.2.1 dX6_claim_186 rfl (lv_at hl 7 rfl) ?_
          refine mald (n := 40) (f := (ar 14)) C hE hH (MX_a X12 14 rfl) ((vp_up (inx_in k1 (by omega)) hb9)) dX6_claim_187 ?_
          rw [h14b]
          refine mald (n := 10) (f := (ar 6)) C hE hH (MX_a X12 6 rfl) (vp_in_nI (show b9 < 10 by omega) (by decide)) dX6_claim_188 ?_
          rw [nI_clamp (show b9 < 2 ^ 31 by omega)]
          rw [h6]
          refine lv_imul C.1 C.2.1 dX6_claim_189 ?_
          rw [show (3 : Int32) * (nI d) = nI (3 * d) from (nI_m 3 d).symm]
          refine lv_iload C.1 C.2.1 dX6_claim_190 (lv_at hl 0 rfl) ?_
          refine lv_iadd C.1 C.2.1 dX6_claim_192 ?_
          rw [show (nI (3 * d) : Int32) + 1 = nI ((3 * d) + 1) from (nI_a (3 * d) 1).symm]
          refine lv_dup2_11 C.1 C.2.1 dX6_claim_193 rfl rfl ?_
          refine mald (n := 9) (f := (ar 19)) C hE hH (MX_a X12 19 rfl) (vp_in_nI (show ((3 * d) + 1) < 9 by omega) (by decide)) dX6_claim_194 ?_
          rw [nI_clamp (show ((3 * d) + 1) < 2 ^ 31 by omega)]
          refine lv_iconst (v := 1) C.1 C.2.1 dX6_claim_195 rfl ?_
          refine lv_iadd C.1 C.2.1 dX6_claim_196 ?_
          refine mast (n := 9) (f := (ar 19)) C hE hH hS (MX_a X12 19 rfl) (vp_in_nI (show ((3 * d) + 1) < 9 by omega) (by decide)) dX6_claim_197 (fun H locs hH hS => ?_)
          rw [nI_clamp (show ((3 * d) + 1) < 2 ^ 31 by omega)] at hH
          obtain ⟨M13, hM13⟩ : ∃ z, z = mu M11 (ad 19) (eI g 9 (upd (ar 19) ((3 * d) + 1) (((ar 19) ((3 * d) + 1)) + 1))) := ⟨_, rfl⟩
          have hH : Hw g M13 H := by rw [hM13]; exact hH
          have X14 := MX_ar (k := 19) (N := 9) (f := upd (ar 19) ((3 * d) + 1) (((ar 19) ((3 * d) + 1)) + 1)) rfl rfl X12
          rw [← hM13] at X14
          refine lv_iload C.1 C.2.1 dX6_claim_198 (lv_at hl 0 rfl) ?_
          exact wr_iret 1 C hr hlocks hH hS rfl (by
        have hbl : zmbl ar p0.toNatClampNeg = 1 := by
          unfold zmbl zblame
          rw [zE_at he (by omega), ← ex4, ← ex5, ← ex6]
          rw [if_neg (fun z => Int32.not_lt.mpr z.1 c138), if_pos (Int32.not_lt.mp c156)]
        have hix : zmix ar p0.toNatClampNeg = 3 * d + 1 := by
          unfold zmix
          rw [hbl, h14b, nI_clamp (by omega), h6, nI_clamp (by omega)]
          rfl
        exact Or.inl ⟨k1, k2, hbl.symm, by rw [hix]; exact X14⟩) (by decide) (by decide) dX6_claim_200
      · refine lv_iload C.1 C.2.1 dX6_claim_141 (lv_at hl 2 rfl) ?_
        refine lv_iload C.1 C.2.1 dX6_claim_143 (lv_at hl 0 rfl) ?_
        refine lv_icmp_gt (tgt := 152) C.1 C.2.1 dX6_claim_145 (by decide) (fun c145 => ?_) (fun c145 => ?_)
        · refine lv_iload C.1 C.2.1 dX6_claim_152 (lv_at hl 1 rfl) ?_
          refine lv_iload C.1 C.2.1 dX6_claim_154 (lv_at hl 0 rfl) ?_
          refine lv_icmp_gt (tgt := 163) C.1 C.2.1 dX6_claim_156 (by decide) (fun c156 => ?_) (fun c156 => ?_)
          · refine lv_iconst (v := 2) C.1 C.2.1 dX6_claim_163 rfl ?_
            refine lv_istore (lv' := [(7, .int 2), (6, .int x6), (5, .int x5), (4, .int x4), (3, .int (nI u)), (2, .int (bI b1)), (0, .ref mo), (1, .int p0)]) C.1 C.2.1 dX6_claim_164 hl (by decide) rfl (fun ls hl => ?_)
            refine lv_aload_n C.1 C.2.1 dX6_claim_166 rfl (lv_at hl 6 rfl) ?_
            refine mget (v := .ref (ad 13)) C hE hH fl_743 (MX_m X3) rfl dX6_claim_167 ?_
            refine lv_iload_n C.1 C.2.1 dX6_claim_170 rfl (lv_at hl 7 rfl) ?_
            refine lv_iconst (v := 2) C.1 C.2.1 dX6_claim_171 rfl ?_
            refine mast (n := 40) (f := (ar 13)) C hE hH hS (MX_a X3 13 rfl) ((vp_up (inx_in k1 (by omega)) hb9)) dX6_claim_172 (fun H locs hH hS => ?_)
            obtain ⟨M15, hM15⟩ : ∃ z, z = mu M2 (ad 13) (eI g 40 (upd (ar 13) p0.toNatClampNeg 2)) := ⟨_, rfl⟩
            have hH : Hw g M15 H := by rw [hM15]; exact hH
            have X16 := MX_ar (k := 13) (N := 40) (f := upd (ar 13) p0.toNatClampNeg 2) rfl rfl X3
            rw [← hM15] at X16
            refine lv_aload_n C.1 C.2.1 dX6_claim_173 rfl (lv_at hl 6 rfl) ?_
            refine mget (v := .ref (ad 19)) C hE hH fl_749 (MX_m X16) rfl dX6_claim_174 ?_
            refine lv_iconst (v := 3) C.1 C.2.1 dX6_claim_177 rfl ?_
            refine lv_aload_n C.1 C.2.1 dX6_claim_178 rfl (lv_at hl 6 rfl) ?_
            refine mget (v := .ref (ad 6)) C hE hH fl_736 (MX_m X16) rfl dX6_claim_179 ?_
            refine lv_aload_n C.1 C.2.1 dX6_claim_182 rfl (lv_at hl 6 rfl) ?_
            refine mget (v := .ref (ad 14)) C hE hH fl_744 (MX_m X16) rfl dX6_claim_183 ?_
            refine lv_iload_n C.1 C.2.1 dX6_claim_186 rfl (lv_at hl 7 rfl) ?_
            refine mald (n := 40) (f := (ar 14)) C hE hH (MX_a X16 14 rfl) ((vp_up (inx_in k1 (by omega)) hb9)) dX6_claim_187 ?_
            rw [h14b]
            refine mald (n := 10) (f := (ar 6)) C hE hH (MX_a X16 6 rfl) (vp_in_nI (show b9 < 10 by omega) (by decide)) dX6_claim_188 ?_
            rw [nI_clamp (show b9 < 2 ^ 31 by omega)]
            rw [h6]
            refine lv_imul C.1 C.2.1 dX6_claim_189 ?_
            rw [show (3 : Int32) * (nI d) = nI (3 * d) from (nI_m 3 d).symm]
            refine lv_iload C.1 C.2.1 dX6_claim_190 (lv_at hl 0 rfl) ?_
            refine lv_iadd C.1 C.2.1 dX6_claim_192 ?_
            rw [show (nI (3 * d) : Int32) + 2 = nI ((3 * d) + 2) from (nI_a (3 * d) 2).symm]
            refine lv_dup2_11 C.1 C.2.1 dX6_claim_193 rfl rfl ?_
            refine mald (n := 9) (f := (ar 19)) C hE hH (MX_a X16 19 rfl) (vp_in_nI (show ((3 * d) + 2) < 9 by omega) (by decide)) dX6_claim_194 ?_
            rw [nI_clamp (show ((3 * d) + 2) < 2 ^ 31 by omega)]
            refine lv_iconst (v := 1) C.1 C.2.1 dX6_claim_195 rfl ?_
            refine lv_iadd C.1 C.2.1 dX6_claim_196 ?_
            refine mast (n := 9) (f := (ar 19)) C hE hH hS (MX_a X16 19 rfl) (vp_in_nI (show ((3 * d) + 2) < 9 by omega) (by decide)) dX6_claim_197 (fun H locs hH hS => ?_)
            rw [nI_clamp (show ((3 * d) + 2) < 2 ^ 31 by omega)] at hH
            obtain ⟨M17, hM17⟩ : ∃ z, z = mu M15 (ad 19) (eI g 9 (upd (ar 19) ((3 * d) + 2) (((ar 19) ((3 * d) + 2)) + 1))) := ⟨_, rfl⟩
            have hH : Hw g M17 H := by rw [hM17]; exact hH
            have X18 := MX_ar (k := 19) (N := 9) (f := upd (ar 19) ((3 * d) + 2) (((ar 19) ((3 * d) + 2)) + 1)) rfl rfl X16
            rw [← hM17] at X18
            refine lv_iload C.1 C.2.1 dX6_claim_198 (lv_at hl 0 rfl) ?_
            exact wr_iret 2 C hr hlocks hH hS rfl (by
        have hbl : zmbl ar p0.toNatClampNeg = 2 := by
          unfold zmbl zblame
          rw [zE_at he (by omega), ← ex4, ← ex5, ← ex6]
          rw [if_neg (fun z => Int32.not_lt.mpr z.2 c145), if_neg (fun z => Int32.not_lt.mpr z c156)]
        have hix : zmix ar p0.toNatClampNeg = 3 * d + 2 := by
          unfold zmix
          rw [hbl, h14b, nI_clamp (by omega), h6, nI_clamp (by omega)]
          rfl
        exact Or.inl ⟨k1, k2, hbl.symm, by rw [hix]; exact X18⟩) (by decide) (by decide) dX6_claim_200
          · refine lv_iconst (v := 1) C.1 C.2.1 dX6_claim_159 rfl ?_
            refine lv_goto (tgt := 164) C.1 C.2.1 dX6_claim_160 (by decide) ?_
            refine lv_istore (lv' := [(7, .int 1), (6, .int x6), (5, .int x5), (4, .int x4), (3, .int (nI u)), (2, .int (bI b1)), (0, .ref mo), (1, .int p0)]) C.1 C.2.1 dX6_claim_164 hl (by decide) rfl (fun ls hl => ?_)
            refine lv_aload_n C.1 C.2.1 dX6_claim_166 rfl (lv_at hl 6 rfl) ?_
            refine mget (v := .ref (ad 13)) C hE hH fl_743 (MX_m X3) rfl dX6_claim_167 ?_
            refine lv_iload_n C.1 C.2.1 dX6_claim_170 rfl (lv_at hl 7 rfl) ?_
            refine lv_iconst (v := 2) C.1 C.2.1 dX6_claim_171 rfl ?_
            refine mast (n := 40) (f := (ar 13)) C hE hH hS (MX_a X3 13 rfl) ((vp_up (inx_in k1 (by omega)) hb9)) dX6_claim_172 (fun H locs hH hS => ?_)
            obtain ⟨M19, hM19⟩ : ∃ z, z = mu M2 (ad 13) (eI g 40 (upd (ar 13) p0.toNatClampNeg 2)) := ⟨_, rfl⟩
            have hH : Hw g M19 H := by rw [hM19]; exact hH
            have X20 := MX_ar (k := 13) (N := 40) (f := upd (ar 13) p0.toNatClampNeg 2) rfl rfl X3
            rw [← hM19] at X20
            refine lv_aload_n C.1 C.2.1 dX6_claim_173 rfl (lv_at hl 6 rfl) ?_
            refine mget (v := .ref (ad 19)) C hE hH fl_749 (MX_m X20) rfl dX6_claim_174 ?_
            refine lv_iconst (v := 3) C.1 C.2.1 dX6_claim_177 rfl ?_
            refine lv_aload_n C.1 C.2.1 dX6_claim_178 rfl (lv_at hl 6 rfl) ?_
            refine mget (v := .ref (ad 6)) C hE hH fl_736 (MX_m X20) rfl dX6_claim_179 ?_
            refine lv_aload_n C.1 C.2.1 dX6_claim_182 rfl (lv_at hl 6 rfl) ?_
            refine mget (v := .ref (ad 14)) C hE hH fl_744 (MX_m X20) rfl dX6_claim_183 ?_
            refine lv_iload_n C.1 C.2.1 dX6_claim_186 rfl (lv_at hl 7 rfl) ?_
            refine mald (n := 40) (f := (ar 14)) C hE hH (MX_a X20 14 rfl) ((vp_up (inx_in k1 (by omega)) hb9)) dX6_claim_187 ?_
            rw [h14b]
            refine mald (n := 10) (f := (ar 6)) C hE hH (MX_a X20 6 rfl) (vp_in_nI (show b9 < 10 by omega) (by decide)) dX6_claim_188 ?_
            rw [nI_clamp (show b9 < 2 ^ 31 by omega)]
            rw [h6]
            refine lv_imul C.1 C.2.1 dX6_claim_189 ?_
            rw [show (3 : Int32) * (nI d) = nI (3 * d) from (nI_m 3 d).symm]
            refine lv_iload C.1 C.2.1 dX6_claim_190 (lv_at hl 0 rfl) ?_
            refine lv_iadd C.1 C.2.1 dX6_claim_192 ?_
            rw [show (nI (3 * d) : Int32) + 1 = nI ((3 * d) + 1) from (nI_a (3 * d) 1).symm]
            refine lv_dup2_11 C.1 C.2.1 dX6_claim_193 rfl rfl ?_
            refine mald (n := 9) (f := (ar 19)) C hE hH (MX_a X20 19 rfl) (vp_in_nI (show ((3 * d) + 1) < 9 by omega) (by decide)) dX6_claim_194 ?_
            rw [nI_clamp (show ((3 * d) + 1) < 2 ^ 31 by omega)]
            refine lv_iconst (v := 1) C.1 C.2.1 dX6_claim_195 rfl ?_
            refine lv_iadd C.1 C.2.1 dX6_claim_196 ?_
            refine mast (n := 9) (f := (ar 19)) C hE hH hS (MX_a X20 19 rfl) (vp_in_nI (show ((3 * d) + 1) < 9 by omega) (by decide)) dX6_claim_197 (fun H locs hH hS => ?_)
            rw [nI_clamp (show ((3 * d) + 1) < 2 ^ 31 by omega)] at hH
            obtain ⟨M21, hM21⟩ : ∃ z, z = mu M19 (ad 19) (eI g 9 (upd (ar 19) ((3 * d) + 1) (((ar 19) ((3 * d) + 1)) + 1))) := ⟨_, rfl⟩
            have hH : Hw g M21 H := by rw [hM21]; exact hH
            have X22 := MX_ar (k := 19) (N := 9) (f := upd (ar 19) ((3 * d) + 1) (((ar 19) ((3 * d) + 1)) + 1)) rfl rfl X20
            rw [← hM21] at X22
            refine lv_iload C.1 C.2.1 dX6_claim_198 (lv_at hl 0 rfl) ?_
            exact wr_iret 1 C hr hlocks hH hS rfl (by
        have hbl : zmbl ar p0.toNatClampNeg = 1 := by
          unfold zmbl zblame
          rw [zE_at he (by omega), ← ex4, ← ex5, ← ex6]
          rw [if_neg (fun z => Int32.not_lt.mpr z.2 c145), if_pos (Int32.not_lt.mp c156)]
        have hix : zmix ar p0.toNatClampNeg = 3 * d + 1 := by
          unfold zmix
          rw [hbl, h14b, nI_clamp (by omega), h6, nI_clamp (by omega)]
          rfl
        exact Or.inl ⟨k1, k2, hbl.symm, by rw [hix]; exact X22⟩) (by decide) (by decide) dX6_claim_200
        · refine lv_iconst (v := 0) C.1 C.2.1 dX6_claim_148 rfl ?_
          refine lv_goto (tgt := 164) C.1 C.2.1 dX6_claim_149 (by decide) ?_
          refine lv_istore (lv' := [(7, .int 0), (6, .int x6), (5, .int x5), (4, .int x4), (3, .int (nI u)), (2, .int (bI b1)), (0, .ref mo), (1, .int p0)]) C.1 C.2.1 dX6_claim_164 hl (by decide) rfl (fun ls hl => ?_)
          refine lv_aload_n C.1 C.2.1 dX6_claim_166 rfl (lv_at hl 6 rfl) ?_
          refine mget (v := .ref (ad 13)) C hE hH fl_743 (MX_m X3) rfl dX6_claim_167 ?_
          refine lv_iload_n C.1 C.2.1 dX6_claim_170 rfl (lv_at hl 7 rfl) ?_
          refine lv_iconst (v := 2) C.1 C.2.1 dX6_claim_171 rfl ?_
          refine mast (n := 40) (f := (ar 13)) C hE hH hS (MX_a X3 13 rfl) ((vp_up (inx_in k1 (by omega)) hb9)) dX6_claim_172 (fun H locs hH hS => ?_)
          obtain ⟨M23, hM23⟩ : ∃ z, z = mu M2 (ad 13) (eI g 40 (upd (ar 13) p0.toNatClampNeg 2)) := ⟨_, rfl⟩
          have hH : Hw g M23 H := by rw [hM23]; exact hH
          have X24 := MX_ar (k := 13) (N := 40) (f := upd (ar 13) p0.toNatClampNeg 2) rfl rfl X3
          rw [← hM23] at X24
          refine lv_aload_n C.1 C.2.1 dX6_claim_173 rfl (lv_at hl 6 rfl) ?_
          refine mget (v := .ref (ad 19)) C hE hH fl_749 (MX_m X24) rfl dX6_claim_174 ?_
          refine lv_iconst (v := 3) C.1 C.2.1 dX6_claim_177 rfl ?_
          refine lv_aload_n C.1 C.2.1 dX6_claim_178 rfl (lv_at hl 6 rfl) ?_
          refine mget (v := .ref (ad 6)) C hE hH fl_736 (MX_m X24) rfl dX6_claim_179 ?_
          refine lv_aload_n C.1 C.2.1 dX6_claim_182 rfl (lv_at hl 6 rfl) ?_
          refine mget (v := .ref (ad 14)) C hE hH fl_744 (MX_m X24) rfl dX6_claim_183 ?_
          refine lv_iload_n C.1 C.2.1 dX6_claim_186 rfl (lv_at hl 7 rfl) ?_
          refine mald (n := 40) (f := (ar 14)) C hE hH (MX_a X24 14 rfl) ((vp_up (inx_in k1 (by omega)) hb9)) dX6_claim_187 ?_
          rw [h14b]
          refine mald (n := 10) (f := (ar 6)) C hE hH (MX_a X24 6 rfl) (vp_in_nI (show b9 < 10 by omega) (by decide)) dX6_claim_188 ?_
          rw [nI_clamp (show b9 < 2 ^ 31 by omega)]
          rw [h6]
          refine lv_imul C.1 C.2.1 dX6_claim_189 ?_
          rw [show (3 : Int32) * (nI d) = nI (3 * d) from (nI_m 3 d).symm]
          refine lv_iload C.1 C.2.1 dX6_claim_190 (lv_at hl 0 rfl) ?_
          refine lv_iadd C.1 C.2.1 dX6_claim_192 ?_
          rw [show (nI (3 * d) : Int32) + 0 = nI ((3 * d) + 0) from (nI_a (3 * d) 0).symm]
          refine lv_dup2_11 C.1 C.2.1 dX6_claim_193 rfl rfl ?_
          refine mald (n := 9) (f := (ar 19)) C hE hH (MX_a X24 19 rfl) (vp_in_nI (show ((3 * d) + 0) < 9 by omega) (by decide)) dX6_claim_194 ?_
          rw [nI_clamp (show ((3 * d) + 0) < 2 ^ 31 by omega)]
          refine lv_iconst (v := 1) C.1 C.2.1 dX6_claim_195 rfl ?_
          refine lv_iadd C.1 C.2.1 dX6_claim_196 ?_
          refine mast (n := 9) (f := (ar 19)) C hE hH hS (MX_a X24 19 rfl) (vp_in_nI (show ((3 * d) + 0) < 9 by omega) (by decide)) dX6_claim_197 (fun H locs hH hS => ?_)
          rw [nI_clamp (show ((3 * d) + 0) < 2 ^ 31 by omega)] at hH
          obtain ⟨M25, hM25⟩ : ∃ z, z = mu M23 (ad 19) (eI g 9 (upd (ar 19) ((3 * d) + 0) (((ar 19) ((3 * d) + 0)) + 1))) := ⟨_, rfl⟩
          have hH : Hw g M25 H := by rw [hM25]; exact hH
          have X26 := MX_ar (k := 19) (N := 9) (f := upd (ar 19) ((3 * d) + 0) (((ar 19) ((3 * d) + 0)) + 1)) rfl rfl X24
          rw [← hM25] at X26
          refine lv_iload C.1 C.2.1 dX6_claim_198 (lv_at hl 0 rfl) ?_
          exact wr_iret 0 C hr hlocks hH hS rfl (by
        have hbl : zmbl ar p0.toNatClampNeg = 0 := by
          unfold zmbl zblame
          rw [zE_at he (by omega), ← ex4, ← ex5, ← ex6]
          rw [if_pos ⟨Int32.not_lt.mp c138, Int32.not_lt.mp c145⟩]
        have hix : zmix ar p0.toNatClampNeg = 3 * d + 0 := by
          unfold zmix
          rw [hbl, h14b, nI_clamp (by omega), h6, nI_clamp (by omega)]
          rfl
        exact Or.inl ⟨k1, k2, hbl.symm, by rw [hix]; exact X26⟩) (by decide) (by decide) dX6_claim_200
    · refine lv_iconst (v := 0) C.1 C.2.1 dX6_claim_52 rfl ?_
      exact wr_iret 0 C hr hlocks hH hS rfl (mq2_bad hb1 hb2 c49 ⟨rfl, X3⟩) (by decide) (by decide) dX6_claim_53
  refine lv_iload_n C.1 C.2.1 dX6_claim_8 rfl (lv_at hl 0 rfl) ?_
  refine lv_if_eq (tgt := 45) C.1 C.2.1 dX6_claim_9 (by decide) (fun c9 => ?_) (fun c9 => ?_)
  · refine lv_iconst (v := 0) C.1 C.2.1 dX6_claim_45 rfl ?_
    exact J46 false ((decide_eq_false (fun z => (df hb1 (bf_of c9)) z.1.1)).symm) ls hl
  · have kk := dt hb1 (bt_of c9)
    obtain ⟨⟨u, hu, he⟩, ⟨y, hy4, hy⟩, h14⟩ := hPo.1 _ (inx_nI kk (by omega)).1
    have hzm : zmof ar p0.toNatClampNeg = zoff ar u (ar 15 p0.toNatClampNeg) (ar 17 p0.toNatClampNeg + ar 16 p0.toNatClampNeg) (ar 18 p0.toNatClampNeg) := by unfold zmof; rw [zE_at he (by omega)]
    refine lv_aload_n C.1 C.2.1 dX6_claim_12 rfl (lv_at hl 1 rfl) ?_
    refine mget (v := .ref (ad 13)) C hE hH fl_743 (MX_m X0) rfl dX6_claim_13 ?_
    refine lv_iload_n C.1 C.2.1 dX6_claim_16 rfl (lv_at hl 2 rfl) ?_
    refine mald (n := 40) (f := (ar 13)) C hE hH (MX_a X0 13 rfl) (vp_up (inx_in kk (by omega)) hb9) dX6_claim_17 ?_
    refine lv_iconst (v := 1) C.1 C.2.1 dX6_claim_18 rfl ?_
    refine lv_icmp_ne (tgt := 45) C.1 C.2.1 dX6_claim_19 (by decide) (fun c19 => ?_) (fun c19 => ?_)
    · refine lv_iconst (v := 0) C.1 C.2.1 dX6_claim_45 rfl ?_
      exact J46 false ((decide_eq_false (fun z => (c19) z.1.2)).symm) ls hl
    · refine lv_aload_n C.1 C.2.1 dX6_claim_22 rfl (lv_at hl 1 rfl) ?_
      refine lv_iload_n C.1 C.2.1 dX6_claim_23 rfl (lv_at hl 2 rfl) ?_
      refine rd_go1 (runV C hE hH hS (m_offOf X0.1 hs0 hs5 hs9 hb0 hb5 hb9 ((vp_up (inx_in kk (by omega)) hb9)) ((by omega)) (he)) mv_X6_offOf wm_892 (MX_m X0) rfl rfl hl.1 dX6_claim_24 rfl rfl ⟨rfl, rfl⟩ ⟨Nat.le_of_ble_eq_true rfl, Nat.le_of_ble_eq_true rfl⟩ (Nat.le_of_ble_eq_true rfl) ⟨Nat.le_of_ble_eq_true rfl, Nat.le_of_ble_eq_true rfl⟩) ?_
      refine lv_aload_n C.1 C.2.1 dX6_claim_27 rfl (lv_at hl 1 rfl) ?_
      refine mget (v := .ref (ad 2)) C hE hH fl_732 (MX_m X0) rfl dX6_claim_28 ?_
      refine lv_aload_n C.1 C.2.1 dX6_claim_31 rfl (lv_at hl 1 rfl) ?_
      refine mget (v := .ref (ad 10)) C hE hH fl_740 (MX_m X0) rfl dX6_claim_32 ?_
      refine lv_iload_n C.1 C.2.1 dX6_claim_35 rfl (lv_at hl 2 rfl) ?_
      refine mald (n := 40) (f := (ar 10)) C hE hH (MX_a X0 10 rfl) (vp_up (inx_in kk (by omega)) hb9) dX6_claim_36 ?_
      rw [he]
      refine mald (n := 12) (f := (ar 2)) C hE hH (MX_a X0 2 rfl) (vp_in_nI (show u < 12 by omega) (by decide)) dX6_claim_37 ?_
      rw [nI_clamp (show u < 2 ^ 31 by omega)]
      refine lv_icmp_le (tgt := 45) C.1 C.2.1 dX6_claim_38 (by decide) (fun c38 => ?_) (fun c38 => ?_)
      · refine lv_iconst (v := 0) C.1 C.2.1 dX6_claim_45 rfl ?_
        exact J46 false ((decide_eq_false (fun z => ((fun q => by rw [hzm, zE_at he (by omega)] at q; exact q c38)) z.2)).symm) ls hl
      · refine lv_iconst (v := 1) C.1 C.2.1 dX6_claim_41 rfl ?_
        refine lv_goto (tgt := 46) C.1 C.2.1 dX6_claim_42 (by decide) ?_
        exact J46 true ((decide_eq_true ⟨⟨(dt hb1 (bt_of c9)), c19⟩, (by rw [hzm, zE_at he (by omega)]; exact c38)⟩).symm) ls hl
set_option maxHeartbeats 4000000 in
set_option maxRecDepth 100000 in
theorem mw_give {l : Launch} {g : gG} {M : Mp} {mo : Nat} {ad : Nat → Nat} {sc : Nat → Int32} {ar : Nat → Nat → Int32} {ne nb no : Nat}  (hI : MI g M mo ad sc ar) (hs0 : sc 0 = nI ne) (hs5 : sc 5 = nI nb) (hs9 : sc 9 = nI no) (hb0 : ne ≤ 12) (hb5 : nb ≤ 10) (hb9 : no ≤ 40) (p0 p1 p2 p3 : Int32) : Met l yX6_give (WY yX6_give cX6_give 9 (some .int)) { frames := 2, cells := 0, slots := 0, locals := 42 } (Wc g M [.ref mo, .int p0, .int p1, .int p2, .int p3]) (wrQ (S := Int32) g (fun u_ => (some (.int u_))) (fun u_ M_ => MQ3 (((inx p0 5) ∧ inx p1 5) ∧ inx p2 3) (((((inx p0 5) ∧ inx p1 5) ∧ inx p2 3) ∧ ¬ p0 = p1) ∧ inr p3 1 1000) (ar 21 (25 * p2.toNatClampNeg + 5 * p1.toNatClampNeg + p0.toNatClampNeg) + zsh p3 (ar 20 p2.toNatClampNeg) ≤ 100000) (u_ = (ar 21 (25 * p2.toNatClampNeg + 5 * p1.toNatClampNeg + p0.toNatClampNeg) + zsh p3 (ar 20 p2.toNatClampNeg)) ∧ MX g M M_ mo ad (us sc 23 0) (ua ar 21 (upd (ar 21) (25 * p2.toNatClampNeg + 5 * p1.toNatClampNeg + p0.toNatClampNeg) (ar 21 (25 * p2.toNatClampNeg + 5 * p1.toNatClampNeg + p0.toNatClampNeg) + zsh p3 (ar 20 p2.toNatClampNeg))))) (fun t_ => u_ = 0 ∧ MX g M M_ mo ad (us sc 23 t_) ar))) 0 0 (gA g) := by
  refine ofM (by decide +kernel) (Nat.le_of_ble_eq_true rfl) (fun p e s m args below meth c ls C hr hlocks hin hE hH hl ea => ?_)
  have hl : lv_has ls 9 [(0, .ref mo), (1, .int p0), (2, .int p1), (3, .int p2), (4, .int p3)] := hl
  have hS : va_S (gA g) s.heap s.heap [] := va_S.rf
  have X0 := MX_rf hI
  have J26 : ∀ (b1 : Bool), b1 = decide (((inx p0 5) ∧ inx p1 5) ∧ inx p2 3) → ∀ (ls : Array Slot), lv_has ls 9 [(0, .ref mo), (1, .int p0), (2, .int p1), (3, .int p2), (4, .int p3)] → W p l e { frames := 2, cells := 0, slots := 0, locals := 42 } s m args below meth c s.heap [] 0 0 (MQ below (wrQ (S := Int32) g (fun u_ => (some (.int u_))) (fun u_ M_ => MQ3 (((inx p0 5) ∧ inx p1 5) ∧ inx p2 3) (((((inx p0 5) ∧ inx p1 5) ∧ inx p2 3) ∧ ¬ p0 = p1) ∧ inr p3 1 1000) (ar 21 (25 * p2.toNatClampNeg + 5 * p1.toNatClampNeg + p0.toNatClampNeg) + zsh p3 (ar 20 p2.toNatClampNeg) ≤ 100000) (u_ = (ar 21 (25 * p2.toNatClampNeg + 5 * p1.toNatClampNeg + p0.toNatClampNeg) + zsh p3 (ar 20 p2.toNatClampNeg)) ∧ MX g M M_ mo ad (us sc 23 0) (ua ar 21 (upd (ar 21) (25 * p2.toNatClampNeg + 5 * p1.toNatClampNeg + p0.toNatClampNeg) (ar 21 (25 * p2.toNatClampNeg + 5 * p1.toNatClampNeg + p0.toNatClampNeg) + zsh p3 (ar 20 p2.toNatClampNeg))))) (fun t_ => u_ = 0 ∧ MX g M M_ mo ad (us sc 23 t_) ar))) args s 0 0 (gA g)) (F0 m 26 ls [.int (bI b1)]) := by
    intro b1 hb1 ls hl
    refine lv_istore (lv' := [(5, .int (bI b1)), (0, .ref mo), (1, .int p0), (2, .int p1), (3, .int p2), (4, .int p3)]) C.1 C.2.1 dX6_give_26 hl (by decide) rfl (fun ls hl => ?_)
    have J55 : ∀ (b2 : Bool), b2 = decide (((((inx p0 5) ∧ inx p1 5) ∧ inx p2 3) ∧ ¬ p0 = p1) ∧ inr p3 1 1000) → ∀ (ls : Array Slot), lv_has ls 9 [(5, .int (bI b1)), (0, .ref mo), (1, .int p0), (2, .int p1), (3, .int p2), (4, .int p3)] → W p l e { frames := 2, cells := 0, slots := 0, locals := 42 } s m args below meth c s.heap [] 0 0 (MQ below (wrQ (S := Int32) g (fun u_ => (some (.int u_))) (fun u_ M_ => MQ3 (((inx p0 5) ∧ inx p1 5) ∧ inx p2 3) (((((inx p0 5) ∧ inx p1 5) ∧ inx p2 3) ∧ ¬ p0 = p1) ∧ inr p3 1 1000) (ar 21 (25 * p2.toNatClampNeg + 5 * p1.toNatClampNeg + p0.toNatClampNeg) + zsh p3 (ar 20 p2.toNatClampNeg) ≤ 100000) (u_ = (ar 21 (25 * p2.toNatClampNeg + 5 * p1.toNatClampNeg + p0.toNatClampNeg) + zsh p3 (ar 20 p2.toNatClampNeg)) ∧ MX g M M_ mo ad (us sc 23 0) (ua ar 21 (upd (ar 21) (25 * p2.toNatClampNeg + 5 * p1.toNatClampNeg + p0.toNatClampNeg) (ar 21 (25 * p2.toNatClampNeg + 5 * p1.toNatClampNeg + p0.toNatClampNeg) + zsh p3 (ar 20 p2.toNatClampNeg))))) (fun t_ => u_ = 0 ∧ MX g M M_ mo ad (us sc 23 t_) ar))) args s 0 0 (gA g)) (F0 m 55 ls [.int (bI b2)]) := by
      intro b2 hb2 ls hl
      refine lv_istore (lv' := [(6, .int (bI b2)), (5, .int (bI b1)), (0, .ref mo), (1, .int p0), (2, .int p1), (3, .int p2), (4, .int p3)]) C.1 C.2.1 dX6_give_55 hl (by decide) rfl (fun ls hl => ?_)
      refine lv_iload C.1 C.2.1 dX6_give_57 (lv_at hl 0 rfl) ?_
      refine lv_if_eq (tgt := 83) C.1 C.2.1 dX6_give_59 (by decide) (fun c59 => ?_) (fun c59 => ?_)
      · refine lv_iconst (v := 0) C.1 C.2.1 dX6_give_83 rfl ?_
        refine lv_istore (lv' := [(7, .int 0), (6, .int (bI b2)), (5, .int (bI b1)), (0, .ref mo), (1, .int p0), (2, .int p1), (3, .int p2), (4, .int p3)]) C.1 C.2.1 dX6_give_84 hl (by decide) rfl (fun ls hl => ?_)
        refine lv_iload C.1 C.2.1 dX6_give_86 (lv_at hl 2 rfl) ?_
        refine lv_if_eq (tgt := 104) C.1 C.2.1 dX6_give_88 (by decide) (fun c88 => ?_) (fun c88 => ?_)
        · refine lv_iconst (v := 0) C.1 C.2.1 dX6_give_104 rfl ?_
          refine lv_istore (lv' := [(8, .int 0), (7, .int 0), (6, .int (bI b2)), (5, .int (bI b1)), (0, .ref mo), (1, .int p0), (2, .int p1), (3, .int p2), (4, .int p3)]) C.1 C.2.1 dX6_give_105 hl (by decide) rfl (fun ls hl => ?_)
          refine lv_aload_n C.1 C.2.1 dX6_give_107 rfl (lv_at hl 4 rfl) ?_
          refine lv_iload C.1 C.2.1 dX6_give_108 (lv_at hl 3 rfl) ?_
          refine lv_iload C.1 C.2.1 dX6_give_110 (lv_at hl 2 rfl) ?_
          refine lv_aload_n C.1 C.2.1 dX6_give_112 rfl (lv_at hl 4 rfl) ?_
          refine mget (v := .ref (ad 21)) C hE hH fl_751 (MX_m X0) rfl dX6_give_113 ?_
          refine lv_iload C.1 C.2.1 dX6_give_116 (lv_at hl 0 rfl) ?_
          refine mald (n := 75) (f := (ar 21)) C hE hH (MX_a X0 21 rfl) (vp_in_nI (show 0 < 75 by omega) (by decide)) dX6_give_118 ?_
          refine lv_iload C.1 C.2.1 dX6_give_119 (lv_at hl 1 rfl) ?_
          refine lv_iadd C.1 C.2.1 dX6_give_121 ?_
          refine lv_ldc (v := 100000) C.1 C.2.1 C.2.2.2.1 (C.2.2.2.2 _ wm_928) dX6_give_122 ?_
          refine lv_icmp_gt (tgt := 131) C.1 C.2.1 dX6_give_124 (by decide) (fun c124 => ?_) (fun c124 => ?_)
          · refine lv_iconst (v := 0) C.1 C.2.1 dX6_give_131 rfl ?_
            refine wr_go1 (runV C hE hH hS (m_mayAll X0.1 hs0 hs5 hs9 hb0 hb5 hb9 b1 b2 false) mv_X6_mayAll wm_864 (MX_m X0) rfl rfl hl.1 dX6_give_132 rfl rfl ⟨rfl, rfl⟩ ⟨Nat.le_of_ble_eq_true rfl, Nat.le_of_ble_eq_true rfl⟩ (Nat.le_of_ble_eq_true rfl) ⟨Nat.le_of_ble_eq_true rfl, Nat.le_of_ble_eq_true rfl⟩) hS (fun u1 M2 H locs hM2 hH hS => ?_)
            have X3 := MX_tr X0 hM2
            refine lv_if_ne (tgt := 140) C.1 C.2.1 dX6_give_135 (by decide) (fun c135 => ?_) (fun c135 => ?_)
            · exact absurd (show bI (b1 && b2 && false) = 0 by rw [bf_of c88]; rfl) c135
            · refine lv_iconst (v := 0) C.1 C.2.1 dX6_give_138 rfl ?_
              exact wr_iret 0 C hr hlocks hH hS rfl (Or.inr (Or.inl ⟨df hb1 (bf_of c88), by have h9 := X3; rw [show mt3 b1 b2 false = 1 by rw [bf_of c88]; rfl] at h9; exact ⟨rfl, h9⟩⟩)) (by decide) (by decide) dX6_give_139
          · refine lv_iconst (v := 1) C.1 C.2.1 dX6_give_127 rfl ?_
            refine lv_goto (tgt := 132) C.1 C.2.1 dX6_give_128 (by decide) ?_
            refine wr_go1 (runV C hE hH hS (m_mayAll X0.1 hs0 hs5 hs9 hb0 hb5 hb9 b1 b2 true) mv_X6_mayAll wm_864 (MX_m X0) rfl rfl hl.1 dX6_give_132 rfl rfl ⟨rfl, rfl⟩ ⟨Nat.le_of_ble_eq_true rfl, Nat.le_of_ble_eq_true rfl⟩ (Nat.le_of_ble_eq_true rfl) ⟨Nat.le_of_ble_eq_true rfl, Nat.le_of_ble_eq_true rfl⟩) hS (fun u4 M5 H locs hM5 hH hS => ?_)
            have X6 := MX_tr X0 hM5
            refine lv_if_ne (tgt := 140) C.1 C.2.1 dX6_give_135 (by decide) (fun c135 => ?_) (fun c135 => ?_)
            · exact absurd (show bI (b1 && b2 && true) = 0 by rw [bf_of c88]; rfl) c135
            · refine lv_iconst (v := 0) C.1 C.2.1 dX6_give_138 rfl ?_
              exact wr_iret 0 C hr hlocks hH hS rfl (Or.inr (Or.inl ⟨df hb1 (bf_of c88), by have h9 := X6; rw [show mt3 b1 b2 true = 1 by rw [bf_of c88]; rfl] at h9; exact ⟨rfl, h9⟩⟩)) (by decide) (by decide) dX6_give_139
        · obtain ⟨u, eu, epu⟩ : ∃ z : Nat, z = p0.toNatClampNeg ∧ p0 = nI z := ⟨_, rfl, (inx_nI (dt hb1 (bt_of c88)).1.1 (by omega)).2⟩
          have ru : u < 5 := by rw [eu]; exact (inx_nI (dt hb1 (bt_of c88)).1.1 (by omega)).1
          rw [epu] at hl
          obtain ⟨v, ev, epv⟩ : ∃ z : Nat, z = p1.toNatClampNeg ∧ p1 = nI z := ⟨_, rfl, (inx_nI (dt hb1 (bt_of c88)).1.2 (by omega)).2⟩
          have rv : v < 5 := by rw [ev]; exact (inx_nI (dt hb1 (bt_of c88)).1.2 (by omega)).1
          rw [epv] at hl
          obtain ⟨t9, et9, ept9⟩ : ∃ z : Nat, z = p2.toNatClampNeg ∧ p2 = nI z := ⟨_, rfl, (inx_nI (dt hb1 (bt_of c88)).2 (by omega)).2⟩
          have rt9 : t9 < 3 := by rw [et9]; exact (inx_nI (dt hb1 (bt_of c88)).2 (by omega)).1
          rw [ept9] at hl
          refine lv_bipush (v := 25) C.1 C.2.1 dX6_give_91 rfl ?_
          refine lv_iload_n C.1 C.2.1 dX6_give_93 rfl (lv_at hl 6 rfl) ?_
          refine lv_imul C.1 C.2.1 dX6_give_94 ?_
          rw [show (25 : Int32) * (nI t9) = nI (25 * t9) from (nI_m 25 t9).symm]
          refine lv_iconst (v := 5) C.1 C.2.1 dX6_give_95 rfl ?_
          refine lv_iload_n C.1 C.2.1 dX6_give_96 rfl (lv_at hl 5 rfl) ?_
          refine lv_imul C.1 C.2.1 dX6_give_97 ?_
          rw [show (5 : Int32) * (nI v) = nI (5 * v) from (nI_m 5 v).symm]
          refine lv_iadd C.1 C.2.1 dX6_give_98 ?_
          rw [show (nI (25 * t9) : Int32) + (nI (5 * v)) = nI ((25 * t9) + (5 * v)) from (nI_a (25 * t9) (5 * v)).symm]
          refine lv_iload_n C.1 C.2.1 dX6_give_99 rfl (lv_at hl 4 rfl) ?_
          refine lv_iadd C.1 C.2.1 dX6_give_100 ?_
          rw [show (nI ((25 * t9) + (5 * v)) : Int32) + (nI u) = nI (((25 * t9) + (5 * v)) + u) from (nI_a ((25 * t9) + (5 * v)) u).symm]
          refine lv_goto (tgt := 105) C.1 C.2.1 dX6_give_101 (by decide) ?_
          refine lv_istore (lv' := [(8, .int (nI (((25 * t9) + (5 * v)) + u))), (7, .int 0), (6, .int (bI b2)), (5, .int (bI b1)), (0, .ref mo), (1, .int (nI u)), (2, .int (nI v)), (3, .int (nI t9)), (4, .int p3)]) C.1 C.2.1 dX6_give_105 hl (by decide) rfl (fun ls hl => ?_)
          refine lv_aload_n C.1 C.2.1 dX6_give_107 rfl (lv_at hl 4 rfl) ?_
          refine lv_iload C.1 C.2.1 dX6_give_108 (lv_at hl 3 rfl) ?_
          refine lv_iload C.1 C.2.1 dX6_give_110 (lv_at hl 2 rfl) ?_
          refine lv_aload_n C.1 C.2.1 dX6_give_112 rfl (lv_at hl 4 rfl) ?_
          refine mget (v := .ref (ad 21)) C hE hH fl_751 (MX_m X0) rfl dX6_give_113 ?_
          refine lv_iload C.1 C.2.1 dX6_give_116 (lv_at hl 0 rfl) ?_
          refine mald (n := 75) (f := (ar 21)) C hE hH (MX_a X0 21 rfl) (vp_in_nI (show (((25 * t9) + (5 * v)) + u) < 75 by omega) (by decide)) dX6_give_118 ?_
          rw [nI_clamp (show (((25 * t9) + (5 * v)) + u) < 2 ^ 31 by omega)]
          refine lv_iload C.1 C.2.1 dX6_give_119 (lv_at hl 1 rfl) ?_
          refine lv_iadd C.1 C.2.1 dX6_give_121 ?_
          refine lv_ldc (v := 100000) C.1 C.2.1 C.2.2.2.1 (C.2.2.2.2 _ wm_928) dX6_give_122 ?_
          refine lv_icmp_gt (tgt := 131) C.1 C.2.1 dX6_give_124 (by decide) (fun c124 => ?_) (fun c124 => ?_)
          · refine lv_iconst (v := 0) C.1 C.2.1 dX6_give_131 rfl ?_
            refine wr_go1 (runV C hE hH hS (m_mayAll X0.1 hs0 hs5 hs9 hb0 hb5 hb9 b1 b2 false) mv_X6_mayAll wm_864 (MX_m X0) rfl rfl hl.1 dX6_give_132 rfl rfl ⟨rfl, rfl⟩ ⟨Nat.le_of_ble_eq_true rfl, Nat.le_of_ble_eq_true rfl⟩ (Nat.le_of_ble_eq_true rfl) ⟨Nat.le_of_ble_eq_true rfl, Nat.le_of_ble_eq_true rfl⟩) hS (fun u7 M8 H locs hM8 hH hS => ?_)
            have X9 := MX_tr X0 hM8
            refine lv_if_ne (tgt := 140) C.1 C.2.1 dX6_give_135 (by decide) (fun c135 => ?_) (fun c135 => ?_)
            · exact absurd (show bI (b1 && b2 && false) = 0 by rw [bf_of c59]; cases b1 <;> rfl) c135
            · refine lv_iconst (v := 0) C.1 C.2.1 dX6_give_138 rfl ?_
              exact wr_iret 0 C hr hlocks hH hS rfl (Or.inr (Or.inr (Or.inl ⟨dt hb1 (bt_of c88), df hb2 (bf_of c59), by have h9 := X9; rw [show mt3 b1 b2 false = 2 by rw [bt_of c88, bf_of c59]; rfl] at h9; exact ⟨rfl, h9⟩⟩))) (by decide) (by decide) dX6_give_139
          · refine lv_iconst (v := 1) C.1 C.2.1 dX6_give_127 rfl ?_
            refine lv_goto (tgt := 132) C.1 C.2.1 dX6_give_128 (by decide) ?_
            refine wr_go1 (runV C hE hH hS (m_mayAll X0.1 hs0 hs5 hs9 hb0 hb5 hb9 b1 b2 true) mv_X6_mayAll wm_864 (MX_m X0) rfl rfl hl.1 dX6_give_132 rfl rfl ⟨rfl, rfl⟩ ⟨Nat.le_of_ble_eq_true rfl, Nat.le_of_ble_eq_true rfl⟩ (Nat.le_of_ble_eq_true rfl) ⟨Nat.le_of_ble_eq_true rfl, Nat.le_of_ble_eq_true rfl⟩) hS (fun u10 M11 H locs hM11 hH hS => ?_)
            have X12 := MX_tr X0 hM11
            refine lv_if_ne (tgt := 140) C.1 C.2.1 dX6_give_135 (by decide) (fun c135 => ?_) (fun c135 => ?_)
            · exact absurd (show bI (b1 && b2 && true) = 0 by rw [bf_of c59]; cases b1 <;> rfl) c135
            · refine lv_iconst (v := 0) C.1 C.2.1 dX6_give_138 rfl ?_
              exact wr_iret 0 C hr hlocks hH hS rfl (Or.inr (Or.inr (Or.inl ⟨dt hb1 (bt_of c88), df hb2 (bf_of c59), by have h9 := X12; rw [show mt3 b1 b2 true = 2 by rw [bt_of c88, bf_of c59]; rfl] at h9; exact ⟨rfl, h9⟩⟩))) (by decide) (by decide) dX6_give_139
      · refine lv_iload C.1 C.2.1 dX6_give_62 (lv_at hl 6 rfl) ?_
        refine lv_iload C.1 C.2.1 dX6_give_64 (lv_at hl 6 rfl) ?_
        refine lv_aload_n C.1 C.2.1 dX6_give_66 rfl (lv_at hl 2 rfl) ?_
        refine mget (v := .ref (ad 20)) C hE hH fl_750 (MX_m X0) rfl dX6_give_67 ?_
        refine lv_iload_n C.1 C.2.1 dX6_give_70 rfl (lv_at hl 5 rfl) ?_
        refine mald (n := 3) (f := (ar 20)) C hE hH (MX_a X0 20 rfl) (inx_in (dt hb2 (bt_of c59)).1.1.2 (by decide)) dX6_give_71 ?_
        refine lv_imul C.1 C.2.1 dX6_give_72 ?_
        refine lv_bipush (v := 99) C.1 C.2.1 dX6_give_73 rfl ?_
        refine lv_iadd C.1 C.2.1 dX6_give_75 ?_
        refine lv_bipush (v := 100) C.1 C.2.1 dX6_give_76 rfl ?_
        refine lv_idiv C.1 C.2.1 dX6_give_78 (by decide) ?_
        refine lv_isub C.1 C.2.1 dX6_give_79 ?_
        refine lv_goto (tgt := 84) C.1 C.2.1 dX6_give_80 (by decide) ?_
        refine lv_topi (fun x13 ex13 => ?_)
        refine lv_istore (lv' := [(7, .int x13), (6, .int (bI b2)), (5, .int (bI b1)), (0, .ref mo), (1, .int p0), (2, .int p1), (3, .int p2), (4, .int p3)]) C.1 C.2.1 dX6_give_84 hl (by decide) rfl (fun ls hl => ?_)
        refine lv_iload C.1 C.2.1 dX6_give_86 (lv_at hl 2 rfl) ?_
        refine lv_if_eq (tgt := 104) C.1 C.2.1 dX6_give_88 (by decide) (fun c88 => ?_) (fun c88 => ?_)
        · exact absurd (dt hb2 (bt_of c59)).1.1 (df hb1 (bf_of c88))
        · obtain ⟨u, eu, epu⟩ : ∃ z : Nat, z = p0.toNatClampNeg ∧ p0 = nI z := ⟨_, rfl, (inx_nI (dt hb1 (bt_of c88)).1.1 (by omega)).2⟩
          have ru : u < 5 := by rw [eu]; exact (inx_nI (dt hb1 (bt_of c88)).1.1 (by omega)).1
          rw [epu] at hl
          obtain ⟨v, ev, epv⟩ : ∃ z : Nat, z = p1.toNatClampNeg ∧ p1 = nI z := ⟨_, rfl, (inx_nI (dt hb1 (bt_of c88)).1.2 (by omega)).2⟩
          have rv : v < 5 := by rw [ev]; exact (inx_nI (dt hb1 (bt_of c88)).1.2 (by omega)).1
          rw [epv] at hl
          obtain ⟨t9, et9, ept9⟩ : ∃ z : Nat, z = p2.toNatClampNeg ∧ p2 = nI z := ⟨_, rfl, (inx_nI (dt hb1 (bt_of c88)).2 (by omega)).2⟩
          have rt9 : t9 < 3 := by rw [et9]; exact (inx_nI (dt hb1 (bt_of c88)).2 (by omega)).1
          rw [ept9] at hl
          refine lv_bipush (v := 25) C.1 C.2.1 dX6_give_91 rfl ?_
          refine lv_iload_n C.1 C.2.1 dX6_give_93 rfl (lv_at hl 6 rfl) ?_
          refine lv_imul C.1 C.2.1 dX6_give_94 ?_
          rw [show (25 : Int32) * (nI t9) = nI (25 * t9) from (nI_m 25 t9).symm]
          refine lv_iconst (v := 5) C.1 C.2.1 dX6_give_95 rfl ?_
          refine lv_iload_n C.1 C.2.1 dX6_give_96 rfl (lv_at hl 5 rfl) ?_
          refine lv_imul C.1 C.2.1 dX6_give_97 ?_
          rw [show (5 : Int32) * (nI v) = nI (5 * v) from (nI_m 5 v).symm]
          refine lv_iadd C.1 C.2.1 dX6_give_98 ?_
          rw [show (nI (25 * t9) : Int32) + (nI (5 * v)) = nI ((25 * t9) + (5 * v)) from (nI_a (25 * t9) (5 * v)).symm]
          refine lv_iload_n C.1 C.2.1 dX6_give_99 rfl (lv_at hl 4 rfl) ?_
          refine lv_iadd C.1 C.2.1 dX6_give_100 ?_
          rw [show (nI ((25 * t9) + (5 * v)) : Int32) + (nI u) = nI (((25 * t9) + (5 * v)) + u) from (nI_a ((25 * t9) + (5 * v)) u).symm]
          refine lv_goto (tgt := 105) C.1 C.2.1 dX6_give_101 (by decide) ?_
          refine lv_istore (lv' := [(8, .int (nI (((25 * t9) + (5 * v)) + u))), (7, .int x13), (6, .int (bI b2)), (5, .int (bI b1)), (0, .ref mo), (1, .int (nI u)), (2, .int (nI v)), (3, .int (nI t9)), (4, .int p3)]) C.1 C.2.1 dX6_give_105 hl (by decide) rfl (fun ls hl => ?_)
          have hD : ar 21 (25 * p2.toNatClampNeg + 5 * p1.toNatClampNeg + p0.toNatClampNeg) + zsh p3 (ar 20 p2.toNatClampNeg) = ar 21 (25 * t9 + 5 * v + u) + x13 := by rw [ex13, ← eu, ← ev, ← et9] <;> rfl
          refine lv_aload_n C.1 C.2.1 dX6_give_107 rfl (lv_at hl 4 rfl) ?_
          refine lv_iload C.1 C.2.1 dX6_give_108 (lv_at hl 3 rfl) ?_
          refine lv_iload C.1 C.2.1 dX6_give_110 (lv_at hl 2 rfl) ?_
          refine lv_aload_n C.1 C.2.1 dX6_give_112 rfl (lv_at hl 4 rfl) ?_
          refine mget (v := .ref (ad 21)) C hE hH fl_751 (MX_m X0) rfl dX6_give_113 ?_
          refine lv_iload C.1 C.2.1 dX6_give_116 (lv_at hl 0 rfl) ?_
          refine mald (n := 75) (f := (ar 21)) C hE hH (MX_a X0 21 rfl) (vp_in_nI (show (((25 * t9) + (5 * v)) + u) < 75 by omega) (by decide)) dX6_give_118 ?_
          rw [nI_clamp (show (((25 * t9) + (5 * v)) + u) < 2 ^ 31 by omega)]
          refine lv_iload C.1 C.2.1 dX6_give_119 (lv_at hl 1 rfl) ?_
          refine lv_iadd C.1 C.2.1 dX6_give_121 ?_
          refine lv_ldc (v := 100000) C.1 C.2.1 C.2.2.2.1 (C.2.2.2.2 _ wm_928) dX6_give_122 ?_
          refine lv_icmp_gt (tgt := 131) C.1 C.2.1 dX6_give_124 (by decide) (fun c124 => ?_) (fun c124 => ?_)
          · refine lv_iconst (v := 0) C.1 C.2.1 dX6_give_131 rfl ?_
            refine wr_go1 (runV C hE hH hS (m_mayAll X0.1 hs0 hs5 hs9 hb0 hb5 hb9 b1 b2 false) mv_X6_mayAll wm_864 (MX_m X0) rfl rfl hl.1 dX6_give_132 rfl rfl ⟨rfl, rfl⟩ ⟨Nat.le_of_ble_eq_true rfl, Nat.le_of_ble_eq_true rfl⟩ (Nat.le_of_ble_eq_true rfl) ⟨Nat.le_of_ble_eq_true rfl, Nat.le_of_ble_eq_true rfl⟩) hS (fun u14 M15 H locs hM15 hH hS => ?_)
            have X16 := MX_tr X0 hM15
            refine lv_if_ne (tgt := 140) C.1 C.2.1 dX6_give_135 (by decide) (fun c135 => ?_) (fun c135 => ?_)
            · exact absurd (show bI (b1 && b2 && false) = 0 by cases b1 <;> cases b2 <;> rfl) c135
            · refine lv_iconst (v := 0) C.1 C.2.1 dX6_give_138 rfl ?_
              exact wr_iret 0 C hr hlocks hH hS rfl (mq3_bad hb1 hb2 (show false = decide (ar 21 (25 * p2.toNatClampNeg + 5 * p1.toNatClampNeg + p0.toNatClampNeg) + zsh p3 (ar 20 p2.toNatClampNeg) ≤ 100000) from (decide_eq_false (by rw [hD]; exact fun q => Int32.not_lt.mpr q c124)).symm) c135 ⟨rfl, X16⟩) (by decide) (by decide) dX6_give_139
          · refine lv_iconst (v := 1) C.1 C.2.1 dX6_give_127 rfl ?_
            refine lv_goto (tgt := 132) C.1 C.2.1 dX6_give_128 (by decide) ?_
            refine wr_go1 (runV C hE hH hS (m_mayAll X0.1 hs0 hs5 hs9 hb0 hb5 hb9 b1 b2 true) mv_X6_mayAll wm_864 (MX_m X0) rfl rfl hl.1 dX6_give_132 rfl rfl ⟨rfl, rfl⟩ ⟨Nat.le_of_ble_eq_true rfl, Nat.le_of_ble_eq_true rfl⟩ (Nat.le_of_ble_eq_true rfl) ⟨Nat.le_of_ble_eq_true rfl, Nat.le_of_ble_eq_true rfl⟩) hS (fun u17 M18 H locs hM18 hH hS => ?_)
            have X19 := MX_tr X0 hM18
            refine lv_if_ne (tgt := 140) C.1 C.2.1 dX6_give_135 (by decide) (fun c135 => ?_) (fun c135 => ?_)
            · have hb3 : true = decide (ar 21 (25 * p2.toNatClampNeg + 5 * p1.toNatClampNeg + p0.toNatClampNeg) + zsh p3 (ar 20 p2.toNatClampNeg) ≤ 100000) := (decide_eq_true (by rw [hD]; exact Int32.not_lt.mp c124)).symm
              obtain ⟨k1, k2, k3, hz0⟩ := m3_t hb1 hb2 hb3 c135
              rw [hz0] at X19
              refine lv_aload_n C.1 C.2.1 dX6_give_140 rfl (lv_at hl 4 rfl) ?_
              refine mget (v := .ref (ad 21)) C hE hH fl_751 (MX_m X19) rfl dX6_give_141 ?_
              refine lv_iload C.1 C.2.1 dX6_give_144 (lv_at hl 0 rfl) ?_
              refine lv_dup2_11 C.1 C.2.1 dX6_give_146 rfl rfl ?_
              refine mald (n := 75) (f := (ar 21)) C hE hH (MX_a X19 21 rfl) (vp_in_nI (show (((25 * t9) + (5 * v)) + u) < 75 by omega) (by decide)) dX6_give_147 ?_
              rw [nI_clamp (show (((25 * t9) + (5 * v)) + u) < 2 ^ 31 by omega)]
              refine lv_iload C.1 C.2.1 dX6_give_148 (lv_at hl 1 rfl) ?_
              refine lv_iadd C.1 C.2.1 dX6_give_150 ?_
              refine mast (n := 75) (f := (ar 21)) C hE hH hS (MX_a X19 21 rfl) (vp_in_nI (show (((25 * t9) + (5 * v)) + u) < 75 by omega) (by decide)) dX6_give_151 (fun H locs hH hS => ?_)
              rw [nI_clamp (show (((25 * t9) + (5 * v)) + u) < 2 ^ 31 by omega)] at hH
              obtain ⟨M20, hM20⟩ : ∃ z, z = mu M18 (ad 21) (eI g 75 (upd (ar 21) (((25 * t9) + (5 * v)) + u) (((ar 21) (((25 * t9) + (5 * v)) + u)) + x13))) := ⟨_, rfl⟩
              have hH : Hw g M20 H := by rw [hM20]; exact hH
              have X21 := MX_ar (k := 21) (N := 75) (f := upd (ar 21) (((25 * t9) + (5 * v)) + u) (((ar 21) (((25 * t9) + (5 * v)) + u)) + x13)) rfl rfl X19
              rw [← hM20] at X21
              refine lv_aload_n C.1 C.2.1 dX6_give_152 rfl (lv_at hl 4 rfl) ?_
              refine mget (v := .ref (ad 21)) C hE hH fl_751 (MX_m X21) rfl dX6_give_153 ?_
              refine lv_iload C.1 C.2.1 dX6_give_156 (lv_at hl 0 rfl) ?_
              refine mald (n := 75) (f := (upd (ar 21) (((25 * t9) + (5 * v)) + u) (((ar 21) (((25 * t9) + (5 * v)) + u)) + x13))) C hE hH (MX_a X21 21 rfl) (vp_in_nI (show (((25 * t9) + (5 * v)) + u) < 75 by omega) (by decide)) dX6_give_158 ?_
              rw [nI_clamp (show (((25 * t9) + (5 * v)) + u) < 2 ^ 31 by omega)]
              exact wr_iret ((upd (ar 21) (((25 * t9) + (5 * v)) + u) (((ar 21) (((25 * t9) + (5 * v)) + u)) + x13)) (((25 * t9) + (5 * v)) + u)) C hr hlocks hH hS rfl (Or.inl ⟨k1, k2, k3, upd_s.trans hD.symm, by rw [hD, ← eu, ← ev, ← et9]; exact X21⟩) (by decide) (by decide) dX6_give_159
            · refine lv_iconst (v := 0) C.1 C.2.1 dX6_give_138 rfl ?_
              exact wr_iret 0 C hr hlocks hH hS rfl (mq3_bad hb1 hb2 (show true = decide (ar 21 (25 * p2.toNatClampNeg + 5 * p1.toNatClampNeg + p0.toNatClampNeg) + zsh p3 (ar 20 p2.toNatClampNeg) ≤ 100000) from (decide_eq_true (by rw [hD]; exact Int32.not_lt.mp c124)).symm) c135 ⟨rfl, X19⟩) (by decide) (by decide) dX6_give_139
    refine lv_iload C.1 C.2.1 dX6_give_28 (lv_at hl 0 rfl) ?_
    refine lv_if_eq (tgt := 54) C.1 C.2.1 dX6_give_30 (by decide) (fun c30 => ?_) (fun c30 => ?_)
    · refine lv_iconst (v := 0) C.1 C.2.1 dX6_give_54 rfl ?_
      exact J55 false ((decide_eq_false (fun z => (df hb1 (bf_of c30)) z.1.1)).symm) ls hl
    · refine lv_iload_n C.1 C.2.1 dX6_give_33 rfl (lv_at hl 2 rfl) ?_
      refine lv_iload_n C.1 C.2.1 dX6_give_34 rfl (lv_at hl 3 rfl) ?_
      refine lv_icmp_eq (tgt := 54) C.1 C.2.1 dX6_give_35 (by decide) (fun c35 => ?_) (fun c35 => ?_)
      · refine lv_iconst (v := 0) C.1 C.2.1 dX6_give_54 rfl ?_
        exact J55 false ((decide_eq_false (fun z => (not_not_intro c35) z.1.2)).symm) ls hl
      · refine lv_iload C.1 C.2.1 dX6_give_38 (lv_at hl 5 rfl) ?_
        refine lv_iconst (v := 1) C.1 C.2.1 dX6_give_40 rfl ?_
        refine lv_sipush (v := 1000) C.1 C.2.1 dX6_give_41 rfl ?_
        refine rd_go1 (runS C hE hH hS (m_isIn p3 1 1000) mv_X6_isIn wm_811 hl.1 dX6_give_44 rfl rfl ⟨rfl, rfl⟩ ⟨Nat.le_of_ble_eq_true rfl, Nat.le_of_ble_eq_true rfl⟩ (Nat.le_of_ble_eq_true rfl) ⟨Nat.le_of_ble_eq_true rfl, Nat.le_of_ble_eq_true rfl⟩) ?_
        refine lv_if_eq (tgt := 54) C.1 C.2.1 dX6_give_47 (by decide) (fun c47 => ?_) (fun c47 => ?_)
        · refine lv_iconst (v := 0) C.1 C.2.1 dX6_give_54 rfl ?_
          exact J55 false ((decide_eq_false (fun z => (bI_z.mp c47) z.2)).symm) ls hl
        · refine lv_iconst (v := 1) C.1 C.2.1 dX6_give_50 rfl ?_
          refine lv_goto (tgt := 55) C.1 C.2.1 dX6_give_51 (by decide) ?_
          exact J55 true ((decide_eq_true ⟨⟨(dt hb1 (bt_of c30)), c35⟩, bI_nz c47⟩).symm) ls hl
  refine lv_iload_n C.1 C.2.1 dX6_give_0 rfl (lv_at hl 1 rfl) ?_
  refine rd_go1 (runS C hE hH hS (m_isPerson p0) mv_X6_isPerson wm_925 hl.1 dX6_give_1 rfl rfl ⟨rfl, rfl⟩ ⟨Nat.le_of_ble_eq_true rfl, Nat.le_of_ble_eq_true rfl⟩ (Nat.le_of_ble_eq_true rfl) ⟨Nat.le_of_ble_eq_true rfl, Nat.le_of_ble_eq_true rfl⟩) ?_
  refine lv_if_eq (tgt := 25) C.1 C.2.1 dX6_give_4 (by decide) (fun c4 => ?_) (fun c4 => ?_)
  · refine lv_iconst (v := 0) C.1 C.2.1 dX6_give_25 rfl ?_
    exact J26 false ((decide_eq_false (fun z => (bI_z.mp c4) z.1.1)).symm) ls hl
  · refine lv_iload_n C.1 C.2.1 dX6_give_7 rfl (lv_at hl 2 rfl) ?_
    refine rd_go1 (runS C hE hH hS (m_isPerson p1) mv_X6_isPerson wm_925 hl.1 dX6_give_8 rfl rfl ⟨rfl, rfl⟩ ⟨Nat.le_of_ble_eq_true rfl, Nat.le_of_ble_eq_true rfl⟩ (Nat.le_of_ble_eq_true rfl) ⟨Nat.le_of_ble_eq_true rfl, Nat.le_of_ble_eq_true rfl⟩) ?_
    refine lv_if_eq (tgt := 25) C.1 C.2.1 dX6_give_11 (by decide) (fun c11 => ?_) (fun c11 => ?_)
    · refine lv_iconst (v := 0) C.1 C.2.1 dX6_give_25 rfl ?_
      exact J26 false ((decide_eq_false (fun z => (bI_z.mp c11) z.1.2)).symm) ls hl
    · refine lv_iload_n C.1 C.2.1 dX6_give_14 rfl (lv_at hl 3 rfl) ?_
      refine rd_go1 (runS C hE hH hS (m_isThird p2) mv_X6_isThird wm_822 hl.1 dX6_give_15 rfl rfl ⟨rfl, rfl⟩ ⟨Nat.le_of_ble_eq_true rfl, Nat.le_of_ble_eq_true rfl⟩ (Nat.le_of_ble_eq_true rfl) ⟨Nat.le_of_ble_eq_true rfl, Nat.le_of_ble_eq_true rfl⟩) ?_
      refine lv_if_eq (tgt := 25) C.1 C.2.1 dX6_give_18 (by decide) (fun c18 => ?_) (fun c18 => ?_)
      · refine lv_iconst (v := 0) C.1 C.2.1 dX6_give_25 rfl ?_
        exact J26 false ((decide_eq_false (fun z => (bI_z.mp c18) z.2)).symm) ls hl
      · refine lv_iconst (v := 1) C.1 C.2.1 dX6_give_21 rfl ?_
        refine lv_goto (tgt := 26) C.1 C.2.1 dX6_give_22 (by decide) ?_
        exact J26 true ((decide_eq_true ⟨⟨(bI_nz c4), bI_nz c11⟩, bI_nz c18⟩).symm) ls hl
