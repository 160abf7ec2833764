/-! THE MODEL: NET -/
theorem ua_id {ar : Nat → Nat → Int32} {k : Nat} : ua ar k (ar k) = ar := funext fun k' => by
  unfold ua
  by_cases e : k' = k
  · rw [if_pos e, e]
  · rw [if_neg e]
theorem ua3 {ar : Nat → Nat → Int32} {a b : Nat} {f h f' : Nat → Int32} (hab : a ≠ b) : ua (ua (ua ar a f) b h) a f' = ua (ua ar a f') b h := funext fun k' => by
  unfold ua
  by_cases e : k' = a
  · rw [if_pos e, if_neg (fun z => hab (e.symm.trans z)), if_pos e]
  · rw [if_neg e]
    by_cases e2 : k' = b
    · rw [if_pos e2, if_pos e2]
    · rw [if_neg e2, if_neg e2, if_neg e, if_neg e]
theorem ucnt_n {U : Nat → Int32} : ∀ (n : Nat), ucnt U n ≤ n
  | 0 => Nat.le_refl _
  | n + 1 => by
    have := ucnt_n (U := U) n
    unfold ucnt
    split <;> omega
theorem lt25 {i : Nat} (hi : i ≤ 25) (h : ¬ (25 : Int32) ≤ nI i) : i < 25 := by
  rcases Nat.lt_or_ge i 25 with q | q
  · exact q
  · exact absurd (by rw [show i = 25 by omega]; decide) h
theorem eq25 {i : Nat} (hi : i ≤ 25) (h : (25 : Int32) ≤ nI i) : i = 25 := by
  rcases Nat.lt_or_ge i 25 with q | q
  · exact absurd h (nI_ge (b := 25) q (by decide))
  · omega
set_option maxHeartbeats 4000000 in
set_option maxRecDepth 100000 in
theorem mw_net {l : Launch} {g : gG} {M : Mp} {mo : Nat} {ad : Nat → Nat} {sc : Nat → Int32} {ar : Nat → Nat → Int32} {ne nb no : Nat}  (hI : MI g M mo ad sc ar) (hs0 : sc 0 = nI ne) (hs5 : sc 5 = nI nb) (hs9 : sc 9 = nI no) (hb0 : ne ≤ 12) (hb5 : nb ≤ 10) (hb9 : no ≤ 40) (hZ : ∀ k, k < 3 → ∀ t, t < 5 → rgU (zU ar k t)) (p0 : Int32) : Met l yX6_net (WY yX6_net cX6_net 6 (some .int)) { frames := 2, cells := 0, slots := 0, locals := 42 } (Wc g M [.ref mo, .int p0]) (wrQ (S := Int32) g (fun u_ => (some (.int u_))) (fun u_ M_ => MQ1 (inx p0 3) (u_ = nI (znet 5 ar p0.toNatClampNeg).1 ∧ ∃ U9 D9, MX g M M_ mo ad (us sc 23 0) (ua (ua ar 22 U9) 21 D9) ∧ (∀ i j, i < 5 → j < 5 → D9 (25 * p0.toNatClampNeg + 5 * i + j) = (znet 5 ar p0.toNatClampNeg).2.1 i j) ∧ ∀ t, t < 25 * p0.toNatClampNeg ∨ 25 * p0.toNatClampNeg + 25 ≤ t → D9 t = ar 21 t) (fun t_ => u_ = 0 ∧ MX g M M_ mo ad (us sc 23 t_) ar))) 0 0 (gA g) := by
  refine ofM (by decide +kernel) (Nat.le_of_ble_eq_true rfl) (fun p e s m args below meth c ls C hr hlocks hin hE hH hl ea => ?_)
  have hl : lv_has ls 6 [(0, .ref mo), (1, .int p0)] := hl
  have hS : va_S (gA g) s.heap s.heap [] := va_S.rf
  have X0 := MX_rf hI
  refine lv_aload_n C.1 C.2.1 dX6_net_0 rfl (lv_at hl 0 rfl) ?_
  refine lv_iload_n C.1 C.2.1 dX6_net_1 rfl (lv_at hl 1 rfl) ?_
  refine rd_go1 (runS C hE hH hS (m_isThird p0) mv_X6_isThird wm_822 hl.1 dX6_net_2 rfl rfl ⟨rfl, rfl⟩ ⟨Nat.le_of_ble_eq_true rfl, Nat.le_of_ble_eq_true rfl⟩ (Nat.le_of_ble_eq_true rfl) ⟨Nat.le_of_ble_eq_true rfl, Nat.le_of_ble_eq_true rfl⟩) ?_
  obtain ⟨b1, hb1⟩ : ∃ z : Bool, z = decide (inx p0 3) := ⟨_, rfl⟩
  rw [← hb1]
  refine wr_go1 (runV C hE hH hS (m_may X0.1 hs0 hs5 hs9 hb0 hb5 hb9 b1) mv_X6_may wm_837 (MX_m X0) rfl rfl hl.1 dX6_net_5 rfl rfl ⟨rfl, rfl⟩ ⟨Nat.le_of_ble_eq_true rfl, Nat.le_of_ble_eq_true rfl⟩ (Nat.le_of_ble_eq_true rfl) ⟨Nat.le_of_ble_eq_true rfl, Nat.le_of_ble_eq_true rfl⟩) hS (fun u1 M2 H locs hM2 hH hS => ?_)
  have X3 := MX_tr X0 hM2
  refine lv_if_ne (tgt := 13) C.1 C.2.1 dX6_net_8 (by decide) (fun c8 => ?_) (fun c8 => ?_)
  · obtain ⟨k1, hz0⟩ := m1_t hb1 c8
    rw [hz0] at X3
    obtain ⟨k, ek, epk⟩ : ∃ z : Nat, z = p0.toNatClampNeg ∧ p0 = nI z := ⟨_, rfl, (inx_nI k1 (by omega)).2⟩
    have rk : k < 3 := by rw [ek]; exact (inx_nI k1 (by omega)).1
    rw [epk] at hl
    refine lv_iconst (v := 0) C.1 C.2.1 dX6_net_13 rfl ?_
    refine lv_istore_n (lv' := [(2, .int 0), (0, .ref mo), (1, .int (nI k))]) C.1 C.2.1 dX6_net_14 rfl hl (by decide) rfl (fun ls hl => ?_)
    have loop15 : ∀ (fu : Nat) (M9 : Mp) (i : Nat) (f9 : Nat → Int32), (MX g M M9 mo ad (us sc 23 0) (ua ar 22 f9)) → (i ≤ 5) → (5 < i + fu) → (∀ t, t < i → f9 t = zU ar k t) →  ∀ (H : Heap) (locs : List Loc), Hw g M9 H → va_S (gA g) s.heap H locs → ∀ (ls : Array Slot), lv_has ls 6 [(0, .ref mo), (1, .int (nI k)), (2, .int (nI i))] → W p l e { frames := 2, cells := 0, slots := 0, locals := 42 } s m args below meth c H locs 0 0 (MQ below (wrQ (S := Int32) g (fun u_ => (some (.int u_))) (fun u_ M_ => MQ1 (inx p0 3) (u_ = nI (znet 5 ar p0.toNatClampNeg).1 ∧ ∃ U9 D9, MX g M M_ mo ad (us sc 23 0) (ua (ua ar 22 U9) 21 D9) ∧ (∀ i j, i < 5 → j < 5 → D9 (25 * p0.toNatClampNeg + 5 * i + j) = (znet 5 ar p0.toNatClampNeg).2.1 i j) ∧ ∀ t, t < 25 * p0.toNatClampNeg ∨ 25 * p0.toNatClampNeg + 25 ≤ t → D9 t = ar 21 t) (fun t_ => u_ = 0 ∧ MX g M M_ mo ad (us sc 23 t_) ar))) args s 0 0 (gA g)) (F0 m 15 ls []) := by
      intro fu
      induction fu with
      | zero => intro M9 i f9 X9 hi hfu hf; exact absurd hfu (by omega)
      | succ fu ih =>
        intro M9 i f9 X9 hi hfu hf H locs hH hS ls hl
        refine lv_iload_n C.1 C.2.1 dX6_net_15 rfl (lv_at hl 2 rfl) ?_
        refine lv_iconst (v := 5) C.1 C.2.1 dX6_net_16 rfl ?_
        refine lv_icmp_ge (tgt := 38) C.1 C.2.1 dX6_net_17 (by decide) (fun c17 => ?_) (fun c17 => ?_)
        · have hf5 : ∀ t, t < 5 → f9 t = zU ar k t := fun t ht => hf t (by rw [five_eq hi c17]; exact ht)
          refine lv_iconst (v := 0) C.1 C.2.1 dX6_net_38 rfl ?_
          refine lv_istore_n (lv' := [(2, .int 0), (0, .ref mo), (1, .int (nI k))]) C.1 C.2.1 dX6_net_39 rfl hl (by decide) rfl (fun ls hl => ?_)
          have loop40 : ∀ (fu : Nat) (M9 : Mp) (i : Nat) (g9 : Nat → Int32), (MX g M M9 mo ad (us sc 23 0) (ua (ua ar 22 f9) 21 g9)) → (i ≤ 25) → (25 < i + fu) → (∀ t, g9 t = if 25 * k ≤ t ∧ t < 25 * k + i then 0 else ar 21 t) →  ∀ (H : Heap) (locs : List Loc), Hw g M9 H → va_S (gA g) s.heap H locs → ∀ (ls : Array Slot), lv_has ls 6 [(0, .ref mo), (1, .int (nI k)), (2, .int (nI i))] → W p l e { frames := 2, cells := 0, slots := 0, locals := 42 } s m args below meth c H locs 0 0 (MQ below (wrQ (S := Int32) g (fun u_ => (some (.int u_))) (fun u_ M_ => MQ1 (inx p0 3) (u_ = nI (znet 5 ar p0.toNatClampNeg).1 ∧ ∃ U9 D9, MX g M M_ mo ad (us sc 23 0) (ua (ua ar 22 U9) 21 D9) ∧ (∀ i j, i < 5 → j < 5 → D9 (25 * p0.toNatClampNeg + 5 * i + j) = (znet 5 ar p0.toNatClampNeg).2.1 i j) ∧ ∀ t, t < 25 * p0.toNatClampNeg ∨ 25 * p0.toNatClampNeg + 25 ≤ t → D9 t = ar 21 t) (fun t_ => u_ = 0 ∧ MX g M M_ mo ad (us sc 23 t_) ar))) args s 0 0 (gA g)) (F0 m 40 ls []) := by
            intro fu
            induction fu with
            | zero => intro M9 i g9 X9 hi hfu hg9; exact absurd hfu (by omega)
            | succ fu ih =>
              intro M9 i g9 X9 hi hfu hg9 H locs hH hS ls hl
              refine lv_iload_n C.1 C.2.1 dX6_net_40 rfl (lv_at hl 2 rfl) ?_
              refine lv_bipush (v := 25) C.1 C.2.1 dX6_net_41 rfl ?_
              refine lv_icmp_ge (tgt := 64) C.1 C.2.1 dX6_net_43 (by decide) (fun c43 => ?_) (fun c43 => ?_)
              · have e25 : i = 25 := eq25 hi c43
                have hz := znet_of 5 (ar := ar) (k := k) (D1 := fun i j => g9 (25 * k + 5 * i + j)) (U1 := f9) (fun i2 j hi2 hj => by show g9 (25 * k + 5 * i2 + j) = 0; rw [hg9, if_pos (by omega)]) hf5
                obtain ⟨zc, hzc⟩ : ∃ z : Nat, z = (znet 5 ar k).1 := ⟨_, rfl⟩
                obtain ⟨zb, hzb⟩ : ∃ z : Nat → Nat → Int32, z = (znet 5 ar k).2.1 := ⟨_, rfl⟩
                rw [← hzc, ← hzb] at hz
                have hN0 : NV k 0 0 0 g9 f9 (zc, zb) 5 := ⟨fun t ht => absurd ht (Nat.not_lt_zero t), fun t ht => absurd ht (Nat.not_lt_zero t), fun t ht => by rw [hf5 t ht]; exact hZ k rk t ht, by rw [Nat.zero_add]; exact hz.1, hz.2, ucnt_n 5⟩
                have hD0 : ∀ t, t < 25 * k ∨ 25 * k + 25 ≤ t → g9 t = ar 21 t := fun t ht => by rw [hg9, if_neg (by omega)]
                refine lv_iconst (v := 0) C.1 C.2.1 dX6_net_64 rfl ?_
                refine lv_istore_n (lv' := [(2, .int 0), (0, .ref mo), (1, .int (nI k))]) C.1 C.2.1 dX6_net_65 rfl hl (by decide) rfl (fun ls hl => ?_)
                refine lv_iconst (v := 0) C.1 C.2.1 dX6_net_66 rfl ?_
                refine lv_istore_n (lv' := [(3, .int 0), (2, .int 0), (0, .ref mo), (1, .int (nI k))]) C.1 C.2.1 dX6_net_67 rfl hl (by decide) rfl (fun ls hl => ?_)
                refine lv_iconst (v := 0) C.1 C.2.1 dX6_net_68 rfl ?_
                refine lv_istore (lv' := [(4, .int 0), (3, .int 0), (2, .int 0), (0, .ref mo), (1, .int (nI k))]) C.1 C.2.1 dX6_net_69 hl (by decide) rfl (fun ls hl => ?_)
                have loop71 : ∀ (fu : Nat) (M9 : Mp) (a9 b9 d9 : Nat) (D U : Nat → Int32) (r9 : Nat), (MX g M M9 mo ad (us sc 23 0) (ua (ua ar 22 U) 21 D)) → (b9 ≤ 5) → (d9 ≤ 5) → (NV k a9 b9 d9 D U (zc, zb) r9) → (∀ t, t < 25 * k ∨ 25 * k + 25 ≤ t → D t = ar 21 t) → ((5 - b9) + (5 - d9) + ucnt U 5 < fu) →  ∀ (H : Heap) (locs : List Loc), Hw g M9 H → va_S (gA g) s.heap H locs → ∀ (ls : Array Slot), lv_has ls 6 [(0, .ref mo), (1, .int (nI k)), (2, .int (nI a9)), (3, .int (nI b9)), (4, .int (nI d9))] → W p l e { frames := 2, cells := 0, slots := 0, locals := 42 } s m args below meth c H locs 0 0 (MQ below (wrQ (S := Int32) g (fun u_ => (some (.int u_))) (fun u_ M_ => MQ1 (inx p0 3) (u_ = nI (znet 5 ar p0.toNatClampNeg).1 ∧ ∃ U9 D9, MX g M M_ mo ad (us sc 23 0) (ua (ua ar 22 U9) 21 D9) ∧ (∀ i j, i < 5 → j < 5 → D9 (25 * p0.toNatClampNeg + 5 * i + j) = (znet 5 ar p0.toNatClampNeg).2.1 i j) ∧ ∀ t, t < 25 * p0.toNatClampNeg ∨ 25 * p0.toNatClampNeg + 25 ≤ t → D9 t = ar 21 t) (fun t_ => u_ = 0 ∧ MX g M M_ mo ad (us sc 23 t_) ar))) args s 0 0 (gA g)) (F0 m 71 ls []) := by
                  intro fu
                  induction fu with
                  | zero => intro M9 a9 b9 d9 D U r9 X9 hb9 hd9 hN hDo hfu; exact absurd hfu (by omega)
                  | succ fu ih =>
                    intro M9 a9 b9 d9 D U r9 X9 hb9 hd9 hN hDo hfu H locs hH hS ls hl
                    refine lv_iload_n C.1 C.2.1 dX6_net_71 rfl (lv_at hl 3 rfl) ?_
                    refine lv_iconst (v := 5) C.1 C.2.1 dX6_net_72 rfl ?_
                    refine lv_icmp_ge (tgt := 196) C.1 C.2.1 dX6_net_73 (by decide) (fun c73 => ?_) (fun c73 => ?_)
                    · refine lv_iload_n C.1 C.2.1 dX6_net_196 rfl (lv_at hl 2 rfl) ?_
                      exact wr_iret (nI a9) C hr hlocks hH hS rfl (by
        have hE9 := NV_end hN (Or.inl (five_eq hb9 c73))
        rw [← ek]
        exact Or.inl ⟨k1, congrArg nI (hE9.1.trans hzc), U, D, X9, fun i2 j2 hi2 hj2 => (hE9.2 i2 j2 hi2 hj2).trans (congrFun (congrFun hzb i2) j2), hDo⟩) (by decide) (by decide) dX6_net_197
                    · have hb5 : b9 < 5 := five_lt hb9 c73
                      refine lv_iload C.1 C.2.1 dX6_net_76 (lv_at hl 4 rfl) ?_
                      refine lv_iconst (v := 5) C.1 C.2.1 dX6_net_78 rfl ?_
                      refine lv_icmp_ge (tgt := 196) C.1 C.2.1 dX6_net_79 (by decide) (fun c79 => ?_) (fun c79 => ?_)
                      · refine lv_iload_n C.1 C.2.1 dX6_net_196 rfl (lv_at hl 2 rfl) ?_
                        exact wr_iret (nI a9) C hr hlocks hH hS rfl (by
        have hE9 := NV_end hN (Or.inr (five_eq hd9 c79))
        rw [← ek]
        exact Or.inl ⟨k1, congrArg nI (hE9.1.trans hzc), U, D, X9, fun i2 j2 hi2 hj2 => (hE9.2 i2 j2 hi2 hj2).trans (congrFun (congrFun hzb i2) j2), hDo⟩) (by decide) (by decide) dX6_net_197
                      · have hd5 : d9 < 5 := five_lt hd9 c79
                        refine lv_aload_n C.1 C.2.1 dX6_net_82 rfl (lv_at hl 0 rfl) ?_
                        refine mget (v := .ref (ad 22)) C hE hH fl_752 (MX_m X9) rfl dX6_net_83 ?_
                        refine lv_iload_n C.1 C.2.1 dX6_net_86 rfl (lv_at hl 3 rfl) ?_
                        refine mald (n := 5) (f := U) C hE hH (MX_a X9 22 rfl) (vp_in_nI (show b9 < 5 by omega) (by decide)) dX6_net_87 ?_
                        rw [nI_clamp (show b9 < 2 ^ 31 by omega)]
                        refine lv_if_lt (tgt := 97) C.1 C.2.1 dX6_net_88 (by decide) (fun c88 => ?_) (fun c88 => ?_)
                        · refine lv_aload_n C.1 C.2.1 dX6_net_97 rfl (lv_at hl 0 rfl) ?_
                          refine mget (v := .ref (ad 22)) C hE hH fl_752 (MX_m X9) rfl dX6_net_98 ?_
                          refine lv_iload C.1 C.2.1 dX6_net_101 (lv_at hl 4 rfl) ?_
                          refine mald (n := 5) (f := U) C hE hH (MX_a X9 22 rfl) (vp_in_nI (show d9 < 5 by omega) (by decide)) dX6_net_103 ?_
                          rw [nI_clamp (show d9 < 2 ^ 31 by omega)]
                          refine lv_if_gt (tgt := 113) C.1 C.2.1 dX6_net_104 (by decide) (fun c104 => ?_) (fun c104 => ?_)
                          · refine lv_aload_n C.1 C.2.1 dX6_net_113 rfl (lv_at hl 0 rfl) ?_
                            refine mget (v := .ref (ad 22)) C hE hH fl_752 (MX_m X9) rfl dX6_net_114 ?_
                            refine lv_iload_n C.1 C.2.1 dX6_net_117 rfl (lv_at hl 3 rfl) ?_
                            refine mald (n := 5) (f := U) C hE hH (MX_a X9 22 rfl) (vp_in_nI (show b9 < 5 by omega) (by decide)) dX6_net_118 ?_
                            rw [nI_clamp (show b9 < 2 ^ 31 by omega)]
                            refine lv_ineg C.1 C.2.1 dX6_net_119 ?_
                            refine lv_aload_n C.1 C.2.1 dX6_net_120 rfl (lv_at hl 0 rfl) ?_
                            refine mget (v := .ref (ad 22)) C hE hH fl_752 (MX_m X9) rfl dX6_net_121 ?_
                            refine lv_iload C.1 C.2.1 dX6_net_124 (lv_at hl 4 rfl) ?_
                            refine mald (n := 5) (f := U) C hE hH (MX_a X9 22 rfl) (vp_in_nI (show d9 < 5 by omega) (by decide)) dX6_net_126 ?_
                            rw [nI_clamp (show d9 < 2 ^ 31 by omega)]
                            refine lv_icmp_ge (tgt := 140) C.1 C.2.1 dX6_net_127 (by decide) (fun c127 => ?_) (fun c127 => ?_)
                            · refine lv_aload_n C.1 C.2.1 dX6_net_140 rfl (lv_at hl 0 rfl) ?_
                              refine mget (v := .ref (ad 22)) C hE hH fl_752 (MX_m X9) rfl dX6_net_141 ?_
                              refine lv_iload C.1 C.2.1 dX6_net_144 (lv_at hl 4 rfl) ?_
                              refine mald (n := 5) (f := U) C hE hH (MX_a X9 22 rfl) (vp_in_nI (show d9 < 5 by omega) (by decide)) dX6_net_146 ?_
                              rw [nI_clamp (show d9 < 2 ^ 31 by omega)]
                              refine lv_topi (fun x4 ex4 => ?_)
                              refine lv_istore (lv' := [(5, .int x4), (0, .ref mo), (1, .int (nI k)), (2, .int (nI a9)), (3, .int (nI b9)), (4, .int (nI d9))]) C.1 C.2.1 dX6_net_147 hl (by decide) rfl (fun ls hl => ?_)
                              refine lv_aload_n C.1 C.2.1 dX6_net_149 rfl (lv_at hl 1 rfl) ?_
                              refine mget (v := .ref (ad 21)) C hE hH fl_751 (MX_m X9) rfl dX6_net_150 ?_
                              refine lv_bipush (v := 25) C.1 C.2.1 dX6_net_153 rfl ?_
                              refine lv_iload_n C.1 C.2.1 dX6_net_155 rfl (lv_at hl 2 rfl) ?_
                              refine lv_imul C.1 C.2.1 dX6_net_156 ?_
                              rw [show (25 : Int32) * (nI k) = nI (25 * k) from (nI_m 25 k).symm]
                              refine lv_iconst (v := 5) C.1 C.2.1 dX6_net_157 rfl ?_
                              refine lv_iload_n C.1 C.2.1 dX6_net_158 rfl (lv_at hl 4 rfl) ?_
                              refine lv_imul C.1 C.2.1 dX6_net_159 ?_
                              rw [show (5 : Int32) * (nI b9) = nI (5 * b9) from (nI_m 5 b9).symm]
                              refine lv_iadd C.1 C.2.1 dX6_net_160 ?_
                              rw [show (nI (25 * k) : Int32) + (nI (5 * b9)) = nI ((25 * k) + (5 * b9)) from (nI_a (25 * k) (5 * b9)).symm]
                              refine lv_iload C.1 C.2.1 dX6_net_161 (lv_at hl 5 rfl) ?_
                              refine lv_iadd C.1 C.2.1 dX6_net_163 ?_
                              rw [show (nI ((25 * k) + (5 * b9)) : Int32) + (nI d9) = nI (((25 * k) + (5 * b9)) + d9) from (nI_a ((25 * k) + (5 * b9)) d9).symm]
                              refine lv_iload C.1 C.2.1 dX6_net_164 (lv_at hl 0 rfl) ?_
                              refine mast (n := 75) (f := D) C hE hH hS (MX_a X9 21 rfl) (vp_in_nI (show (((25 * k) + (5 * b9)) + d9) < 75 by omega) (by decide)) dX6_net_166 (fun H locs hH hS => ?_)
                              rw [nI_clamp (show (((25 * k) + (5 * b9)) + d9) < 2 ^ 31 by omega)] at hH
                              obtain ⟨M5, hM5⟩ : ∃ z, z = mu M9 (ad 21) (eI g 75 (upd D (((25 * k) + (5 * b9)) + d9) x4)) := ⟨_, rfl⟩
                              have hH : Hw g M5 H := by rw [hM5]; exact hH
                              have X6 := MX_ar (k := 21) (N := 75) (f := upd D (((25 * k) + (5 * b9)) + d9) x4) rfl rfl X9
                              rw [← hM5] at X6
                              refine lv_aload_n C.1 C.2.1 dX6_net_167 rfl (lv_at hl 1 rfl) ?_
                              refine mget (v := .ref (ad 22)) C hE hH fl_752 (MX_m X6) rfl dX6_net_168 ?_
                              refine lv_iload_n C.1 C.2.1 dX6_net_171 rfl (lv_at hl 4 rfl) ?_
                              refine lv_dup2_11 C.1 C.2.1 dX6_net_172 rfl rfl ?_
                              refine mald (n := 5) (f := U) C hE hH (MX_a X6 22 rfl) (vp_in_nI (show b9 < 5 by omega) (by decide)) dX6_net_173 ?_
                              rw [nI_clamp (show b9 < 2 ^ 31 by omega)]
                              refine lv_iload C.1 C.2.1 dX6_net_174 (lv_at hl 0 rfl) ?_
                              refine lv_iadd C.1 C.2.1 dX6_net_176 ?_
                              refine mast (n := 5) (f := U) C hE hH hS (MX_a X6 22 rfl) (vp_in_nI (show b9 < 5 by omega) (by decide)) dX6_net_177 (fun H locs hH hS => ?_)
                              rw [nI_clamp (show b9 < 2 ^ 31 by omega)] at hH
                              obtain ⟨M7, hM7⟩ : ∃ z, z = mu M5 (ad 22) (eI g 5 (upd U b9 ((U b9) + x4))) := ⟨_, rfl⟩
                              have hH : Hw g M7 H := by rw [hM7]; exact hH
                              have X8 := MX_ar (k := 22) (N := 5) (f := upd U b9 ((U b9) + x4)) rfl rfl X6
                              rw [← hM7] at X8
                              refine lv_aload_n C.1 C.2.1 dX6_net_178 rfl (lv_at hl 1 rfl) ?_
                              refine mget (v := .ref (ad 22)) C hE hH fl_752 (MX_m X8) rfl dX6_net_179 ?_
                              refine lv_iload C.1 C.2.1 dX6_net_182 (lv_at hl 5 rfl) ?_
                              refine lv_dup2_11 C.1 C.2.1 dX6_net_184 rfl rfl ?_
                              refine mald (n := 5) (f := (upd U b9 ((U b9) + x4))) C hE hH (MX_a X8 22 rfl) (vp_in_nI (show d9 < 5 by omega) (by decide)) dX6_net_185 ?_
                              rw [nI_clamp (show d9 < 2 ^ 31 by omega)]
                              refine lv_iload C.1 C.2.1 dX6_net_186 (lv_at hl 0 rfl) ?_
                              refine lv_isub C.1 C.2.1 dX6_net_188 ?_
                              refine mast (n := 5) (f := (upd U b9 ((U b9) + x4))) C hE hH hS (MX_a X8 22 rfl) (vp_in_nI (show d9 < 5 by omega) (by decide)) dX6_net_189 (fun H locs hH hS => ?_)
                              rw [nI_clamp (show d9 < 2 ^ 31 by omega)] at hH
                              obtain ⟨M9, hM9⟩ : ∃ z, z = mu M7 (ad 22) (eI g 5 (upd (upd U b9 ((U b9) + x4)) d9 (((upd U b9 ((U b9) + x4)) d9) - x4))) := ⟨_, rfl⟩
                              have hH : Hw g M9 H := by rw [hM9]; exact hH
                              have X10 := MX_ar (k := 22) (N := 5) (f := upd (upd U b9 ((U b9) + x4)) d9 (((upd U b9 ((U b9) + x4)) d9) - x4)) rfl rfl X8
                              rw [← hM9] at X10
                              refine lv_iinc (v := nI (a9 + 1)) (lv' := [(2, .int (nI (a9 + 1))), (5, .int x4), (0, .ref mo), (1, .int (nI k)), (3, .int (nI b9)), (4, .int (nI d9))]) C.1 C.2.1 dX6_net_190 hl (k := 3) rfl (nI_1 a9) (by decide) rfl (fun ls hl => ?_)
                              refine lv_goto (tgt := 71) C.1 C.2.1 dX6_net_193 (by decide) ?_
                              have hx8 : x4 = mbo (U b9) (U d9) := by rw [ex4]; unfold mbo; first | rw [if_pos (Int32.not_le.mp c127)] | rw [if_neg (Int32.not_lt.mpr c127)]
                              obtain ⟨r8, hN8, hu8⟩ := NV_step hN hb5 hd5 (Int32.not_le.mpr c88) (Int32.not_le.mpr c104)
                              exact ih M9 (a9 + 1) b9 d9 (upd D (((25 * k) + (5 * b9)) + d9) x4) (upd (upd U b9 ((U b9) + x4)) d9 (((upd U b9 ((U b9) + x4)) d9) - x4)) r8 (by have h9 := X10; rw [ua_ua, ua_ua, ua3 (by decide)] at h9; exact h9) (hb9) (hd9) (by rw [hx8]; exact hN8) (fun t ht => by rw [upd_n (by omega)]; exact hDo t ht) (by rw [hx8]; omega) H locs hH hS ls (lv_sub hl [2, 3, 0, 4, 5] rfl)
                            · refine lv_aload_n C.1 C.2.1 dX6_net_130 rfl (lv_at hl 0 rfl) ?_
                              refine mget (v := .ref (ad 22)) C hE hH fl_752 (MX_m X9) rfl dX6_net_131 ?_
                              refine lv_iload_n C.1 C.2.1 dX6_net_134 rfl (lv_at hl 3 rfl) ?_
                              refine mald (n := 5) (f := U) C hE hH (MX_a X9 22 rfl) (vp_in_nI (show b9 < 5 by omega) (by decide)) dX6_net_135 ?_
                              rw [nI_clamp (show b9 < 2 ^ 31 by omega)]
                              refine lv_ineg C.1 C.2.1 dX6_net_136 ?_
                              refine lv_goto (tgt := 147) C.1 C.2.1 dX6_net_137 (by decide) ?_
                              refine lv_topi (fun x11 ex11 => ?_)
                              refine lv_istore (lv' := [(5, .int x11), (0, .ref mo), (1, .int (nI k)), (2, .int (nI a9)), (3, .int (nI b9)), (4, .int (nI d9))]) C.1 C.2.1 dX6_net_147 hl (by decide) rfl (fun ls hl => ?_)
                              refine lv_aload_n C.1 C.2.1 dX6_net_149 rfl (lv_at hl 1 rfl) ?_
                              refine mget (v := .ref (ad 21)) C hE hH fl_751 (MX_m X9) rfl dX6_net_150 ?_
                              refine lv_bipush (v := 25) C.1 C.2.1 dX6_net_153 rfl ?_
                              refine lv_iload_n C.1 C.2.1 dX6_net_155 rfl (lv_at hl 2 rfl) ?_
                              refine lv_imul C.1 C.2.1 dX6_net_156 ?_
                              rw [show (25 : Int32) * (nI k) = nI (25 * k) from (nI_m 25 k).symm]
                              refine lv_iconst (v := 5) C.1 C.2.1 dX6_net_157 rfl ?_
                              refine lv_iload_n C.1 C.2.1 dX6_net_158 rfl (lv_at hl 4 rfl) ?_
                              refine lv_imul C.1 C.2.1 dX6_net_159 ?_
                              rw [show (5 : Int32) * (nI b9) = nI (5 * b9) from (nI_m 5 b9).symm]
                              refine lv_iadd C.1 C.2.1 dX6_net_160 ?_
                              rw [show (nI (25 * k) : Int32) + (nI (5 * b9)) = nI ((25 * k) + (5 * b9)) from (nI_a (25 * k) (5 * b9)).symm]
                              refine lv_iload C.1 C.2.1 dX6_net_161 (lv_at hl 5 rfl) ?_
                              refine lv_iadd C.1 C.2.1 dX6_net_163 ?_
                              rw [show (nI ((25 * k) + (5 * b9)) : Int32) + (nI d9) = nI (((25 * k) + (5 * b9)) + d9) from (nI_a ((25 * k) + (5 * b9)) d9).symm]
                              refine lv_iload C.1 C.2.1 dX6_net_164 (lv_at hl 0 rfl) ?_
                              refine mast (n := 75) (f := D) C hE hH hS (MX_a X9 21 rfl) (vp_in_nI (show (((25 * k) + (5 * b9)) + d9) < 75 by omega) (by decide)) dX6_net_166 (fun H locs hH hS => ?_)
                              rw [nI_clamp (show (((25 * k) + (5 * b9)) + d9) < 2 ^ 31 by omega)] at hH
                              obtain ⟨M12, hM12⟩ : ∃ z, z = mu M9 (ad 21) (eI g 75 (upd D (((25 * k) + (5 * b9)) + d9) x11)) := ⟨_, rfl⟩
                              have hH : Hw g M12 H := by rw [hM12]; exact hH
                              have X13 := MX_ar (k := 21) (N := 75) (f := upd D (((25 * k) + (5 * b9)) + d9) x11) rfl rfl X9
                              rw [← hM12] at X13
                              refine lv_aload_n C.1 C.2.1 dX6_net_167 rfl (lv_at hl 1 rfl) ?_
                              refine mget (v := .ref (ad 22)) C hE hH fl_752 (MX_m X13) rfl dX6_net_168 ?_
                              refine lv_iload_n C.1 C.2.1 dX6_net_171 rfl (lv_at hl 4 rfl) ?_
                              refine lv_dup2_11 C.1 C.2.1 dX6_net_172 rfl rfl ?_
                              refine mald (n := 5) (f := U) C hE hH (MX_a X13 22 rfl) (vp_in_nI (show b9 < 5 by omega) (by decide)) dX6_net_173 ?_
                              rw [nI_clamp (show b9 < 2 ^ 31 by omega)]
                              refine lv_iload C.1 C.2.1 dX6_net_174 (lv_at hl 0 rfl) ?_
                              refine lv_iadd C.1 C.2.1 dX6_net_176 ?_
                              refine mast (n := 5) (f := U) C hE hH hS (MX_a X13 22 rfl) (vp_in_nI (show b9 < 5 by omega) (by decide)) dX6_net_177 (fun H locs hH hS => ?_)
                              rw [nI_clamp (show b9 < 2 ^ 31 by omega)] at hH
                              obtain ⟨M14, hM14⟩ : ∃ z, z = mu M12 (ad 22) (eI g 5 (upd U b9 ((U b9) + x11))) := ⟨_, rfl⟩
                              have hH : Hw g M14 H := by rw [hM14]; exact hH
                              have X15 := MX_ar (k := 22) (N := 5) (f := upd U b9 ((U b9) + x11)) rfl rfl X13
                              rw [← hM14] at X15
                              refine lv_aload_n C.1 C.2.1 dX6_net_178 rfl (lv_at hl 1 rfl) ?_
                              refine mget (v := .ref (ad 22)) C hE hH fl_752 (MX_m X15) rfl dX6_net_179 ?_
                              refine lv_iload C.1 C.2.1 dX6_net_182 (lv_at hl 5 rfl) ?_
                              refine lv_dup2_11 C.1 C.2.1 dX6_net_184 rfl rfl ?_
                              refine mald (n := 5) (f := (upd U b9 ((U b9) + x11))) C hE hH (MX_a X15 22 rfl) (vp_in_nI (show d9 < 5 by omega) (by decide)) dX6_net_185 ?_
                              rw [nI_clamp (show d9 < 2 ^ 31 by omega)]
                              refine lv_iload C.1 C.2.1 dX6_net_186 (lv_at hl 0 rfl) ?_
                              refine lv_isub C.1 C.2.1 dX6_net_188 ?_
                              refine mast (n := 5) (f := (upd U b9 ((U b9) + x11))) C hE hH hS (MX_a X15 22 rfl) (vp_in_nI (show d9 < 5 by omega) (by decide)) dX6_net_189 (fun H locs hH hS => ?_)
                              rw [nI_clamp (show d9 < 2 ^ 31 by omega)] at hH
                              obtain ⟨M16, hM16⟩ : ∃ z, z = mu M14 (ad 22) (eI g 5 (upd (upd U b9 ((U b9) + x11)) d9 (((upd U b9 ((U b9) + x11)) d9) - x11))) := ⟨_, rfl⟩
                              have hH : Hw g M16 H := by rw [hM16]; exact hH
                              have X17 := MX_ar (k := 22) (N := 5) (f := upd (upd U b9 ((U b9) + x11)) d9 (((upd U b9 ((U b9) + x11)) d9) - x11)) rfl rfl X15
                              rw [← hM16] at X17
                              refine lv_iinc (v := nI (a9 + 1)) (lv' := [(2, .int (nI (a9 + 1))), (5, .int x11), (0, .ref mo), (1, .int (nI k)), (3, .int (nI b9)), (4, .int (nI d9))]) C.1 C.2.1 dX6_net_190 hl (k := 3) rfl (nI_1 a9) (by decide) rfl (fun ls hl => ?_)
                              refine lv_goto (tgt := 71) C.1 C.2.1 dX6_net_193 (by decide) ?_
                              have hx8 : x11 = mbo (U b9) (U d9) := by rw [ex11]; unfold mbo; first | rw [if_pos (Int32.not_le.mp c127)] | rw [if_neg (Int32.not_lt.mpr c127)]
                              obtain ⟨r8, hN8, hu8⟩ := NV_step hN hb5 hd5 (Int32.not_le.mpr c88) (Int32.not_le.mpr c104)
                              exact ih M16 (a9 + 1) b9 d9 (upd D (((25 * k) + (5 * b9)) + d9) x11) (upd (upd U b9 ((U b9) + x11)) d9 (((upd U b9 ((U b9) + x11)) d9) - x11)) r8 (by have h9 := X17; rw [ua_ua, ua_ua, ua3 (by decide)] at h9; exact h9) (hb9) (hd9) (by rw [hx8]; exact hN8) (fun t ht => by rw [upd_n (by omega)]; exact hDo t ht) (by rw [hx8]; omega) H locs hH hS ls (lv_sub hl [2, 3, 0, 4, 5] rfl)
                          · refine lv_iinc (v := nI (d9 + 1)) (lv' := [(4, .int (nI (d9 + 1))), (0, .ref mo), (1, .int (nI k)), (2, .int (nI a9)), (3, .int (nI b9))]) C.1 C.2.1 dX6_net_107 hl (k := 4) rfl (nI_1 d9) (by decide) rfl (fun ls hl => ?_)
                            refine lv_goto (tgt := 71) C.1 C.2.1 dX6_net_110 (by decide) ?_
                            exact ih M9 a9 b9 (d9 + 1) D U r9 (X9) (hb9) (by omega) (NV_hi hN (Int32.not_lt.mp c104)) (hDo) (by omega) H locs hH hS ls (lv_sub hl [1, 2, 3, 4, 0] rfl)
                        · refine lv_iinc (v := nI (b9 + 1)) (lv' := [(3, .int (nI (b9 + 1))), (0, .ref mo), (1, .int (nI k)), (2, .int (nI a9)), (4, .int (nI d9))]) C.1 C.2.1 dX6_net_91 hl (k := 3) rfl (nI_1 b9) (by decide) rfl (fun ls hl => ?_)
                          refine lv_goto (tgt := 71) C.1 C.2.1 dX6_net_94 (by decide) ?_
                          exact ih M9 a9 (b9 + 1) d9 D U r9 (X9) (by omega) (hd9) (NV_lo hN (Int32.not_lt.mp c88)) (hDo) (by omega) H locs hH hS ls (lv_sub hl [1, 2, 3, 0, 4] rfl)
                exact loop71 (16) M9 0 0 0 g9 f9 5 (X9) (by omega) (by omega) (hN0) (hD0) (by have := ucnt_n (U := f9) 5; omega) _ _ hH hS _ (lv_sub hl [3, 4, 2, 1, 0] rfl)
              · have hi25 : i < 25 := lt25 hi c43
                refine lv_aload_n C.1 C.2.1 dX6_net_46 rfl (lv_at hl 0 rfl) ?_
                refine mget (v := .ref (ad 21)) C hE hH fl_751 (MX_m X9) rfl dX6_net_47 ?_
                refine lv_bipush (v := 25) C.1 C.2.1 dX6_net_50 rfl ?_
                refine lv_iload_n C.1 C.2.1 dX6_net_52 rfl (lv_at hl 1 rfl) ?_
                refine lv_imul C.1 C.2.1 dX6_net_53 ?_
                rw [show (25 : Int32) * (nI k) = nI (25 * k) from (nI_m 25 k).symm]
                refine lv_iload_n C.1 C.2.1 dX6_net_54 rfl (lv_at hl 2 rfl) ?_
                refine lv_iadd C.1 C.2.1 dX6_net_55 ?_
                rw [show (nI (25 * k) : Int32) + (nI i) = nI ((25 * k) + i) from (nI_a (25 * k) i).symm]
                refine lv_iconst (v := 0) C.1 C.2.1 dX6_net_56 rfl ?_
                refine mast (n := 75) (f := g9) C hE hH hS (MX_a X9 21 rfl) (vp_in_nI (show ((25 * k) + i) < 75 by omega) (by decide)) dX6_net_57 (fun H locs hH hS => ?_)
                rw [nI_clamp (show ((25 * k) + i) < 2 ^ 31 by omega)] at hH
                obtain ⟨M18, hM18⟩ : ∃ z, z = mu M9 (ad 21) (eI g 75 (upd g9 ((25 * k) + i) 0)) := ⟨_, rfl⟩
                have hH : Hw g M18 H := by rw [hM18]; exact hH
                have X19 := MX_ar (k := 21) (N := 75) (f := upd g9 ((25 * k) + i) 0) rfl rfl X9
                rw [← hM18] at X19
                refine lv_iinc (v := nI (i + 1)) (lv' := [(2, .int (nI (i + 1))), (0, .ref mo), (1, .int (nI k))]) C.1 C.2.1 dX6_net_58 hl (k := 2) rfl (nI_1 i) (by decide) rfl (fun ls hl => ?_)
                refine lv_goto (tgt := 40) C.1 C.2.1 dX6_net_61 (by decide) ?_
                exact ih M18 (i + 1) (upd g9 ((25 * k) + i) 0) (by have h9 := X19; rw [ua_ua] at h9; exact h9) (by omega) (by omega) (fun t => by
          by_cases e9 : t = 25 * k + i
          · rw [e9, upd_s, if_pos (by omega)]
          · rw [upd_n e9, hg9 t]
            by_cases q9 : 25 * k ≤ t ∧ t < 25 * k + i
            · rw [if_pos q9, if_pos (by omega)]
            · rw [if_neg q9, if_neg (by omega)]) H locs hH hS ls (lv_sub hl [1, 2, 0] rfl)
          exact loop40 (26) M9 0 (ar 21) (by have h9 := X9; rw [← ua_id (ar := ua ar 22 f9) (k := 21)] at h9; exact h9) (by omega) (by omega) (fun t => by rw [if_neg (by omega)]) _ _ hH hS _ (lv_sub hl [1, 2, 0] rfl)
        · have hi5 : i < 5 := five_lt hi c17
          refine lv_aload_n C.1 C.2.1 dX6_net_20 rfl (lv_at hl 0 rfl) ?_
          refine mget (v := .ref (ad 22)) C hE hH fl_752 (MX_m X9) rfl dX6_net_21 ?_
          refine lv_iload_n C.1 C.2.1 dX6_net_24 rfl (lv_at hl 2 rfl) ?_
          refine lv_aload_n C.1 C.2.1 dX6_net_25 rfl (lv_at hl 0 rfl) ?_
          refine lv_iload_n C.1 C.2.1 dX6_net_26 rfl (lv_at hl 2 rfl) ?_
          refine lv_iload_n C.1 C.2.1 dX6_net_27 rfl (lv_at hl 1 rfl) ?_
          refine rd_go1 (runV C hE hH hS (m_positionOf X9.1 hs0 hs5 hs9 hb0 hb5 hb9 (hi5) (rk)) mv_X6_positionOf wm_937 (MX_m X9) rfl rfl hl.1 dX6_net_28 rfl rfl ⟨rfl, rfl⟩ ⟨Nat.le_of_ble_eq_true rfl, Nat.le_of_ble_eq_true rfl⟩ (Nat.le_of_ble_eq_true rfl) ⟨Nat.le_of_ble_eq_true rfl, Nat.le_of_ble_eq_true rfl⟩) ?_
          refine mast (n := 5) (f := f9) C hE hH hS (MX_a X9 22 rfl) (vp_in_nI (show i < 5 by omega) (by decide)) dX6_net_31 (fun H locs hH hS => ?_)
          rw [nI_clamp (show i < 2 ^ 31 by omega)] at hH
          obtain ⟨M20, hM20⟩ : ∃ z, z = mu M9 (ad 22) (eI g 5 (upd f9 i (zbal (zD (ua ar 22 f9) k) i 5))) := ⟨_, rfl⟩
          have hH : Hw g M20 H := by rw [hM20]; exact hH
          have X21 := MX_ar (k := 22) (N := 5) (f := upd f9 i (zbal (zD (ua ar 22 f9) k) i 5)) rfl rfl X9
          rw [← hM20] at X21
          refine lv_iinc (v := nI (i + 1)) (lv' := [(2, .int (nI (i + 1))), (0, .ref mo), (1, .int (nI k))]) C.1 C.2.1 dX6_net_32 hl (k := 2) rfl (nI_1 i) (by decide) rfl (fun ls hl => ?_)
          refine lv_goto (tgt := 15) C.1 C.2.1 dX6_net_35 (by decide) ?_
          exact ih M20 (i + 1) (upd f9 i (zbal (zD (ua ar 22 f9) k) i 5)) (by have h9 := X21; rw [ua_ua] at h9; exact h9) (by omega) (by omega) (fun t ht => by
          by_cases e9 : t = i
          · rw [e9, upd_s]; rfl
          · rw [upd_n e9]; exact hf t (by omega)) H locs hH hS ls (lv_sub hl [1, 2, 0] rfl)
    exact loop15 (6) M2 0 (ar 22) (by rw [ua_id]; exact X3) (by omega) (by omega) (fun t ht => absurd ht (Nat.not_lt_zero t)) _ _ hH hS _ (lv_sub hl [1, 2, 0] rfl)
  · refine lv_iconst (v := 0) C.1 C.2.1 dX6_net_11 rfl ?_
    exact wr_iret 0 C hr hlocks hH hS rfl (mq1_bad hb1 c8 ⟨rfl, X3⟩) (by decide) (by decide) dX6_net_12
