/-! THE MODEL: PLACE -/
def zmb (rt : Nat → Bool) (st : Nat → Int32) : Nat → Int32
  | 0 => -1
  | i + 1 => if rt i = true ∧ (zmb rt st i = -1 ∨ st i < st (zmb rt st i).toNatClampNeg) then nI i else zmb rt st i
theorem zmb_in {rt : Nat → Bool} {st : Nat → Int32} : ∀ {n : Nat}, ¬ zmb rt st n = -1 → ∃ i, i < n ∧ zmb rt st n = nI i ∧ rt i = true
  | 0, h => absurd rfl h
  | n + 1, h => by
    unfold zmb at h ⊢
    by_cases q : rt n = true ∧ (zmb rt st n = -1 ∨ st n < st (zmb rt st n).toNatClampNeg)
    · rw [if_pos q] at h ⊢
      exact ⟨n, by omega, rfl, q.1⟩
    · rw [if_neg q] at h ⊢
      obtain ⟨i, a, b, c⟩ := zmb_in h
      exact ⟨i, by omega, b, c⟩
theorem mq3_bad2 {b c d : Bool} {P1 P2 P3 ok : Prop} [Decidable P1] [Decidable P2] {bad : Int32 → Prop} (h1 : b = decide P1) (h2 : c = decide P2) (hc : bI c = 0) (h : bad (mt3 b c d)) : MQ3 P1 P2 P3 ok bad := by
  have hb := bf_of hc
  subst hb
  cases b with
  | false => exact Or.inr (Or.inl ⟨df h1 rfl, h⟩)
  | true => exact Or.inr (Or.inr (Or.inl ⟨dt h1 rfl, df h2 rfl, h⟩))
def zmrt (ar : Nat → Nat → Int32) (o i : Nat) : Bool := decide (ar 7 i = ar 10 o ∧ zoff ar (zE ar o) (ar 8 i) (zy8 ar o + zw9 ar i) (zy9 ar o) ≤ ar 2 (zE ar o))
def zmpl (ar : Nat → Nat → Int32) (o n : Nat) : Int32 := zmb (zmrt ar o) (ar 8) n
set_option maxHeartbeats 4000000 in
set_option maxRecDepth 100000 in
theorem mw_place {l : Launch} {g : gG} {M : Mp} {mo : Nat} {ad : Nat → Nat} {sc : Nat → Int32} {ar : Nat → Nat → Int32} {ne nb no : Nat}  (hI : MI g M mo ad sc ar) (hs0 : sc 0 = nI ne) (hs5 : sc 5 = nI nb) (hs9 : sc 9 = nI no) (hb0 : ne ≤ 12) (hb5 : nb ≤ 10) (hb9 : no ≤ 40) (hPo : PO ar ne nb no) (p0 : Int32) : Met l yX6_place (WY yX6_place cX6_place 7 (some .int)) { frames := 3, cells := 0, slots := 0, locals := 70 } (Wc g M [.ref mo, .int p0]) (wrQ (S := Int32) g (fun u_ => (some (.int u_))) (fun u_ M_ => MQ3 (inx p0 no) ((inx p0 no) ∧ ar 13 p0.toNatClampNeg = 0) (¬ zmpl ar p0.toNatClampNeg nb = -1) (u_ = (zmpl ar p0.toNatClampNeg nb) ∧ MX g M M_ mo ad (us sc 23 0) (mdye ar p0.toNatClampNeg (zmpl ar p0.toNatClampNeg nb).toNatClampNeg)) (fun t_ => u_ = 0 ∧ MX g M M_ mo ad (us sc 23 t_) ar))) 0 0 (gA g) := by
  refine ofM (by decide +kernel) (Nat.le_of_ble_eq_true rfl) (fun p e s m args below meth c ls C hr hlocks hin hE hH hl ea => ?_)
  have hl : lv_has ls 7 [(0, .ref mo), (1, .int p0)] := hl
  have hS : va_S (gA g) s.heap s.heap [] := va_S.rf
  have X0 := MX_rf hI
  refine lv_aload_n C.1 C.2.1 dX6_place_0 rfl (lv_at hl 0 rfl) ?_
  refine lv_iload_n C.1 C.2.1 dX6_place_1 rfl (lv_at hl 1 rfl) ?_
  refine rd_go1 (runV C hE hH hS (m_isOrder X0.1 hs0 hs5 hs9 hb0 hb5 hb9 p0) mv_X6_isOrder wm_872 (MX_m X0) rfl rfl hl.1 dX6_place_2 rfl rfl ⟨rfl, rfl⟩ ⟨Nat.le_of_ble_eq_true rfl, Nat.le_of_ble_eq_true rfl⟩ (Nat.le_of_ble_eq_true rfl) ⟨Nat.le_of_ble_eq_true rfl, Nat.le_of_ble_eq_true rfl⟩) ?_
  obtain ⟨b1, hb1⟩ : ∃ z : Bool, z = decide (inx p0 no) := ⟨_, rfl⟩
  rw [← hb1]
  refine lv_istore_n (lv' := [(2, .int (bI b1)), (0, .ref mo), (1, .int p0)]) C.1 C.2.1 dX6_place_5 rfl hl (by decide) rfl (fun ls hl => ?_)
  have J24 : ∀ (b2 : Bool), b2 = decide ((inx p0 no) ∧ ar 13 p0.toNatClampNeg = 0) → ∀ (ls : Array Slot), lv_has ls 7 [(2, .int (bI b1)), (0, .ref mo), (1, .int p0)] → W p l e { frames := 3, cells := 0, slots := 0, locals := 70 } s m args below meth c s.heap [] 0 0 (MQ below (wrQ (S := Int32) g (fun u_ => (some (.int u_))) (fun u_ M_ => MQ3 (inx p0 no) ((inx p0 no) ∧ ar 13 p0.toNatClampNeg = 0) (¬ zmpl ar p0.toNatClampNeg nb = -1) (u_ = (zmpl ar p0.toNatClampNeg nb) ∧ MX g M M_ mo ad (us sc 23 0) (mdye ar p0.toNatClampNeg (zmpl ar p0.toNatClampNeg nb).toNatClampNeg)) (fun t_ => u_ = 0 ∧ MX g M M_ mo ad (us sc 23 t_) ar))) args s 0 0 (gA g)) (F0 m 24 ls [.int (bI b2)]) := by
    intro b2 hb2 ls hl
    refine lv_istore_n (lv' := [(3, .int (bI b2)), (2, .int (bI b1)), (0, .ref mo), (1, .int p0)]) C.1 C.2.1 dX6_place_24 rfl hl (by decide) rfl (fun ls hl => ?_)
    refine lv_iconst (v := -1) C.1 C.2.1 dX6_place_25 rfl ?_
    refine lv_istore (lv' := [(4, .int (-1)), (3, .int (bI b2)), (2, .int (bI b1)), (0, .ref mo), (1, .int p0)]) C.1 C.2.1 dX6_place_26 hl (by decide) rfl (fun ls hl => ?_)
    refine lv_iconst (v := 0) C.1 C.2.1 dX6_place_28 rfl ?_
    refine lv_istore (lv' := [(5, .int 0), (4, .int (-1)), (3, .int (bI b2)), (2, .int (bI b1)), (0, .ref mo), (1, .int p0)]) C.1 C.2.1 dX6_place_29 hl (by decide) rfl (fun ls hl => ?_)
    have loop31 : ∀ (fu : Nat) (i : Nat) (b4 : Int32), (i ≤ nb) → (nb < i + fu) → (b4 = zmb (zmrt ar p0.toNatClampNeg) (ar 8) i) →  ∀ (ls : Array Slot), lv_has ls 7 [(0, .ref mo), (1, .int p0), (2, .int (bI b1)), (3, .int (bI b2)), (4, .int b4), (5, .int (nI i))] → W p l e { frames := 3, cells := 0, slots := 0, locals := 70 } s m args below meth c s.heap [] 0 0 (MQ below (wrQ (S := Int32) g (fun u_ => (some (.int u_))) (fun u_ M_ => MQ3 (inx p0 no) ((inx p0 no) ∧ ar 13 p0.toNatClampNeg = 0) (¬ zmpl ar p0.toNatClampNeg nb = -1) (u_ = (zmpl ar p0.toNatClampNeg nb) ∧ MX g M M_ mo ad (us sc 23 0) (mdye ar p0.toNatClampNeg (zmpl ar p0.toNatClampNeg nb).toNatClampNeg)) (fun t_ => u_ = 0 ∧ MX g M M_ mo ad (us sc 23 t_) ar))) args s 0 0 (gA g)) (F0 m 31 ls []) := by
      intro fu
      induction fu with
      | zero => intro i b4 hi hfu hb4; exact absurd hfu (by omega)
      | succ fu ih =>
        intro i b4 hi hfu hb4 ls hl
        refine lv_iload C.1 C.2.1 dX6_place_31 (lv_at hl 5 rfl) ?_
        refine lv_aload_n C.1 C.2.1 dX6_place_33 rfl (lv_at hl 0 rfl) ?_
        refine mget (v := .int (nI nb)) C hE hH fl_735 (MX_m X0) (congrArg (fun z => some (Value.int z)) hs5) dX6_place_34 ?_
        refine lv_icmp_ge (tgt := 131) C.1 C.2.1 dX6_place_37 (by decide) (fun c37 => ?_) (fun c37 => ?_)
        · refine lv_aload_n C.1 C.2.1 dX6_place_131 rfl (lv_at hl 0 rfl) ?_
          refine lv_iload_n C.1 C.2.1 dX6_place_132 rfl (lv_at hl 2 rfl) ?_
          refine lv_iload_n C.1 C.2.1 dX6_place_133 rfl (lv_at hl 3 rfl) ?_
          refine lv_iload C.1 C.2.1 dX6_place_134 (lv_at hl 4 rfl) ?_
          refine lv_iconst (v := -1) C.1 C.2.1 dX6_place_136 rfl ?_
          refine lv_icmp_eq (tgt := 144) C.1 C.2.1 dX6_place_137 (by decide) (fun c137 => ?_) (fun c137 => ?_)
          · refine lv_iconst (v := 0) C.1 C.2.1 dX6_place_144 rfl ?_
            refine wr_go1 (runV C hE hH hS (m_mayAll X0.1 hs0 hs5 hs9 hb0 hb5 hb9 b1 b2 false) mv_X6_mayAll wm_864 (MX_m X0) rfl rfl hl.1 dX6_place_145 rfl rfl ⟨rfl, rfl⟩ ⟨Nat.le_of_ble_eq_true rfl, Nat.le_of_ble_eq_true rfl⟩ (Nat.le_of_ble_eq_true rfl) ⟨Nat.le_of_ble_eq_true rfl, Nat.le_of_ble_eq_true rfl⟩) hS (fun u1 M2 H locs hM2 hH hS => ?_)
            have X3 := MX_tr X0 hM2
            refine lv_if_ne (tgt := 153) C.1 C.2.1 dX6_place_148 (by decide) (fun c148 => ?_) (fun c148 => ?_)
            · exact absurd (show bI (b1 && b2 && false) = 0 by cases b1 <;> cases b2 <;> rfl) c148
            · refine lv_iconst (v := 0) C.1 C.2.1 dX6_place_151 rfl ?_
              exact wr_iret 0 C hr hlocks hH hS rfl (mq3_bad hb1 hb2 (show false = decide (¬ zmpl ar p0.toNatClampNeg nb = -1) from (decide_eq_false (by rw [show zmpl ar p0.toNatClampNeg nb = b4 from by rw [hb4, (show i = nb from Nat.le_antisymm hi (Nat.not_lt.mp (fun z => absurd ((nI_ltI (by omega) (by omega)).mpr z) (Int32.not_lt.mpr c37))))]; rfl]; exact not_not_intro c137)).symm) c148 ⟨rfl, X3⟩) (by decide) (by decide) dX6_place_152
          · refine lv_iconst (v := 1) C.1 C.2.1 dX6_place_140 rfl ?_
            refine lv_goto (tgt := 145) C.1 C.2.1 dX6_place_141 (by decide) ?_
            refine wr_go1 (runV C hE hH hS (m_mayAll X0.1 hs0 hs5 hs9 hb0 hb5 hb9 b1 b2 true) mv_X6_mayAll wm_864 (MX_m X0) rfl rfl hl.1 dX6_place_145 rfl rfl ⟨rfl, rfl⟩ ⟨Nat.le_of_ble_eq_true rfl, Nat.le_of_ble_eq_true rfl⟩ (Nat.le_of_ble_eq_true rfl) ⟨Nat.le_of_ble_eq_true rfl, Nat.le_of_ble_eq_true rfl⟩) hS (fun u4 M5 H locs hM5 hH hS => ?_)
            have X6 := MX_tr X0 hM5
            refine lv_if_ne (tgt := 153) C.1 C.2.1 dX6_place_148 (by decide) (fun c148 => ?_) (fun c148 => ?_)
            · have einb := (show i = nb from Nat.le_antisymm hi (Nat.not_lt.mp (fun z => absurd ((nI_ltI (by omega) (by omega)).mpr z) (Int32.not_lt.mpr c37))))
              have hzp : b4 = zmpl ar p0.toNatClampNeg nb := by rw [hb4, einb]; rfl
              have hb3 : true = decide (¬ zmpl ar p0.toNatClampNeg nb = -1) := (decide_eq_true (by rw [← hzp]; exact c137)).symm
              obtain ⟨k1, k2, k3, hz0⟩ := m3_t hb1 hb2 hb3 c148
              rw [hz0] at X6
              obtain ⟨⟨u, hu, he⟩, ⟨y, hy4, hy⟩, h14⟩ := hPo.1 _ (inx_nI k1 (by omega)).1
              obtain ⟨j9, hj9, ej9x, -⟩ := zmb_in (show ¬ zmb (zmrt ar p0.toNatClampNeg) (ar 8) nb = -1 from k3)
              have ej9 : b4 = nI j9 := hzp.trans ej9x
              obtain ⟨d, hd3, hd⟩ := hPo.2 j9 hj9
              refine lv_aload_n C.1 C.2.1 dX6_place_153 rfl (lv_at hl 0 rfl) ?_
              refine lv_iload_n C.1 C.2.1 dX6_place_154 rfl (lv_at hl 1 rfl) ?_
              refine lv_iload C.1 C.2.1 dX6_place_155 (lv_at hl 4 rfl) ?_
              refine wr_go0 (runV C hE hH hS (m_dyeIn X6.1 hs0 hs5 hs9 hb0 hb5 hb9 ((vp_up (inx_in k1 (by omega)) hb9)) ((by rw [ej9]; exact vp_in_nI (by omega) (by decide))) (hy4) (hy) (hd3) ((by rw [ej9, nI_clamp (by omega)]; exact hd)) ((by rw [ej9, nI_clamp (by omega)]))) mv_X6_dyeIn wm_884 (MX_m X6) rfl rfl hl.1 dX6_place_157 rfl rfl ⟨rfl, rfl⟩ ⟨Nat.le_of_ble_eq_true rfl, Nat.le_of_ble_eq_true rfl⟩ (Nat.le_of_ble_eq_true rfl) ⟨Nat.le_of_ble_eq_true rfl, Nat.le_of_ble_eq_true rfl⟩) hS (fun u7 M8 H locs hM8 hH hS => ?_)
              have X9 := MX_tr X6 hM8
              refine lv_iload C.1 C.2.1 dX6_place_160 (lv_at hl 4 rfl) ?_
              exact wr_iret b4 C hr hlocks hH hS rfl (Or.inl ⟨k1, k2, k3, hzp, by rw [← hzp]; exact X9⟩) (by decide) (by decide) dX6_place_162
            · refine lv_iconst (v := 0) C.1 C.2.1 dX6_place_151 rfl ?_
              exact wr_iret 0 C hr hlocks hH hS rfl (mq3_bad hb1 hb2 (show true = decide (¬ zmpl ar p0.toNatClampNeg nb = -1) from (decide_eq_true (by rw [show zmpl ar p0.toNatClampNeg nb = b4 from by rw [hb4, (show i = nb from Nat.le_antisymm hi (Nat.not_lt.mp (fun z => absurd ((nI_ltI (by omega) (by omega)).mpr z) (Int32.not_lt.mpr c37))))]; rfl]; exact c137)).symm) c148 ⟨rfl, X6⟩) (by decide) (by decide) dX6_place_152
        · have hi9 : i < nb := (nI_ltI (by omega) (by omega)).mp (Int32.not_le.mp c37)
          refine lv_iload_n C.1 C.2.1 dX6_place_40 rfl (lv_at hl 3 rfl) ?_
          refine lv_if_eq (tgt := 131) C.1 C.2.1 dX6_place_41 (by decide) (fun c41 => ?_) (fun c41 => ?_)
          · refine lv_aload_n C.1 C.2.1 dX6_place_131 rfl (lv_at hl 0 rfl) ?_
            refine lv_iload_n C.1 C.2.1 dX6_place_132 rfl (lv_at hl 2 rfl) ?_
            refine lv_iload_n C.1 C.2.1 dX6_place_133 rfl (lv_at hl 3 rfl) ?_
            refine lv_iload C.1 C.2.1 dX6_place_134 (lv_at hl 4 rfl) ?_
            refine lv_iconst (v := -1) C.1 C.2.1 dX6_place_136 rfl ?_
            refine lv_icmp_eq (tgt := 144) C.1 C.2.1 dX6_place_137 (by decide) (fun c137 => ?_) (fun c137 => ?_)
            · refine lv_iconst (v := 0) C.1 C.2.1 dX6_place_144 rfl ?_
              refine wr_go1 (runV C hE hH hS (m_mayAll X0.1 hs0 hs5 hs9 hb0 hb5 hb9 b1 b2 false) mv_X6_mayAll wm_864 (MX_m X0) rfl rfl hl.1 dX6_place_145 rfl rfl ⟨rfl, rfl⟩ ⟨Nat.le_of_ble_eq_true rfl, Nat.le_of_ble_eq_true rfl⟩ (Nat.le_of_ble_eq_true rfl) ⟨Nat.le_of_ble_eq_true rfl, Nat.le_of_ble_eq_true rfl⟩) hS (fun u10 M11 H locs hM11 hH hS => ?_)
              have X12 := MX_tr X0 hM11
              refine lv_if_ne (tgt := 153) C.1 C.2.1 dX6_place_148 (by decide) (fun c148 => ?_) (fun c148 => ?_)
              · exact absurd (show bI (b1 && b2 && false) = 0 by rw [bf_of c41]; cases b1 <;> rfl) c148
              · refine lv_iconst (v := 0) C.1 C.2.1 dX6_place_151 rfl ?_
                exact wr_iret 0 C hr hlocks hH hS rfl (mq3_bad2 hb1 hb2 (c41) (d := false) ⟨rfl, X12⟩) (by decide) (by decide) dX6_place_152
            · refine lv_iconst (v := 1) C.1 C.2.1 dX6_place_140 rfl ?_
              refine lv_goto (tgt := 145) C.1 C.2.1 dX6_place_141 (by decide) ?_
              refine wr_go1 (runV C hE hH hS (m_mayAll X0.1 hs0 hs5 hs9 hb0 hb5 hb9 b1 b2 true) mv_X6_mayAll wm_864 (MX_m X0) rfl rfl hl.1 dX6_place_145 rfl rfl ⟨rfl, rfl⟩ ⟨Nat.le_of_ble_eq_true rfl, Nat.le_of_ble_eq_true rfl⟩ (Nat.le_of_ble_eq_true rfl) ⟨Nat.le_of_ble_eq_true rfl, Nat.le_of_ble_eq_true rfl⟩) hS (fun u13 M14 H locs hM14 hH hS => ?_)
              have X15 := MX_tr X0 hM14
              refine lv_if_ne (tgt := 153) C.1 C.2.1 dX6_place_148 (by decide) (fun c148 => ?_) (fun c148 => ?_)
              · exact absurd (show bI (b1 && b2 && true) = 0 by rw [bf_of c41]; cases b1 <;> rfl) c148
              · refine lv_iconst (v := 0) C.1 C.2.1 dX6_place_151 rfl ?_
                exact wr_iret 0 C hr hlocks hH hS rfl (mq3_bad2 hb1 hb2 (c41) (d := true) ⟨rfl, X15⟩) (by decide) (by decide) dX6_place_152
          · have kk := (dt hb2 (bt_of c41)).1
            obtain ⟨⟨u, hu, he⟩, ⟨y, hy4, hy⟩, h14⟩ := hPo.1 _ (inx_nI kk (by omega)).1
            obtain ⟨d, hd3, hd⟩ := hPo.2 i hi9
            have hof : (zoff ar (zE ar p0.toNatClampNeg) (ar 8 i) (zy8 ar p0.toNatClampNeg + zw9 ar i) (zy9 ar p0.toNatClampNeg) ≤ ar 2 (zE ar p0.toNatClampNeg)) = (zoff ar u (ar 8 (nI i).toNatClampNeg) (ar 4 (2 * y) + ar 3 d) (ar 4 (2 * y + 1)) ≤ ar 2 u) := by unfold zy8 zy9 zw9; rw [zE_at he (by omega), hy, hd, nI_clamp (show y < 2 ^ 31 by omega), nI_clamp (show d < 2 ^ 31 by omega), nI_clamp (show i < 2 ^ 31 by omega)]
            have hbi : ¬ b4 = -1 → vp_in b4 10 := fun z => by obtain ⟨j9, q1, q2, -⟩ := zmb_in (fun q => z (hb4.trans q)); rw [hb4, q2]; exact vp_in_nI (by omega) (by decide)
            have J86 : ∀ (b3 : Bool), b3 = decide ((ar 7 i = ar 10 p0.toNatClampNeg) ∧ zoff ar (zE ar p0.toNatClampNeg) (ar 8 i) (zy8 ar p0.toNatClampNeg + zw9 ar i) (zy9 ar p0.toNatClampNeg) ≤ ar 2 (zE ar p0.toNatClampNeg)) → ∀ (ls : Array Slot), lv_has ls 7 [(0, .ref mo), (1, .int p0), (2, .int (bI b1)), (3, .int (bI b2)), (4, .int b4), (5, .int (nI i))] → W p l e { frames := 3, cells := 0, slots := 0, locals := 70 } s m args below meth c s.heap [] 0 0 (MQ below (wrQ (S := Int32) g (fun u_ => (some (.int u_))) (fun u_ M_ => MQ3 (inx p0 no) ((inx p0 no) ∧ ar 13 p0.toNatClampNeg = 0) (¬ zmpl ar p0.toNatClampNeg nb = -1) (u_ = (zmpl ar p0.toNatClampNeg nb) ∧ MX g M M_ mo ad (us sc 23 0) (mdye ar p0.toNatClampNeg (zmpl ar p0.toNatClampNeg nb).toNatClampNeg)) (fun t_ => u_ = 0 ∧ MX g M M_ mo ad (us sc 23 t_) ar))) args s 0 0 (gA g)) (F0 m 86 ls [.int (bI b3)]) := by
              intro b3 hb3 ls hl
              refine lv_istore (lv' := [(6, .int (bI b3)), (0, .ref mo), (1, .int p0), (2, .int (bI b1)), (3, .int (bI b2)), (4, .int b4), (5, .int (nI i))]) C.1 C.2.1 dX6_place_86 hl (by decide) rfl (fun ls hl => ?_)
              refine lv_iload C.1 C.2.1 dX6_place_88 (lv_at hl 0 rfl) ?_
              refine lv_if_eq (tgt := 121) C.1 C.2.1 dX6_place_90 (by decide) (fun c90 => ?_) (fun c90 => ?_)
              · refine lv_iload C.1 C.2.1 dX6_place_121 (lv_at hl 5 rfl) ?_
                refine lv_istore (lv' := [(4, .int b4), (6, .int (bI b3)), (0, .ref mo), (1, .int p0), (2, .int (bI b1)), (3, .int (bI b2)), (5, .int (nI i))]) C.1 C.2.1 dX6_place_123 hl (by decide) rfl (fun ls hl => ?_)
                refine lv_iinc (v := nI (i + 1)) (lv' := [(5, .int (nI (i + 1))), (4, .int b4), (6, .int (bI b3)), (0, .ref mo), (1, .int p0), (2, .int (bI b1)), (3, .int (bI b2))]) C.1 C.2.1 dX6_place_125 hl (k := 6) rfl (nI_1 i) (by decide) rfl (fun ls hl => ?_)
                refine lv_goto (tgt := 31) C.1 C.2.1 dX6_place_128 (by decide) ?_
                exact ih (i + 1) b4 (by omega) (by omega) (by rw [zmb, if_neg (fun z => absurd (hb3.trans z.1) (by rw [bf_of c90]; decide))]; exact hb4) ls (lv_sub hl [3, 4, 5, 6, 1, 0] rfl)
              · refine lv_iload C.1 C.2.1 dX6_place_93 (lv_at hl 5 rfl) ?_
                refine lv_iconst (v := -1) C.1 C.2.1 dX6_place_95 rfl ?_
                refine lv_icmp_eq (tgt := 116) C.1 C.2.1 dX6_place_96 (by decide) (fun c96 => ?_) (fun c96 => ?_)
                · refine lv_iload C.1 C.2.1 dX6_place_116 (lv_at hl 6 rfl) ?_
                  refine lv_goto (tgt := 123) C.1 C.2.1 dX6_place_118 (by decide) ?_
                  refine lv_istore (lv' := [(4, .int (nI i)), (6, .int (bI b3)), (0, .ref mo), (1, .int p0), (2, .int (bI b1)), (3, .int (bI b2)), (5, .int (nI i))]) C.1 C.2.1 dX6_place_123 hl (by decide) rfl (fun ls hl => ?_)
                  refine lv_iinc (v := nI (i + 1)) (lv' := [(5, .int (nI (i + 1))), (4, .int (nI i)), (6, .int (bI b3)), (0, .ref mo), (1, .int p0), (2, .int (bI b1)), (3, .int (bI b2))]) C.1 C.2.1 dX6_place_125 hl (k := 6) rfl (nI_1 i) (by decide) rfl (fun ls hl => ?_)
                  refine lv_goto (tgt := 31) C.1 C.2.1 dX6_place_128 (by decide) ?_
                  exact ih (i + 1) (nI i) (by omega) (by omega) (by rw [zmb, if_pos ⟨(show zmrt ar p0.toNatClampNeg i = true from hb3.symm.trans (bt_of c90)), Or.inl (hb4.symm.trans c96)⟩]) ls (lv_sub hl [3, 4, 5, 6, 1, 0] rfl)
                · refine lv_aload_n C.1 C.2.1 dX6_place_99 rfl (lv_at hl 1 rfl) ?_
                  refine mget (v := .ref (ad 8)) C hE hH fl_738 (MX_m X0) rfl dX6_place_100 ?_
                  refine lv_iload C.1 C.2.1 dX6_place_103 (lv_at hl 6 rfl) ?_
                  refine mald (n := 10) (f := (ar 8)) C hE hH (MX_a X0 8 rfl) (vp_in_nI (show i < 10 by omega) (by decide)) dX6_place_105 ?_
                  rw [nI_clamp (show i < 2 ^ 31 by omega)]
                  refine lv_aload_n C.1 C.2.1 dX6_place_106 rfl (lv_at hl 1 rfl) ?_
                  refine mget (v := .ref (ad 8)) C hE hH fl_738 (MX_m X0) rfl dX6_place_107 ?_
                  refine lv_iload C.1 C.2.1 dX6_place_110 (lv_at hl 5 rfl) ?_
                  refine mald (n := 10) (f := (ar 8)) C hE hH (MX_a X0 8 rfl) (hbi c96) dX6_place_112 ?_
                  refine lv_icmp_ge (tgt := 121) C.1 C.2.1 dX6_place_113 (by decide) (fun c113 => ?_) (fun c113 => ?_)
                  · refine lv_iload C.1 C.2.1 dX6_place_121 (lv_at hl 5 rfl) ?_
                    refine lv_istore (lv' := [(4, .int b4), (6, .int (bI b3)), (0, .ref mo), (1, .int p0), (2, .int (bI b1)), (3, .int (bI b2)), (5, .int (nI i))]) C.1 C.2.1 dX6_place_123 hl (by decide) rfl (fun ls hl => ?_)
                    refine lv_iinc (v := nI (i + 1)) (lv' := [(5, .int (nI (i + 1))), (4, .int b4), (6, .int (bI b3)), (0, .ref mo), (1, .int p0), (2, .int (bI b1)), (3, .int (bI b2))]) C.1 C.2.1 dX6_place_125 hl (k := 6) rfl (nI_1 i) (by decide) rfl (fun ls hl => ?_)
                    refine lv_goto (tgt := 31) C.1 C.2.1 dX6_place_128 (by decide) ?_
                    exact ih (i + 1) b4 (by omega) (by omega) (by rw [zmb, if_neg (fun z => z.2.elim (fun q => c96 (hb4.trans q)) (fun q => Int32.not_lt.mpr c113 (by rw [hb4]; exact q)))]; exact hb4) ls (lv_sub hl [3, 4, 5, 6, 1, 0] rfl)
                  · refine lv_iload C.1 C.2.1 dX6_place_116 (lv_at hl 6 rfl) ?_
                    refine lv_goto (tgt := 123) C.1 C.2.1 dX6_place_118 (by decide) ?_
                    refine lv_istore (lv' := [(4, .int (nI i)), (6, .int (bI b3)), (0, .ref mo), (1, .int p0), (2, .int (bI b1)), (3, .int (bI b2)), (5, .int (nI i))]) C.1 C.2.1 dX6_place_123 hl (by decide) rfl (fun ls hl => ?_)
                    refine lv_iinc (v := nI (i + 1)) (lv' := [(5, .int (nI (i + 1))), (4, .int (nI i)), (6, .int (bI b3)), (0, .ref mo), (1, .int p0), (2, .int (bI b1)), (3, .int (bI b2))]) C.1 C.2.1 dX6_place_125 hl (k := 6) rfl (nI_1 i) (by decide) rfl (fun ls hl => ?_)
                    refine lv_goto (tgt := 31) C.1 C.2.1 dX6_place_128 (by decide) ?_
                    exact ih (i + 1) (nI i) (by omega) (by omega) (by rw [zmb, if_pos ⟨(show zmrt ar p0.toNatClampNeg i = true from hb3.symm.trans (bt_of c90)), Or.inr (by rw [← hb4]; exact Int32.not_le.mp c113)⟩]) ls (lv_sub hl [3, 4, 5, 6, 1, 0] rfl)
            refine lv_aload_n C.1 C.2.1 dX6_place_44 rfl (lv_at hl 0 rfl) ?_
            refine mget (v := .ref (ad 7)) C hE hH fl_737 (MX_m X0) rfl dX6_place_45 ?_
            refine lv_iload C.1 C.2.1 dX6_place_48 (lv_at hl 5 rfl) ?_
            refine mald (n := 10) (f := (ar 7)) C hE hH (MX_a X0 7 rfl) (vp_in_nI (show i < 10 by omega) (by decide)) dX6_place_50 ?_
            rw [nI_clamp (show i < 2 ^ 31 by omega)]
            refine lv_aload_n C.1 C.2.1 dX6_place_51 rfl (lv_at hl 0 rfl) ?_
            refine mget (v := .ref (ad 10)) C hE hH fl_740 (MX_m X0) rfl dX6_place_52 ?_
            refine lv_iload_n C.1 C.2.1 dX6_place_55 rfl (lv_at hl 1 rfl) ?_
            refine mald (n := 40) (f := (ar 10)) C hE hH (MX_a X0 10 rfl) ((vp_up (inx_in kk (by omega)) hb9)) dX6_place_56 ?_
            rw [he]
            refine lv_icmp_ne (tgt := 85) C.1 C.2.1 dX6_place_57 (by decide) (fun c57 => ?_) (fun c57 => ?_)
            · refine lv_iconst (v := 0) C.1 C.2.1 dX6_place_85 rfl ?_
              exact J86 false ((decide_eq_false (fun z => ((fun q => by rw [he] at q; exact c57 q)) z.1)).symm) ls hl
            · refine lv_aload_n C.1 C.2.1 dX6_place_60 rfl (lv_at hl 0 rfl) ?_
              refine lv_iload_n C.1 C.2.1 dX6_place_61 rfl (lv_at hl 1 rfl) ?_
              refine lv_iload C.1 C.2.1 dX6_place_62 (lv_at hl 5 rfl) ?_
              refine rd_go1 (runV C hE hH hS (m_offBy X0.1 hs0 hs5 hs9 hb0 hb5 hb9 ((vp_up (inx_in kk (by omega)) hb9)) ((vp_in_nI (by omega) (by decide))) (hy4) (hy) (hd3) ((by rw [nI_clamp (by omega)]; exact hd)) ((by omega)) (he)) mv_X6_offBy wm_876 (MX_m X0) rfl rfl hl.1 dX6_place_64 rfl rfl ⟨rfl, rfl⟩ ⟨Nat.le_of_ble_eq_true rfl, Nat.le_of_ble_eq_true rfl⟩ (Nat.le_of_ble_eq_true rfl) ⟨Nat.le_of_ble_eq_true rfl, Nat.le_of_ble_eq_true rfl⟩) ?_
              refine lv_aload_n C.1 C.2.1 dX6_place_67 rfl (lv_at hl 0 rfl) ?_
              refine mget (v := .ref (ad 2)) C hE hH fl_732 (MX_m X0) rfl dX6_place_68 ?_
              refine lv_aload_n C.1 C.2.1 dX6_place_71 rfl (lv_at hl 0 rfl) ?_
              refine mget (v := .ref (ad 10)) C hE hH fl_740 (MX_m X0) rfl dX6_place_72 ?_
              refine lv_iload_n C.1 C.2.1 dX6_place_75 rfl (lv_at hl 1 rfl) ?_
              refine mald (n := 40) (f := (ar 10)) C hE hH (MX_a X0 10 rfl) ((vp_up (inx_in kk (by omega)) hb9)) dX6_place_76 ?_
              rw [he]
              refine mald (n := 12) (f := (ar 2)) C hE hH (MX_a X0 2 rfl) (vp_in_nI (show u < 12 by omega) (by decide)) dX6_place_77 ?_
              rw [nI_clamp (show u < 2 ^ 31 by omega)]
              refine lv_icmp_gt (tgt := 85) C.1 C.2.1 dX6_place_78 (by decide) (fun c78 => ?_) (fun c78 => ?_)
              · refine lv_iconst (v := 0) C.1 C.2.1 dX6_place_85 rfl ?_
                exact J86 false ((decide_eq_false (fun z => ((fun q => by rw [hof] at q; exact Int32.not_lt.mpr q c78)) z.2)).symm) ls hl
              · refine lv_iconst (v := 1) C.1 C.2.1 dX6_place_81 rfl ?_
                refine lv_goto (tgt := 86) C.1 C.2.1 dX6_place_82 (by decide) ?_
                exact J86 true ((decide_eq_true ⟨((by rw [he]; exact c57)), (by rw [hof]; exact Int32.not_lt.mp c78)⟩).symm) ls hl
    exact loop31 (nb + 1) 0 (-1) (by omega) (by omega) (rfl) _ (lv_sub hl [4, 5, 3, 2, 1, 0] rfl)
  refine lv_iload_n C.1 C.2.1 dX6_place_6 rfl (lv_at hl 0 rfl) ?_
  refine lv_if_eq (tgt := 23) C.1 C.2.1 dX6_place_7 (by decide) (fun c7 => ?_) (fun c7 => ?_)
  · refine lv_iconst (v := 0) C.1 C.2.1 dX6_place_23 rfl ?_
    exact J24 false ((decide_eq_false (fun z => (df hb1 (bf_of c7)) z.1)).symm) ls hl
  · refine lv_aload_n C.1 C.2.1 dX6_place_10 rfl (lv_at hl 1 rfl) ?_
    refine mget (v := .ref (ad 13)) C hE hH fl_743 (MX_m X0) rfl dX6_place_11 ?_
    refine lv_iload_n C.1 C.2.1 dX6_place_14 rfl (lv_at hl 2 rfl) ?_
    refine mald (n := 40) (f := (ar 13)) C hE hH (MX_a X0 13 rfl) (vp_up (inx_in (dt hb1 (bt_of c7)) (by omega)) hb9) dX6_place_15 ?_
    refine lv_if_ne (tgt := 23) C.1 C.2.1 dX6_place_16 (by decide) (fun c16 => ?_) (fun c16 => ?_)
    · refine lv_iconst (v := 0) C.1 C.2.1 dX6_place_23 rfl ?_
      exact J24 false ((decide_eq_false (fun z => (c16) z.2)).symm) ls hl
    · refine lv_iconst (v := 1) C.1 C.2.1 dX6_place_19 rfl ?_
      refine lv_goto (tgt := 24) C.1 C.2.1 dX6_place_20 (by decide) ?_
      exact J24 true ((decide_eq_true ⟨(dt hb1 (bt_of c7)), c16⟩).symm) ls hl
