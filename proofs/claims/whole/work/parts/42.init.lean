/-! THE LAW'S START: a new ring, a new model, a row of one long -/
def ftg (Q : Nat → Nat) : Nat → Nat → Nat
  | 0, _ => 30000
  | n + 1, b => if b = Q n then tgl.getD n 0 else ftg Q n b
theorem ftg_no {Q : Nat → Nat} {b : Nat} : ∀ {n : Nat}, (∀ i, i < n → b ≠ Q i) → ftg Q n b = 30000
  | 0, _ => rfl
  | n + 1, h => by
    unfold ftg
    rw [if_neg (h n (Nat.lt_succ_self n))]
    exact ftg_no (fun i hi => h i (by omega))
theorem ftg_at {Q : Nat → Nat} {i : Nat} : ∀ {n : Nat}, i < n → (∀ a b, a < n → b < n → Q a = Q b → a = b) → ftg Q n (Q i) = tgl.getD i 0
  | 0, h, _ => absurd h (Nat.not_lt_zero i)
  | n + 1, h, hq => by
    unfold ftg
    by_cases e : i = n
    · rw [e, if_pos rfl]
    · rw [if_neg (fun z => e (hq i n h (Nat.lt_succ_self n) z))]
      exact ftg_at (by omega) (fun a b ha hb z => hq a b (by omega) (by omega) z)
theorem krN_0 : krN 0 (fun _ _ => 0) := fun k _ => ⟨fun i j _ _ => by show (0 : Int) ≤ (0 : Int32).toInt; decide, fun i _ => by show isum (fun _ => (0 : Int32).toInt) 5 ≤ 1000 * ((0 : Nat) : Int); decide, fun j _ => by show isum (fun _ => (0 : Int32).toInt) 5 ≤ 1000 * ((0 : Nat) : Int); decide⟩
theorem krS_0 {g : gG} {M1 M2 : Mp} {x mo o : Nat} {Q2 : Nat → Nat} (hed1 : M1 (g.2.2.2 0) = none) (hR : RD g (mu (fun _ => none) x (eO 6 [.null, .null, .null, .null, .null, .null, .null, .null])) M1 x) (nmo : M1 mo = none) (hQ : QI g (mu M1 mo (eO 7 [.int 0, .null, .null, .null, .null, .int 0, .null, .null, .null, .int 0, .null, .null, .null, .null, .null, .null, .null, .null, .null, .null, .null, .null, .null, .int 0])) M2 mo 20 Q2 qlen) (hm : M2 mo = some (eO 7 (mfs (fun k => Q2 (qpos k)) (fun _ => 0)))) (no : M2 o = none) (hed : mu M2 o (eL g 1 (fun _ => 0)) (g.2.2.2 0) = none) : krS g (mu M2 o (eL g 1 (fun _ => 0))) x mo o 0 := by
  obtain ⟨Q, cc, hF, r1, r2, r3, r4, r5, r6, r7⟩ := hR
  have n2 : ∀ b, M1 b ≠ none → M2 b = M1 b := fun b hb => by
    have e : b ≠ mo := fun z => hb (by rw [z]; exact nmo)
    have e2 : mu M1 mo (eO 7 [.int 0, .null, .null, .null, .null, .int 0, .null, .null, .null, .int 0, .null, .null, .null, .null, .null, .null, .null, .null, .null, .null, .null, .null, .null, .int 0]) b = M1 b := mu_n e
    exact (hQ.2.2.1 b (by rw [e2]; exact hb) e).trans e2
  have n3 : ∀ b, M2 b ≠ none → mu M2 o (eL g 1 (fun _ => 0)) b = M2 b := fun b hb => mu_n (fun z => hb (by rw [z]; exact no))
  have fr : ∀ b, M1 b ≠ none → mu M2 o (eL g 1 (fun _ => 0)) b = M1 b := fun b hb => (n3 b (by rw [n2 b hb]; exact hb)).trans (n2 b hb)
  have hx1 : M1 x ≠ none := hF.2.2.2.2
  have hq1 : ∀ i, i < 35 → M1 (Q i) ≠ none := fun i hi => by rw [(hF.2.1 i hi).1]; exact fun z => by cases z
  have hqx : ∀ i, i < 35 → Q i ≠ x := fun i hi z => by
    have h := (hF.2.1 i hi).2.1
    rw [z, mu_s] at h
    cases h
  obtain ⟨tg, etg⟩ : ∃ tg : Nat → Nat, tg = fun b => if b = x then 0 else ftg Q 35 b := ⟨_, rfl⟩
  have tgx : tg x = 0 := by rw [etg]; exact if_pos rfl
  have tgq : ∀ i, i < 35 → tg (Q i) = tgl.getD i 0 := fun i hi => by
    rw [etg]
    show (if Q i = x then 0 else ftg Q 35 (Q i)) = _
    rw [if_neg (hqx i hi)]
    exact ftg_at hi hF.1
  have tgn : ∀ b, M1 b = none → 30000 ≤ tg b := fun b hb => by
    rw [etg]
    show 30000 ≤ (if b = x then 0 else ftg Q 35 b)
    rw [if_neg (fun z => hx1 (by rw [← z]; exact hb)), ftg_no (fun i hi z => hq1 i hi (by rw [← z]; exact hb))]
    exact Nat.le_refl _
  have hI := RI_init (tg := tg) (pr := fun _ => false) (br := fun _ => false) (np := fun _ => 0) (hh := fun _ _ => 0) hF r1 r2 r3 r4 r5 r6 r7 tgx tgq hed1
  have hM := MI_init hQ hm
  have ho1 : M1 o = none := by
    cases h : M1 o with
    | none => rfl
    | some y => exact absurd no (by rw [n2 o (by rw [h]; exact fun z => by cases z), h]; exact fun z => by cases z)
  refine ⟨fun _ => 0, qad mo Q2, fun _ => 0, fun _ _ => 0, ⟨tg, _, _, _, _, _, _, _, _, RI_keep (T := fun t => 30000 ≤ t) hI (FR_of (fun b hb _ => fr b hb) hed) (fun t ht => by show ¬ 30000 ≤ t; omega), ⟨(mu_n (m_new no hM.1)).trans hM.1, fun k hk => (mu_n (m_new no (hM.2.1 k hk))).trans (hM.2.1 k hk), hM.2.2⟩, ⟨tgn mo nmo, tgn o ho1, fun k => ?_⟩, mu_s⟩, krN_0⟩
  have p20 : ∀ k, k < 24 → sl k = true → qpos k < 20 := by decide
  unfold qad
  by_cases hk : sl k = true
  · rw [if_pos hk]
    have h24 : k < 24 := by
      have z := hk
      unfold sl at z
      rw [Bool.and_eq_true] at z
      exact of_decide_eq_true z.1
    refine ⟨Or.inl hk, tgn _ ?_⟩
    have h := (hQ.2.1 _ (p20 k h24 hk)).2.1
    exact hed_mu h
  · rw [if_neg hk]
    exact ⟨Or.inr rfl, tgn mo nmo⟩
set_option maxHeartbeats 4000000 in
set_option maxRecDepth 100000 in
theorem whole_start {p : Program} {e : Env} {s : State} {m : MethodId} {below : List Frame} {meth : Method} {c : Code} (l : Launch) (hflags : l.flags = flags0) {b L : Nat} {xs : Nat → Int32} (hL : L ≤ 2560) (C0 : lw_At p s m meth c b L xs) : W p l e room_1 s m #[Value.ref b] below meth c s.heap [] 0 0 (lw_Z below #[Value.ref b] s) (entryFrame m ([Value.ref b] : List Value).toArray 7) := by
  obtain ⟨hx, hb, hr, hml, hown, hts, hX, hbl, hlocks, hgv⟩ := id C0
  obtain ⟨g, hg, hE⟩ := gE_start hts hgv
  have C : CallFix p m c code 7 s #[Value.ref b] WA RL := ⟨hx, hb, hml, hown, fun w h => hts w (List.mem_filter.mp h).1⟩
  have hbA : ¬ gA g b := by
    show ¬ g.1 ≤ b
    rw [hg]
    exact Nat.not_le.mpr hbl
  have hC : kcx p m c s b L xs g := ⟨C, hE, hX, hbl, hbA, hL⟩
  have hlx : l.stackTraces = false := by
    unfold Launch.stackTraces
    rw [hflags]
    decide +kernel
  have hH : Hw g (fun _ => none) s.heap := ⟨fun a e h => (by cases h), fun a e h => (by cases h)⟩
  have hS : va_S (gA g) s.heap s.heap [] := va_S.rf
  have hl := lv_entry ([.ref b]) (n := 7) (Nat.le_of_ble_eq_true rfl)
  rw [lg_entry_eq]
  generalize (lg_sl ([.ref b]) ++ List.replicate (7 - (lg_sl ([.ref b])).length) Slot.unset).toArray = ls at hl ⊢
  have hl : lv_has ls 7 [(0, .ref b)] := hl
  refine mnew (C := C) (hE := hE) (hH := hH) (hS := hS) (F := cb_RX5) (h1 := wm_47) (h2 := wm_48) (h3 := wm_24) (Nat.le_of_ble_eq_true rfl) (Nat.le_of_ble_eq_true rfl) dL_law_0 (fun q H nq gq hH hS => ?_)
  refine lv_dup C.1 C.2.1 dL_law_3 rfl ?_
  refine wr_go0 (runI (As := []) C hE hH hS (c_R_init mu_s) mv_X5_init wm_49 hl.1 dL_law_4 rfl rfl ⟨rfl, rfl⟩ ⟨Nat.le_of_ble_eq_true rfl, Nat.le_of_ble_eq_true rfl⟩ (Nat.le_of_ble_eq_true rfl) ⟨Nat.le_of_ble_eq_true rfl, Nat.le_of_ble_eq_true rfl⟩) hS (fun u M1 H locs hRD hH1 hS => ?_)
  refine lv_astore_n (lv' := [(1, .ref q), (0, .ref b)]) C.1 C.2.1 dL_law_7 rfl hl (by decide) rfl (fun ls hl => ?_)
  refine mnew (C := C) (hE := hE) (hH := hH1) (hS := hS) (F := cb_RX6) (h1 := wm_724) (h2 := wm_725) (h3 := wm_29) (Nat.le_of_ble_eq_true rfl) (Nat.le_of_ble_eq_true rfl) dL_law_8 (fun mo H nmo gmo hH hS => ?_)
  refine lv_dup C.1 C.2.1 dL_law_11 rfl ?_
  refine wr_go0 (runI (As := []) C hE hH hS (c_M_init mu_s) mv_X6_init wm_726 hl.1 dL_law_12 rfl rfl ⟨rfl, rfl⟩ ⟨Nat.le_of_ble_eq_true rfl, Nat.le_of_ble_eq_true rfl⟩ (Nat.le_of_ble_eq_true rfl) ⟨Nat.le_of_ble_eq_true rfl, Nat.le_of_ble_eq_true rfl⟩) hS (fun Q2 M2 H locs hQ hH2 hS => ?_)
  refine lv_astore_n (lv' := [(2, .ref mo), (1, .ref q), (0, .ref b)]) C.1 C.2.1 dL_law_15 rfl hl (by decide) rfl (fun ls hl => ?_)
  refine lv_iconst (v := 1) C.1 C.2.1 dL_law_16 rfl ?_
  refine mnewL (N := 1) C hE hH2 hS wm_945 (by decide) (by decide) (Nat.le_of_ble_eq_true rfl) (Nat.le_of_ble_eq_true rfl) (Nat.le_of_ble_eq_true rfl) dL_law_17 (fun o H no go hH hS => ?_)
  refine lv_astore_n (lv' := [(3, .ref o), (2, .ref mo), (1, .ref q), (0, .ref b)]) C.1 C.2.1 dL_law_19 rfl hl (by decide) rfl (fun ls hl => ?_)
  refine lv_iconst (v := nI (5 * 0)) C.1 C.2.1 dL_law_20 (by decide) ?_
  refine lv_istore (lv' := [(4, .int (nI (5 * 0))), (3, .ref o), (2, .ref mo), (1, .ref q), (0, .ref b)]) C.1 C.2.1 dL_law_21 hl (by decide) rfl (fun ls hl => ?_)
  refine W.widen (k := 58 + 6 * 0) (n := 711 + 230 * 0) (Nat.le_of_ble_eq_true rfl) (Nat.le_of_ble_eq_true rfl) ?_
  exact k_loop hlx hC hg hr hlocks 513 0 (by omega) (by omega) _ _ _ ls (krS_0 (ed_no hE hH1) hRD nmo hQ.1 hQ.2 no (ed_no hE hH)) hH hS hl
