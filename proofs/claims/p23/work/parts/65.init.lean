/-! THE LAW'S START: a new ring, ten rows -/
def ftg (Q : Nat → Nat) : Nat → Nat → Nat
  | 0, _ => 30000
  | n + 1, b => if b = Q n then tgl.getD n 0 else ftg Q n b
theorem ftg_no {Q : Nat → Nat} {b : Nat} : ∀ {n : Nat}, (∀ i, i < n → b ≠ Q i) → ftg Q n b = 30000
  | 0, _ => rfl
  | n + 1, h => by
    unfold ftg
    rw [if_neg (h n (Nat.lt_succ_self n))]
    exact ftg_no (fun i hi => h i (by omega))
theorem ftg_at {Q : Nat → Nat} {i : Nat} : ∀ {n : Nat}, i < n → (∀ a b, a < n → b < n → Q a = Q b → a = b) → ftg Q n (Q i) = tgl.getD i 0
  | 0, h, _ => absurd h (Nat.not_lt_zero i)
  | n + 1, h, hq => by
    unfold ftg
    by_cases e : i = n
    · rw [e, if_pos rfl]
    · rw [if_neg (fun z => e (hq i n h (Nat.lt_succ_self n) z))]
      exact ftg_at (by omega) (fun a b ha hb z => hq a b (by omega) (by omega) z)
theorem krN_0 : krN 0 (fun _ _ => 0) := fun k _ => ⟨fun i j _ _ => by show (0 : Int) ≤ (0 : Int32).toInt; decide, fun i _ => by show isum (fun _ => (0 : Int32).toInt) 5 ≤ 1000 * ((0 : Nat) : Int); decide, fun j _ => by show isum (fun _ => (0 : Int32).toInt) 5 ≤ 1000 * ((0 : Nat) : Int); decide⟩
/-- the first n of the law's rows, new since M1 -/
def LN (g : gG) (M1 M : Mp) (la : Nat → Nat) (n : Nat) : Prop := (∀ k, k < n → M (la k) = some (eI g (ln k) (fun _ => 0)) ∧ M1 (la k) = none) ∧ (∀ i j, i < n → j < n → la i = la j → i = j) ∧ ∀ b, M1 b ≠ none → M b = M1 b
theorem LN_0 {g : gG} {M1 : Mp} {la : Nat → Nat} : LN g M1 M1 la 0 := ⟨fun k hk => absurd hk (Nat.not_lt_zero k), fun i j hi => absurd hi (Nat.not_lt_zero i), fun _ _ => rfl⟩
theorem LN_new {g : gG} {M1 M : Mp} {la : Nat → Nat} {n q N : Nat} (h : LN g M1 M la n) (hq : M q = none) (hN : ln n = N) : LN g M1 (mu M q (eI g N (fun _ => 0))) (un la n q) (n + 1) := by
  obtain ⟨h1, h2, h3⟩ := h
  have hq1 : M1 q = none := by
    cases z : M1 q with
    | none => rfl
    | some y =>
      have := h3 q (by rw [z]; exact fun w => by cases w)
      rw [hq, z] at this
      cases this
  have hne : ∀ k, k < n → la k ≠ q := fun k hk => m_new hq (h1 k hk).1
  refine ⟨fun k hk => ?_, fun i j hi hj z => ?_, fun b hb => (mu_n (fun z => hb (by rw [z]; exact hq1))).trans (h3 b hb)⟩
  · by_cases e : k = n
    · rw [e, un_s, mu_s, hN]
      exact ⟨rfl, hq1⟩
    · rw [un_n e, mu_n (hne k (by omega))]
      exact h1 k (by omega)
  · by_cases e1 : i = n <;> by_cases e2 : j = n
    · omega
    · rw [e1, un_s, un_n e2] at z
      exact absurd z.symm (hne j (by omega))
    · rw [e2, un_s, un_n e1] at z
      exact absurd z (hne i (by omega))
    · rw [un_n e1, un_n e2] at z
      exact h2 i j (by omega) (by omega) z
theorem WS_0 {g : gG} {M1 M : Mp} {x : Nat} {la : Nat → Nat} (hed1 : M1 (g.2.2.2 0) = none) (hR : RD g (mu (fun _ => none) x (eO 6 [.null, .null, .null, .null, .null, .null, .null, .null])) M1 x) (hL : LN g M1 M la 10) (hed : M (g.2.2.2 0) = none) : WS g M x la 0 := by
  obtain ⟨Q, cc, hF, r1, r2, r3, r4, r5, r6, r7⟩ := hR
  have hx1 : M1 x ≠ none := hF.2.2.2.2
  have hq1 : ∀ i, i < 35 → M1 (Q i) ≠ none := fun i hi => by rw [(hF.2.1 i hi).1]; exact fun z => by cases z
  have hqx : ∀ i, i < 35 → Q i ≠ x := fun i hi z => by
    have h := (hF.2.1 i hi).2.1
    rw [z, mu_s] at h
    cases h
  obtain ⟨tg, etg⟩ : ∃ tg : Nat → Nat, tg = fun b => if b = x then 0 else ftg Q 35 b := ⟨_, rfl⟩
  have tgx : tg x = 0 := by rw [etg]; exact if_pos rfl
  have tgq : ∀ i, i < 35 → tg (Q i) = tgl.getD i 0 := fun i hi => by
    rw [etg]
    show (if Q i = x then 0 else ftg Q 35 (Q i)) = _
    rw [if_neg (hqx i hi)]
    exact ftg_at hi hF.1
  have tgn : ∀ b, M1 b = none → 30000 ≤ tg b := fun b hb => by
    rw [etg]
    show 30000 ≤ (if b = x then 0 else ftg Q 35 b)
    rw [if_neg (fun z => hx1 (by rw [← z]; exact hb)), ftg_no (fun i hi z => hq1 i hi (by rw [← z]; exact hb))]
    exact Nat.le_refl _
  have hI := RI_init (tg := tg) (pr := fun _ => false) (br := fun _ => false) (np := fun _ => 0) (hh := fun _ _ => 0) hF r1 r2 r3 r4 r5 r6 r7 tgx tgq hed1
  exact ⟨tg, _, _, _, _, _, _, _, _, _, _, fun _ _ => 0, RI_keep (T := fun t => 30000 ≤ t) hI (FR_of (fun b hb _ => hL.2.2 b hb) hed) (fun t ht => by show ¬ 30000 ≤ t; omega), ⟨fun k hk => (hL.1 k hk).1, hL.2.1⟩, fun k hk => tgn _ (hL.1 k hk).2, ⟨⟨rfl, rfl, rfl⟩, ⟨by omega, by omega, by omega⟩, fun i hi => absurd hi (Nat.not_lt_zero i), ⟨fun _ _ => rfl, fun _ _ => ⟨rfl, rfl⟩⟩, fun i hi => absurd hi (Nat.not_lt_zero i), fun i hi => absurd hi (Nat.not_lt_zero i), fun _ _ => rfl, fun _ _ => rfl, fun _ _ => rfl⟩, krN_0⟩
set_option maxHeartbeats 8000000 in
set_option maxRecDepth 100000 in
theorem whole_start {p : Program} {e : Env} {s : State} {m : MethodId} {below : List Frame} {meth : Method} {c : Code} (l : Launch) (hflags : l.flags = flags0) {b L : Nat} {xs : Nat → Int32} (hL : L ≤ 260) (C0 : lw_At p s m meth c b L xs) : W p l e room_1 s m #[Value.ref b] below meth c s.heap [] 0 0 (lw_Z below #[Value.ref b] s) (entryFrame m ([Value.ref b] : List Value).toArray 17) := by
  obtain ⟨hx, hb, hr, hml, hown, hts, hX, hbl, hlocks, hgv⟩ := id C0
  obtain ⟨g, hg, hE⟩ := gE_start hts hgv
  have C : CallFix p m c code 17 s #[Value.ref b] WA RL := ⟨hx, hb, hml, hown, fun w h => hts w (List.mem_filter.mp h).1⟩
  have hbA : ¬ gA g b := by
    show ¬ g.1 ≤ b
    rw [hg]
    exact Nat.not_le.mpr hbl
  have hC : kcx p m c s b L xs g := ⟨C, hE, hX, hbl, hbA, hL⟩
  have hlx : l.stackTraces = false := by
    unfold Launch.stackTraces
    rw [hflags]
    decide +kernel
  have hH : Hw g (fun _ => none) s.heap := ⟨fun a e h => (by cases h), fun a e h => (by cases h)⟩
  have hS : va_S (gA g) s.heap s.heap [] := va_S.rf
  have hl := lv_entry ([.ref b]) (n := 17) (Nat.le_of_ble_eq_true rfl)
  rw [lg_entry_eq]
  generalize (lg_sl ([.ref b]) ++ List.replicate (17 - (lg_sl ([.ref b])).length) Slot.unset).toArray = ls at hl ⊢
  have hl : lv_has ls 17 [(0, .ref b)] := hl
  refine mnew (C := C) (hE := hE) (hH := hH) (hS := hS) (F := cb_RX5) (h1 := wm_35) (h2 := wm_36) (h3 := wm_13) (Nat.le_of_ble_eq_true rfl) (Nat.le_of_ble_eq_true rfl) dL_law_0 (fun x H nq gq hH hS => ?_)
  refine lv_dup C.1 C.2.1 dL_law_3 rfl ?_
  refine wr_go0 (runI (As := []) C hE hH hS (c_R_init mu_s) mv_X5_init wm_37 hl.1 dL_law_4 rfl rfl ⟨rfl, rfl⟩ ⟨Nat.le_of_ble_eq_true rfl, Nat.le_of_ble_eq_true rfl⟩ (Nat.le_of_ble_eq_true rfl) ⟨Nat.le_of_ble_eq_true rfl, Nat.le_of_ble_eq_true rfl⟩) hS (fun u M1 H locs hRD hH1 hS => ?_)
  have hH := hH1
  refine lv_astore_n (lv' := [(1, .ref x), (0, .ref b)]) C.1 C.2.1 dL_law_7 rfl hl (by decide) rfl (fun ls hl => ?_)
  have hN0 := LN_0 (g := g) (M1 := M1) (la := fun _ => 0)
  refine lv_iconst (v := 3) C.1 C.2.1 dL_law_8 rfl ?_
  refine mnewI (N := 3) C hE hH hS wm_91 (by decide) (by decide) (Nat.le_of_ble_eq_true rfl) (Nat.le_of_ble_eq_true rfl) (Nat.le_of_ble_eq_true rfl) dL_law_9 (fun q0 H n0 g0 hH hS => ?_)
  have hN1 := LN_new hN0 n0 (N := 3) rfl
  refine lv_astore_n (lv' := [(2, .ref q0), (1, .ref x), (0, .ref b)]) C.1 C.2.1 dL_law_11 rfl hl (by decide) rfl (fun ls hl => ?_)
  refine lv_bipush (v := 12) C.1 C.2.1 dL_law_12 rfl ?_
  refine mnewI (N := 12) C hE hH hS wm_91 (by decide) (by decide) (Nat.le_of_ble_eq_true rfl) (Nat.le_of_ble_eq_true rfl) (Nat.le_of_ble_eq_true rfl) dL_law_14 (fun q1 H n1 g1 hH hS => ?_)
  have hN2 := LN_new hN1 n1 (N := 12) rfl
  refine lv_astore_n (lv' := [(3, .ref q1), (2, .ref q0), (1, .ref x), (0, .ref b)]) C.1 C.2.1 dL_law_16 rfl hl (by decide) rfl (fun ls hl => ?_)
  refine lv_bipush (v := 11) C.1 C.2.1 dL_law_17 rfl ?_
  refine mnewI (N := 11) C hE hH hS wm_91 (by decide) (by decide) (Nat.le_of_ble_eq_true rfl) (Nat.le_of_ble_eq_true rfl) (Nat.le_of_ble_eq_true rfl) dL_law_19 (fun q2 H n2 g2 hH hS => ?_)
  have hN3 := LN_new hN2 n2 (N := 11) rfl
  refine lv_astore (lv' := [(4, .ref q2), (3, .ref q1), (2, .ref q0), (1, .ref x), (0, .ref b)]) C.1 C.2.1 dL_law_21 hl (by decide) rfl (fun ls hl => ?_)
  refine lv_bipush (v := 15) C.1 C.2.1 dL_law_23 rfl ?_
  refine mnewI (N := 15) C hE hH hS wm_91 (by decide) (by decide) (Nat.le_of_ble_eq_true rfl) (Nat.le_of_ble_eq_true rfl) (Nat.le_of_ble_eq_true rfl) dL_law_25 (fun q3 H n3 g3 hH hS => ?_)
  have hN4 := LN_new hN3 n3 (N := 15) rfl
  refine lv_astore (lv' := [(5, .ref q3), (4, .ref q2), (3, .ref q1), (2, .ref q0), (1, .ref x), (0, .ref b)]) C.1 C.2.1 dL_law_27 hl (by decide) rfl (fun ls hl => ?_)
  refine lv_bipush (v := 50) C.1 C.2.1 dL_law_29 rfl ?_
  refine mnewI (N := 50) C hE hH hS wm_91 (by decide) (by decide) (Nat.le_of_ble_eq_true rfl) (Nat.le_of_ble_eq_true rfl) (Nat.le_of_ble_eq_true rfl) dL_law_31 (fun q4 H n4 g4 hH hS => ?_)
  have hN5 := LN_new hN4 n4 (N := 50) rfl
  refine lv_astore (lv' := [(6, .ref q4), (5, .ref q3), (4, .ref q2), (3, .ref q1), (2, .ref q0), (1, .ref x), (0, .ref b)]) C.1 C.2.1 dL_law_33 hl (by decide) rfl (fun ls hl => ?_)
  refine lv_bipush (v := 50) C.1 C.2.1 dL_law_35 rfl ?_
  refine mnewI (N := 50) C hE hH hS wm_91 (by decide) (by decide) (Nat.le_of_ble_eq_true rfl) (Nat.le_of_ble_eq_true rfl) (Nat.le_of_ble_eq_true rfl) dL_law_37 (fun q5 H n5 g5 hH hS => ?_)
  have hN6 := LN_new hN5 n5 (N := 50) rfl
  refine lv_astore (lv' := [(7, .ref q5), (6, .ref q4), (5, .ref q3), (4, .ref q2), (3, .ref q1), (2, .ref q0), (1, .ref x), (0, .ref b)]) C.1 C.2.1 dL_law_39 hl (by decide) rfl (fun ls hl => ?_)
  refine lv_bipush (v := 60) C.1 C.2.1 dL_law_41 rfl ?_
  refine mnewI (N := 60) C hE hH hS wm_91 (by decide) (by decide) (Nat.le_of_ble_eq_true rfl) (Nat.le_of_ble_eq_true rfl) (Nat.le_of_ble_eq_true rfl) dL_law_43 (fun q6 H n6 g6 hH hS => ?_)
  have hN7 := LN_new hN6 n6 (N := 60) rfl
  refine lv_astore (lv' := [(8, .ref q6), (7, .ref q5), (6, .ref q4), (5, .ref q3), (4, .ref q2), (3, .ref q1), (2, .ref q0), (1, .ref x), (0, .ref b)]) C.1 C.2.1 dL_law_45 hl (by decide) rfl (fun ls hl => ?_)
  refine lv_bipush (v := 9) C.1 C.2.1 dL_law_47 rfl ?_
  refine mnewI (N := 9) C hE hH hS wm_91 (by decide) (by decide) (Nat.le_of_ble_eq_true rfl) (Nat.le_of_ble_eq_true rfl) (Nat.le_of_ble_eq_true rfl) dL_law_49 (fun q7 H n7 g7 hH hS => ?_)
  have hN8 := LN_new hN7 n7 (N := 9) rfl
  refine lv_astore (lv' := [(9, .ref q7), (8, .ref q6), (7, .ref q5), (6, .ref q4), (5, .ref q3), (4, .ref q2), (3, .ref q1), (2, .ref q0), (1, .ref x), (0, .ref b)]) C.1 C.2.1 dL_law_51 hl (by decide) rfl (fun ls hl => ?_)
  refine lv_bipush (v := 50) C.1 C.2.1 dL_law_53 rfl ?_
  refine mnewI (N := 50) C hE hH hS wm_91 (by decide) (by decide) (Nat.le_of_ble_eq_true rfl) (Nat.le_of_ble_eq_true rfl) (Nat.le_of_ble_eq_true rfl) dL_law_55 (fun q8 H n8 g8 hH hS => ?_)
  have hN9 := LN_new hN8 n8 (N := 50) rfl
  refine lv_astore (lv' := [(10, .ref q8), (9, .ref q7), (8, .ref q6), (7, .ref q5), (6, .ref q4), (5, .ref q3), (4, .ref q2), (3, .ref q1), (2, .ref q0), (1, .ref x), (0, .ref b)]) C.1 C.2.1 dL_law_57 hl (by decide) rfl (fun ls hl => ?_)
  refine lv_iconst (v := 3) C.1 C.2.1 dL_law_59 rfl ?_
  refine mnewI (N := 3) C hE hH hS wm_91 (by decide) (by decide) (Nat.le_of_ble_eq_true rfl) (Nat.le_of_ble_eq_true rfl) (Nat.le_of_ble_eq_true rfl) dL_law_60 (fun q9 H n9 g9 hH hS => ?_)
  have hN10 := LN_new hN9 n9 (N := 3) rfl
  refine lv_astore (lv' := [(11, .ref q9), (10, .ref q8), (9, .ref q7), (8, .ref q6), (7, .ref q5), (6, .ref q4), (5, .ref q3), (4, .ref q2), (3, .ref q1), (2, .ref q0), (1, .ref x), (0, .ref b)]) C.1 C.2.1 dL_law_62 hl (by decide) rfl (fun ls hl => ?_)
  refine lv_iconst (v := nI 0) C.1 C.2.1 dL_law_64 (by decide) ?_
  refine lv_istore (lv' := [(12, .int (nI 0)), (11, .ref q9), (10, .ref q8), (9, .ref q7), (8, .ref q6), (7, .ref q5), (6, .ref q4), (5, .ref q3), (4, .ref q2), (3, .ref q1), (2, .ref q0), (1, .ref x), (0, .ref b)]) C.1 C.2.1 dL_law_65 hl (by decide) rfl (fun ls hl => ?_)
  refine W.widen (k := 46 + 337 * 0) (n := 420 + 12885 * 0) (Nat.le_of_ble_eq_true rfl) (Nat.le_of_ble_eq_true rfl) ?_
  exact k_loop (la := (un (un (un (un (un (un (un (un (un (un (fun _ => 0) 0 q0) 1 q1) 2 q2) 3 q3) 4 q4) 5 q5) 6 q6) 7 q7) 8 q8) 9 q9)) hlx hC hg hr hlocks 111 0 (by omega) (by omega) _ _ _ ls (WS_0 (ed_no hE hH1) hRD hN10 (ed_no hE hH)) hH hS hl
