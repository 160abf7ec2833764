/-! THE CLAIM OUT OF ONE WALK OF THE LAW'S BODY. Your part is whole_start (and what it stands on); all else here is the same for every law, but numbers. -/
def R_law : String := "DyeRingLaw"
def lw_P (b : Addr) (xs : List Int32) (args : Array Value) (s : State) : Prop := args = #[.ref b] ∧ s.IntsAt b xs ∧ xs.length ≤ 260 ∧ (Jvm.Cond.and given_1 narrow_1).before args s = true
def lw_Q (_ : Array Value) (s : State) (o : Outcome) (t : State) : Prop := o = .returned (some (.int 1)) ∧ Framed s o t [] 600104 7301314
def lw_Z (below : List Frame) (a : Array Value) (s : State) : State → Prop := fun t => ∃ o, t.status = .running ∧ Ended t below o ∧ lw_Q a s o t
/-- the law's own end, with 1 on the stack, nothing written that was there before, its room as the claim has it -/
theorem lw_ret {p : Program} {l : Launch} {e : Env} {s : State} {m : MethodId} {below : List Frame} {meth : Method} {c : Code} {b : Nat} (hx : p.tables.exec = Jvm.exec) (hb : c.code = code) (hr : meth.sig.returnType = ret) (hlocks : meth.locks = false) {pc : Nat} {H : Heap} {ls : Array Slot} (hdg : decode code pc = .ok (.ireturn, 1)) : W p l e room_1 s m #[Value.ref b] below meth c H [] 600104 7301314 (lw_Z below #[Value.ref b] s) (F0 m pc ls [.int 1]) := by
  intro T hT X
  obtain ⟨fs, hret, hrun, hended, hW, hframe⟩ := X.leave (v := some (.int 1)) (hlocks := hlocks) (fun h => by rw [hr] at h; cases h)
  have hmeth' : T.vm.method? m = some meth := X.method'
  refine ⟨T.setFrames fs, ?_, .returned (some (.int 1)), hrun, hended, rfl, ⟨_, rfl⟩, hW, hframe⟩
  jvm_step X.here [X.here.top, hx, hb, hdg, hmeth', hr, ret, narrow_b1]
  (try refine ⟨rfl, ?_⟩); (try refine ⟨rfl, ?_⟩)
  first | (intro acts; rw [hret _ acts rfl rfl rfl]) | rw [hret _ _ rfl rfl rfl]
  exact Steps.refl _
/-- what holds at the law's entry: the machine, the code, the tables' words (any of lw_tbl by 'hts w (by decide +kernel)'), the script of L ints xs at the cell b, what the Statement gives of the start (any of its parts by flat_of_before) -/
def lw_At (p : Program) (s : State) (m : MethodId) (meth : Method) (c : Code) (b L : Nat) (xs : Nat → Int32) : Prop :=
  p.tables.exec = Jvm.exec ∧ c.code = code ∧ meth.sig.returnType = ret ∧ c.maxLocals = 17 ∧ s.vm.findClass R_law = some m.cls ∧ (∀ w ∈ lw_tbl, w.before #[Value.ref b] s = true) ∧ va_X b L xs s s.heap ∧ b < s.heap.size ∧ meth.locks = false ∧ (Jvm.Cond.and given_1 narrow_1).before #[Value.ref b] s = true
/-! THE LAW'S LOOP -/
def kcx (p : Program) (m : MethodId) (c : Code) (s : State) (b L : Nat) (xs : Nat → Int32) (g : gG) : Prop := CallFix p m c code 17 s #[Value.ref b] WA RL ∧ gE g s ∧ va_X b L xs s s.heap ∧ b < s.heap.size ∧ ¬ gA g b ∧ L ≤ 260
set_option maxHeartbeats 8000000 in
set_option maxRecDepth 100000 in
theorem k_loop {p : Program} {l : Launch} {e : Env} {s : State} {m : MethodId} {below : List Frame} {meth : Method} {c : Code} {b L : Nat} {xs : Nat → Int32} {g : gG} {x : Nat} {la : Nat → Nat} (hlx : l.stackTraces = false) (hC : kcx p m c s b L xs g) (hg : g.1 = s.heap.size) (hr : meth.sig.returnType = ret) (hlocks : meth.locks = false) : ∀ (fu i : Nat), 110 < i + fu → i ≤ 110 → ∀ (M : Mp) (H : Heap) (locs : List Loc) (ls : Array Slot), WS g M x la (i - 11) → Hw g M H → va_S (gA g) s.heap H locs → lv_has ls 17 [(12, .int (nI i)), (11, .ref (la 9)), (10, .ref (la 8)), (9, .ref (la 7)), (8, .ref (la 6)), (7, .ref (la 5)), (6, .ref (la 4)), (5, .ref (la 3)), (4, .ref (la 2)), (3, .ref (la 1)), (2, .ref (la 0)), (1, .ref x), (0, .ref b)] → W p l e room_1 s m #[Value.ref b] below meth c H locs (46 + 337 * i) (420 + 12885 * i) (lw_Z below #[Value.ref b] s) (F0 m 67 ls []) := by
  intro fu
  induction fu with
  | zero => intro i h1 h2; exact absurd h1 (by omega)
  | succ fu ih =>
    intro i h1 h2 M H locs ls hWS hH hS hl
    obtain ⟨C, hE, hX, hbl, hbA, hL⟩ := id hC
    refine lv_iload C.1 C.2.1 dL_law_67 (lv_at hl 0 rfl) ?_
    refine lv_bipush (v := 110) C.1 C.2.1 dL_law_69 rfl ?_
    refine lv_icmp_ge (tgt := 396) C.1 C.2.1 dL_law_71 (by decide) (fun c71 => ?_) (fun c71 => ?_)
    · have n71 : 110 ≤ i := (nI_leI (a := 110) (b := i) (by omega) (by omega)).mp c71
      refine lv_iconst (v := 1) C.1 C.2.1 dL_law_396 rfl ?_
      refine va_forget (fun z hz => by rw [← hg]; exact hS.2.2 z hz) ?_
      refine W.widen (k := 600104) (n := 7301314) (by omega) (by omega) ?_
      exact lw_ret C.1 C.2.1 hr hlocks dL_law_397
    · have n71 : ¬ 110 ≤ i := fun z => c71 ((nI_leI (a := 110) (b := i) (by omega) (by omega)).mpr z)
      refine lv_aload_n C.1 C.2.1 dL_law_74 rfl (lv_at hl 12 rfl) ?_
      refine lv_iload C.1 C.2.1 dL_law_75 (lv_at hl 0 rfl) ?_
      refine lv_bipush (v := 97) C.1 C.2.1 dL_law_77 rfl ?_
      refine lv_irem C.1 C.2.1 dL_law_79 (by decide) ?_
      rw [show ((nI i) - (nI i) / 97 * 97 : Int32) = nI (i % 97) from nI_R (a := i) (b := 97) (by omega) (by omega) (by omega)]
      refine rd_go1 (runSx C hE hH hS hX hbl hbA (c_cell (k := i % 97) (by omega) (by omega) (by rw [hg]; exact hbl)) mv_L_cell wm_117 hl.1 dL_law_80 rfl rfl ⟨rfl, rfl⟩ ⟨Nat.le_of_ble_eq_true rfl, Nat.le_of_ble_eq_true rfl⟩ (Nat.le_of_ble_eq_true rfl) ⟨(by show _ + 0 ≤ 600104; omega), (by show _ + 0 ≤ 7301314; omega)⟩) ?_
      refine lv_topi (fun v1 ev1 => ?_)
      refine lv_iload C.1 C.2.1 dL_law_83 (lv_at hl 0 rfl) ?_
      refine lv_ldc (v := 13466917) C.1 C.2.1 C.2.2.2.1 (C.2.2.2.2 _ wm_713) dL_law_85 ?_
      refine lv_imul C.1 C.2.1 dL_law_87 ?_
      rw [show ((nI i) * 13466917 : Int32) = nI (i * 13466917) from nI_M i 13466917]
      refine lv_ixor C.1 C.2.1 dL_law_88 ?_
      refine lv_topi (fun x2 ex2 => ?_)
      refine lv_istore (lv' := [(13, .int x2), (12, .int (nI i)), (11, .ref (la 9)), (10, .ref (la 8)), (9, .ref (la 7)), (8, .ref (la 6)), (7, .ref (la 5)), (6, .ref (la 4)), (5, .ref (la 3)), (4, .ref (la 2)), (3, .ref (la 1)), (2, .ref (la 0)), (1, .ref x), (0, .ref b)]) C.1 C.2.1 dL_law_89 hl (by decide) rfl (fun ls hl => ?_)
      refine lv_iload C.1 C.2.1 dL_law_91 (lv_at hl 0 rfl) ?_
      refine lv_iconst (v := 4) C.1 C.2.1 dL_law_93 rfl ?_
      refine lv_ishr C.1 C.2.1 dL_law_94 ?_
      refine lv_topi (fun x3 ex3 => ?_)
      refine lv_istore (lv' := [(14, .int x3), (13, .int x2), (12, .int (nI i)), (11, .ref (la 9)), (10, .ref (la 8)), (9, .ref (la 7)), (8, .ref (la 6)), (7, .ref (la 5)), (6, .ref (la 4)), (5, .ref (la 3)), (4, .ref (la 2)), (3, .ref (la 1)), (2, .ref (la 0)), (1, .ref x), (0, .ref b)]) C.1 C.2.1 dL_law_95 hl (by decide) rfl (fun ls hl => ?_)
      refine lv_iload C.1 C.2.1 dL_law_97 (lv_at hl 1 rfl) ?_
      refine lv_bipush (v := 30) C.1 C.2.1 dL_law_99 rfl ?_
      refine some_go (N := 30) (runS C hE hH hS (c_some (n := 30) (N := 30) rfl (by omega) (by omega) x2) mv_L_some wm_121 hl.1 dL_law_101 rfl rfl ⟨rfl, rfl⟩ ⟨Nat.le_of_ble_eq_true rfl, Nat.le_of_ble_eq_true rfl⟩ (Nat.le_of_ble_eq_true rfl) ⟨(by show _ + 0 ≤ 600104; omega), (by show _ + 0 ≤ 7301314; omega)⟩) rfl (by omega) (by omega) (fun k101 hk101 => ?_)
      refine lv_istore (lv' := [(15, .int (nI k101)), (14, .int x3), (13, .int x2), (12, .int (nI i)), (11, .ref (la 9)), (10, .ref (la 8)), (9, .ref (la 7)), (8, .ref (la 6)), (7, .ref (la 5)), (6, .ref (la 4)), (5, .ref (la 3)), (4, .ref (la 2)), (3, .ref (la 1)), (2, .ref (la 0)), (1, .ref x), (0, .ref b)]) C.1 C.2.1 dL_law_104 hl (by decide) rfl (fun ls hl => ?_)
      have back : ∀ (M' : Mp) (H : Heap) (locs : List Loc) (ls : Array Slot), WS g M' x la (i + 1 - 11) → Hw g M' H → va_S (gA g) s.heap H locs → lv_has ls 17 [(15, .int (nI k101)), (14, .int x3), (13, .int x2), (12, .int (nI i)), (11, .ref (la 9)), (10, .ref (la 8)), (9, .ref (la 7)), (8, .ref (la 6)), (7, .ref (la 5)), (6, .ref (la 4)), (5, .ref (la 3)), (4, .ref (la 2)), (3, .ref (la 1)), (2, .ref (la 0)), (1, .ref x), (0, .ref b)] → W p l e room_1 s m #[Value.ref b] below meth c H locs (46 + 337 * i + 7) (420 + 12885 * i + 235) (lw_Z below #[Value.ref b] s) (F0 m 358 ls [.int 1]) := by
        intro M' H locs ls hW1 hH hS hl
        refine lv_istore (lv' := [(16, .int 1), (15, .int (nI k101)), (14, .int x3), (13, .int x2), (12, .int (nI i)), (11, .ref (la 9)), (10, .ref (la 8)), (9, .ref (la 7)), (8, .ref (la 6)), (7, .ref (la 5)), (6, .ref (la 4)), (5, .ref (la 3)), (4, .ref (la 2)), (3, .ref (la 1)), (2, .ref (la 0)), (1, .ref x), (0, .ref b)]) C.1 C.2.1 dL_law_358 hl (by decide) rfl (fun ls hl => ?_)
        refine lv_iload C.1 C.2.1 dL_law_360 (lv_at hl 0 rfl) ?_
        refine lv_if_eq (tgt := 388) C.1 C.2.1 dL_law_362 (by decide) (fun c362 => ?_) (fun c362 => ?_)
        · exact absurd c362 (by decide)
        · refine lv_aload_n C.1 C.2.1 dL_law_365 rfl (lv_at hl 15 rfl) ?_
          refine lv_iload C.1 C.2.1 dL_law_366 (lv_at hl 2 rfl) ?_
          refine lv_aload_n C.1 C.2.1 dL_law_368 rfl (lv_at hl 14 rfl) ?_
          refine lv_aload_n C.1 C.2.1 dL_law_369 rfl (lv_at hl 13 rfl) ?_
          refine lv_aload C.1 C.2.1 dL_law_370 (lv_at hl 11 rfl) ?_
          refine lv_aload C.1 C.2.1 dL_law_372 (lv_at hl 10 rfl) ?_
          refine lv_aload C.1 C.2.1 dL_law_374 (lv_at hl 9 rfl) ?_
          refine lv_aload C.1 C.2.1 dL_law_376 (lv_at hl 8 rfl) ?_
          refine lv_aload C.1 C.2.1 dL_law_378 (lv_at hl 7 rfl) ?_
          refine lv_aload C.1 C.2.1 dL_law_380 (lv_at hl 6 rfl) ?_
          refine wr_go1 (runS C hE hH hS (a_asks hlx hW1 x3) mv_L_asks wm_697 hl.1 dL_law_382 rfl rfl ⟨rfl, rfl⟩ ⟨Nat.le_of_ble_eq_true rfl, Nat.le_of_ble_eq_true rfl⟩ (Nat.le_of_ble_eq_true rfl) ⟨(by show _ + 330 ≤ 600104; omega), (by show _ + 12650 ≤ 7301314; omega)⟩) hS (fun u4 M5 H locs hM5 hH hS => ?_)
          rw [hM5] at hH
          refine lv_if_ne (tgt := 390) C.1 C.2.1 dL_law_385 (by decide) (fun c385 => ?_) (fun c385 => ?_)
          · refine lv_iinc (v := nI (i + 1)) (lv' := [(12, .int (nI (i + 1))), (16, .int 1), (15, .int (nI k101)), (14, .int x3), (13, .int x2), (11, .ref (la 9)), (10, .ref (la 8)), (9, .ref (la 7)), (8, .ref (la 6)), (7, .ref (la 5)), (6, .ref (la 4)), (5, .ref (la 3)), (4, .ref (la 2)), (3, .ref (la 1)), (2, .ref (la 0)), (1, .ref x), (0, .ref b)]) C.1 C.2.1 dL_law_390 hl (k := 4) rfl (nI_1 i) (by decide) rfl (fun ls hl => ?_)
            refine lv_goto (tgt := 67) C.1 C.2.1 dL_law_393 (by decide) ?_
            refine W.widen (k := 46 + 337 * (i + 1)) (n := 420 + 12885 * (i + 1)) (by omega) (by omega) ?_
            exact ih (i + 1) (by omega) (by omega) _ _ _ ls hW1 hH hS (lv_sub hl [0, 5, 6, 7, 8, 9, 10, 11, 12, 13, 14, 15, 16] rfl)
          · exact absurd c385 (by decide)
      refine lv_iload C.1 C.2.1 dL_law_106 (lv_at hl 3 rfl) ?_
      refine lv_iconst (v := 4) C.1 C.2.1 dL_law_108 rfl ?_
      refine lv_icmp_ge (tgt := 130) C.1 C.2.1 dL_law_109 (by decide) (fun c109 => ?_) (fun c109 => ?_)
      · have n109 : 4 ≤ i := (nI_leI (a := 4) (b := i) (by omega) (by omega)).mp c109
        refine lv_iload C.1 C.2.1 dL_law_130 (lv_at hl 3 rfl) ?_
        refine lv_bipush (v := 8) C.1 C.2.1 dL_law_132 rfl ?_
        refine lv_icmp_ge (tgt := 155) C.1 C.2.1 dL_law_134 (by decide) (fun c134 => ?_) (fun c134 => ?_)
        · have n134 : 8 ≤ i := (nI_leI (a := 8) (b := i) (by omega) (by omega)).mp c134
          refine lv_iload C.1 C.2.1 dL_law_155 (lv_at hl 3 rfl) ?_
          refine lv_bipush (v := 11) C.1 C.2.1 dL_law_157 rfl ?_
          refine lv_icmp_ge (tgt := 186) C.1 C.2.1 dL_law_159 (by decide) (fun c159 => ?_) (fun c159 => ?_)
          · have n159 : 11 ≤ i := (nI_leI (a := 11) (b := i) (by omega) (by omega)).mp c159
            refine lv_iload C.1 C.2.1 dL_law_186 (lv_at hl 0 rfl) ?_
            refine lv_bipush (v := 6) C.1 C.2.1 dL_law_188 rfl ?_
            refine lv_icmp_ge (tgt := 212) C.1 C.2.1 dL_law_190 (by decide) (fun c190 => ?_) (fun c190 => ?_)
            · have n190 : 6 ≤ k101 := (nI_leI (a := 6) (b := k101) (by omega) (by omega)).mp c190
              refine lv_iload C.1 C.2.1 dL_law_212 (lv_at hl 0 rfl) ?_
              refine lv_bipush (v := 11) C.1 C.2.1 dL_law_214 rfl ?_
              refine lv_icmp_ge (tgt := 243) C.1 C.2.1 dL_law_216 (by decide) (fun c216 => ?_) (fun c216 => ?_)
              · have n216 : 11 ≤ k101 := (nI_leI (a := 11) (b := k101) (by omega) (by omega)).mp c216
                refine lv_iload C.1 C.2.1 dL_law_243 (lv_at hl 0 rfl) ?_
                refine lv_bipush (v := 15) C.1 C.2.1 dL_law_245 rfl ?_
                refine lv_icmp_ge (tgt := 274) C.1 C.2.1 dL_law_247 (by decide) (fun c247 => ?_) (fun c247 => ?_)
                · have n247 : 15 ≤ k101 := (nI_leI (a := 15) (b := k101) (by omega) (by omega)).mp c247
                  refine lv_iload C.1 C.2.1 dL_law_274 (lv_at hl 0 rfl) ?_
                  refine lv_bipush (v := 19) C.1 C.2.1 dL_law_276 rfl ?_
                  refine lv_icmp_ge (tgt := 305) C.1 C.2.1 dL_law_278 (by decide) (fun c278 => ?_) (fun c278 => ?_)
                  · have n278 : 19 ≤ k101 := (nI_leI (a := 19) (b := k101) (by omega) (by omega)).mp c278
                    refine lv_iload C.1 C.2.1 dL_law_305 (lv_at hl 0 rfl) ?_
                    refine lv_bipush (v := 24) C.1 C.2.1 dL_law_307 rfl ?_
                    refine lv_icmp_ge (tgt := 336) C.1 C.2.1 dL_law_309 (by decide) (fun c309 => ?_) (fun c309 => ?_)
                    · have n309 : 24 ≤ k101 := (nI_leI (a := 24) (b := k101) (by omega) (by omega)).mp c309
                      refine lv_aload_n C.1 C.2.1 dL_law_336 rfl (lv_at hl 14 rfl) ?_
                      refine lv_iload C.1 C.2.1 dL_law_337 (lv_at hl 0 rfl) ?_
                      refine lv_bipush (v := 29) C.1 C.2.1 dL_law_339 rfl ?_
                      refine lv_icmp_ge (tgt := 348) C.1 C.2.1 dL_law_341 (by decide) (fun c341 => ?_) (fun c341 => ?_)
                      · have n341 : 29 ≤ k101 := (nI_leI (a := 29) (b := k101) (by omega) (by omega)).mp c341
                        refine lv_iconst (v := 1) C.1 C.2.1 dL_law_348 rfl ?_
                        refine lv_iload C.1 C.2.1 dL_law_349 (lv_at hl 1 rfl) ?_
                        refine lv_aload C.1 C.2.1 dL_law_351 (lv_at hl 5 rfl) ?_
                        refine lv_aload C.1 C.2.1 dL_law_353 (lv_at hl 4 rfl) ?_
                        refine wr_go1 (runS C hE hH hS (t_net hlx hWS ((by omega)) x3) mv_L_cloth wm_677 hl.1 dL_law_355 rfl rfl ⟨rfl, rfl⟩ ⟨Nat.le_of_ble_eq_true rfl, Nat.le_of_ble_eq_true rfl⟩ (Nat.le_of_ble_eq_true rfl) ⟨(by show _ + 7 ≤ 600104; omega), (by show _ + 235 ≤ 7301314; omega)⟩) hS (fun u6 M7 H locs hM7 hH hS => ?_)
                        refine W.widen (k := 46 + 337 * i + 7) (n := 420 + 12885 * i + 235) (by omega) (by omega) ?_
                        exact back _ _ _ ls (WS_le hM7 (by omega)) hH hS hl
                      · have n341 : ¬ 29 ≤ k101 := fun z => c341 ((nI_leI (a := 29) (b := k101) (by omega) (by omega)).mpr z)
                        refine lv_iconst (v := 0) C.1 C.2.1 dL_law_344 rfl ?_
                        refine lv_goto (tgt := 349) C.1 C.2.1 dL_law_345 (by decide) ?_
                        refine lv_iload C.1 C.2.1 dL_law_349 (lv_at hl 1 rfl) ?_
                        refine lv_aload C.1 C.2.1 dL_law_351 (lv_at hl 5 rfl) ?_
                        refine lv_aload C.1 C.2.1 dL_law_353 (lv_at hl 4 rfl) ?_
                        refine wr_go1 (runS C hE hH hS (t_give hlx hWS ((by omega)) x3) mv_L_cloth wm_677 hl.1 dL_law_355 rfl rfl ⟨rfl, rfl⟩ ⟨Nat.le_of_ble_eq_true rfl, Nat.le_of_ble_eq_true rfl⟩ (Nat.le_of_ble_eq_true rfl) ⟨(by show _ + 7 ≤ 600104; omega), (by show _ + 235 ≤ 7301314; omega)⟩) hS (fun u8 M9 H locs hM9 hH hS => ?_)
                        refine W.widen (k := 46 + 337 * i + 7) (n := 420 + 12885 * i + 235) (by omega) (by omega) ?_
                        exact back _ _ _ ls (WS_le hM9 (by omega)) hH hS hl
                    · have n309 : ¬ 24 ≤ k101 := fun z => c309 ((nI_leI (a := 24) (b := k101) (by omega) (by omega)).mpr z)
                      refine lv_aload_n C.1 C.2.1 dL_law_312 rfl (lv_at hl 14 rfl) ?_
                      refine lv_iconst (v := 3) C.1 C.2.1 dL_law_313 rfl ?_
                      refine lv_iload C.1 C.2.1 dL_law_314 (lv_at hl 1 rfl) ?_
                      refine lv_aload_n C.1 C.2.1 dL_law_316 rfl (lv_at hl 13 rfl) ?_
                      refine lv_aload_n C.1 C.2.1 dL_law_317 rfl (lv_at hl 12 rfl) ?_
                      refine lv_aload C.1 C.2.1 dL_law_318 (lv_at hl 11 rfl) ?_
                      refine lv_aload C.1 C.2.1 dL_law_320 (lv_at hl 10 rfl) ?_
                      refine lv_aload C.1 C.2.1 dL_law_322 (lv_at hl 9 rfl) ?_
                      refine lv_aload C.1 C.2.1 dL_law_324 (lv_at hl 8 rfl) ?_
                      refine lv_aload C.1 C.2.1 dL_law_326 (lv_at hl 7 rfl) ?_
                      refine lv_aload C.1 C.2.1 dL_law_328 (lv_at hl 6 rfl) ?_
                      refine wr_go1 (runS C hE hH hS (g_claim hlx hWS x3) mv_L_goes wm_551 hl.1 dL_law_330 rfl rfl ⟨rfl, rfl⟩ ⟨Nat.le_of_ble_eq_true rfl, Nat.le_of_ble_eq_true rfl⟩ (Nat.le_of_ble_eq_true rfl) ⟨(by show _ + 6 ≤ 600104; omega), (by show _ + 230 ≤ 7301314; omega)⟩) hS (fun u10 M11 H locs hM11 hH hS => ?_)
                      refine lv_goto (tgt := 358) C.1 C.2.1 dL_law_333 (by decide) ?_
                      refine W.widen (k := 46 + 337 * i + 7) (n := 420 + 12885 * i + 235) (by omega) (by omega) ?_
                      exact back _ _ _ ls (WS_le hM11 (by omega)) hH hS hl
                  · have n278 : ¬ 19 ≤ k101 := fun z => c278 ((nI_leI (a := 19) (b := k101) (by omega) (by omega)).mpr z)
                    refine lv_aload_n C.1 C.2.1 dL_law_281 rfl (lv_at hl 14 rfl) ?_
                    refine lv_iconst (v := 2) C.1 C.2.1 dL_law_282 rfl ?_
                    refine lv_iload C.1 C.2.1 dL_law_283 (lv_at hl 1 rfl) ?_
                    refine lv_aload_n C.1 C.2.1 dL_law_285 rfl (lv_at hl 13 rfl) ?_
                    refine lv_aload_n C.1 C.2.1 dL_law_286 rfl (lv_at hl 12 rfl) ?_
                    refine lv_aload C.1 C.2.1 dL_law_287 (lv_at hl 11 rfl) ?_
                    refine lv_aload C.1 C.2.1 dL_law_289 (lv_at hl 10 rfl) ?_
                    refine lv_aload C.1 C.2.1 dL_law_291 (lv_at hl 9 rfl) ?_
                    refine lv_aload C.1 C.2.1 dL_law_293 (lv_at hl 8 rfl) ?_
                    refine lv_aload C.1 C.2.1 dL_law_295 (lv_at hl 7 rfl) ?_
                    refine lv_aload C.1 C.2.1 dL_law_297 (lv_at hl 6 rfl) ?_
                    refine wr_go1 (runS C hE hH hS (g_dye hlx hWS x3) mv_L_goes wm_551 hl.1 dL_law_299 rfl rfl ⟨rfl, rfl⟩ ⟨Nat.le_of_ble_eq_true rfl, Nat.le_of_ble_eq_true rfl⟩ (Nat.le_of_ble_eq_true rfl) ⟨(by show _ + 6 ≤ 600104; omega), (by show _ + 230 ≤ 7301314; omega)⟩) hS (fun u12 M13 H locs hM13 hH hS => ?_)
                    refine lv_goto (tgt := 358) C.1 C.2.1 dL_law_302 (by decide) ?_
                    refine W.widen (k := 46 + 337 * i + 7) (n := 420 + 12885 * i + 235) (by omega) (by omega) ?_
                    exact back _ _ _ ls (WS_le hM13 (by omega)) hH hS hl
                · have n247 : ¬ 15 ≤ k101 := fun z => c247 ((nI_leI (a := 15) (b := k101) (by omega) (by omega)).mpr z)
                  refine lv_aload_n C.1 C.2.1 dL_law_250 rfl (lv_at hl 14 rfl) ?_
                  refine lv_iconst (v := 1) C.1 C.2.1 dL_law_251 rfl ?_
                  refine lv_iload C.1 C.2.1 dL_law_252 (lv_at hl 1 rfl) ?_
                  refine lv_aload_n C.1 C.2.1 dL_law_254 rfl (lv_at hl 13 rfl) ?_
                  refine lv_aload_n C.1 C.2.1 dL_law_255 rfl (lv_at hl 12 rfl) ?_
                  refine lv_aload C.1 C.2.1 dL_law_256 (lv_at hl 11 rfl) ?_
                  refine lv_aload C.1 C.2.1 dL_law_258 (lv_at hl 10 rfl) ?_
                  refine lv_aload C.1 C.2.1 dL_law_260 (lv_at hl 9 rfl) ?_
                  refine lv_aload C.1 C.2.1 dL_law_262 (lv_at hl 8 rfl) ?_
                  refine lv_aload C.1 C.2.1 dL_law_264 (lv_at hl 7 rfl) ?_
                  refine lv_aload C.1 C.2.1 dL_law_266 (lv_at hl 6 rfl) ?_
                  refine wr_go1 (runS C hE hH hS (g_place hlx hWS x3) mv_L_goes wm_551 hl.1 dL_law_268 rfl rfl ⟨rfl, rfl⟩ ⟨Nat.le_of_ble_eq_true rfl, Nat.le_of_ble_eq_true rfl⟩ (Nat.le_of_ble_eq_true rfl) ⟨(by show _ + 6 ≤ 600104; omega), (by show _ + 230 ≤ 7301314; omega)⟩) hS (fun u14 M15 H locs hM15 hH hS => ?_)
                  refine lv_goto (tgt := 358) C.1 C.2.1 dL_law_271 (by decide) ?_
                  refine W.widen (k := 46 + 337 * i + 7) (n := 420 + 12885 * i + 235) (by omega) (by omega) ?_
                  exact back _ _ _ ls (WS_le hM15 (by omega)) hH hS hl
              · have n216 : ¬ 11 ≤ k101 := fun z => c216 ((nI_leI (a := 11) (b := k101) (by omega) (by omega)).mpr z)
                refine lv_aload_n C.1 C.2.1 dL_law_219 rfl (lv_at hl 14 rfl) ?_
                refine lv_iconst (v := 0) C.1 C.2.1 dL_law_220 rfl ?_
                refine lv_iload C.1 C.2.1 dL_law_221 (lv_at hl 1 rfl) ?_
                refine lv_aload_n C.1 C.2.1 dL_law_223 rfl (lv_at hl 13 rfl) ?_
                refine lv_aload_n C.1 C.2.1 dL_law_224 rfl (lv_at hl 12 rfl) ?_
                refine lv_aload C.1 C.2.1 dL_law_225 (lv_at hl 11 rfl) ?_
                refine lv_aload C.1 C.2.1 dL_law_227 (lv_at hl 10 rfl) ?_
                refine lv_aload C.1 C.2.1 dL_law_229 (lv_at hl 9 rfl) ?_
                refine lv_aload C.1 C.2.1 dL_law_231 (lv_at hl 8 rfl) ?_
                refine lv_aload C.1 C.2.1 dL_law_233 (lv_at hl 7 rfl) ?_
                refine lv_aload C.1 C.2.1 dL_law_235 (lv_at hl 6 rfl) ?_
                refine wr_go1 (runS C hE hH hS (g_order hlx hWS x3) mv_L_goes wm_551 hl.1 dL_law_237 rfl rfl ⟨rfl, rfl⟩ ⟨Nat.le_of_ble_eq_true rfl, Nat.le_of_ble_eq_true rfl⟩ (Nat.le_of_ble_eq_true rfl) ⟨(by show _ + 6 ≤ 600104; omega), (by show _ + 230 ≤ 7301314; omega)⟩) hS (fun u16 M17 H locs hM17 hH hS => ?_)
                refine lv_goto (tgt := 358) C.1 C.2.1 dL_law_240 (by decide) ?_
                refine W.widen (k := 46 + 337 * i + 7) (n := 420 + 12885 * i + 235) (by omega) (by omega) ?_
                exact back _ _ _ ls (WS_le hM17 (by omega)) hH hS hl
            · have n190 : ¬ 6 ≤ k101 := fun z => c190 ((nI_leI (a := 6) (b := k101) (by omega) (by omega)).mpr z)
              rcases (show k101 = 0 ∨ k101 = 1 ∨ k101 = 2 ∨ k101 = 3 ∨ k101 = 4 ∨ k101 = 5 by omega) with rfl | rfl | rfl | rfl | rfl | rfl
              · refine lv_aload_n C.1 C.2.1 dL_law_193 rfl (lv_at hl 14 rfl) ?_
                refine lv_iload C.1 C.2.1 dL_law_194 (lv_at hl 0 rfl) ?_
                refine lv_iload C.1 C.2.1 dL_law_196 (lv_at hl 1 rfl) ?_
                refine lv_aload_n C.1 C.2.1 dL_law_198 rfl (lv_at hl 13 rfl) ?_
                refine lv_aload_n C.1 C.2.1 dL_law_199 rfl (lv_at hl 12 rfl) ?_
                refine lv_aload C.1 C.2.1 dL_law_200 (lv_at hl 11 rfl) ?_
                refine lv_aload C.1 C.2.1 dL_law_202 (lv_at hl 10 rfl) ?_
                refine lv_aload C.1 C.2.1 dL_law_204 (lv_at hl 4 rfl) ?_
                refine wr_go1 (runS C hE hH hS (s_entry hlx hWS x3) mv_L_sets wm_124 hl.1 dL_law_206 rfl rfl ⟨rfl, rfl⟩ ⟨Nat.le_of_ble_eq_true rfl, Nat.le_of_ble_eq_true rfl⟩ (Nat.le_of_ble_eq_true rfl) ⟨(by show _ + 6 ≤ 600104; omega), (by show _ + 230 ≤ 7301314; omega)⟩) hS (fun u18 M19 H locs hM19 hH hS => ?_)
                refine lv_goto (tgt := 358) C.1 C.2.1 dL_law_209 (by decide) ?_
                refine W.widen (k := 46 + 337 * i + 7) (n := 420 + 12885 * i + 235) (by omega) (by omega) ?_
                exact back _ _ _ ls (WS_le hM19 (by omega)) hH hS (lv_sub hl [0, 1, 2, 3, 4, 5, 6, 7, 8, 9, 10, 11, 12, 13, 14, 15] rfl)
              · refine lv_aload_n C.1 C.2.1 dL_law_193 rfl (lv_at hl 14 rfl) ?_
                refine lv_iload C.1 C.2.1 dL_law_194 (lv_at hl 0 rfl) ?_
                refine lv_iload C.1 C.2.1 dL_law_196 (lv_at hl 1 rfl) ?_
                refine lv_aload_n C.1 C.2.1 dL_law_198 rfl (lv_at hl 13 rfl) ?_
                refine lv_aload_n C.1 C.2.1 dL_law_199 rfl (lv_at hl 12 rfl) ?_
                refine lv_aload C.1 C.2.1 dL_law_200 (lv_at hl 11 rfl) ?_
                refine lv_aload C.1 C.2.1 dL_law_202 (lv_at hl 10 rfl) ?_
                refine lv_aload C.1 C.2.1 dL_law_204 (lv_at hl 4 rfl) ?_
                refine wr_go1 (runS C hE hH hS (s_water hlx hWS x3) mv_L_sets wm_124 hl.1 dL_law_206 rfl rfl ⟨rfl, rfl⟩ ⟨Nat.le_of_ble_eq_true rfl, Nat.le_of_ble_eq_true rfl⟩ (Nat.le_of_ble_eq_true rfl) ⟨(by show _ + 6 ≤ 600104; omega), (by show _ + 230 ≤ 7301314; omega)⟩) hS (fun u20 M21 H locs hM21 hH hS => ?_)
                refine lv_goto (tgt := 358) C.1 C.2.1 dL_law_209 (by decide) ?_
                refine W.widen (k := 46 + 337 * i + 7) (n := 420 + 12885 * i + 235) (by omega) (by omega) ?_
                exact back _ _ _ ls (WS_le hM21 (by omega)) hH hS (lv_sub hl [0, 1, 2, 3, 4, 5, 6, 7, 8, 9, 10, 11, 12, 13, 14, 15] rfl)
              · refine lv_aload_n C.1 C.2.1 dL_law_193 rfl (lv_at hl 14 rfl) ?_
                refine lv_iload C.1 C.2.1 dL_law_194 (lv_at hl 0 rfl) ?_
                refine lv_iload C.1 C.2.1 dL_law_196 (lv_at hl 1 rfl) ?_
                refine lv_aload_n C.1 C.2.1 dL_law_198 rfl (lv_at hl 13 rfl) ?_
                refine lv_aload_n C.1 C.2.1 dL_law_199 rfl (lv_at hl 12 rfl) ?_
                refine lv_aload C.1 C.2.1 dL_law_200 (lv_at hl 11 rfl) ?_
                refine lv_aload C.1 C.2.1 dL_law_202 (lv_at hl 10 rfl) ?_
                refine lv_aload C.1 C.2.1 dL_law_204 (lv_at hl 4 rfl) ?_
                refine wr_go1 (runS C hE hH hS (s_yarn hlx hWS x3) mv_L_sets wm_124 hl.1 dL_law_206 rfl rfl ⟨rfl, rfl⟩ ⟨Nat.le_of_ble_eq_true rfl, Nat.le_of_ble_eq_true rfl⟩ (Nat.le_of_ble_eq_true rfl) ⟨(by show _ + 6 ≤ 600104; omega), (by show _ + 230 ≤ 7301314; omega)⟩) hS (fun u22 M23 H locs hM23 hH hS => ?_)
                refine lv_goto (tgt := 358) C.1 C.2.1 dL_law_209 (by decide) ?_
                refine W.widen (k := 46 + 337 * i + 7) (n := 420 + 12885 * i + 235) (by omega) (by omega) ?_
                exact back _ _ _ ls (WS_le hM23 (by omega)) hH hS (lv_sub hl [0, 1, 2, 3, 4, 5, 6, 7, 8, 9, 10, 11, 12, 13, 14, 15] rfl)
              · refine lv_aload_n C.1 C.2.1 dL_law_193 rfl (lv_at hl 14 rfl) ?_
                refine lv_iload C.1 C.2.1 dL_law_194 (lv_at hl 0 rfl) ?_
                refine lv_iload C.1 C.2.1 dL_law_196 (lv_at hl 1 rfl) ?_
                refine lv_aload_n C.1 C.2.1 dL_law_198 rfl (lv_at hl 13 rfl) ?_
                refine lv_aload_n C.1 C.2.1 dL_law_199 rfl (lv_at hl 12 rfl) ?_
                refine lv_aload C.1 C.2.1 dL_law_200 (lv_at hl 11 rfl) ?_
                refine lv_aload C.1 C.2.1 dL_law_202 (lv_at hl 10 rfl) ?_
                refine lv_aload C.1 C.2.1 dL_law_204 (lv_at hl 4 rfl) ?_
                refine wr_go1 (runS C hE hH hS (s_bath hlx hWS x3) mv_L_sets wm_124 hl.1 dL_law_206 rfl rfl ⟨rfl, rfl⟩ ⟨Nat.le_of_ble_eq_true rfl, Nat.le_of_ble_eq_true rfl⟩ (Nat.le_of_ble_eq_true rfl) ⟨(by show _ + 6 ≤ 600104; omega), (by show _ + 230 ≤ 7301314; omega)⟩) hS (fun u24 M25 H locs hM25 hH hS => ?_)
                refine lv_goto (tgt := 358) C.1 C.2.1 dL_law_209 (by decide) ?_
                refine W.widen (k := 46 + 337 * i + 7) (n := 420 + 12885 * i + 235) (by omega) (by omega) ?_
                exact back _ _ _ ls (WS_le hM25 (by omega)) hH hS (lv_sub hl [0, 1, 2, 3, 4, 5, 6, 7, 8, 9, 10, 11, 12, 13, 14, 15] rfl)
              · refine lv_aload_n C.1 C.2.1 dL_law_193 rfl (lv_at hl 14 rfl) ?_
                refine lv_iload C.1 C.2.1 dL_law_194 (lv_at hl 0 rfl) ?_
                refine lv_iload C.1 C.2.1 dL_law_196 (lv_at hl 1 rfl) ?_
                refine lv_aload_n C.1 C.2.1 dL_law_198 rfl (lv_at hl 13 rfl) ?_
                refine lv_aload_n C.1 C.2.1 dL_law_199 rfl (lv_at hl 12 rfl) ?_
                refine lv_aload C.1 C.2.1 dL_law_200 (lv_at hl 11 rfl) ?_
                refine lv_aload C.1 C.2.1 dL_law_202 (lv_at hl 10 rfl) ?_
                refine lv_aload C.1 C.2.1 dL_law_204 (lv_at hl 4 rfl) ?_
                refine wr_go1 (runS C hE hH hS (s_freshen hlx hWS x3) mv_L_sets wm_124 hl.1 dL_law_206 rfl rfl ⟨rfl, rfl⟩ ⟨Nat.le_of_ble_eq_true rfl, Nat.le_of_ble_eq_true rfl⟩ (Nat.le_of_ble_eq_true rfl) ⟨(by show _ + 6 ≤ 600104; omega), (by show _ + 230 ≤ 7301314; omega)⟩) hS (fun u26 M27 H locs hM27 hH hS => ?_)
                refine lv_goto (tgt := 358) C.1 C.2.1 dL_law_209 (by decide) ?_
                refine W.widen (k := 46 + 337 * i + 7) (n := 420 + 12885 * i + 235) (by omega) (by omega) ?_
                exact back _ _ _ ls (WS_le hM27 (by omega)) hH hS (lv_sub hl [0, 1, 2, 3, 4, 5, 6, 7, 8, 9, 10, 11, 12, 13, 14, 15] rfl)
              · refine lv_aload_n C.1 C.2.1 dL_law_193 rfl (lv_at hl 14 rfl) ?_
                refine lv_iload C.1 C.2.1 dL_law_194 (lv_at hl 0 rfl) ?_
                refine lv_iload C.1 C.2.1 dL_law_196 (lv_at hl 1 rfl) ?_
                refine lv_aload_n C.1 C.2.1 dL_law_198 rfl (lv_at hl 13 rfl) ?_
                refine lv_aload_n C.1 C.2.1 dL_law_199 rfl (lv_at hl 12 rfl) ?_
                refine lv_aload C.1 C.2.1 dL_law_200 (lv_at hl 11 rfl) ?_
                refine lv_aload C.1 C.2.1 dL_law_202 (lv_at hl 10 rfl) ?_
                refine lv_aload C.1 C.2.1 dL_law_204 (lv_at hl 4 rfl) ?_
                refine wr_go1 (runS C hE hH hS (s_shrinks hlx hWS x3) mv_L_sets wm_124 hl.1 dL_law_206 rfl rfl ⟨rfl, rfl⟩ ⟨Nat.le_of_ble_eq_true rfl, Nat.le_of_ble_eq_true rfl⟩ (Nat.le_of_ble_eq_true rfl) ⟨(by show _ + 6 ≤ 600104; omega), (by show _ + 230 ≤ 7301314; omega)⟩) hS (fun u28 M29 H locs hM29 hH hS => ?_)
                refine lv_goto (tgt := 358) C.1 C.2.1 dL_law_209 (by decide) ?_
                refine W.widen (k := 46 + 337 * i + 7) (n := 420 + 12885 * i + 235) (by omega) (by omega) ?_
                exact back _ _ _ ls (WS_le hM29 (by omega)) hH hS (lv_sub hl [0, 1, 2, 3, 4, 5, 6, 7, 8, 9, 10, 11, 12, 13, 14, 15] rfl)
          · have n159 : ¬ 11 ≤ i := fun z => c159 ((nI_leI (a := 11) (b := i) (by omega) (by omega)).mpr z)
            refine lv_aload_n C.1 C.2.1 dL_law_162 rfl (lv_at hl 14 rfl) ?_
            refine lv_iconst (v := 0) C.1 C.2.1 dL_law_163 rfl ?_
            refine lv_iload C.1 C.2.1 dL_law_164 (lv_at hl 1 rfl) ?_
            refine lv_aload_n C.1 C.2.1 dL_law_166 rfl (lv_at hl 13 rfl) ?_
            refine lv_aload_n C.1 C.2.1 dL_law_167 rfl (lv_at hl 12 rfl) ?_
            refine lv_aload C.1 C.2.1 dL_law_168 (lv_at hl 11 rfl) ?_
            refine lv_aload C.1 C.2.1 dL_law_170 (lv_at hl 10 rfl) ?_
            refine lv_aload C.1 C.2.1 dL_law_172 (lv_at hl 9 rfl) ?_
            refine lv_aload C.1 C.2.1 dL_law_174 (lv_at hl 8 rfl) ?_
            refine lv_aload C.1 C.2.1 dL_law_176 (lv_at hl 7 rfl) ?_
            refine lv_aload C.1 C.2.1 dL_law_178 (lv_at hl 6 rfl) ?_
            refine wr_go1 (runS C hE hH hS (g_order hlx hWS x3) mv_L_goes wm_551 hl.1 dL_law_180 rfl rfl ⟨rfl, rfl⟩ ⟨Nat.le_of_ble_eq_true rfl, Nat.le_of_ble_eq_true rfl⟩ (Nat.le_of_ble_eq_true rfl) ⟨(by show _ + 6 ≤ 600104; omega), (by show _ + 230 ≤ 7301314; omega)⟩) hS (fun u30 M31 H locs hM31 hH hS => ?_)
            refine lv_goto (tgt := 358) C.1 C.2.1 dL_law_183 (by decide) ?_
            refine W.widen (k := 46 + 337 * i + 7) (n := 420 + 12885 * i + 235) (by omega) (by omega) ?_
            exact back _ _ _ ls (WS_le hM31 (by omega)) hH hS hl
        · have n134 : ¬ 8 ≤ i := fun z => c134 ((nI_leI (a := 8) (b := i) (by omega) (by omega)).mpr z)
          refine lv_aload_n C.1 C.2.1 dL_law_137 rfl (lv_at hl 14 rfl) ?_
          refine lv_iconst (v := 3) C.1 C.2.1 dL_law_138 rfl ?_
          refine lv_iload C.1 C.2.1 dL_law_139 (lv_at hl 1 rfl) ?_
          refine lv_aload_n C.1 C.2.1 dL_law_141 rfl (lv_at hl 13 rfl) ?_
          refine lv_aload_n C.1 C.2.1 dL_law_142 rfl (lv_at hl 12 rfl) ?_
          refine lv_aload C.1 C.2.1 dL_law_143 (lv_at hl 11 rfl) ?_
          refine lv_aload C.1 C.2.1 dL_law_145 (lv_at hl 10 rfl) ?_
          refine lv_aload C.1 C.2.1 dL_law_147 (lv_at hl 4 rfl) ?_
          refine wr_go1 (runS C hE hH hS (s_bath hlx hWS x3) mv_L_sets wm_124 hl.1 dL_law_149 rfl rfl ⟨rfl, rfl⟩ ⟨Nat.le_of_ble_eq_true rfl, Nat.le_of_ble_eq_true rfl⟩ (Nat.le_of_ble_eq_true rfl) ⟨(by show _ + 6 ≤ 600104; omega), (by show _ + 230 ≤ 7301314; omega)⟩) hS (fun u32 M33 H locs hM33 hH hS => ?_)
          refine lv_goto (tgt := 358) C.1 C.2.1 dL_law_152 (by decide) ?_
          refine W.widen (k := 46 + 337 * i + 7) (n := 420 + 12885 * i + 235) (by omega) (by omega) ?_
          exact back _ _ _ ls (WS_le hM33 (by omega)) hH hS hl
      · have n109 : ¬ 4 ≤ i := fun z => c109 ((nI_leI (a := 4) (b := i) (by omega) (by omega)).mpr z)
        refine lv_aload_n C.1 C.2.1 dL_law_112 rfl (lv_at hl 14 rfl) ?_
        refine lv_iconst (v := 0) C.1 C.2.1 dL_law_113 rfl ?_
        refine lv_iload C.1 C.2.1 dL_law_114 (lv_at hl 1 rfl) ?_
        refine lv_aload_n C.1 C.2.1 dL_law_116 rfl (lv_at hl 13 rfl) ?_
        refine lv_aload_n C.1 C.2.1 dL_law_117 rfl (lv_at hl 12 rfl) ?_
        refine lv_aload C.1 C.2.1 dL_law_118 (lv_at hl 11 rfl) ?_
        refine lv_aload C.1 C.2.1 dL_law_120 (lv_at hl 10 rfl) ?_
        refine lv_aload C.1 C.2.1 dL_law_122 (lv_at hl 4 rfl) ?_
        refine wr_go1 (runS C hE hH hS (s_entry hlx hWS x3) mv_L_sets wm_124 hl.1 dL_law_124 rfl rfl ⟨rfl, rfl⟩ ⟨Nat.le_of_ble_eq_true rfl, Nat.le_of_ble_eq_true rfl⟩ (Nat.le_of_ble_eq_true rfl) ⟨(by show _ + 6 ≤ 600104; omega), (by show _ + 230 ≤ 7301314; omega)⟩) hS (fun u34 M35 H locs hM35 hH hS => ?_)
        refine lv_goto (tgt := 358) C.1 C.2.1 dL_law_127 (by decide) ?_
        refine W.widen (k := 46 + 337 * i + 7) (n := 420 + 12885 * i + 235) (by omega) (by omega) ?_
        exact back _ _ _ ls (WS_le hM35 (by omega)) hH hS hl
