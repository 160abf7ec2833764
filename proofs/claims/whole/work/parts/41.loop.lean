/-! THE CLAIM OUT OF ONE WALK OF THE LAW'S BODY. Your part is whole_start (and what it stands on); all else here is the same for every law, but numbers. -/
def R_law : String := "DyeRingLaw"
def lw_P (b : Addr) (xs : List Int32) (args : Array Value) (s : State) : Prop := args = #[.ref b] ∧ s.IntsAt b xs ∧ xs.length ≤ 2560 ∧ (Jvm.Cond.and given_1 narrow_1).before args s = true
def lw_Q (_ : Array Value) (s : State) (o : Outcome) (t : State) : Prop := o = .returned (some (.int 1)) ∧ Framed s o t [] 601024 7293033
def lw_Z (below : List Frame) (a : Array Value) (s : State) : State → Prop := fun t => ∃ o, t.status = .running ∧ Ended t below o ∧ lw_Q a s o t
/-- the law's own end, with 1 on the stack, nothing written that was there before, its room as the claim has it -/
theorem lw_ret {p : Program} {l : Launch} {e : Env} {s : State} {m : MethodId} {below : List Frame} {meth : Method} {c : Code} {b : Nat} (hx : p.tables.exec = Jvm.exec) (hb : c.code = code) (hr : meth.sig.returnType = ret) (hlocks : meth.locks = false) {pc : Nat} {H : Heap} {ls : Array Slot} (hdg : decode code pc = .ok (.ireturn, 1)) : W p l e room_1 s m #[Value.ref b] below meth c H [] 601024 7293033 (lw_Z below #[Value.ref b] s) (F0 m pc ls [.int 1]) := by
  intro T hT X
  obtain ⟨fs, hret, hrun, hended, hW, hframe⟩ := X.leave (v := some (.int 1)) (hlocks := hlocks) (fun h => by rw [hr] at h; cases h)
  have hmeth' : T.vm.method? m = some meth := X.method'
  refine ⟨T.setFrames fs, ?_, .returned (some (.int 1)), hrun, hended, rfl, ⟨_, rfl⟩, hW, hframe⟩
  jvm_step X.here [X.here.top, hx, hb, hdg, hmeth', hr, ret, narrow_b1]
  (try refine ⟨rfl, ?_⟩); (try refine ⟨rfl, ?_⟩)
  first | (intro acts; rw [hret _ acts rfl rfl rfl]) | rw [hret _ _ rfl rfl rfl]
  exact Steps.refl _
/-- what holds at the law's entry: the machine, the code, the tables' words (any of lw_tbl by 'hts w (by decide +kernel)'), the script of L ints xs at the cell b, what the Statement gives of the start (any of its parts by flat_of_before) -/
def lw_At (p : Program) (s : State) (m : MethodId) (meth : Method) (c : Code) (b L : Nat) (xs : Nat → Int32) : Prop :=
  p.tables.exec = Jvm.exec ∧ c.code = code ∧ meth.sig.returnType = ret ∧ c.maxLocals = 7 ∧ s.vm.findClass R_law = some m.cls ∧ (∀ w ∈ lw_tbl, w.before #[Value.ref b] s = true) ∧ va_X b L xs s s.heap ∧ b < s.heap.size ∧ meth.locks = false ∧ (Jvm.Cond.and given_1 narrow_1).before #[Value.ref b] s = true
/-! THE LAW'S LOOP -/
theorem kand (x : Int32) : 0 ≤ (x &&& 31).toInt ∧ (x &&& 31).toInt ≤ 31 := by
  have h1 : (x &&& 31).toBitVec = x.toBitVec &&& 31#32 := rfl
  have h2 : (x.toBitVec &&& 31#32).toNat ≤ 31 := by rw [BitVec.toNat_and]; exact Nat.and_le_right
  have h3 : (x &&& 31).toInt = ((x &&& 31).toBitVec.toNat : Int) := by
    show (x &&& 31).toBitVec.toInt = _
    rw [h1, BitVec.toInt_eq_toNat_of_lt (by omega)]
  rw [h3, h1]
  omega
theorem klim {L a : Nat} (hL : L ≤ 2560) (ha : a ≤ 2560) (h : ¬ Int32.ofNat L - 5 < nI a) : a + 5 ≤ L := by
  have e1 : (Int32.ofNat L).toInt = L := Int32.toInt_ofNat_of_lt (by omega)
  have e2 : (nI a).toInt = a := Int32.toInt_ofNat_of_lt (by omega)
  have e5 : (5 : Int32).toInt = 5 := by decide
  have e3 : (Int32.ofNat L - 5).toInt = (L : Int) - 5 := by rw [Int32.toInt_sub, e1, e5, Int.bmod_eq_of_le (by omega) (by omega)]
  rw [Int32.lt_iff_toInt_lt, e3, e2] at h
  omega
theorem krS_succ {g : gG} {M : Mp} {x mo o n : Nat} (h : krS g M x mo o n) : krS g M x mo o (n + 1) := by
  obtain ⟨f, ad, sc, ar, h1, h2⟩ := h
  exact ⟨f, ad, sc, ar, h1, krN_le h2 (Nat.le_succ n)⟩
set_option maxHeartbeats 4000000 in
set_option maxRecDepth 100000 in
theorem k_loop {p : Program} {l : Launch} {e : Env} {s : State} {m : MethodId} {below : List Frame} {meth : Method} {c : Code} {b L : Nat} {xs : Nat → Int32} {g : gG} {x mo o : Nat} (hlx : l.stackTraces = false) (hC : kcx p m c s b L xs g) (hg : g.1 = s.heap.size) (hr : meth.sig.returnType = ret) (hlocks : meth.locks = false) : ∀ (fu n : Nat), 513 ≤ n + fu → 5 * n ≤ L → ∀ (M : Mp) (H : Heap) (locs : List Loc) (ls : Array Slot), krS g M x mo o n → Hw g M H → va_S (gA g) s.heap H locs → lv_has ls 7 [(4, .int (nI (5 * n))), (3, .ref o), (2, .ref mo), (1, .ref x), (0, .ref b)] → W p l e room_1 s m #[Value.ref b] below meth c H locs (58 + 6 * n) (711 + 230 * n) (lw_Z below #[Value.ref b] s) (F0 m 23 ls []) := by
  intro fu
  induction fu with
  | zero =>
    intro n h1 h2
    exact absurd h2 (by have := hC.2.2.2.2.2; omega)
  | succ fu ih =>
    intro n h1 h2 M H locs ls hLS hH hS hl
    obtain ⟨C, hE, hX, hbl, hbA, hL⟩ := id hC
    refine lv_iload C.1 C.2.1 dL_law_23 (lv_at hl 0 rfl) ?_
    refine lv_aload_n C.1 C.2.1 dL_law_25 rfl (lv_at hl 4 rfl) ?_
    refine va_slen C.1 C.2.1 hX hbl hbA hS dL_law_26 ?_
    refine lv_iconst (v := 5) C.1 C.2.1 dL_law_27 rfl ?_
    refine lv_isub C.1 C.2.1 dL_law_28 ?_
    refine lv_icmp_gt (tgt := 1498) C.1 C.2.1 dL_law_29 (by decide) (fun q => ?_) (fun q => ?_)
    · refine lv_iconst (v := 1) C.1 C.2.1 dL_law_1498 rfl ?_
      refine va_forget (fun z hz => by rw [← hg]; exact hS.2.2 z hz) ?_
      refine W.widen (k := 601024) (n := 7293033) (by omega) (by omega) ?_
      exact lw_ret C.1 C.2.1 hr hlocks dL_law_1499
    · have hj : 5 * n + 5 ≤ L := klim hL (by omega) q
      have back : ∀ (M' : Mp) (H' : Heap) (locs' : List Loc) (ls' : Array Slot), krS g M' x mo o (n + 1) → Hw g M' H' → va_S (gA g) s.heap H' locs' → lv_has ls' 7 [(4, .int (nI (5 * n))), (3, .ref o), (2, .ref mo), (1, .ref x), (0, .ref b)] → W p l e room_1 s m #[Value.ref b] below meth c H' locs' (58 + 6 * n + 6) (711 + 230 * n + 230) (lw_Z below #[Value.ref b] s) (F0 m 1492 ls' []) := by
        intro M' H' locs' ls' z1 z2 z3 z4
        refine lv_iinc (v := nI (5 * (n + 1))) (lv' := [(4, .int (nI (5 * (n + 1)))), (3, .ref o), (2, .ref mo), (1, .ref x), (0, .ref b)]) C.1 C.2.1 dL_law_1492 z4 (k := 0) rfl (by rw [show 5 * (n + 1) = 5 * n + 5 by omega, nI_a]; rfl) (by decide) rfl (fun ls2 hl2 => ?_)
        refine lv_goto (tgt := 23) C.1 C.2.1 dL_law_1495 (by decide) ?_
        have z := ih (n + 1) (by omega) (by omega) M' H' locs' ls2 z1 z2 z3 hl2
        rw [show 58 + 6 * (n + 1) = 58 + 6 * n + 6 by omega, show 711 + 230 * (n + 1) = 711 + 230 * n + 230 by omega] at z
        exact z
      refine lv_aload_n C.1 C.2.1 dL_law_32 rfl (lv_at hl 4 rfl) ?_
      refine lv_iload C.1 C.2.1 dL_law_33 (lv_at hl 0 rfl) ?_
      refine va_sld C.1 C.2.1 hX hbl hbA hS (vp_in_nI (show 5 * n < L by omega) (by omega)) dL_law_35 ?_
      refine lv_bipush (v := 31) C.1 C.2.1 dL_law_36 rfl ?_
      refine lv_iand C.1 C.2.1 dL_law_38 ?_
      obtain ⟨v, ev⟩ : ∃ z, z = xs (nI (5 * n)).toNatClampNeg &&& 31 := ⟨_, rfl⟩
      rw [← ev]
      have hv : 0 ≤ v.toInt ∧ v.toInt ≤ 31 := by rw [ev]; exact kand _
      by_cases hd : 19 < v.toInt
      · refine lv_tableOut (tgt := 1492) C.1 C.2.1 dL_law_39 (Or.inr hd) (by decide) ?_
        refine W.widen (k := 58 + 6 * n + 6) (n := 711 + 230 * n + 230) (by omega) (by omega) ?_
        exact back M H locs ls (krS_succ hLS) hH hS hl
      · rcases (show v.toInt = 0 ∨ v.toInt = 1 ∨ v.toInt = 2 ∨ v.toInt = 3 ∨ v.toInt = 4 ∨ v.toInt = 5 ∨ v.toInt = 6 ∨ v.toInt = 7 ∨ v.toInt = 8 ∨ v.toInt = 9 ∨ v.toInt = 10 ∨ v.toInt = 11 ∨ v.toInt = 12 ∨ v.toInt = 13 ∨ v.toInt = 14 ∨ v.toInt = 15 ∨ v.toInt = 16 ∨ v.toInt = 17 ∨ v.toInt = 18 ∨ v.toInt = 19 by omega) with q | q | q | q | q | q | q | q | q | q | q | q | q | q | q | q | q | q | q | q
        · exact lv_tableIn (tgt := 132) (off := 93) C.1 C.2.1 dL_law_39 (by omega) (by omega) (by rw [q]; rfl) (by decide) (k_entry hlx hC hLS (by omega) hj (by omega) (by omega) hH hS hl back)
        · exact lv_tableIn (tgt := 212) (off := 173) C.1 C.2.1 dL_law_39 (by omega) (by omega) (by rw [q]; rfl) (by decide) (k_water hlx hC hLS (by omega) hj (by omega) (by omega) hH hS hl back)
        · exact lv_tableIn (tgt := 280) (off := 241) C.1 C.2.1 dL_law_39 (by omega) (by omega) (by rw [q]; rfl) (by decide) (k_yarn hlx hC hLS (by omega) hj (by omega) (by omega) hH hS hl back)
        · exact lv_tableIn (tgt := 360) (off := 321) C.1 C.2.1 dL_law_39 (by omega) (by omega) (by rw [q]; rfl) (by decide) (k_apart hlx hC hLS (by omega) hj (by omega) (by omega) hH hS hl back)
        · exact lv_tableIn (tgt := 428) (off := 389) C.1 C.2.1 dL_law_39 (by omega) (by omega) (by rw [q]; rfl) (by decide) (k_bath hlx hC hLS (by omega) hj (by omega) (by omega) hH hS hl back)
        · exact lv_tableIn (tgt := 496) (off := 457) C.1 C.2.1 dL_law_39 (by omega) (by omega) (by rw [q]; rfl) (by decide) (k_freshen hlx hC hLS (by omega) hj (by omega) (by omega) hH hS hl back)
        · exact lv_tableIn (tgt := 552) (off := 513) C.1 C.2.1 dL_law_39 (by omega) (by omega) (by rw [q]; rfl) (by decide) (k_strength hlx hC hLS (by omega) hj (by omega) (by omega) hH hS hl back)
        · exact lv_tableIn (tgt := 608) (off := 569) C.1 C.2.1 dL_law_39 (by omega) (by omega) (by rw [q]; rfl) (by decide) (k_order hlx hC hLS (by omega) hj (by omega) (by omega) hH hS hl back)
        · exact lv_tableIn (tgt := 688) (off := 649) C.1 C.2.1 dL_law_39 (by omega) (by omega) (by rw [q]; rfl) (by decide) (k_place hlx hC hLS (by omega) hj (by omega) (by omega) hH hS hl back)
        · exact lv_tableIn (tgt := 744) (off := 705) C.1 C.2.1 dL_law_39 (by omega) (by omega) (by rw [q]; rfl) (by decide) (k_dye hlx hC hLS (by omega) hj (by omega) (by omega) hH hS hl back)
        · exact lv_tableIn (tgt := 812) (off := 773) C.1 C.2.1 dL_law_39 (by omega) (by omega) (by rw [q]; rfl) (by decide) (k_claim hlx hC hLS (by omega) hj (by omega) (by omega) hH hS hl back)
        · exact lv_tableIn (tgt := 868) (off := 829) C.1 C.2.1 dL_law_39 (by omega) (by omega) (by rw [q]; rfl) (by decide) (k_stateOf hlx hC hLS (by omega) hj (by omega) (by omega) hH hS hl back)
        · exact lv_tableIn (tgt := 924) (off := 885) C.1 C.2.1 dL_law_39 (by omega) (by omega) (by rw [q]; rfl) (by decide) (k_colour hlx hC hLS (by omega) hj (by omega) (by omega) hH hS hl back)
        · exact lv_tableIn (tgt := 992) (off := 953) C.1 C.2.1 dL_law_39 (by omega) (by omega) (by rw [q]; rfl) (by decide) (k_colourByBath hlx hC hLS (by omega) hj (by omega) (by omega) hH hS hl back)
        · exact lv_tableIn (tgt := 1060) (off := 1021) C.1 C.2.1 dL_law_39 (by omega) (by omega) (by rw [q]; rfl) (by decide) (k_blamed hlx hC hLS (by omega) hj (by omega) (by omega) hH hS hl back)
        · exact lv_tableIn (tgt := 1128) (off := 1089) C.1 C.2.1 dL_law_39 (by omega) (by omega) (by rw [q]; rfl) (by decide) (k_shrinks hlx hC hLS (by omega) hj (by omega) (by omega) hH hS hl back)
        · exact lv_tableIn (tgt := 1196) (off := 1157) C.1 C.2.1 dL_law_39 (by omega) (by omega) (by rw [q]; rfl) (by decide) (k_give hlx hC hLS (by omega) hj (by omega) (by omega) hH hS hl back)
        · exact lv_tableIn (tgt := 1288) (off := 1249) C.1 C.2.1 dL_law_39 (by omega) (by omega) (by rw [q]; rfl) (by decide) (k_owes hlx hC hLS (by omega) hj (by omega) (by omega) hH hS hl back)
        · exact lv_tableIn (tgt := 1368) (off := 1329) C.1 C.2.1 dL_law_39 (by omega) (by omega) (by rw [q]; rfl) (by decide) (k_position hlx hC hLS (by omega) hj (by omega) (by omega) hH hS hl back)
        · exact lv_tableIn (tgt := 1436) (off := 1397) C.1 C.2.1 dL_law_39 (by omega) (by omega) (by rw [q]; rfl) (by decide) (k_net hlx hC hLS (by omega) hj (by omega) (by omega) hH hS hl back)
