/-! THE LAW: CELL, over the script -/
def Wx (g : gG) (M : Mp) (b L : Nat) (xs : Nat → Int32) (U : State) : Prop := Wd g M U ∧ va_X b L xs U U.heap
def Wxc (g : gG) (M : Mp) (b L : Nat) (xs : Nat → Int32) (av : List Value) : Array Value → State → Prop := va_Pc av (Wx g M b L xs)
theorem Wxc_blind {g : gG} {M : Mp} {b L : Nat} {xs : Nat → Int32} {av : List Value} : FrameBlind (Wxc g M b L xs av) := fun _ _ _ _ h => ⟨h.1, ⟨gE_blind h.2.1.1, h.2.1.2⟩, h.2.2⟩
theorem Wxc_at {g : gG} {M : Mp} {s : State} {H : Heap} {locs : List Loc} {b L : Nat} {xs : Nat → Int32} (hE : gE g s) (hH : Hw g M H) (hS : va_S (gA g) s.heap H locs) (hX : va_X b L xs s s.heap) (hbl : b < s.heap.size) (hbA : ¬ gA g b) (av : List Value) : ∀ U : State, U.heap = H → s.WarmedH U.vm → Wxc g M b L xs av av.toArray U := fun U hU hW => ⟨rfl, ⟨gE_warm hE hW (by rw [hU]; exact hS.1) (fun q h1 h2 => by rw [hU]; exact hS.2.1 q h1 h2), by rw [hU]; exact hH⟩, by rw [hU]; exact (hX.moved hW.alike).kept (hS.2.1 b hbl hbA)⟩
def zcell (L : Nat) (xs : Nat → Int32) (k : Nat) : Int32 := if L ≤ k then ((((668265263 : Int64) * (nI k + 109).toInt64).toUInt64 >>> ((4 : Int32).toInt64.toUInt64 &&& Int64.toUInt64 63)).toInt64).toInt32 else xs k
set_option maxHeartbeats 4000000 in
theorem c_cell {l : Launch} {g : gG} {M : Mp} {b L : Nat} {xs : Nat → Int32} {k : Nat} (hk : k < 1000) (hL : L < 2 ^ 31) (hbg : b < g.1) : Met l yL_cell (WY yL_cell cL_cell 2 (some .int)) { frames := 0, cells := 0, slots := 0, locals := 0 } (Wxc g M b L xs [.ref b, .int (nI k)]) (rdQ (some (.int (zcell L xs k)))) 0 0 fr0 := by
  refine Met.ofW (cc := cL_cell) (maxL := 2) (ret := some .int) (by decide +kernel) rfl ?_
  intro p e s m args below meth c s₁ B hml hv
  obtain ⟨rfl, ⟨hE, hH⟩, hX⟩ := hv
  have hts := atoms_spec (ws := WY yL_cell cL_cell 2 (some .int)) B.pre
  have C : CallFix p m c cL_cell 2 s [Value.ref b, .int (nI k)].toArray WA "DyeRingLaw" := ⟨B.exec, B.bytes, hml, findClass_of_methodNamed B.named, fun w h => hts w (List.mem_cons_of_mem _ h)⟩
  have hr := B.returns
  have hlocks := B.notSynchronized
  have hl := lv_entry ([.ref b, .int (nI k)]) (n := 2) (Nat.le_of_ble_eq_true rfl)
  rw [lg_entry_eq]
  generalize (lg_sl ([.ref b, .int (nI k)]) ++ List.replicate (2 - (lg_sl ([.ref b, .int (nI k)])).length) Slot.unset).toArray = ls at hl ⊢
  have hl : lv_has ls 2 [(0, .ref b), (1, .int (nI k))] := hl
  have hS : va_S (gA g) s.heap s.heap [] := va_S.rf
  have hbl : b < s.heap.size := by
    obtain ⟨scr, h1, -⟩ := hX
    exact (Array.getElem?_eq_some_iff.mp h1).1
  have hbA : ¬ gA g b := by
    show ¬ g.1 ≤ b
    omega
  refine lv_iload_n C.1 C.2.1 dL_cell_0 rfl (lv_at hl 1 rfl) ?_
  refine lv_aload_n C.1 C.2.1 dL_cell_1 rfl (lv_at hl 0 rfl) ?_
  refine va_slen C.1 C.2.1 hX hbl hbA hS dL_cell_2 ?_
  refine lv_icmp_ge (tgt := 12) C.1 C.2.1 dL_cell_3 (by decide) (fun c3 => ?_) (fun c3 => ?_)
  · have n3 : L ≤ k := (nI_leI (a := L) (b := k) hL (by omega)).mp c3
    refine lv_ldc2 (v := 668265263) C.1 C.2.1 C.2.2.2.1 (C.2.2.2.2 _ wm_120) dL_cell_12 ?_
    refine lv_iload_n C.1 C.2.1 dL_cell_15 rfl (lv_at hl 1 rfl) ?_
    refine lv_bipush (v := 109) C.1 C.2.1 dL_cell_16 rfl ?_
    refine lv_iadd C.1 C.2.1 dL_cell_18 ?_
    refine lv_i2l C.1 C.2.1 dL_cell_19 rfl ?_
    refine lv_lmul C.1 C.2.1 dL_cell_20 ?_
    refine lv_iconst (v := 4) C.1 C.2.1 dL_cell_21 rfl ?_
    refine lv_lushr C.1 C.2.1 dL_cell_22 rfl ?_
    refine lv_l2i C.1 C.2.1 dL_cell_23 rfl ?_
    exact rd_iret C hr hlocks (if_pos n3).symm dL_cell_24
  · have n3 : ¬ L ≤ k := fun z => c3 ((nI_leI (a := L) (b := k) hL (by omega)).mpr z)
    refine lv_aload_n C.1 C.2.1 dL_cell_6 rfl (lv_at hl 0 rfl) ?_
    refine lv_iload_n C.1 C.2.1 dL_cell_7 rfl (lv_at hl 1 rfl) ?_
    refine va_sld C.1 C.2.1 hX hbl hbA hS (vp_in_nI (show k < L by omega) hL) dL_cell_8 ?_
    refine lv_goto (tgt := 24) C.1 C.2.1 dL_cell_9 (by decide) ?_
    exact rd_iret C hr hlocks (by rw [nI_clamp (by omega)]; exact (if_neg n3).symm) dL_cell_24
section RSX
variable {p : Program} {l : Launch} {e : Env} {R : Room} {s : State} {m : MethodId} {args : Array Value} {below : List Frame} {meth : Method} {c : Code} {H : Heap} {locs : List Loc} {cells slots : Nat}
variable {cc bytes : ByteArray} {nL maxL n idx : Nat} {own : String} {pc : Nat} {ls : Array Slot} {rest st0 As : List Value} {g : gG} {M : Mp} {y : MethodName} {ret : Option FieldType} {rm : Room} {mc ms b L : Nat} {xs : Nat → Int32}
theorem runSx {Qc : Array Value → State → Outcome → State → Prop} {free : Addr → Prop} (C : CallFix p m c cc nL s args WA own) (hE : gE g s) (hH : Hw g M H) (hS : va_S (gA g) s.heap H locs) (hX : va_X b L xs s s.heap) (hbl : b < s.heap.size) (hbA : ¬ gA g b) (hM : Met l y (WY y bytes maxL ret) rm (Wxc g M b L xs As) Qc mc ms free) (B : MVs y bytes maxL ret n) (h1 : Cond.methodLink own idx y ∈ WA) (hsz : ls.size = nL) (hdg : decode cc pc = .ok (.invokestatic idx, 3)) (hn : As.length = n) (hst : st0 = As.reverse ++ rest) (hrm : rm.cells = mc ∧ rm.slots = ms) (hR : RmOk rm R maxL) (hW : (rest.map fun v => v.category).sum ≤ 8) (hf : cells + mc ≤ R.cells ∧ slots + ms ≤ R.slots) : va_Run p l e R s m args below meth c H locs cells slots mc ms (F0 m pc ls st0) rest (Qc As.toArray) free := by
  obtain ⟨b1, b2, b3, b4⟩ := B
  exact va_runS C hM (va_cwS n C.2.2.2.2 (gi_S h1 b4 b3 (goodIn_c b1)) rfl hrm.1 hrm.2 b2 hR) ⟨Wxc_blind, Wxc_at hE hH hS hX hbl hbA As⟩ rfl hn hsz hst (lv_room hW) hdg hf
end RSX
