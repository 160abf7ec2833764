section
/-! my own: what the printed rows below name and neither the kit nor they declare -/
def va_AOA (ty : FieldType) (U : State) : Prop := (Cond.arrayOver (.array ty)).before #[] U = true
theorem va_AOA.of {ty : FieldType} {A : Array Value} {U : State} (h : (Cond.arrayOver (.array ty)).before A U = true) : va_AOA ty U := h
theorem va_AOA.use {ty : FieldType} {A : Array Value} {U : State} (h : va_AOA ty U) : (Cond.arrayOver (.array ty)).before A U = true := h
/-! ===== BEGIN words of one list among another's, by their places ===== -/
theorem goodIn_r {big : List Cond} (ws : List Cond) (ps : List Nat) (hp : ws = ps.filterMap (fun i => big[i]?)) (h : ws.all goodWord = true) : GoodIn big ws := by
  intro w hw
  have h1 := List.all_eq_true.mp h w hw
  rw [hp] at hw
  obtain ⟨i, -, hi⟩ := List.mem_filterMap.mp hw
  have hm : w ∈ big := by first | exact List.mem_of_getElem? hi | exact List.getElem?_mem hi
  exact ⟨hm, good_of_word h1⟩
theorem goodIn_app {big a b : List Cond} (ha : GoodIn big a) (hb : GoodIn big b) : GoodIn big (a ++ b) := fun w h => (List.mem_append.mp h).elim (ha w) (hb w)
theorem goodIn_ca {big a b : List Cond} {c : Cond} (ha : GoodIn big (c :: a)) (hb : GoodIn big b) : GoodIn big (c :: (a ++ b)) := fun w h => (List.mem_cons.mp h).elim (fun e => ha w (List.mem_cons.mpr (Or.inl e))) (fun h => (List.mem_append.mp h).elim (fun h => ha w (List.mem_cons.mpr (Or.inr h))) (hb w))
theorem goodIn_sub {big ws : List Cond} (hm : ∀ w ∈ ws, w ∈ big) (h : ws.all goodWord = true) : GoodIn big ws := fun w hw => ⟨hm w hw, good_of_word (List.all_eq_true.mp h w hw)⟩
/-! ===== END ===== -/

/-! ===== BEGIN new T[n][m]: the outer array a place, the inner ones among the pooled ===== -/
/-- f, but v at every address of l -/
def vr_up {α : Type} (f : Nat → α) (l : List Nat) (v : α) : Nat → α := fun a => if a ∈ l then v else f a
theorem vr_up_in {α : Type} {f : Nat → α} {l : List Nat} {v : α} {a : Nat} (h : a ∈ l) : vr_up f l v a = v := if_pos h
theorem vr_up_ne {α : Type} {f : Nat → α} {l : List Nat} {v : α} {a : Nat} (h : a ∉ l) : vr_up f l v a = f a := if_neg h
theorem vr_rows {L l : List Nat} {f : Nat → va_E} {e : va_E} (h : ∀ a, a ∈ l → a ∉ L) : va_pl L f ++ l.map (fun a => (a, e)) = va_pl (L ++ l) (vr_up f l e) := by
  unfold va_pl
  rw [List.map_append]
  congr 1
  · apply List.map_congr_left
    intro a ha
    rw [vr_up_ne (fun q => h a q ha)]
  · apply List.map_congr_left
    intro a ha
    rw [vr_up_in ha]
theorem vr_lay {X rows : va_W} {x : Nat × va_E} {pl : va_W} {D : va_G} {cl : List vw_C} {H : Heap} (hP : va_P D cl (((X ++ pl) ++ [x]) ++ rows) H) : va_P D cl ((X ++ [x]) ++ (pl ++ rows)) H := by
  rw [List.append_assoc (X ++ pl)] at hP
  have h := va_P.swap hP
  rw [← List.append_assoc X] at h
  have h2 := va_P.swap h
  rw [List.append_assoc (X ++ [x])] at h2
  exact h2
theorem vr_layD {X rows : va_W} {x : Nat × va_E} {pl : va_W} {A : Nat → Prop} (hD : va_D A (((X ++ pl) ++ [x]) ++ rows)) : va_D A ((X ++ [x]) ++ (pl ++ rows)) := by
  rw [List.append_assoc (X ++ pl)] at hD
  have h := va_D.swap hD
  rw [← List.append_assoc X] at h
  have h2 := va_D.swap h
  rw [List.append_assoc (X ++ [x])] at h2
  exact h2
theorem vr_outer (c : ClassId) (N h0 : Nat) : ∀ i : Nat, Jvm.Free.Multi.outerC c N h0 i = arrV c N (fun j => va_rf (if j < i then some (h0 + 1 + j) else none))
  | 0 => by
    show ({ cls := c, slots := Array.replicate N .null, vm := .none } : Cell) = _
    rw [arrV_new]
    refine congrArg (arrV c N) (funext fun j => ?_)
    simp [va_rf]
  | i + 1 => by
    show (Jvm.Free.Multi.outerC c N h0 i).setSlot i (.ref (h0 + 1 + i)) = _
    rw [vr_outer c N h0 i, arrV_store]
    refine congrArg (arrV c N) (funext fun j => ?_)
    by_cases e : j = i
    · subst e
      simp [updV, va_rf]
    · by_cases h : j < i
      · simp [updV, e, h, Nat.lt_succ_of_lt h]
      · simp [updV, e, h, show ¬ j < i + 1 by omega]
section VGM
variable {p : Program} {l : Launch} {e : Env} {R : Room} {s : State} {m : MethodId} {args : Array Value} {below : List Frame} {meth : Method} {c : Code} {H : Heap} {locs : List Loc} {cells slots : Nat} {Q : State → Prop}
variable {cc : ByteArray} {pc : Nat} {ls : Array Slot} {rest : List Value} {D : va_G} {cl : List vw_C} {A : Nat → Prop} {a : Nat} {tys : List (ClassId × FieldType)} {ws : va_W} {H0 : Heap}
theorem va_mna {X : va_W} {L : List Nat} {f : Nat → va_E} {cc : ByteArray} (hexec : p.tables.exec = Jvm.exec) (hb : c.code = cc) {own : String} {index : Nat} {ty : FieldType} {cy : ClassId} (hown : s.vm.findClass own = some m.cls) (hclink : (Cond.classLink own index ("[" ++ (FieldType.array ty).toString)).before args s = true) (hover : va_AOA ty s) (harr : (Cond.arrayClass ty).before args s = true) (hcy : s.vm.findClass (FieldType.array ty).toString = some cy)
    (hK : va_K D cl tys s) (hP : va_P D cl (X ++ va_pl L f) H) (hD : va_D A (X ++ va_pl L f)) (hS : va_S A H0 H locs) (hA : ∀ q, H0.size ≤ q → A q) {n k : Int32} {N' K' : Nat} {z : vp_A} (hn : ¬ n < 0) (hk : ¬ k < 0) (hN : n.toNatClampNeg = N') (hM : k.toNatClampNeg = K')
    (hb1 : N' * 4 ≤ 536870912) (hb2 : K' * componentBytes ty ≤ 536870912) (hb3 : K' ≤ 536870912) (hdf : fits ty (defaultValue ty) = true) (hdd : (defaultValue ty).isDefault = true) (hcells : cells + (1 + N') ≤ R.cells) (hslots : slots + (N' + N' * K') ≤ R.slots) (hz : ∀ c : ClassId, Jvm.Free.Multi.innerC c K' (defaultValue ty) = vp_cell c z) (hdg : decode cc pc = .ok (.multianewarray index 2, 4))
    (kk : ∀ (q : Nat) (r : Nat → Nat) (cA : ClassId) (H1 : Heap), (∀ i j : Nat, i < N' → j < N' → r i = r j → i = j) → (∀ i : Nat, i < N' → r i ∉ L) → va_K D cl (tys ++ [(cA, .array ty)]) s →
      va_P D cl ((X ++ [(q, .inl (cA, N', .inr (.inr (.inr (.inr (fun i => if i < N' then some (r i) else none))))))]) ++ va_pl (L ++ (List.range N').map r) (vr_up f ((List.range N').map r) (.inl (cy, z)))) H1 → va_D A ((X ++ [(q, .inl (cA, N', .inr (.inr (.inr (.inr (fun i => if i < N' then some (r i) else none))))))]) ++ va_pl (L ++ (List.range N').map r) (vr_up f ((List.range N').map r) (.inl (cy, z)))) → va_S A H0 H1 locs →
      W p l e R s m args below meth c H1 locs (cells + 1 + N') (slots + N' + N' * K') Q (F0 m (pc + 4) ls (.ref q :: rest))) : W p l e R s m args below meth c H locs cells slots Q (F0 m pc ls (.int k :: .int n :: rest)) := by
  subst hN
  subst hM
  intro T hT Xs
  obtain ⟨vm₁, cA, comp, -, fA, fC, hO, -, X', step⟩ := Xs.multianewarray2F hexec hown hclink (va_AOA.use hover) harr (g := F0 m pc ls (.int k :: .int n :: rest)) rfl (by rw [hb]; exact hdg) rfl hn hk hb1 hb2 hb3 hdf hdd hcells hslots
  have ec : some cy = some comp := hcy.symm.trans fC
  cases ec
  generalize hF : Jvm.Free.Multi.fill (T.setVm vm₁) cA cy n.toNatClampNeg k.toNatClampNeg (defaultValue ty) n.toNatClampNeg = F at X' step
  have hTh : (T.setVm vm₁).heap = H := hT
  obtain ⟨f1, f2, -, -⟩ := Jvm.Free.Multi.fill_facts (T.setVm vm₁) cA cy n.toNatClampNeg k.toNatClampNeg (defaultValue ty) n.toNatClampNeg
  rw [hF, hTh] at f1 f2
  have hold : ∀ x : Nat, x < H.size → F.heap[x]? = H[x]? := fun x hx => by
    have := Jvm.Free.Multi.fill_old (T.setVm vm₁) cA cy n.toNatClampNeg k.toNatClampNeg (defaultValue ty) (a := x) (by rw [hTh]; exact hx) n.toNatClampNeg
    rw [hF, hTh] at this
    exact this
  have hrow : ∀ j : Nat, j < n.toNatClampNeg → F.heap[H.size + 1 + j]? = some (vp_cell cy z) := fun j hj => by
    have := Jvm.Free.Multi.fill_inner (T.setVm vm₁) cA cy n.toNatClampNeg k.toNatClampNeg (defaultValue ty) n.toNatClampNeg j hj
    rw [hF, hTh, hz] at this
    exact this
  have hout : Jvm.Free.Multi.outerC cA n.toNatClampNeg H.size n.toNatClampNeg = vp_cell cA (n.toNatClampNeg, .inr (.inr (.inr (.inr (fun i => if i < n.toNatClampNeg then some (H.size + 1 + i) else none))))) := by
    rw [vp_cell_q]
    exact vr_outer cA n.toNatClampNeg H.size n.toNatClampNeg
  rw [hout] at f2
  have hlt : ∀ a, a ∈ L → a < H.size := fun a ha => by
    obtain ⟨k9, hk9⟩ := va_pl_get (X := X) (f := f) ha
    exact (hP k9 _ hk9).lt
  have hnl : ∀ i : Nat, i < n.toNatClampNeg → H.size + 1 + i ∉ L := fun i _ h => by
    have := hlt _ h
    omega
  have hnm : ∀ a, a ∈ (List.range n.toNatClampNeg).map (fun i => H.size + 1 + i) → a ∉ L := fun a ha h => by
    obtain ⟨i, -, rfl⟩ := List.mem_map.mp ha
    have := hlt _ h
    omega
  have hP0 : va_P D cl (X ++ va_pl L f) F.heap := hP.kept (fun k9 x hx => hold x.1 ((hP k9 x hx).lt))
  have hP1 : va_P D cl ((X ++ va_pl L f) ++ [(H.size, .inl (cA, n.toNatClampNeg, .inr (.inr (.inr (.inr (fun i => if i < n.toNatClampNeg then some (H.size + 1 + i) else none))))))]) F.heap := hP0.app (fun k9 x hx => by
    have h0 : k9 < 1 := (List.getElem?_eq_some_iff.mp hx).1
    rw [show k9 = 0 by omega] at hx
    cases hx
    exact f2)
  have hP2 : va_P D cl (((X ++ va_pl L f) ++ [(H.size, .inl (cA, n.toNatClampNeg, .inr (.inr (.inr (.inr (fun i => if i < n.toNatClampNeg then some (H.size + 1 + i) else none))))))]) ++ ((List.range n.toNatClampNeg).map (fun i => H.size + 1 + i)).map (fun a => (a, .inl (cy, z)))) F.heap := hP1.app (fun k9 x hx => by
    obtain ⟨a, ha, rfl⟩ := List.mem_map.mp (List.mem_of_getElem? hx)
    obtain ⟨i, hi, rfl⟩ := List.mem_map.mp ha
    exact hrow i (List.mem_range.mp hi))
  have hD2 : va_D A (((X ++ va_pl L f) ++ [(H.size, .inl (cA, n.toNatClampNeg, .inr (.inr (.inr (.inr (fun i => if i < n.toNatClampNeg then some (H.size + 1 + i) else none))))))]) ++ ((List.range n.toNatClampNeg).map (fun i => H.size + 1 + i)).map (fun a => (a, .inl (cy, z)))) := by
    have hD1 := hD.push (e := .inl (cA, n.toNatClampNeg, .inr (.inr (.inr (.inr (fun i => if i < n.toNatClampNeg then some (H.size + 1 + i) else none)))))) hP rfl (hA _ hS.1)
    generalize hW1 : (X ++ va_pl L f) ++ [(H.size, .inl (cA, n.toNatClampNeg, .inr (.inr (.inr (.inr (fun i => if i < n.toNatClampNeg then some (H.size + 1 + i) else none))))))] = W1 at hD1 hP1 ⊢
    have hle : ∀ (k9 : Nat) (x : Nat × va_E), W1[k9]? = some x → x.1 ≤ H.size := fun k9 x hx => by
      rw [← hW1] at hx
      by_cases hl : k9 < (X ++ va_pl L f).length
      · rw [List.getElem?_append_left hl] at hx
        exact Nat.le_of_lt ((hP k9 x hx).lt)
      · rw [List.getElem?_append_right (by omega)] at hx
        have h0 : k9 - (X ++ va_pl L f).length < 1 := (List.getElem?_eq_some_iff.mp hx).1
        rw [show k9 - (X ++ va_pl L f).length = 0 by omega] at hx
        cases hx
        exact Nat.le_refl _
    have hr : ∀ (k9 : Nat) (x : Nat × va_E), (((List.range n.toNatClampNeg).map (fun i => H.size + 1 + i)).map (fun a => ((a, .inl (cy, z)) : Nat × va_E)))[k9]? = some x → x.1 = H.size + 1 + k9 := fun k9 x hx => by
      rw [List.getElem?_map, List.getElem?_map] at hx
      by_cases h9 : k9 < n.toNatClampNeg
      · rw [List.getElem?_range h9] at hx
        cases hx
        rfl
      · have hn0 : (List.range n.toNatClampNeg)[k9]? = none := List.getElem?_eq_none (by rw [List.length_range]; omega)
        rw [hn0] at hx
        cases hx
    refine ⟨fun i j x y hi hj hxy => ?_, fun k9 x hx => ?_⟩
    · by_cases h1 : i < W1.length <;> by_cases h2 : j < W1.length
      · rw [List.getElem?_append_left h1] at hi
        rw [List.getElem?_append_left h2] at hj
        exact hD1.1 i j x y hi hj hxy
      · rw [List.getElem?_append_left h1] at hi
        rw [List.getElem?_append_right (by omega)] at hj
        have := hle _ _ hi
        have := hr _ _ hj
        omega
      · rw [List.getElem?_append_right (by omega)] at hi
        rw [List.getElem?_append_left h2] at hj
        have := hle _ _ hj
        have := hr _ _ hi
        omega
      · rw [List.getElem?_append_right (by omega)] at hi hj
        have := hr _ _ hi
        have := hr _ _ hj
        omega
    · by_cases h1 : k9 < W1.length
      · rw [List.getElem?_append_left h1] at hx
        exact hD1.2 k9 x hx
      · rw [List.getElem?_append_right (by omega)] at hx
        have := hr _ _ hx
        exact hA _ (by have := hS.1; omega)
  have hAr : ArrOfT s cA (.array ty) := fun N9 z9 => by
    obtain ⟨-, k9, hk9, cm9, hkk9⟩ := (hO 0 0 0).1
    exact ⟨(fun q hq => by cases hq), k9, hk9, cm9, hkk9⟩
  have hK2 : va_K D cl (tys ++ [(cA, .array ty)]) s := ⟨hK.1, fun k9 x hx => by
    by_cases hl : k9 < tys.length
    · rw [List.getElem?_append_left hl] at hx
      exact hK.2 k9 x hx
    · rw [List.getElem?_append_right (by omega)] at hx
      have h0 : k9 - tys.length < 1 := (List.getElem?_eq_some_iff.mp hx).1
      rw [show k9 - tys.length = 0 by omega] at hx
      cases hx
      exact ⟨hAr, fA⟩⟩
  obtain ⟨t, a1, b1⟩ := kk H.size (fun i => H.size + 1 + i) cA F.heap (fun i j _ _ h => by have h9 : H.size + 1 + i = H.size + 1 + j := h; omega) hnl hK2 (by rw [← vr_rows hnm]; exact vr_lay hP2) (by rw [← vr_rows hnm]; exact vr_layD hD2) ⟨by rw [f1]; have := hS.1; omega, fun x h1 h2 => (hold x (Nat.lt_of_lt_of_le h1 hS.1)).trans (hS.2.1 x h1 h2), hS.2.2⟩ F rfl X'
  refine ⟨t, step t ?_, b1⟩
  have e : T.heap.size = H.size := by rw [hT]
  rw [e]
  exact a1
end VGM
/-! ===== END ===== -/

/-! ===== BEGIN exceptions that leave a method, and their catching by the caller (launches without stack traces) ===== -/
section VXA
/-! The laws vx_back, vx_callV, vx_callS, vx_callSW, vx_throw0, vx_throwS follow proofs of the library, with one case more: JvmDerived/Free/Laws.lean (Back.of_free), Shelf42/LK1.lean (callV, callS), Shelf/KitTraced.lean (throwNew0V, throwNewS). -/
/-- where a method has thrown q: the class by its name, the cell, what was written, the world -/
def vx_T (XC : String → State → State → Prop) (st : State) (q : Addr) (t : State) (mc ms : Nat) (free : Addr → Prop) : Prop :=
  ∃ (E : String) (ce : Cell) (L : List Loc), XC E st t ∧ t.heap[q]? = some ce ∧ ce.vm = .none ∧ st.vm.findClass E = some ce.cls ∧ st.WarmedH t.vm ∧ st.sameButNew ({ t with vm := st.vm } : State) L mc ms ∧ ∀ z ∈ L, free z.base
def vx_Q (Qc : Array Value → State → Outcome → State → Prop) (XC : String → State → State → Prop) (mc ms : Nat) (free : Addr → Prop) : Array Value → State → Outcome → State → Prop := fun a st o t =>
  (Qc a st o t ∧ ∃ L, FrameEnd st o t L mc ms ∧ ∀ q ∈ L, free q.base) ∨ ∃ q, o = .threw q ∧ vx_T XC st q t mc ms free
/-- a callee that returns or throws -/
def vx_Met (l : Launch) (y : MethodName) (ws : List Cond) (rm : Room) (Pc : Array Value → State → Prop) (Qc : Array Value → State → Outcome → State → Prop) (XC : String → State → State → Prop) (mc ms : Nat) (free : Addr → Prop) : Prop :=
  MetFree l y (headSpec ws rm) Pc (fun _ _ _ _ _ => True) (vx_Q Qc XC mc ms free)
def vx_Post (XC : String → State → State → Prop) (mc ms : Nat) (free : Addr → Prop) : Pt → Array Value → Addr → Pt → Prop := fun A a q B =>
  ∃ (g : JFrame) (mk : MethodId) (t : State) (L : List Loc) (E : String) (ce : Cell), B.U.heap = t.heap ∧ B.U.vm = t.vm ∧ XC E (A.U.calling g mk a) t ∧ t.heap[q]? = some ce ∧ ce.vm = .none ∧ A.U.vm.findClass E = some ce.cls ∧ B.locs = A.locs ++ L ∧ (∀ z ∈ L, free z.base) ∧ B.cells = A.cells + mc ∧ B.slots = A.slots + ms
def vx_Back (l : Launch) (R : Room) (p : Program) (e : Env) (below : List Frame) (s : State) (sargs : Array Value) (y : MethodName) (len W9 : Nat)
    (Pre : Pt → Array Value → Prop) (Post : Pt → Array Value → Option Value → Pt → Prop) (PostX : Pt → Array Value → Addr → Pt → Prop) : Prop :=
  ∀ (m : MethodId) (meth : Method) (c : Code) (A : Pt) (g : JFrame) (ig : Instr) (mk : MethodId) (a : Array Value),
    Stand p l e R s m sargs below meth c A.U A.locs A.cells A.slots → g.method = m → g.locals.size = c.maxLocals → decode c.code g.pc = .ok (ig, len) →
    2 * g.monitorRoom + (g.stack.map fun v => v.category).sum ≤ W9 → A.U.methodNamed? y = some mk → Pre A a →
    (∃ (v : Option Value) (B : Pt), Stand p l e R s m sargs below meth c B.U B.locs B.cells B.slots ∧ Post A a v B ∧
      Steps p.tables e below (doInvoke e (A.U.setTop g) [] mk a).1 (B.U.setTop { g with pc := g.pc + len, stack := v.toList ++ g.stack })) ∨
    (∃ (q : Addr) (B : Pt), Stand p l e R s m sargs below meth c B.U B.locs B.cells B.slots ∧ PostX A a q B ∧
      Steps p.tables e below (doInvoke e (A.U.setTop g) [] mk a).1 ((B.U.setTop g).pushFrame (.throwing q)))
section Payer
variable {l : Launch} {R : Room} {p : Program} {e : Env} {below : List Frame} {s : State} {sargs : Array Value} {y : MethodName} {len W9 : Nat}
theorem vx_back {ws : List Cond} {rm : Room} {Pc : Array Value → State → Prop} {Qc : Array Value → State → Outcome → State → Prop} {XC : String → State → State → Prop} {mc ms : Nat} {free : Addr → Prop} {bytes : ByteArray} {maxL : Nat} {ret : Option FieldType}
    (hM : vx_Met l y ws rm Pc Qc XC mc ms free) (hblind : FrameBlind Pc) (hrc : rm.cells = mc) (hrs : rm.slots = ms)
    (hframes : rm.frames + 1 ≤ R.frames) (hlocals : W9 + (maxL + 11) + rm.locals ≤ R.locals)
    (hws : ∀ w ∈ ws, ∀ a' U, s.WarmedH U.vm → w.before a' U = true) (hcode : Cond.code y bytes maxL ret ∈ ws) (hinit : ∀ a' U, s.WarmedH U.vm → (Cond.initialized y.cls).before a' U = true) :
    vx_Back l R p e below s sargs y len W9 (PreOf R mc ms Pc) (PostOf Qc mc ms free) (vx_Post XC mc ms free) := by
  intro m meth c A g ig mk a X hg hsize hdg hW hn hp
  have h1 : (headSpec ws rm).pre.before a A.U = true := atoms_intro fun w hw => hws w hw _ _ X.warmed
  have h2 : (Cond.code y bytes maxL ret).before a A.U = true := hws _ hcode _ _ X.warmed
  have h3 : (Cond.initialized y.cls).before a A.U = true := hinit _ _ X.warmed
  have h4 : A.cells + (headSpec ws rm).room.cells ≤ R.cells := by rw [show (headSpec ws rm).room.cells = mc from hrc]; exact hp.1
  have h5 : A.slots + (headSpec ws rm).room.slots ≤ R.slots := by rw [show (headSpec ws rm).room.slots = ms from hrs]; exact hp.2.1
  have hPc : Pc a (A.U.calling g mk a) := hblind _ _ _ _ hp.2.2
  obtain ⟨U, Ls, c0, s0⟩ := A
  dsimp only [Pt.U, Pt.locs, Pt.cells, Pt.slots] at h1 h2 h3 h4 h5 X hn hPc ⊢
  obtain ⟨methY, cY, hmY, hcY, -, hlY, -, -, -, -⟩ := Cond.code_spec hn h2
  obtain ⟨kY, hkY, -⟩ := className_of_methodNamed hn
  have hinitY : kY.init = .initialized := Cond.initialized_spec (findClass_of_methodNamed hn) hkY h3
  have h : At U g.method c below := by rw [hg]; exact X.here
  have hlocals9 : W9 + (maxL + 11) + (headSpec ws rm).room.locals ≤ R.locals := hlocals
  have happ : (headSpec ws rm).appliesLoose y e.platform (U.calling g mk a) = true :=
    Spec.appliesLoose_calling (g := g) h hdg hn hkY hinitY
      (X.room_calling (g := g) (R' := (headSpec ws rm).room) hsize hmY hcY hframes (by rw [hlY]; omega) h4 h5) h1
  obtain ⟨mid, hmid⟩ := h.above
  have hfr : (U.setTop g).frames = (.java g :: mid) ++ below := by rw [State.frames_setTop' g h.top, hmid]; rfl
  obtain ⟨o, s₂, hsteps, -, hend, hq⟩ := Steps.callFree hM p X.admits X.cas X.clock (acts := []) hfr happ hPc trivial
  have hq' : vx_Q Qc XC mc ms free a (U.calling g mk a) o s₂ := hq
  rw [State.frames_setTop' g h.top] at hend
  obtain ⟨g₀, hg0⟩ := Option.isSome_iff_exists.mp h.top
  obtain ⟨r, hr⟩ := State.topJava?_eq_some.mp hg0
  have hr' : (({ U with heap := s₂.heap, slotsUsed := s₂.slotsUsed } : State).setVm s₂.vm).frames = .java g₀ :: r := hr
  rcases hq' with ⟨hqc, L, hfe, hL⟩ | ⟨q, rfl, E, ce, L, hx, hce, hcv, hcl, hW₂, hsm, hL⟩
  · obtain ⟨⟨v, rfl⟩, hW₂, e2, q2, q3, q4, q5, q6⟩ := id hfe
    have e3 : s₂ = ({ (U.calling g mk a).setFrames s₂.frames with heap := s₂.heap, slotsUsed := s₂.slotsUsed } : State).setVm s₂.vm := by
      have : s₂ = ({ s₂ with vm := (U.calling g mk a).vm } : State).setVm s₂.vm := rfl
      rw [e2] at this
      exact this
    obtain ⟨c₂, i₂, len₂, hc₂, hd₂, hf₂⟩ := hend
    have hW' : U.WarmedH s₂.vm := hW₂
    have hcc : c₂ = c := by
      have h1 : s₂.code? g.method = U.code? g.method := by
        rw [State.code?_eq, State.code?_eq, hW'.alike.method?]
      exact Option.some.inj (hc₂.symm.trans (h1.trans h.code))
    subst hcc
    have hlen : len₂ = len := by rw [hdg] at hd₂; cases hd₂; rfl
    subst hlen
    have hs₂ : s₂ = (({ U with heap := s₂.heap, slotsUsed := s₂.slotsUsed } : State).setVm s₂.vm).setTop { g with pc := g.pc + len₂, stack := v.toList ++ g.stack } := by
      refine e3.trans ?_
      rw [hf₂, State.calling_eq h.top, State.setFrames_setFrames, State.setTop_of_frames _ hr', hr]
      rfl
    have hsame : U.sameButNew ({ U with heap := s₂.heap, slotsUsed := s₂.slotsUsed } : State) L mc ms := by
      refine ⟨?_, q2, q3, q4, q5, q6⟩
      obtain ⟨t, ht, -⟩ := State.frames_cons hr
      show ({ U with heap := s₂.heap, slotsUsed := s₂.slotsUsed } : State) = { U.setFrames U.frames with heap := s₂.heap, slotsUsed := s₂.slotsUsed }
      rw [State.setFrames_self ht]
    subst hg
    refine Or.inl ⟨v, ⟨(({ U with heap := s₂.heap, slotsUsed := s₂.slotsUsed } : State).setVm s₂.vm), Ls ++ L, c0 + mc, s0 + ms⟩,
      ⟨X.admits, X.cas, X.clock, X.frames, X.room, X.hears, X.method, X.code, (X.here.setHeapUsed s₂.heap s₂.slotsUsed).setVm hW'.alike, X.tail, State.WarmedH.trans X.warmed hW', X.limits, X.bytes, X.same.trans (hsame.setVm s.vm)⟩,
      ⟨g, mk, s₂, L, rfl, rfl, hqc, rfl, hL, rfl, rfl⟩, ?_⟩
    show Steps p.tables e below _ ((({ U with heap := s₂.heap, slotsUsed := s₂.slotsUsed } : State).setVm s₂.vm).setTop { g with pc := g.pc + len₂, stack := v.toList ++ g.stack })
    rw [← hs₂]
    exact hsteps
  · obtain ⟨e2, q2, q3, q4, q5, q6⟩ := id hsm
    have e3 : s₂ = ({ (U.calling g mk a).setFrames s₂.frames with heap := s₂.heap, slotsUsed := s₂.slotsUsed } : State).setVm s₂.vm := by
      have : s₂ = ({ s₂ with vm := (U.calling g mk a).vm } : State).setVm s₂.vm := rfl
      rw [e2] at this
      exact this
    have hf₂ : s₂.frames = .throwing q :: .java g :: U.frames.tail := hend
    have hW' : U.WarmedH s₂.vm := hW₂
    have hs₂ : s₂ = ((({ U with heap := s₂.heap, slotsUsed := s₂.slotsUsed } : State).setVm s₂.vm).setTop g).pushFrame (.throwing q) := by
      refine e3.trans ?_
      rw [hf₂, State.calling_eq h.top, State.setFrames_setFrames, State.pushFrame, State.frames_setTop _ hr', State.setTop_of_frames _ hr', State.setFrames_setFrames, hr]
      rfl
    have hsame : U.sameButNew ({ U with heap := s₂.heap, slotsUsed := s₂.slotsUsed } : State) L mc ms := by
      refine ⟨?_, q2, q3, q4, q5, q6⟩
      obtain ⟨t, ht, -⟩ := State.frames_cons hr
      show ({ U with heap := s₂.heap, slotsUsed := s₂.slotsUsed } : State) = { U.setFrames U.frames with heap := s₂.heap, slotsUsed := s₂.slotsUsed }
      rw [State.setFrames_self ht]
    subst hg
    refine Or.inr ⟨q, ⟨(({ U with heap := s₂.heap, slotsUsed := s₂.slotsUsed } : State).setVm s₂.vm), Ls ++ L, c0 + mc, s0 + ms⟩,
      ⟨X.admits, X.cas, X.clock, X.frames, X.room, X.hears, X.method, X.code, (X.here.setHeapUsed s₂.heap s₂.slotsUsed).setVm hW'.alike, X.tail, State.WarmedH.trans X.warmed hW', X.limits, X.bytes, X.same.trans (hsame.setVm s.vm)⟩,
      ⟨g, mk, s₂, L, E, ce, rfl, rfl, hx, hce, hcv, hcl, rfl, hL, rfl, rfl⟩, ?_⟩
    show Steps p.tables e below _ (((({ U with heap := s₂.heap, slotsUsed := s₂.slotsUsed } : State).setVm s₂.vm).setTop g).pushFrame (.throwing q))
    rw [← hs₂]
    exact hsteps
end Payer
section Calls
variable {p : Program} {l : Launch} {e : Env} {R : Room} {s : State} {m : MethodId} {args : Array Value} {below : List Frame} {meth : Method} {c : Code} {T : State} {locs : List Loc} {cells slots : Nat}
theorem vx_callV (X : Stand p l e R s m args below meth c T locs cells slots) (hexec : p.tables.exec = Jvm.exec) {own C : String} {index : Nat} {y : MethodName} {bytes : ByteArray} {maxL : Nat} {ret : Option FieldType}
    (hown : s.vm.findClass own = some m.cls) (hlink : (Cond.methodLink own index y).before args s = true) (hinst : (Cond.instanceMethod y).before args s = true) (hsel : (Cond.selects C y y).before args s = true)
    (hcode : (Cond.code y bytes maxL ret).before args s = true) (hy : y.cls ≠ "java/lang/invoke/MethodHandle" ∧ y.cls ≠ "java/lang/invoke/VarHandle")
    {W9 : Nat} {Pre : Pt → Array Value → Prop} {Post : Pt → Array Value → Option Value → Pt → Prop} {PostX : Pt → Array Value → Addr → Pt → Prop} (hK : vx_Back l R p e below s args y 3 W9 Pre Post PostX)
    {b : Addr} {cellB : Cell} (hcell : T.heap[b]? = some cellB) (hobj : cellB.vm.isStatics = false) (hcls : s.vm.findClass C = some cellB.cls)
    {g : JFrame} (hg : g.method = m) (hsize : g.locals.size = c.maxLocals) {argsL rest : List Value} (hlen : ∀ sig, parseMethodDescriptor y.desc = some sig → argsL.length = sig.parameters.length)
    (hstack : g.stack = argsL.reverse ++ .ref b :: rest) (hW : 2 * g.monitorRoom + (rest.map fun v => v.category).sum ≤ W9) (hdg : decode c.code g.pc = .ok (.invokevirtual index, 3))
    (hpre : ∀ vm₁, s.WarmedH vm₁ → Pre ⟨T.setVm vm₁, locs, cells, slots⟩ (Value.ref b :: argsL).toArray) :
    (∃ (v : Option Value) (vm₁ : Vm) (B : Pt), s.WarmedH vm₁ ∧ Stand p l e R s m args below meth c B.U B.locs B.cells B.slots ∧ Post ⟨T.setVm vm₁, locs, cells, slots⟩ (Value.ref b :: argsL).toArray v B ∧
      ∀ target, Steps p.tables e below (B.U.setTop { g with pc := g.pc + 3, stack := v.toList ++ rest }) target → Steps p.tables e below (T.setTop g) target) ∨
    (∃ (q : Addr) (vm₁ : Vm) (B : Pt), s.WarmedH vm₁ ∧ Stand p l e R s m args below meth c B.U B.locs B.cells B.slots ∧ PostX ⟨T.setVm vm₁, locs, cells, slots⟩ (Value.ref b :: argsL).toArray q B ∧
      Steps p.tables e below (T.setTop g) ((B.U.setTop { g with stack := rest }).pushFrame (.throwing q))) := by
  obtain ⟨mk, methM, hnamed, hmethM, hstM, habM⟩ := Cond.instanceMethod_spec hinst
  obtain ⟨methM', cM, hmethM', -, -, -, -, -, -, hsigM⟩ := Cond.code_spec hnamed hcode
  cases hmethM.symm.trans hmethM'
  obtain ⟨c2, r2, m2, q1, q2, q3, q4, kP, hkP, hkPi⟩ := Cond.selects_spec hsel
  cases hcls.symm.trans q1
  cases (State.methodFound?_of_named hnamed hy).symm.trans q2
  cases hnamed.symm.trans q3
  have hselP : selectMethod e.platform s.vm cellB.cls mk = .method mk := by rw [Launch.admits_selectMethod X.admits]; exact q4
  obtain ⟨vm₁, X₁, hstep₁⟩ := X.invokevirtual hexec hown hlink hnamed hmethM hstM hkP hkPi hy (a := b) (cell := cellB) hcell
    (fun z h => by rw [h] at hobj; cases hobj) hselP hmethM habM hkP hkPi (g := g) hg (argsL := argsL) (rest := rest) (hlen _ hsigM) hstack hdg
  rcases hK m meth c ⟨T.setVm vm₁, locs, cells, slots⟩ { g with stack := rest } (.invokevirtual index) mk (Value.ref b :: argsL).toArray X₁ hg hsize hdg hW (X₁.named hnamed) (hpre vm₁ X₁.warmed) with ⟨v, B, X', hpost, hsteps⟩ | ⟨q, B, X', hpost, hsteps⟩
  · exact Or.inl ⟨v, vm₁, B, X₁.warmed, X', hpost, fun target h => hstep₁ _ fun acts => by rw [doInvoke_state]; exact hsteps.trans h⟩
  · exact Or.inr ⟨q, vm₁, B, X₁.warmed, X', hpost, hstep₁ _ fun acts => by rw [doInvoke_state]; exact hsteps⟩
theorem vx_callS (X : Stand p l e R s m args below meth c T locs cells slots) (hexec : p.tables.exec = Jvm.exec) {own : String} {index : Nat} {y : MethodName} {bytes : ByteArray} {maxL : Nat} {ret : Option FieldType}
    (hown : s.vm.findClass own = some m.cls) (hlink : (Cond.methodLink own index y).before args s = true) (hstat : (Cond.static y).before args s = true) (hinit : (Cond.initialized y.cls).before args s = true)
    (hcode : (Cond.code y bytes maxL ret).before args s = true) (hy : y.cls ≠ "java/lang/invoke/MethodHandle" ∧ y.cls ≠ "java/lang/invoke/VarHandle")
    {W9 : Nat} {Pre : Pt → Array Value → Prop} {Post : Pt → Array Value → Option Value → Pt → Prop} {PostX : Pt → Array Value → Addr → Pt → Prop} (hK : vx_Back l R p e below s args y 3 W9 Pre Post PostX)
    {g : JFrame} (hg : g.method = m) (hsize : g.locals.size = c.maxLocals) {argsL rest : List Value} (hlen : ∀ sig, parseMethodDescriptor y.desc = some sig → argsL.length = sig.parameters.length)
    (hstack : g.stack = argsL.reverse ++ rest) (hW : 2 * g.monitorRoom + (rest.map fun v => v.category).sum ≤ W9) (hdg : decode c.code g.pc = .ok (.invokestatic index, 3))
    (hpre : ∀ vm₁, s.WarmedH vm₁ → Pre ⟨T.setVm vm₁, locs, cells, slots⟩ argsL.toArray) :
    (∃ (v : Option Value) (vm₁ : Vm) (B : Pt), s.WarmedH vm₁ ∧ Stand p l e R s m args below meth c B.U B.locs B.cells B.slots ∧ Post ⟨T.setVm vm₁, locs, cells, slots⟩ argsL.toArray v B ∧
      ∀ target, Steps p.tables e below (B.U.setTop { g with pc := g.pc + 3, stack := v.toList ++ rest }) target → Steps p.tables e below (T.setTop g) target) ∨
    (∃ (q : Addr) (vm₁ : Vm) (B : Pt), s.WarmedH vm₁ ∧ Stand p l e R s m args below meth c B.U B.locs B.cells B.slots ∧ PostX ⟨T.setVm vm₁, locs, cells, slots⟩ argsL.toArray q B ∧
      Steps p.tables e below (T.setTop g) ((B.U.setTop { g with stack := rest }).pushFrame (.throwing q))) := by
  obtain ⟨mk, hnamed⟩ := Cond.code_named hcode
  obtain ⟨methM, cM, hmethM, -, -, -, -, -, -, hsigM⟩ := Cond.code_spec hnamed hcode
  have hstatic : methM.isStatic = true := Cond.static_spec hnamed hmethM hstat
  obtain ⟨kP, hkP, -⟩ := className_of_methodNamed hnamed
  have hinitP : kP.init = .initialized := Cond.initialized_spec (findClass_of_methodNamed hnamed) hkP hinit
  obtain ⟨vm₁, X₁, hstep₁⟩ := X.invokestatic hexec hown hlink hnamed hmethM hstatic hkP hinitP hy (g := g) hg (argsL := argsL) (rest := rest) (hlen _ hsigM) hstack hdg
  rcases hK m meth c ⟨T.setVm vm₁, locs, cells, slots⟩ { g with stack := rest } (.invokestatic index) mk argsL.toArray X₁ hg hsize hdg hW (X₁.named hnamed) (hpre vm₁ X₁.warmed) with ⟨v, B, X', hpost, hsteps⟩ | ⟨q, B, X', hpost, hsteps⟩
  · exact Or.inl ⟨v, vm₁, B, X₁.warmed, X', hpost, fun target h => hstep₁ _ fun acts => by rw [doInvoke_state]; exact hsteps.trans h⟩
  · exact Or.inr ⟨q, vm₁, B, X₁.warmed, X', hpost, hstep₁ _ fun acts => by rw [doInvoke_state]; exact hsteps⟩
end Calls
theorem vx_cls {s : State} {T : State} {vm₁ : Vm} {E : String} {k : ClassId} (hW : s.WarmedH vm₁) (h : (T.setVm vm₁).vm.findClass E = some k) : s.vm.findClass E = some k := by
  have h1 : vm₁.findClass E = some k := h
  rw [hW.alike.findClass] at h1
  exact h1
/-- the method's frame g, with q thrown over it -/
def vx_W (p : Program) (l : Launch) (e : Env) (R : Room) (s : State) (m : MethodId) (args : Array Value) (below : List Frame) (meth : Method) (c : Code) (H : Heap) (locs : List Loc) (cells slots : Nat) (Q : State → Prop) (g : JFrame) (q : Addr) : Prop :=
  ∀ T : State, T.heap = H → Stand p l e R s m args below meth c T locs cells slots → ∃ t, Steps p.tables e below ((T.setTop g).pushFrame (.throwing q)) t ∧ Q t
def vx_Run (p : Program) (l : Launch) (e : Env) (R : Room) (s : State) (m : MethodId) (args : Array Value) (below : List Frame) (meth : Method) (c : Code) (H : Heap) (locs : List Loc) (cells slots mc ms : Nat) (g : JFrame) (rest : List Value) (Qa : State → Outcome → State → Prop) (XC : String → State → State → Prop) (free : Addr → Prop) : Prop :=
  ∀ T : State, T.heap = H → Stand p l e R s m args below meth c T locs cells slots →
    (∃ (v : Option Value) (st₀ t T' : State) (L : List Loc), st₀.heap = H ∧ Stand p l e R s m args below meth c T' (locs ++ L) (cells + mc) (slots + ms) ∧ (∀ q ∈ L, free q.base) ∧ T'.heap = t.heap ∧ T'.vm = t.vm ∧ Qa st₀ (.returned v) t ∧
      Goes p e below T g T' { g with pc := g.pc + 3, stack := v.toList ++ rest }) ∨
    (∃ (q : Addr) (st₀ t T' : State) (L : List Loc) (E : String) (ce : Cell), st₀.heap = H ∧ Stand p l e R s m args below meth c T' (locs ++ L) (cells + mc) (slots + ms) ∧ (∀ z ∈ L, free z.base) ∧ T'.heap = t.heap ∧ T'.vm = t.vm ∧ XC E st₀ t ∧ t.heap[q]? = some ce ∧ ce.vm = .none ∧ s.vm.findClass E = some ce.cls ∧
      Steps p.tables e below (T.setTop g) ((T'.setTop { g with stack := rest }).pushFrame (.throwing q)))
def vx_X {S : Type} (px : S → Prop) (B : String → S → State → Prop) (A : Nat → Prop) : String → State → State → Prop := fun E st t => ∃ u : S, px u ∧ B E u t ∧ va_F A st t
section Runs
variable {p : Program} {l : Launch} {e : Env} {R : Room} {s : State} {m : MethodId} {args : Array Value} {below : List Frame} {meth : Method} {c : Code} {H : Heap} {locs : List Loc} {cells slots : Nat}
variable {y : MethodName} {bytes cc : ByteArray} {maxL nL mc ms n index : Nat} {ret : Option FieldType} {ws : List Cond} {rm : Room} {Pc : Array Value → State → Prop} {Qc : Array Value → State → Outcome → State → Prop} {XC : String → State → State → Prop} {free : Addr → Prop} {Ts : List Cond} {own C : String} {b : Addr} {As rest : List Value} {g : JFrame}
theorem vx_callBack (cb : CallB R s args own index y bytes maxL ret ws rm mc ms n) (hM : vx_Met l y ws rm Pc Qc XC mc ms free) (hbl : FrameBlind Pc) : vx_Back l R p e below s args y 3 8 (PreOf R mc ms Pc) (PostOf Qc mc ms free) (vx_Post XC mc ms free) := by
  obtain ⟨hrc, hrs, hfr, hlo, hws, hcw, -, hini, -⟩ := cb
  exact vx_back (bytes := bytes) (maxL := maxL) (ret := ret) hM hbl hrc hrs hfr hlo hws hcw (fun a' U hW => word_at hW (Or.inl (by first | rfl | simp [Cond.onTables, Cond.keeps, Cond.steady])) hini)
theorem vx_runV (S : CallFix p m c cc nL s args Ts own) (hM : vx_Met l y ws rm Pc Qc XC mc ms free) (cw : CallW R s args own C index y bytes maxL ret ws rm mc ms n) (hp : PreV s H C b Pc As)
    (hg : g.method = m) (hn : As.length = n) (hsize : g.locals.size = nL) (hstack : g.stack = As.reverse ++ .ref b :: rest) (hW : 2 * g.monitorRoom + (rest.map fun v => v.category).sum ≤ 8) (hdg : decode cc g.pc = .ok (.invokevirtual index, 3)) (hf : cells + mc ≤ R.cells ∧ slots + ms ≤ R.slots) :
    vx_Run p l e R s m args below meth c H locs cells slots mc ms g rest (Qc (Value.ref b :: As).toArray) XC free := by
  have hK : vx_Back l R p e below s args y 3 8 (PreOf R mc ms Pc) (PostOf Qc mc ms free) (vx_Post XC mc ms free) := vx_callBack cw.1 hM hp.1
  obtain ⟨⟨-, -, -, -, -, -, hcode, -, hy, hlen, hl⟩, hin, hse⟩ := cw
  obtain ⟨hx, hb, hml, ho, -⟩ := S
  obtain ⟨-, ⟨cellB, hcB, hoB, hclB⟩, hPc⟩ := hp
  intro T hT X
  rcases vx_callV X hx (C := C) (bytes := bytes) (maxL := maxL) (ret := ret) ho hl hin hse hcode hy hK (by rw [hT]; exact hcB) hoB hclB hg (hsize.trans hml.symm) (argsL := As) (rest := rest) (fun sig h => hn.trans (hlen sig h)) hstack hW (by rw [hb]; exact hdg)
    (fun vm₁ hW₁ => ⟨hf.1, hf.2, hPc (T.setVm vm₁) hT hW₁⟩) with ⟨v, vm₁, ⟨U', l2, c2, s2⟩, hW₁, X', ⟨g', mk, t, L, e1, e2, hq, h1, hL, h2, h3⟩, st⟩ | ⟨q, vm₁, ⟨U', l2, c2, s2⟩, hW₁, X', ⟨g', mk, t, L, E, ce, e1, e2, hq, hce, hcv, hcl, h1, hL, h2, h3⟩, st⟩
  · dsimp only [Pt.U, Pt.locs, Pt.cells, Pt.slots] at X' e1 e2 h1 h2 h3 st
    subst h1; subst h2; subst h3
    exact Or.inl ⟨v, (T.setVm vm₁).calling g' mk (Value.ref b :: As).toArray, t, U', L, hT, X', hL, e1, e2, hq, st⟩
  · dsimp only [Pt.U, Pt.locs, Pt.cells, Pt.slots] at X' e1 e2 h1 h2 h3 st hcl
    subst h1; subst h2; subst h3
    exact Or.inr ⟨q, (T.setVm vm₁).calling g' mk (Value.ref b :: As).toArray, t, U', L, E, ce, hT, X', hL, e1, e2, hq, hce, hcv, vx_cls hW₁ hcl, st⟩
theorem vx_runS (S : CallFix p m c cc nL s args Ts own) (hM : vx_Met l y ws rm Pc Qc XC mc ms free) (cw : CallB R s args own index y bytes maxL ret ws rm mc ms n ∧ (Cond.static y).before args s = true) (hp : PreS s H Pc As)
    (hg : g.method = m) (hn : As.length = n) (hsize : g.locals.size = nL) (hstack : g.stack = As.reverse ++ rest) (hW : 2 * g.monitorRoom + (rest.map fun v => v.category).sum ≤ 8) (hdg : decode cc g.pc = .ok (.invokestatic index, 3)) (hf : cells + mc ≤ R.cells ∧ slots + ms ≤ R.slots) :
    vx_Run p l e R s m args below meth c H locs cells slots mc ms g rest (Qc As.toArray) XC free := by
  have hK : vx_Back l R p e below s args y 3 8 (PreOf R mc ms Pc) (PostOf Qc mc ms free) (vx_Post XC mc ms free) := vx_callBack cw.1 hM hp.1
  obtain ⟨⟨-, -, -, -, -, -, hcode, hini, hy, hlen, hl⟩, hstt⟩ := cw
  obtain ⟨hx, hb, hml, ho, -⟩ := S
  intro T hT X
  rcases vx_callS X hx (bytes := bytes) (maxL := maxL) (ret := ret) ho hl hstt hini hcode hy hK hg (hsize.trans hml.symm) (argsL := As) (rest := rest) (fun sig h => hn.trans (hlen sig h)) hstack hW (by rw [hb]; exact hdg)
    (fun vm₁ hW₁ => ⟨hf.1, hf.2, hp.2 (T.setVm vm₁) hT hW₁⟩) with ⟨v, vm₁, ⟨U', l2, c2, s2⟩, hW₁, X', ⟨g', mk, t, L, e1, e2, hq, h1, hL, h2, h3⟩, st⟩ | ⟨q, vm₁, ⟨U', l2, c2, s2⟩, hW₁, X', ⟨g', mk, t, L, E, ce, e1, e2, hq, hce, hcv, hcl, h1, hL, h2, h3⟩, st⟩
  · dsimp only [Pt.U, Pt.locs, Pt.cells, Pt.slots] at X' e1 e2 h1 h2 h3 st
    subst h1; subst h2; subst h3
    exact Or.inl ⟨v, (T.setVm vm₁).calling g' mk As.toArray, t, U', L, hT, X', hL, e1, e2, hq, st⟩
  · dsimp only [Pt.U, Pt.locs, Pt.cells, Pt.slots] at X' e1 e2 h1 h2 h3 st hcl
    subst h1; subst h2; subst h3
    exact Or.inr ⟨q, (T.setVm vm₁).calling g' mk As.toArray, t, U', L, E, ce, hT, X', hL, e1, e2, hq, hce, hcv, vx_cls hW₁ hcl, st⟩
end Runs
section Rows
variable {p : Program} {l : Launch} {e : Env} {R : Room} {s : State} {m : MethodId} {args : Array Value} {below : List Frame} {meth : Method} {c : Code} {H : Heap} {locs : List Loc} {cells slots : Nat} {Q : State → Prop}
variable {mc ms : Nat} {free : Addr → Prop} {A0 A1 : Nat → Prop} {H0 : Heap} {a : Array Value} {pc : Nat} {ls : Array Slot} {st0 rest : List Value}
theorem vx_keep {st₀ t T' : State} {L : List Loc} (h0 : st₀.heap = H) (e1 : T'.heap = t.heap) (hS : va_S A0 H0 H locs) (hA : ∀ q, q < H.size → A1 q → A0 q) (hf : ∀ q, free q → A0 q) (hL : ∀ q ∈ L, free q.base) (hF : va_F A1 st₀ t) :
    H.size ≤ T'.heap.size ∧ (∀ q : Nat, q < H.size → ¬ A1 q → T'.heap[q]? = H[q]?) ∧ va_S A0 H0 T'.heap (locs ++ L) := by
  obtain ⟨hz, hk⟩ := hF
  rw [h0] at hz hk
  exact ⟨by rw [e1]; exact hz, fun q h1 h2 => by rw [e1]; exact hk q h1 h2,
    ⟨Nat.le_trans hS.1 (by rw [e1]; exact hz), fun q h1 h2 => by rw [e1, hk q (Nat.lt_of_lt_of_le h1 hS.1) (fun z => h2 (hA q (Nat.lt_of_lt_of_le h1 hS.1) z))]; exact hS.2.1 q h1 h2, fun q hq => by
      rcases List.mem_append.mp hq with h | h
      · exact hS.2.2 q h
      · exact hf _ (hL q h)⟩⟩
theorem vx_calli {S SX : Type} {post : Int32 → S → Prop} {px : SX → Prop} {B : S → State → Prop} {BX : String → SX → State → Prop} {AX : Nat → Prop} (hr : vx_Run p l e R s m args below meth c H locs cells slots mc ms (F0 m pc ls st0) rest (va_Qi post B A1 a) (vx_X px BX AX) free) (hS : va_S A0 H0 H locs) (hA : ∀ q, q < H.size → A1 q → A0 q) (hf : ∀ q, free q → A0 q) (hAX : ∀ q, q < H.size → AX q → A0 q)
    (kx : ∀ (E : String) (ce : Cell) (q9 : Addr) (u : SX) (t : State) (H1 : Heap) (locs1 : List Loc), t.heap = H1 → s.vm.Alike t.vm → px u → BX E u t → H.size ≤ H1.size → (∀ q : Nat, q < H.size → ¬ AX q → H1[q]? = H[q]?) → va_S A0 H0 H1 locs1 → H1[q9]? = some ce → ce.vm = .none → s.vm.findClass E = some ce.cls → vx_W p l e R s m args below meth c H1 locs1 (cells + mc) (slots + ms) Q (F0 m pc ls rest) q9)
    (kk : ∀ (r : Int32) (u : S) (t : State) (H1 : Heap) (locs1 : List Loc), t.heap = H1 → s.vm.Alike t.vm → post r u → B u t → H.size ≤ H1.size → (∀ q : Nat, q < H.size → ¬ A1 q → H1[q]? = H[q]?) → va_S A0 H0 H1 locs1 → W p l e R s m args below meth c H1 locs1 (cells + mc) (slots + ms) Q (F0 m (pc + 3) ls (.int r :: rest))) : W p l e R s m args below meth c H locs cells slots Q (F0 m pc ls st0) := by
  intro T hT X
  rcases hr T hT X with ⟨v, st₀, t, T', L, h0, X', hL, e1, e2, ⟨⟨r, u, hv, hp, hb⟩, hF⟩, st⟩ | ⟨q, st₀, t, T', L, E, ce, h0, X', hL, e1, e2, ⟨u, hp, hb, hF⟩, hce, hcv, hcl, st⟩
  · cases hv
    obtain ⟨k1, k2, k3⟩ := vx_keep h0 e1 hS hA hf hL hF
    obtain ⟨t2, a1, b1⟩ := kk r u t T'.heap (locs ++ L) e1.symm (by rw [← e2]; exact X'.warmed.alike) hp hb k1 k2 k3 T' rfl X'
    exact ⟨t2, st t2 a1, b1⟩
  · obtain ⟨k1, k2, k3⟩ := vx_keep h0 e1 hS hAX hf hL hF
    obtain ⟨t2, a1, b1⟩ := kx E ce q u t T'.heap (locs ++ L) e1.symm (by rw [← e2]; exact X'.warmed.alike) hp hb k1 k2 k3 (by rw [e1]; exact hce) hcv hcl T' rfl X'
    exact ⟨t2, st.trans a1, b1⟩
theorem vx_calll {S SX : Type} {post : Int64 → S → Prop} {px : SX → Prop} {B : S → State → Prop} {BX : String → SX → State → Prop} {AX : Nat → Prop} (hr : vx_Run p l e R s m args below meth c H locs cells slots mc ms (F0 m pc ls st0) rest (va_Ql post B A1 a) (vx_X px BX AX) free) (hS : va_S A0 H0 H locs) (hA : ∀ q, q < H.size → A1 q → A0 q) (hf : ∀ q, free q → A0 q) (hAX : ∀ q, q < H.size → AX q → A0 q)
    (kx : ∀ (E : String) (ce : Cell) (q9 : Addr) (u : SX) (t : State) (H1 : Heap) (locs1 : List Loc), t.heap = H1 → s.vm.Alike t.vm → px u → BX E u t → H.size ≤ H1.size → (∀ q : Nat, q < H.size → ¬ AX q → H1[q]? = H[q]?) → va_S A0 H0 H1 locs1 → H1[q9]? = some ce → ce.vm = .none → s.vm.findClass E = some ce.cls → vx_W p l e R s m args below meth c H1 locs1 (cells + mc) (slots + ms) Q (F0 m pc ls rest) q9)
    (kk : ∀ (r : Int64) (u : S) (t : State) (H1 : Heap) (locs1 : List Loc), t.heap = H1 → s.vm.Alike t.vm → post r u → B u t → H.size ≤ H1.size → (∀ q : Nat, q < H.size → ¬ A1 q → H1[q]? = H[q]?) → va_S A0 H0 H1 locs1 → W p l e R s m args below meth c H1 locs1 (cells + mc) (slots + ms) Q (F0 m (pc + 3) ls (.long r :: rest))) : W p l e R s m args below meth c H locs cells slots Q (F0 m pc ls st0) := by
  intro T hT X
  rcases hr T hT X with ⟨v, st₀, t, T', L, h0, X', hL, e1, e2, ⟨⟨r, u, hv, hp, hb⟩, hF⟩, st⟩ | ⟨q, st₀, t, T', L, E, ce, h0, X', hL, e1, e2, ⟨u, hp, hb, hF⟩, hce, hcv, hcl, st⟩
  · cases hv
    obtain ⟨k1, k2, k3⟩ := vx_keep h0 e1 hS hA hf hL hF
    obtain ⟨t2, a1, b1⟩ := kk r u t T'.heap (locs ++ L) e1.symm (by rw [← e2]; exact X'.warmed.alike) hp hb k1 k2 k3 T' rfl X'
    exact ⟨t2, st t2 a1, b1⟩
  · obtain ⟨k1, k2, k3⟩ := vx_keep h0 e1 hS hAX hf hL hF
    obtain ⟨t2, a1, b1⟩ := kx E ce q u t T'.heap (locs ++ L) e1.symm (by rw [← e2]; exact X'.warmed.alike) hp hb k1 k2 k3 (by rw [e1]; exact hce) hcv hcl T' rfl X'
    exact ⟨t2, st.trans a1, b1⟩
theorem vx_callf {S SX : Type} {post : UInt32 → S → Prop} {px : SX → Prop} {B : S → State → Prop} {BX : String → SX → State → Prop} {AX : Nat → Prop} (hr : vx_Run p l e R s m args below meth c H locs cells slots mc ms (F0 m pc ls st0) rest (va_Qf post B A1 a) (vx_X px BX AX) free) (hS : va_S A0 H0 H locs) (hA : ∀ q, q < H.size → A1 q → A0 q) (hf : ∀ q, free q → A0 q) (hAX : ∀ q, q < H.size → AX q → A0 q)
    (kx : ∀ (E : String) (ce : Cell) (q9 : Addr) (u : SX) (t : State) (H1 : Heap) (locs1 : List Loc), t.heap = H1 → s.vm.Alike t.vm → px u → BX E u t → H.size ≤ H1.size → (∀ q : Nat, q < H.size → ¬ AX q → H1[q]? = H[q]?) → va_S A0 H0 H1 locs1 → H1[q9]? = some ce → ce.vm = .none → s.vm.findClass E = some ce.cls → vx_W p l e R s m args below meth c H1 locs1 (cells + mc) (slots + ms) Q (F0 m pc ls rest) q9)
    (kk : ∀ (r : UInt32) (u : S) (t : State) (H1 : Heap) (locs1 : List Loc), t.heap = H1 → s.vm.Alike t.vm → post r u → B u t → H.size ≤ H1.size → (∀ q : Nat, q < H.size → ¬ A1 q → H1[q]? = H[q]?) → va_S A0 H0 H1 locs1 → W p l e R s m args below meth c H1 locs1 (cells + mc) (slots + ms) Q (F0 m (pc + 3) ls (.float r :: rest))) : W p l e R s m args below meth c H locs cells slots Q (F0 m pc ls st0) := by
  intro T hT X
  rcases hr T hT X with ⟨v, st₀, t, T', L, h0, X', hL, e1, e2, ⟨⟨r, u, hv, hp, hb⟩, hF⟩, st⟩ | ⟨q, st₀, t, T', L, E, ce, h0, X', hL, e1, e2, ⟨u, hp, hb, hF⟩, hce, hcv, hcl, st⟩
  · cases hv
    obtain ⟨k1, k2, k3⟩ := vx_keep h0 e1 hS hA hf hL hF
    obtain ⟨t2, a1, b1⟩ := kk r u t T'.heap (locs ++ L) e1.symm (by rw [← e2]; exact X'.warmed.alike) hp hb k1 k2 k3 T' rfl X'
    exact ⟨t2, st t2 a1, b1⟩
  · obtain ⟨k1, k2, k3⟩ := vx_keep h0 e1 hS hAX hf hL hF
    obtain ⟨t2, a1, b1⟩ := kx E ce q u t T'.heap (locs ++ L) e1.symm (by rw [← e2]; exact X'.warmed.alike) hp hb k1 k2 k3 (by rw [e1]; exact hce) hcv hcl T' rfl X'
    exact ⟨t2, st.trans a1, b1⟩
theorem vx_calld {S SX : Type} {post : UInt64 → S → Prop} {px : SX → Prop} {B : S → State → Prop} {BX : String → SX → State → Prop} {AX : Nat → Prop} (hr : vx_Run p l e R s m args below meth c H locs cells slots mc ms (F0 m pc ls st0) rest (va_Qd post B A1 a) (vx_X px BX AX) free) (hS : va_S A0 H0 H locs) (hA : ∀ q, q < H.size → A1 q → A0 q) (hf : ∀ q, free q → A0 q) (hAX : ∀ q, q < H.size → AX q → A0 q)
    (kx : ∀ (E : String) (ce : Cell) (q9 : Addr) (u : SX) (t : State) (H1 : Heap) (locs1 : List Loc), t.heap = H1 → s.vm.Alike t.vm → px u → BX E u t → H.size ≤ H1.size → (∀ q : Nat, q < H.size → ¬ AX q → H1[q]? = H[q]?) → va_S A0 H0 H1 locs1 → H1[q9]? = some ce → ce.vm = .none → s.vm.findClass E = some ce.cls → vx_W p l e R s m args below meth c H1 locs1 (cells + mc) (slots + ms) Q (F0 m pc ls rest) q9)
    (kk : ∀ (r : UInt64) (u : S) (t : State) (H1 : Heap) (locs1 : List Loc), t.heap = H1 → s.vm.Alike t.vm → post r u → B u t → H.size ≤ H1.size → (∀ q : Nat, q < H.size → ¬ A1 q → H1[q]? = H[q]?) → va_S A0 H0 H1 locs1 → W p l e R s m args below meth c H1 locs1 (cells + mc) (slots + ms) Q (F0 m (pc + 3) ls (.double r :: rest))) : W p l e R s m args below meth c H locs cells slots Q (F0 m pc ls st0) := by
  intro T hT X
  rcases hr T hT X with ⟨v, st₀, t, T', L, h0, X', hL, e1, e2, ⟨⟨r, u, hv, hp, hb⟩, hF⟩, st⟩ | ⟨q, st₀, t, T', L, E, ce, h0, X', hL, e1, e2, ⟨u, hp, hb, hF⟩, hce, hcv, hcl, st⟩
  · cases hv
    obtain ⟨k1, k2, k3⟩ := vx_keep h0 e1 hS hA hf hL hF
    obtain ⟨t2, a1, b1⟩ := kk r u t T'.heap (locs ++ L) e1.symm (by rw [← e2]; exact X'.warmed.alike) hp hb k1 k2 k3 T' rfl X'
    exact ⟨t2, st t2 a1, b1⟩
  · obtain ⟨k1, k2, k3⟩ := vx_keep h0 e1 hS hAX hf hL hF
    obtain ⟨t2, a1, b1⟩ := kx E ce q u t T'.heap (locs ++ L) e1.symm (by rw [← e2]; exact X'.warmed.alike) hp hb k1 k2 k3 (by rw [e1]; exact hce) hcv hcl T' rfl X'
    exact ⟨t2, st.trans a1, b1⟩
theorem vx_callv {S SX : Type} {post : S → Prop} {px : SX → Prop} {B : S → State → Prop} {BX : String → SX → State → Prop} {AX : Nat → Prop} (hr : vx_Run p l e R s m args below meth c H locs cells slots mc ms (F0 m pc ls st0) rest (va_Qv post B A1 a) (vx_X px BX AX) free) (hS : va_S A0 H0 H locs) (hA : ∀ q, q < H.size → A1 q → A0 q) (hf : ∀ q, free q → A0 q) (hAX : ∀ q, q < H.size → AX q → A0 q)
    (kx : ∀ (E : String) (ce : Cell) (q9 : Addr) (u : SX) (t : State) (H1 : Heap) (locs1 : List Loc), t.heap = H1 → s.vm.Alike t.vm → px u → BX E u t → H.size ≤ H1.size → (∀ q : Nat, q < H.size → ¬ AX q → H1[q]? = H[q]?) → va_S A0 H0 H1 locs1 → H1[q9]? = some ce → ce.vm = .none → s.vm.findClass E = some ce.cls → vx_W p l e R s m args below meth c H1 locs1 (cells + mc) (slots + ms) Q (F0 m pc ls rest) q9)
    (kk : ∀ (u : S) (t : State) (H1 : Heap) (locs1 : List Loc), t.heap = H1 → s.vm.Alike t.vm → post u → B u t → H.size ≤ H1.size → (∀ q : Nat, q < H.size → ¬ A1 q → H1[q]? = H[q]?) → va_S A0 H0 H1 locs1 → W p l e R s m args below meth c H1 locs1 (cells + mc) (slots + ms) Q (F0 m (pc + 3) ls (rest))) : W p l e R s m args below meth c H locs cells slots Q (F0 m pc ls st0) := by
  intro T hT X
  rcases hr T hT X with ⟨v, st₀, t, T', L, h0, X', hL, e1, e2, ⟨⟨u, hv, hp, hb⟩, hF⟩, st⟩ | ⟨q, st₀, t, T', L, E, ce, h0, X', hL, e1, e2, ⟨u, hp, hb, hF⟩, hce, hcv, hcl, st⟩
  · cases hv
    obtain ⟨k1, k2, k3⟩ := vx_keep h0 e1 hS hA hf hL hF
    obtain ⟨t2, a1, b1⟩ := kk u t T'.heap (locs ++ L) e1.symm (by rw [← e2]; exact X'.warmed.alike) hp hb k1 k2 k3 T' rfl X'
    exact ⟨t2, st t2 a1, b1⟩
  · obtain ⟨k1, k2, k3⟩ := vx_keep h0 e1 hS hAX hf hL hF
    obtain ⟨t2, a1, b1⟩ := kx E ce q u t T'.heap (locs ++ L) e1.symm (by rw [← e2]; exact X'.warmed.alike) hp hb k1 k2 k3 (by rw [e1]; exact hce) hcv hcl T' rfl X'
    exact ⟨t2, st.trans a1, b1⟩
/-- caught by the row x of this method's table; the rows ahead don't take it -/
theorem vx_catch {own name : String} {E : String} {ce : Cell} {q : Addr} (hown : s.vm.findClass own = some m.cls) (pre : List ExceptionTableEntry) (x : ExceptionTableEntry) (suf : List ExceptionTableEntry) (hsplit : c.exceptionTable.toList = pre ++ x :: suf)
    (hpass : ∀ z ∈ pre, covers z pc = false ∨ (z.catchType ≠ 0 ∧ ∃ nm : String, (Cond.classLink own z.catchType nm).before args s = true ∧ va_Nc E nm s)) (hx : covers x pc = true) (h0 : x.catchType ≠ 0)
    (hlink : (Cond.classLink own x.catchType name).before args s = true) (hcast : (Cond.castable E name).before args s = true) (hcell : H[q]? = some ce) (hv : ce.vm = .none) (hcl : s.vm.findClass E = some ce.cls)
    (kk : W p l e R s m args below meth c H locs cells slots Q (F0 m x.handlerPc ls [.ref q])) : vx_W p l e R s m args below meth c H locs cells slots Q (F0 m pc ls rest) q := by
  intro T hT X
  have hpl : e.platform.magicAccessors = ({} : Platform).magicAccessors := by rw [X.admits.platform]
  obtain ⟨c3, c4, hc3, hc4, hasg⟩ := Cond.castable_spec hcast
  cases Option.some.inj (hc3.symm.trans hcl)
  obtain ⟨c5, hc5, hcl5⟩ := Cond.classLink_spec hown hlink e.platform hpl
  cases Option.some.inj (hc4.symm.trans hc5)
  obtain ⟨vm', X', st⟩ := X.thenCaughtThrough q (g := F0 m pc ls rest) rfl (Steps.refl _) (by rw [hT]; exact hcell) (by rw [hv]; rfl) (by obtain ⟨k9, h9, -⟩ := Vm.findClass_spec hcl; exact ⟨k9, h9⟩) pre x suf hsplit
    (fun z hz => by
      rcases hpass z hz with h | ⟨hz0, nm, hl1, hn1⟩
      · exact Or.inl h
      · obtain ⟨c6, hc6, hcl6⟩ := Cond.classLink_spec hown hl1 e.platform hpl
        obtain ⟨a8, b8, h1, h2, h3⟩ := hn1
        cases Option.some.inj (h1.symm.trans hcl)
        cases Option.some.inj (h2.symm.trans hc6)
        exact Or.inr ⟨hz0, _, hcl6, h3⟩) hx (Or.inr ⟨h0, c4, hcl5, hasg⟩)
  obtain ⟨t, a1, b1⟩ := kk (T.setVm vm') hT X'
  exact ⟨t, st.trans a1, b1⟩
end Rows
section Ends
variable {p : Program} {l : Launch} {e : Env} {R : Room} {s : State} {m : MethodId} {args : Array Value} {below : List Frame} {meth : Method} {c : Code} {H : Heap} {locs : List Loc} {cells slots : Nat} {Q : State → Prop}
variable {mc ms : Nat} {free : Addr → Prop} {A0 A1 : Nat → Prop} {H0 : Heap} {a : Array Value} {ls : Array Slot} {st0 rest : List Value}
variable {Qc : Array Value → State → Outcome → State → Prop} {XC : String → State → State → Prop}
/-- what a body that may throw owes at its end -/
def vx_MQ (below : List Frame) (Qc : Array Value → State → Outcome → State → Prop) (XC : String → State → State → Prop) (a : Array Value) (s : State) (mc ms : Nat) (free : Addr → Prop) : State → Prop := fun t =>
  ∃ o, t.status = .running ∧ Ended t below o ∧ vx_Q Qc XC mc ms free a s o t
theorem vx_ret {g : JFrame} {mc ms : Nat} (k : W p l e R s m args below meth c H locs cells slots (MQ below Qc args s mc ms free) g) : W p l e R s m args below meth c H locs cells slots (vx_MQ below Qc XC args s mc ms free) g := by
  intro T hT X
  obtain ⟨t, a1, o, b1, b2, b3, b4⟩ := k T hT X
  exact ⟨t, a1, o, b1, b2, Or.inl ⟨b3, b4⟩⟩
/-- not caught here: it goes on to the caller -/
theorem vx_widen {g : JFrame} {q : Addr} {k n : Nat} (h1 : cells ≤ k) (h2 : slots ≤ n) (kk : vx_W p l e R s m args below meth c H locs k n Q g q) : vx_W p l e R s m args below meth c H locs cells slots Q g q := fun T hT X => kk T hT (stand_widen X h1 h2)
theorem vx_out {pc : Nat} {E : String} {ce : Cell} {q : Addr} {mc ms : Nat} (hout : ∀ x ∈ c.exceptionTable.toList, covers x pc = false) (hlocks : meth.locks = false) (hcell : H[q]? = some ce) (hv : ce.vm = .none) (hcl : s.vm.findClass E = some ce.cls)
    (hx : ∀ t : State, t.heap = H → s.vm.Alike t.vm → XC E s t) (hf : ∀ z ∈ locs, free z.base) (hc : cells ≤ mc) (hs : slots ≤ ms) :
    vx_W p l e R s m args below meth c H locs cells slots (vx_MQ below Qc XC args s mc ms free) (F0 m pc ls rest) q := by
  intro T hT X
  obtain ⟨st1, hrun, hend, hW, hsm⟩ := X.leaveThrown q (g := F0 m pc ls rest) rfl rfl rfl hout hlocks
  have hcell9 : (T.setFrames (.throwing q :: below)).heap[q]? = some ce := by
    show T.heap[q]? = some ce
    rw [hT]; exact hcell
  exact ⟨_, st1, .threw q, hrun, hend, Or.inr ⟨q, rfl, E, ce, locs, hx _ hT hW.alike, hcell9, hv, hcl, hW, hsm.mono hc hs, hf⟩⟩
theorem vx_frame {U : State} {k n : Nat} (h : s.sameButNew ({ U with vm := s.vm } : State) locs k n) : s.heap.size ≤ U.heap.size ∧ ∀ q : Nat, q < s.heap.size → (∀ z ∈ locs, z.base ≠ q) → U.heap[q]? = s.heap[q]? := by
  obtain ⟨-, h2, -, -, -, h6⟩ := h
  refine ⟨h2, fun q hq hz => ?_⟩
  obtain ⟨c9, e1, e2, e3, e4⟩ := h6 q _ (Array.getElem?_eq_getElem hq)
  have hs : c9.slots = (s.heap[q]).slots := Array.ext_getElem? fun i => e4 i fun hm => hz _ hm rfl
  have h9 : c9 = s.heap[q] := by
    rw [hs] at e2
    exact e2
  have e5 : U.heap[q]? = some c9 := e1
  rw [e5, h9, Array.getElem?_eq_getElem hq]
/-- the words of a throw but the four that speak of the heap -/
def vx_no (w : Cond) : Bool := decide (w ≠ .isRef (.static Bundle.tN "UNASSIGNED_STACK" Bundle.steD)) && decide (w ≠ .isRef (.static Bundle.tN "SUPPRESSED_SENTINEL" Bundle.listD)) && decide (w ≠ .laysStatic Bundle.tN "UNASSIGNED_STACK" Bundle.steD) && decide (w ≠ .laysStatic Bundle.tN "SUPPRESSED_SENTINEL" Bundle.listD)
def vx_at0 (own : String) (ic : Nat) (X : String) (names : List String) : List Cond := (Bundle.ownAtoms0 own ic X names).filter vx_no
def vx_atS (own : String) (ic : Nat) (X : String) (names : List String) : List Cond := (Bundle.ownAtoms own ic X names).filter vx_no
/-- a word that the tables alone decide, or a good one -/
def vx_ot (w : Cond) : Bool := w.onTables || goodWord w
theorem vx_ot_at {args a' : Array Value} {s U : State} {w : Cond} (hW : s.WarmedH U.vm) (hvm : s.vm = U.vm) (hg : vx_ot w = true) (h : w.before args s = true) : w.before a' U = true := by
  simp only [vx_ot, Bool.or_eq_true] at hg
  rcases hg with hg | hg
  · exact va_tabs hg hvm h
  · exact word_at hW (good_of_word hg) h
/-- a list's words: the good ones out of the method's own list, the others by premises of their own -/
theorem vx_hat {args : Array Value} {s : State} {L B : List Cond} (h1 : ∀ w ∈ L.filter goodWord, w.before args s = true) (h2 : ∀ w ∈ L.filter (fun w => !goodWord w), w ∈ B) (h3 : ∀ w ∈ B, w.before args s = true) : ∀ w ∈ L, w.before args s = true := by
  intro w hw
  by_cases g : goodWord w = true
  · exact h1 w (List.mem_filter.mpr ⟨hw, g⟩)
  · refine h3 w (h2 w (List.mem_filter.mpr ⟨hw, ?_⟩))
    show (!goodWord w) = true
    cases hgw : goodWord w
    · rfl
    · exact absurd hgw g
theorem vx_c {args : Array Value} {s : State} {w : Cond} {B : List Cond} (h : w.before args s = true) (t : ∀ w ∈ B, w.before args s = true) : ∀ w' ∈ w :: B, w'.before args s = true := fun w' h' => (List.mem_cons.mp h').elim (fun e => by rw [e]; exact h) (t w')
theorem vx_n {args : Array Value} {s : State} : ∀ w ∈ ([] : List Cond), w.before args s = true := fun _ h => nomatch h
theorem vx_own {args : Array Value} {s : State} {L : List Cond} (h1 : ∀ w ∈ L.filter vx_no, w.before args s = true)
    (hU : (Cond.isRef (.static Bundle.tN "UNASSIGNED_STACK" Bundle.steD)).before args s = true) (hN : (Cond.isRef (.static Bundle.tN "SUPPRESSED_SENTINEL" Bundle.listD)).before args s = true)
    (lU : (Cond.laysStatic Bundle.tN "UNASSIGNED_STACK" Bundle.steD).before args s = true) (lN : (Cond.laysStatic Bundle.tN "SUPPRESSED_SENTINEL" Bundle.listD).before args s = true) : ∀ w ∈ L, w.before args s = true := by
  intro w hw
  by_cases e1 : w = .isRef (.static Bundle.tN "UNASSIGNED_STACK" Bundle.steD)
  · rw [e1]; exact hU
  · by_cases e2 : w = .isRef (.static Bundle.tN "SUPPRESSED_SENTINEL" Bundle.listD)
    · rw [e2]; exact hN
    · by_cases e3 : w = .laysStatic Bundle.tN "UNASSIGNED_STACK" Bundle.steD
      · rw [e3]; exact lU
      · by_cases e4 : w = .laysStatic Bundle.tN "SUPPRESSED_SENTINEL" Bundle.listD
        · rw [e4]; exact lN
        · exact h1 w (List.mem_filter.mpr ⟨hw, by unfold vx_no; rw [decide_eq_true e1, decide_eq_true e2, decide_eq_true e3, decide_eq_true e4]; rfl⟩)
/-- where a static field lies, its class's statics cell in H -/
def vx_L (C n d : String) (A : Nat → Prop) (U : State) (H : Heap) : Prop := ∃ (c : ClassId) (k : Class) (i : Nat) (f : Field) (a : Nat) (cell : Cell), U.vm.findClass C = some c ∧ U.fieldFound? C n d = some (c, k, i, f) ∧ f.isStatic = true ∧ k.statics = some a ∧ H[a]? = some cell ∧ cell.vm.isStatics = true ∧ cell.cls = c ∧ f.slot < cell.slots.size ∧ k.staticTypes[f.slot]? = some f.type ∧ ¬ A a
theorem vx_L.moved {C n d : String} {A : Nat → Prop} {u U : State} {H : Heap} (hvm : u.vm.Alike U.vm) (h : vx_L C n d A u H) : vx_L C n d A U H := by
  obtain ⟨c, k, i, f, a, cell, h1, h2, h3, h4, h5, h6, h7, h8, h9, h10⟩ := h
  obtain ⟨k', hi', he⟩ := State.fieldFound?_setVm hvm h2
  exact ⟨c, k', i, f, a, cell, by rw [hvm.findClass]; exact h1, hi', h3, by rw [he]; exact h4, h5, h6, h7, h8, by rw [he]; exact h9, h10⟩
theorem vx_L.kept {C n d : String} {A : Nat → Prop} {U : State} {H H1 : Heap} (h : vx_L C n d A U H) (hq : ∀ a : Nat, a < H.size → ¬ A a → H1[a]? = H[a]?) : vx_L C n d A U H1 := by
  obtain ⟨c, k, i, f, a, cell, h1, h2, h3, h4, h5, h6, h7, h8, h9, h10⟩ := h
  exact ⟨c, k, i, f, a, cell, h1, h2, h3, h4, by rw [hq a (Array.getElem?_eq_some_iff.mp h5).1 h10]; exact h5, h6, h7, h8, h9, h10⟩
theorem vx_L.narrow {C n d : String} {A B : Nat → Prop} {U : State} {H : Heap} (h : vx_L C n d A U H) (hAB : ∀ q, B q → A q) : vx_L C n d B U H := by
  obtain ⟨c, k, i, f, a, cell, h1, h2, h3, h4, h5, h6, h7, h8, h9, h10⟩ := h
  exact ⟨c, k, i, f, a, cell, h1, h2, h3, h4, h5, h6, h7, h8, h9, fun z => h10 (hAB _ z)⟩
theorem vx_L.word {C n d : String} {A : Nat → Prop} {s : State} {args : Array Value} (h : vx_L C n d A s s.heap) : (Cond.laysStatic C n d).before args s = true := by
  obtain ⟨c, k, i, f, a, cell, h1, h2, h3, h4, h5, h6, h7, h8, h9, -⟩ := h
  show (Cond.laysStatic C n d).holds args s none s [] = true
  exact Cond.laysStatic_of h1 h2 h3 h4 h5 h6 h7 h8 h9
/-- .. and what it holds: null or some reference -/
def vx_Zq (C n d : String) (A : Nat → Prop) (U : State) (H : Heap) : Prop := va_Zq C n d A U H ∧ vx_L C n d A U H
theorem vx_Zq.moved {C n d : String} {A : Nat → Prop} {u U : State} {H : Heap} (hvm : u.vm.Alike U.vm) (h : vx_Zq C n d A u H) : vx_Zq C n d A U H := ⟨va_Zq.moved hvm h.1, vx_L.moved hvm h.2⟩
theorem vx_Zq.kept {C n d : String} {A : Nat → Prop} {U : State} {H H1 : Heap} (h : vx_Zq C n d A U H) (hq : ∀ a : Nat, a < H.size → ¬ A a → H1[a]? = H[a]?) : vx_Zq C n d A U H1 := ⟨va_Zq.kept h.1 hq, vx_L.kept h.2 hq⟩
theorem vx_Zq.narrow {C n d : String} {A B : Nat → Prop} {U : State} {H : Heap} (h : vx_Zq C n d A U H) (hAB : ∀ q, B q → A q) : vx_Zq C n d B U H := ⟨va_Zq.narrow h.1 hAB, vx_L.narrow h.2 hAB⟩
theorem vx_Zqof {args : Array Value} {s : State} {C n d : String} {A : Nat → Prop} (hl : (Cond.laysStatic C n d).before args s = true) (hini : (Cond.initialized C).before args s = true) (h : (Cond.isRef (.static C n d)).before args s = true) (hA : ∀ a : Nat, a < s.heap.size → ¬ A a) : vx_Zq C n d A s s.heap := by
  refine ⟨va_Zqof hl hini h hA, ?_⟩
  obtain ⟨c, k, i, f, a, cell, h1, h2, h3, h4, h5, h6, h7, h8, h9⟩ := Cond.laysStatic_spec hl
  exact ⟨c, k, i, f, a, cell, h1, h2, h3, h4, h5, h6, h7, h8, h9, hA a (Array.getElem?_eq_some_iff.mp h5).1⟩
theorem vx_isRef {C n d : String} {v : Value} {A : Nat → Prop} {s : State} {args : Array Value} (h : va_Z C n d v A s s.heap) (hv : v.isRef = true) : (Cond.isRef (.static C n d)).before args s = true := by
  obtain ⟨cf, kf, fi, f, a, cell, h1, h2, h3, h4, h5, h6, h7, -⟩ := h
  have he : (Term.static C n d).eval args s none [] s = some v := by
    simp [Term.eval, State.fieldNamed?, h1, h2, h4, h5, h6, h7]
  simp only [Cond.before, Cond.holds, Cond.value, he]
  cases v <;> simp_all [Value.isRef]
theorem vx_isRefq {C n d : String} {A : Nat → Prop} {s : State} {args : Array Value} (h : va_Zq C n d A s s.heap) : (Cond.isRef (.static C n d)).before args s = true := by
  rcases h with h | ⟨t, h⟩
  · exact vx_isRef h rfl
  · exact vx_isRef h rfl
/-- the same frame, seen from here: as if the method were called anew in this heap -/
theorem vx_rebase {T : State} (X : Stand p l e R s m args below meth c T locs cells slots) {R' : Room} (hf : R'.frames ≤ R.frames) (hl : R'.locals ≤ R.locals) (hc : cells + R'.cells ≤ R.cells) (hs : slots + R'.slots ≤ R.slots) :
    Stand p l e R' ((T.setVm s.vm).setFrames (.invoking m args :: below)) m args below meth c T [] 0 0 := by
  have htop : (T.setVm s.vm).topJava?.isSome := X.here.top
  have hF : ((T.setVm s.vm).setFrames (.invoking m args :: below)).frames = .invoking m args :: below := State.frames_setFrames _ (State.cur_lt_of_top htop)
  obtain ⟨g₀, hg0⟩ := Option.isSome_iff_exists.mp htop
  obtain ⟨r, hr⟩ := State.topJava?_eq_some.mp hg0
  have hl9 : e.platform.stackLimits (T.setVm s.vm).me = e.platform.stackLimits s.me := X.limits
  have hb9 : (T.setVm s.vm).me.stackBytes = s.me.stackBytes := X.bytes
  refine ⟨X.admits, X.cas, X.clock, hF, ?_, X.hears, X.method, X.code, X.here, X.tail, X.warmed, ?_, ?_, ?_⟩
  · have h := X.room
    have hU : ((T.setVm s.vm).setFrames (.invoking m args :: below)).localsInUse = s.localsInUse := by
      rw [State.localsInUse_invoking hF (meth := meth) (c := c) X.method X.code, State.localsInUse_invoking X.frames X.method X.code]
    simp only [State.hasRoom, Bool.and_eq_true, decide_eq_true_eq] at h ⊢
    obtain ⟨⟨⟨⟨h1, h2, h3, h4, h5, h6⟩, h7⟩, h8⟩, h9⟩ := h
    rw [X.frames, List.length_cons] at h2 h3
    have q1 := X.heapSize
    have q2 := X.used
    simp only [hF, hU, List.length_cons, State.stackLimits_setFrames, State.stackBytes_setFrames, hl9, hb9]
    refine ⟨⟨⟨⟨by omega, by omega, by omega, by omega, by omega, h6⟩, ?_⟩, ?_⟩, X.book⟩
    · show T.heap.size + R'.cells ≤ e.platform.maxCells
      omega
    · show T.slotsUsed + R'.slots ≤ e.platform.maxSlots
      omega
  · rw [State.stackLimits_setFrames]; rfl
  · rw [State.stackBytes_setFrames]; rfl
  · refine ⟨?_, Nat.le_refl _, Nat.le_refl _, ?_, ?_, fun a c9 h9 => ⟨c9, h9, rfl, rfl, fun _ _ => rfl⟩⟩
    · obtain ⟨t, ht, -⟩ := State.frames_cons hr
      show T.setVm s.vm = { ((T.setVm s.vm).setFrames (.invoking m args :: below)).setFrames (T.setVm s.vm).frames with heap := T.heap, slotsUsed := T.slotsUsed }
      rw [State.setFrames_setFrames, State.setFrames_self ht]
      rfl
    · show T.slotsUsed = T.slotsUsed + ((T.heap.toList.drop T.heap.size).map (·.slots.size)).sum
      rw [List.drop_eq_nil_of_le (Nat.le_of_eq Array.length_toList)]
      rfl
    · show ((T.heap.toList.drop T.heap.size).map (·.slots.size)).sum ≤ 0
      rw [List.drop_eq_nil_of_le (Nat.le_of_eq Array.length_toList)]
      exact Nat.le_refl _
/-- 'throw new E()': new; dup; invokespecial; athrow -/
theorem vx_throw0 {cc : ByteArray} {pc : Nat} (hexec : p.tables.exec = Jvm.exec) (hb : c.code = cc) (hl : l.stackTraces = false) {own cls : String} {names : List String} {ik ic mc ms : Nat} {A : Nat → Prop}
    (hown : s.vm.findClass own = some m.cls) (hcls : Bundle.fit cls = true) (hnames : ∀ n ∈ names, Bundle.fit n = true)
    (hk : (Cond.classLink own ik cls).before args s = true) (hini : (Cond.initialized cls).before args s = true) (hat : ∀ w ∈ vx_at0 own ic cls names, w.before args s = true)
    (hgood : ∀ w ∈ Cond.classLink own ik cls :: Cond.initialized cls :: vx_at0 own ic cls names, vx_ot w = true)
    (hU : vx_Zq Bundle.tN "UNASSIGNED_STACK" Bundle.steD A s s.heap) (hN : vx_Zq Bundle.tN "SUPPRESSED_SENTINEL" Bundle.listD A s s.heap) (hS : va_S A s.heap H locs) (hsize : ls.size = c.maxLocals)
    (d0 : decode cc pc = .ok (.new ik, 3)) (d3 : decode cc (pc + 3) = .ok (.dup, 1)) (d4 : decode cc (pc + 4) = .ok (.invokespecial ic, 3)) (d7 : decode cc (pc + 7) = .ok (.athrow, 1))
    (hout : ∀ x ∈ c.exceptionTable.toList, covers x (pc + 7) = false)
    (hRframes : names.length + 3 < R.frames) (hRlocals : (rest.map fun v => v.category).sum + (13 * (names.length + 1) + 42) ≤ R.locals) (hRcells : cells + 1 ≤ R.cells) (hRslots : slots + 6 ≤ R.slots) (hlocks : meth.locks = false)
    (hx : ∀ t : State, s.vm.Alike t.vm → H.size ≤ t.heap.size → (∀ q : Nat, q < H.size → t.heap[q]? = H[q]?) → XC cls s t)
    (hf : ∀ z ∈ locs, free z.base) (hc : cells + 1 ≤ mc) (hs : slots + 6 ≤ ms) :
    W p l e R s m args below meth c H locs cells slots (vx_MQ below Qc XC args s mc ms free) (F0 m pc ls rest) := by
  intro T hT X
  have htr : e.platform.stackTraces = false := (show e.platform.stackTraces = l.stackTraces by rw [X.admits.platform]).trans hl
  have Y := vx_rebase X (R' := { frames := R.frames, locals := R.locals, cells := 1, slots := 6 }) (Nat.le_refl _) (Nat.le_refl _) hRcells hRslots
  obtain ⟨s', hA⟩ : ∃ z, z = (T.setVm s.vm).setFrames (.invoking m args :: below) := ⟨_, rfl⟩
  rw [← hA] at Y
  have hvm : s'.vm = s.vm := by rw [hA]; rfl
  have hhp : s'.heap = H := by rw [hA]; exact hT
  have hW0 : s.WarmedH s'.vm := by rw [hvm]; exact State.WarmedH.refl s
  have hat' : ∀ w ∈ vx_at0 own ic cls names, w.before args s' = true := fun w hw => vx_ot_at hW0 hvm.symm (hgood w (List.mem_cons_of_mem _ (List.mem_cons_of_mem _ hw))) (hat w hw)
  have hk' : (Cond.classLink own ik cls).before args s' = true := vx_ot_at hW0 hvm.symm (hgood _ List.mem_cons_self) hk
  have hini' : (Cond.initialized cls).before args s' = true := vx_ot_at hW0 hvm.symm (hgood _ (List.mem_cons_of_mem _ List.mem_cons_self)) hini
  have hU' : vx_Zq Bundle.tN "UNASSIGNED_STACK" Bundle.steD A s' s'.heap := by rw [hhp]; exact vx_Zq.moved hW0.alike (hU.kept hS.2.1)
  have hN' : vx_Zq Bundle.tN "SUPPRESSED_SENTINEL" Bundle.listD A s' s'.heap := by rw [hhp]; exact vx_Zq.moved hW0.alike (hN.kept hS.2.1)
  have h : ∀ w ∈ Bundle.ownAtoms0 own ic cls names, w.before args s' = true := vx_own hat' (vx_isRefq hU'.1) (vx_isRefq hN'.1) hU'.2.word hN'.2.word
  have hown' : s'.vm.findClass own = some m.cls := by rw [hvm]; exact hown
  have hins : (Cond.instantiable cls 6).before args s' = true := h _ (by simp [Bundle.ownAtoms0])
  obtain ⟨vm₁, cX, kX, hfX, hkX, -, -, X₁, st1⟩ := Y.newCold hexec (own := own) (C := cls) (index := ik) (n := 6) hown' hk' hins hini'
    (g := F0 m pc ls rest) rfl (by rw [hb]; exact d0) (Nat.le_refl _) (Nat.le_refl _)
  generalize hT1 : (T.setVm vm₁).pushCell { cls := cX, slots := kX.instanceTypes.map defaultValue, vm := .none } = T1 at X₁ st1
  have hcat : (Value.ref T.heap.size).category = 1 := rfl
  have hcellA : T1.heap[T.heap.size]? = some (freshCell cX kX) := by rw [← hT1]; exact State.heap_pushCell_size _ _
  have d3' : decode c.code (pc + 3) = .ok (.dup, 1) := by rw [hb]; exact d3
  obtain ⟨U, hsteps, hrun, hend, hW, hsame, ce, hce, hO⟩ := X₁.ctorThrow0 hexec htr (own := own) (cls := cls) (names := names) (ic := ic) hown' hcls hnames h (fun x hx => nomatch hx) hfX hkX hcellA (by rw [hhp, hT]; exact Nat.le_refl _)
    (g := { method := m, pc := pc + 4, locals := ls, stack := .ref T.heap.size :: .ref T.heap.size :: rest, locked := none }) rfl hsize rfl rfl (rest := rest) rfl
    (by rw [hb]; exact d4) (by rw [hb]; exact d7) hout hRframes (by simp only [List.map_cons, List.sum_cons, hcat]; omega) hlocks
  obtain ⟨f1, f2⟩ := vx_frame hsame
  rw [hhp] at f1 f2
  have hWs : s.WarmedH U.vm := State.WarmedH.trans hW0 hW
  have hcl : s.vm.findClass cls = some ce.cls := by
    have h9 := hO.cls
    rw [hvm] at h9
    exact h9
  have hall : s.sameButNew ({ U with vm := s.vm } : State) locs mc ms := by
    subst hA
    obtain ⟨e1, e2⟩ := hsame
    rw [State.setFrames_setFrames] at e1
    have h2 : (T.setVm s.vm).sameButNew ({ U with vm := s.vm } : State) [] (0 + 1) (0 + 6) := ⟨e1, e2⟩
    have h3 := X.same.trans h2
    rw [List.append_nil] at h3
    exact h3.mono hc hs
  refine ⟨U, ?_, .threw T.heap.size, hrun, hend, Or.inr ⟨T.heap.size, rfl, cls, ce, locs, hx U hWs.alike f1 (fun q hq => f2 q hq (fun z hz => nomatch hz)), hce, hO.vm, hcl, hWs, hall, hf⟩⟩
  refine st1 _ ?_
  show Steps p.tables e below (T1.setTop { method := m, pc := pc + 3, locals := ls, stack := .ref T.heap.size :: rest, locked := none }) _
  jvm_step X₁.here [X₁.here.top, hexec, d3', Value.category]
  exact hsteps
/-- 'throw new E("text")': new; dup; ldc; invokespecial; athrow -/
theorem vx_throwS {cc : ByteArray} {pc : Nat} (hexec : p.tables.exec = Jvm.exec) (hb : c.code = cc) (hl : l.stackTraces = false) {own cls text : String} {names : List String} {ik is ic mc ms sa : Nat} {A : Nat → Prop}
    (hown : s.vm.findClass own = some m.cls) (hcls : Bundle.fit cls = true) (hnames : ∀ n ∈ names, Bundle.fit n = true)
    (hk : (Cond.classLink own ik cls).before args s = true) (hini : (Cond.initialized cls).before args s = true) (hstr : vk_R own is text sa s) (hat : ∀ w ∈ vx_atS own ic cls names, w.before args s = true)
    (hgood : ∀ w ∈ Cond.classLink own ik cls :: Cond.initialized cls :: vx_atS own ic cls names, vx_ot w = true)
    (hU : vx_Zq Bundle.tN "UNASSIGNED_STACK" Bundle.steD A s s.heap) (hN : vx_Zq Bundle.tN "SUPPRESSED_SENTINEL" Bundle.listD A s s.heap) (hS : va_S A s.heap H locs) (hsize : ls.size = c.maxLocals)
    (d0 : decode cc pc = .ok (.new ik, 3)) (d3 : decode cc (pc + 3) = .ok (.dup, 1)) (d4 : decode cc (pc + 4) = .ok (.ldc is, 2)) (d6 : decode cc (pc + 6) = .ok (.invokespecial ic, 3)) (d9 : decode cc (pc + 9) = .ok (.athrow, 1))
    (hout : ∀ x ∈ c.exceptionTable.toList, covers x (pc + 9) = false)
    (hRframes : names.length + 3 < R.frames) (hRlocals : (rest.map fun v => v.category).sum + (13 * (names.length + 1) + 43) ≤ R.locals) (hRcells : cells + 1 ≤ R.cells) (hRslots : slots + 6 ≤ R.slots) (hlocks : meth.locks = false)
    (hx : ∀ t : State, s.vm.Alike t.vm → H.size ≤ t.heap.size → (∀ q : Nat, q < H.size → t.heap[q]? = H[q]?) → XC cls s t)
    (hf : ∀ z ∈ locs, free z.base) (hc : cells + 1 ≤ mc) (hs : slots + 6 ≤ ms) :
    W p l e R s m args below meth c H locs cells slots (vx_MQ below Qc XC args s mc ms free) (F0 m pc ls rest) := by
  intro T hT X
  have htr : e.platform.stackTraces = false := (show e.platform.stackTraces = l.stackTraces by rw [X.admits.platform]).trans hl
  have Y := vx_rebase X (R' := { frames := R.frames, locals := R.locals, cells := 1, slots := 6 }) (Nat.le_refl _) (Nat.le_refl _) hRcells hRslots
  obtain ⟨s', hA⟩ : ∃ z, z = (T.setVm s.vm).setFrames (.invoking m args :: below) := ⟨_, rfl⟩
  rw [← hA] at Y
  have hvm : s'.vm = s.vm := by rw [hA]; rfl
  have hhp : s'.heap = H := by rw [hA]; exact hT
  have hW0 : s.WarmedH s'.vm := by rw [hvm]; exact State.WarmedH.refl s
  have hat' : ∀ w ∈ vx_atS own ic cls names, w.before args s' = true := fun w hw => vx_ot_at hW0 hvm.symm (hgood w (List.mem_cons_of_mem _ (List.mem_cons_of_mem _ hw))) (hat w hw)
  have hk' : (Cond.classLink own ik cls).before args s' = true := vx_ot_at hW0 hvm.symm (hgood _ List.mem_cons_self) hk
  have hini' : (Cond.initialized cls).before args s' = true := vx_ot_at hW0 hvm.symm (hgood _ (List.mem_cons_of_mem _ List.mem_cons_self)) hini
  have hU' : vx_Zq Bundle.tN "UNASSIGNED_STACK" Bundle.steD A s' s'.heap := by rw [hhp]; exact vx_Zq.moved hW0.alike (hU.kept hS.2.1)
  have hN' : vx_Zq Bundle.tN "SUPPRESSED_SENTINEL" Bundle.listD A s' s'.heap := by rw [hhp]; exact vx_Zq.moved hW0.alike (hN.kept hS.2.1)
  have h : ∀ w ∈ Bundle.ownAtoms own ic cls names, w.before args s' = true := vx_own hat' (vx_isRefq hU'.1) (vx_isRefq hN'.1) hU'.2.word hN'.2.word
  have hown' : s'.vm.findClass own = some m.cls := by rw [hvm]; exact hown
  have hins : (Cond.instantiable cls 6).before args s' = true := h _ (by simp [Bundle.ownAtoms])
  obtain ⟨vm₁, cX, kX, hfX, hkX, -, -, X₁, st1⟩ := Y.newCold hexec (own := own) (C := cls) (index := ik) (n := 6) hown' hk' hins hini'
    (g := F0 m pc ls rest) rfl (by rw [hb]; exact d0) (Nat.le_refl _) (Nat.le_refl _)
  generalize hT1 : (T.setVm vm₁).pushCell { cls := cX, slots := kX.instanceTypes.map defaultValue, vm := .none } = T1 at X₁ st1
  have hcat : (Value.ref T.heap.size).category = 1 := rfl
  have hcellA : T1.heap[T.heap.size]? = some (freshCell cX kX) := by rw [← hT1]; exact State.heap_pushCell_size _ _
  have d3' : decode c.code (pc + 3) = .ok (.dup, 1) := by rw [hb]; exact d3
  have d4' : decode c.code (pc + 4) = .ok (.ldc is, 2) := by rw [hb]; exact d4
  have hstr' : vk_R own is text sa s' := vk_R.warm hW0 hstr
  obtain ⟨U, hsteps, hrun, hend, hW, hsame, ce, hce, hO⟩ := X₁.ctorThrowS hexec htr (own := own) (cls := cls) (names := names) (ic := ic) hown' hcls hnames h (fun x hx => nomatch hx) hfX hkX hcellA (by rw [hhp, hT]; exact Nat.le_refl _) (msg := .ref sa) rfl
    (g := { method := m, pc := pc + 6, locals := ls, stack := .ref sa :: .ref T.heap.size :: .ref T.heap.size :: rest, locked := none }) rfl hsize rfl rfl (rest := rest) rfl
    (by rw [hb]; exact d6) (by rw [hb]; exact d9) hout hRframes (by simp only [List.map_cons, List.sum_cons, hcat]; omega) hlocks
  obtain ⟨f1, f2⟩ := vx_frame hsame
  rw [hhp] at f1 f2
  have hWs : s.WarmedH U.vm := State.WarmedH.trans hW0 hW
  have hcl : s.vm.findClass cls = some ce.cls := by
    have h9 := hO.cls
    rw [hvm] at h9
    exact h9
  have hall : s.sameButNew ({ U with vm := s.vm } : State) locs mc ms := by
    subst hA
    obtain ⟨e1, e2⟩ := hsame
    rw [State.setFrames_setFrames] at e1
    have h2 : (T.setVm s.vm).sameButNew ({ U with vm := s.vm } : State) [] (0 + 1) (0 + 6) := ⟨e1, e2⟩
    have h3 := X.same.trans h2
    rw [List.append_nil] at h3
    exact h3.mono hc hs
  refine ⟨U, ?_, .threw T.heap.size, hrun, hend, Or.inr ⟨T.heap.size, rfl, cls, ce, locs, hx U hWs.alike f1 (fun q hq => f2 q hq (fun z hz => nomatch hz)), hce, hO.vm, hcl, hWs, hall, hf⟩⟩
  refine st1 _ ?_
  show Steps p.tables e below (T1.setTop { method := m, pc := pc + 3, locals := ls, stack := .ref T.heap.size :: rest, locked := none }) _
  jvm_step X₁.here [X₁.here.top, hexec, d3', Value.category]
  exact X₁.ldcString hexec (own := own) (text := text) (index := is) (a := sa) hown' hstr'.1 hstr'.2
    (g := { method := m, pc := pc + 4, locals := ls, stack := .ref T.heap.size :: .ref T.heap.size :: rest, locked := none }) rfl d4' _ hsteps
/-- 'throw new E("text")', the text by a wide index -/
theorem vx_throwSW {cc : ByteArray} {pc : Nat} (hexec : p.tables.exec = Jvm.exec) (hb : c.code = cc) (hl : l.stackTraces = false) {own cls text : String} {names : List String} {ik is ic mc ms sa : Nat} {A : Nat → Prop}
    (hown : s.vm.findClass own = some m.cls) (hcls : Bundle.fit cls = true) (hnames : ∀ n ∈ names, Bundle.fit n = true)
    (hk : (Cond.classLink own ik cls).before args s = true) (hini : (Cond.initialized cls).before args s = true) (hstr : vk_R own is text sa s) (hat : ∀ w ∈ vx_atS own ic cls names, w.before args s = true)
    (hgood : ∀ w ∈ Cond.classLink own ik cls :: Cond.initialized cls :: vx_atS own ic cls names, vx_ot w = true)
    (hU : vx_Zq Bundle.tN "UNASSIGNED_STACK" Bundle.steD A s s.heap) (hN : vx_Zq Bundle.tN "SUPPRESSED_SENTINEL" Bundle.listD A s s.heap) (hS : va_S A s.heap H locs) (hsize : ls.size = c.maxLocals)
    (d0 : decode cc pc = .ok (.new ik, 3)) (d3 : decode cc (pc + 3) = .ok (.dup, 1)) (d4 : decode cc (pc + 4) = .ok (.ldc_w is, 3)) (d7 : decode cc (pc + 7) = .ok (.invokespecial ic, 3)) (d10 : decode cc (pc + 10) = .ok (.athrow, 1))
    (hout : ∀ x ∈ c.exceptionTable.toList, covers x (pc + 10) = false)
    (hRframes : names.length + 3 < R.frames) (hRlocals : (rest.map fun v => v.category).sum + (13 * (names.length + 1) + 43) ≤ R.locals) (hRcells : cells + 1 ≤ R.cells) (hRslots : slots + 6 ≤ R.slots) (hlocks : meth.locks = false)
    (hx : ∀ t : State, s.vm.Alike t.vm → H.size ≤ t.heap.size → (∀ q : Nat, q < H.size → t.heap[q]? = H[q]?) → XC cls s t)
    (hf : ∀ z ∈ locs, free z.base) (hc : cells + 1 ≤ mc) (hs : slots + 6 ≤ ms) :
    W p l e R s m args below meth c H locs cells slots (vx_MQ below Qc XC args s mc ms free) (F0 m pc ls rest) := by
  intro T hT X
  have htr : e.platform.stackTraces = false := (show e.platform.stackTraces = l.stackTraces by rw [X.admits.platform]).trans hl
  have Y := vx_rebase X (R' := { frames := R.frames, locals := R.locals, cells := 1, slots := 6 }) (Nat.le_refl _) (Nat.le_refl _) hRcells hRslots
  obtain ⟨s', hA⟩ : ∃ z, z = (T.setVm s.vm).setFrames (.invoking m args :: below) := ⟨_, rfl⟩
  rw [← hA] at Y
  have hvm : s'.vm = s.vm := by rw [hA]; rfl
  have hhp : s'.heap = H := by rw [hA]; exact hT
  have hW0 : s.WarmedH s'.vm := by rw [hvm]; exact State.WarmedH.refl s
  have hat' : ∀ w ∈ vx_atS own ic cls names, w.before args s' = true := fun w hw => vx_ot_at hW0 hvm.symm (hgood w (List.mem_cons_of_mem _ (List.mem_cons_of_mem _ hw))) (hat w hw)
  have hk' : (Cond.classLink own ik cls).before args s' = true := vx_ot_at hW0 hvm.symm (hgood _ List.mem_cons_self) hk
  have hini' : (Cond.initialized cls).before args s' = true := vx_ot_at hW0 hvm.symm (hgood _ (List.mem_cons_of_mem _ List.mem_cons_self)) hini
  have hU' : vx_Zq Bundle.tN "UNASSIGNED_STACK" Bundle.steD A s' s'.heap := by rw [hhp]; exact vx_Zq.moved hW0.alike (hU.kept hS.2.1)
  have hN' : vx_Zq Bundle.tN "SUPPRESSED_SENTINEL" Bundle.listD A s' s'.heap := by rw [hhp]; exact vx_Zq.moved hW0.alike (hN.kept hS.2.1)
  have h : ∀ w ∈ Bundle.ownAtoms own ic cls names, w.before args s' = true := vx_own hat' (vx_isRefq hU'.1) (vx_isRefq hN'.1) hU'.2.word hN'.2.word
  have hown' : s'.vm.findClass own = some m.cls := by rw [hvm]; exact hown
  have hins : (Cond.instantiable cls 6).before args s' = true := h _ (by simp [Bundle.ownAtoms])
  obtain ⟨vm₁, cX, kX, hfX, hkX, -, -, X₁, st1⟩ := Y.newCold hexec (own := own) (C := cls) (index := ik) (n := 6) hown' hk' hins hini'
    (g := F0 m pc ls rest) rfl (by rw [hb]; exact d0) (Nat.le_refl _) (Nat.le_refl _)
  generalize hT1 : (T.setVm vm₁).pushCell { cls := cX, slots := kX.instanceTypes.map defaultValue, vm := .none } = T1 at X₁ st1
  have hcat : (Value.ref T.heap.size).category = 1 := rfl
  have hcellA : T1.heap[T.heap.size]? = some (freshCell cX kX) := by rw [← hT1]; exact State.heap_pushCell_size _ _
  have d3' : decode c.code (pc + 3) = .ok (.dup, 1) := by rw [hb]; exact d3
  have d4' : decode c.code (pc + 4) = .ok (.ldc_w is, 3) := by rw [hb]; exact d4
  have hstr' : vk_R own is text sa s' := vk_R.warm hW0 hstr
  obtain ⟨U, hsteps, hrun, hend, hW, hsame, ce, hce, hO⟩ := X₁.ctorThrowS hexec htr (own := own) (cls := cls) (names := names) (ic := ic) hown' hcls hnames h (fun x hx => nomatch hx) hfX hkX hcellA (by rw [hhp, hT]; exact Nat.le_refl _) (msg := .ref sa) rfl
    (g := { method := m, pc := pc + 7, locals := ls, stack := .ref sa :: .ref T.heap.size :: .ref T.heap.size :: rest, locked := none }) rfl hsize rfl rfl (rest := rest) rfl
    (by rw [hb]; exact d7) (by rw [hb]; exact d10) hout hRframes (by simp only [List.map_cons, List.sum_cons, hcat]; omega) hlocks
  obtain ⟨f1, f2⟩ := vx_frame hsame
  rw [hhp] at f1 f2
  have hWs : s.WarmedH U.vm := State.WarmedH.trans hW0 hW
  have hcl : s.vm.findClass cls = some ce.cls := by
    have h9 := hO.cls
    rw [hvm] at h9
    exact h9
  have hall : s.sameButNew ({ U with vm := s.vm } : State) locs mc ms := by
    subst hA
    obtain ⟨e1, e2⟩ := hsame
    rw [State.setFrames_setFrames] at e1
    have h2 : (T.setVm s.vm).sameButNew ({ U with vm := s.vm } : State) [] (0 + 1) (0 + 6) := ⟨e1, e2⟩
    have h3 := X.same.trans h2
    rw [List.append_nil] at h3
    exact h3.mono hc hs
  refine ⟨U, ?_, .threw T.heap.size, hrun, hend, Or.inr ⟨T.heap.size, rfl, cls, ce, locs, hx U hWs.alike f1 (fun q hq => f2 q hq (fun z hz => nomatch hz)), hce, hO.vm, hcl, hWs, hall, hf⟩⟩
  refine st1 _ ?_
  show Steps p.tables e below (T1.setTop { method := m, pc := pc + 3, locals := ls, stack := .ref T.heap.size :: rest, locked := none }) _
  jvm_step X₁.here [X₁.here.top, hexec, d3', Value.category]
  exact X₁.ldcStringW hexec (own := own) (text := text) (index := is) (a := sa) hown' hstr'.1 hstr'.2
    (g := { method := m, pc := pc + 4, locals := ls, stack := .ref T.heap.size :: .ref T.heap.size :: rest, locked := none }) rfl d4' _ hsteps
end Ends
section Bodies
variable {l : Launch}
theorem vx_ofW {y : MethodName} {ws ws' : List Cond} {rm : Room} {Pc : Array Value → State → Prop} {Qc : Array Value → State → Outcome → State → Prop} {XC : String → State → State → Prop} {mc ms : Nat} {free : Addr → Prop} {cc : ByteArray} {maxL : Nat} {ret : Option FieldType}
    (hy : plainName y.cls = true) (hw : ws = Cond.code y cc maxL ret :: ws')
    (body : ∀ p e s m args below meth c s₁, BodyLoose p l y (headSpec ws rm) cc maxL ret e s m args below meth c s₁ → c.maxLocals = maxL → (∀ x ∈ c.exceptionTable.toList, False) → Pc args s →
      W p l e (headSpec ws rm).room s m args below meth c s.heap [] 0 0 (vx_MQ below Qc XC args s mc ms free) (entryFrame m args maxL)) : vx_Met l y ws rm Pc Qc XC mc ms free := by
  refine MetFree.of_bodyS (code := cc) (maxLocals := maxL) (ret := ret) hy ?_ ?_
  · intro args s m h hn
    obtain ⟨meth, c, h1, h2, h3, h4, h5, h6, -, -⟩ := Cond.code_spec hn (atoms_spec (ws := ws) h _ (by rw [hw]; exact List.mem_cons_self))
    exact ⟨meth, c, h1, h2, h3, h4, h5, h6⟩
  · intro p e s m args below meth c s₁ B hml hP _
    have hh0 : s₁.heap = s.heap := by rw [B.state]; rfl
    have ht : ∀ x ∈ c.exceptionTable.toList, False := by
      obtain ⟨meth9, c9, h1, h2, -, -, -, -, h7, -⟩ := Cond.code_spec B.named (atoms_spec (ws := ws) B.pre _ (by rw [hw]; exact List.mem_cons_self))
      cases Option.some.inj (h1.symm.trans B.method)
      cases Option.some.inj (h2.symm.trans (Stand.of_body B).code)
      intro x hx
      rw [Array.isEmpty_iff.mp h7] at hx
      cases hx
    obtain ⟨t, a1, o, b1, b2, b3⟩ := body p e s m args below meth c s₁ B hml ht hP s₁ hh0 (Stand.of_body B)
    exact ⟨t, o, a1, b1, b2, b3⟩
/-- the table of a body with handlers -/
theorem vx_table {p : Program} {x y : MethodName} {S : Spec} {cc bytes : ByteArray} {maxL maxL' : Nat} {ret ret' : Option FieldType} {e : Env} {s s₁ : State} {m : MethodId} {args : Array Value} {below : List Frame} {meth : Method} {c : Code} {hh : List (Nat × Nat × Nat × Nat)}
    (B : BodyLoose p l y S cc maxL ret e s m args below meth c s₁) (h : (Cond.codeWith y bytes maxL' ret' hh).before args s = true) : c.exceptionTable.toList = tableOf hh := by
  obtain ⟨m9, meth9, c9, hn9, h1, h2, -, -, h6, -⟩ := Cond.codeWith_spec h
  cases Option.some.inj (hn9.symm.trans B.named)
  cases Option.some.inj (h1.symm.trans B.method)
  cases Option.some.inj (h2.symm.trans (Stand.of_body B).code)
  rw [← h6, table_eq]
end Bodies
end VXA
/-! ===== END ===== -/
/-! ===== BEGIN a static call of a method with an exception table ===== -/
section VXS
variable {p : Program} {l : Launch} {e : Env} {R : Room} {s : State} {m : MethodId} {args : Array Value} {below : List Frame} {meth : Method} {c : Code} {T : State} {H : Heap} {locs : List Loc} {cells slots : Nat}
abbrev vx_CSW (R : Room) (s : State) (args : Array Value) (own : String) (index : Nat) (y : MethodName) (bytes : ByteArray) (maxL : Nat) (ret : Option FieldType) (hh : List (Nat × Nat × Nat × Nat)) (ws : List Cond) (rm : Room) (mc ms n : Nat) : Prop :=
  (rm.cells = mc ∧ rm.slots = ms ∧ rm.frames + 1 ≤ R.frames ∧ 8 + (maxL + 11) + rm.locals ≤ R.locals ∧ (∀ w ∈ ws, ∀ (a' : Array Value) (U : State), s.WarmedH U.vm → w.before a' U = true) ∧ Cond.codeWith y bytes maxL ret hh ∈ ws) ∧
  (Cond.codeWith y bytes maxL ret hh).before args s = true ∧ (Cond.initialized y.cls).before args s = true ∧ (y.cls ≠ "java/lang/invoke/MethodHandle" ∧ y.cls ≠ "java/lang/invoke/VarHandle") ∧
  (∀ sig, parseMethodDescriptor y.desc = some sig → n = sig.parameters.length) ∧ (Cond.methodLink own index y).before args s = true ∧ (Cond.static y).before args s = true
theorem vx_cwSW {own : String} {index maxL mc ms : Nat} {y : MethodName} {bytes : ByteArray} {ret : Option FieldType} {hh : List (Nat × Nat × Nat × Nat)} {Ts ws ws' : List Cond} {rm : Room} (n : Nat) (ht : ∀ w ∈ Ts, w.before args s = true) (hT : GoodIn Ts (va_wsS own index y ws)) (hw : ws = Cond.codeWith y bytes maxL ret hh :: ws') (hrc : rm.cells = mc) (hrs : rm.slots = ms)
    (hd : y.cls ≠ "java/lang/invoke/MethodHandle" ∧ y.cls ≠ "java/lang/invoke/VarHandle" ∧ (parseMethodDescriptor y.desc).map (fun d => d.parameters.length) = some n) (hR : rm.frames + 1 ≤ R.frames ∧ 8 + (maxL + 11) + rm.locals ≤ R.locals) :
    vx_CSW R s args own index y bytes maxL ret hh ws rm mc ms n := by
  have ok : ∀ w ∈ va_wsS own index y ws, w.before args s = true := fun w h => ht w (hT w h).1
  have hG : GoodIn Ts ws := fun w h => hT w (by unfold va_wsS; exact List.mem_append_right _ h)
  have hc : Cond.codeWith y bytes maxL ret hh ∈ ws := by rw [hw]; exact List.mem_cons_self
  refine ⟨⟨hrc, hrs, hR.1, hR.2, pay_in ht hG, hc⟩, ht _ (hG _ hc).1, ok _ (by simp [va_wsS]), ⟨hd.1, hd.2.1⟩, fun sig h => ?_, ok _ (by simp [va_wsS]), ok _ (by simp [va_wsS])⟩
  have h2 := hd.2.2
  rw [h] at h2
  exact (Option.some.inj h2).symm
theorem vx_callSW (X : Stand p l e R s m args below meth c T locs cells slots) (hexec : p.tables.exec = Jvm.exec) {own : String} {index : Nat} {y : MethodName} {bytes : ByteArray} {maxL : Nat} {ret : Option FieldType} {hh : List (Nat × Nat × Nat × Nat)}
    (hown : s.vm.findClass own = some m.cls) (hlink : (Cond.methodLink own index y).before args s = true) (hstat : (Cond.static y).before args s = true) (hinit : (Cond.initialized y.cls).before args s = true)
    (hcode : (Cond.codeWith y bytes maxL ret hh).before args s = true) (hy : y.cls ≠ "java/lang/invoke/MethodHandle" ∧ y.cls ≠ "java/lang/invoke/VarHandle")
    {W9 : Nat} {Pre : Pt → Array Value → Prop} {Post : Pt → Array Value → Option Value → Pt → Prop} (hK : Back l R p e below s args y 3 W9 Pre Post)
    {g : JFrame} (hg : g.method = m) (hsize : g.locals.size = c.maxLocals) {argsL rest : List Value} (hlen : ∀ sig, parseMethodDescriptor y.desc = some sig → argsL.length = sig.parameters.length)
    (hstack : g.stack = argsL.reverse ++ rest) (hW : 2 * g.monitorRoom + (rest.map fun v => v.category).sum ≤ W9) (hdg : decode c.code g.pc = .ok (.invokestatic index, 3))
    (hpre : ∀ vm₁, s.WarmedH vm₁ → Pre ⟨T.setVm vm₁, locs, cells, slots⟩ argsL.toArray) :
    ∃ (v : Option Value) (vm₁ : Vm) (B : Pt), s.WarmedH vm₁ ∧ Stand p l e R s m args below meth c B.U B.locs B.cells B.slots ∧ Post ⟨T.setVm vm₁, locs, cells, slots⟩ argsL.toArray v B ∧
      ∀ target, Steps p.tables e below (B.U.setTop { g with pc := g.pc + 3, stack := v.toList ++ rest }) target → Steps p.tables e below (T.setTop g) target := by
  obtain ⟨mk, methM, cM, hnamed, hmethM, -, -, -, -, -, -, hsigM⟩ := Cond.codeWith_spec hcode
  have hstatic : methM.isStatic = true := Cond.static_spec hnamed hmethM hstat
  obtain ⟨kP, hkP, -⟩ := className_of_methodNamed hnamed
  have hinitP : kP.init = .initialized := Cond.initialized_spec (findClass_of_methodNamed hnamed) hkP hinit
  obtain ⟨vm₁, X₁, hstep₁⟩ := X.invokestatic hexec hown hlink hnamed hmethM hstatic hkP hinitP hy (g := g) hg (argsL := argsL) (rest := rest) (hlen _ hsigM) hstack hdg
  obtain ⟨v, B, X', hpost, hsteps⟩ := hK m meth c ⟨T.setVm vm₁, locs, cells, slots⟩ { g with stack := rest } (.invokestatic index) mk argsL.toArray X₁ hg hsize hdg hW (X₁.named hnamed) (hpre vm₁ X₁.warmed)
  exact ⟨v, vm₁, B, X₁.warmed, X', hpost, fun target h => hstep₁ _ fun acts => by rw [doInvoke_state]; exact hsteps.trans h⟩
theorem vx_runSW {y : MethodName} {bytes cc : ByteArray} {maxL nL mc ms n index : Nat} {ret : Option FieldType} {hh : List (Nat × Nat × Nat × Nat)} {ws : List Cond} {rm : Room} {Pc : Array Value → State → Prop} {Qc : Array Value → State → Outcome → State → Prop} {free : Addr → Prop} {Ts : List Cond} {own : String} {As rest : List Value} {g : JFrame}
    (S : CallFix p m c cc nL s args Ts own) (hM : Met l y ws rm Pc Qc mc ms free) (cw : vx_CSW R s args own index y bytes maxL ret hh ws rm mc ms n) (hp : PreS s H Pc As)
    (hg : g.method = m) (hn : As.length = n) (hsize : g.locals.size = nL) (hstack : g.stack = As.reverse ++ rest) (hW : 2 * g.monitorRoom + (rest.map fun v => v.category).sum ≤ 8) (hdg : decode cc g.pc = .ok (.invokestatic index, 3)) (hf : cells + mc ≤ R.cells ∧ slots + ms ≤ R.slots) :
    va_Run p l e R s m args below meth c H locs cells slots mc ms g rest (Qc As.toArray) (free) := by
  obtain ⟨⟨hrc, hrs, hfr, hlo, hws, hcw⟩, hcode, hini, hy, hlen, hl, hstt⟩ := cw
  have hK : Back l R p e below s args y 3 8 (PreOf R mc ms Pc) (PostOf Qc mc ms free) := va_backW (hh := hh) (bytes := bytes) (maxL := maxL) (ret := ret) hM hp.1 hrc hrs hfr hlo hws hcw (fun a' U hW => word_at hW (Or.inl (by first | rfl | simp [Cond.onTables, Cond.keeps, Cond.steady])) hini)
  obtain ⟨hx, hb, hml, ho, -⟩ := S
  intro T hT X
  obtain ⟨v, vm₁, ⟨U', l2, c2, s2⟩, hW₁, X', ⟨g', mk, t, L, e1, e2, hq, h1, hL, h2, h3⟩, st⟩ := vx_callSW X hx (hh := hh) (bytes := bytes) (maxL := maxL) (ret := ret) ho hl hstt hini hcode hy hK hg (hsize.trans hml.symm) (argsL := As) (rest := rest) (fun sig h => hn.trans (hlen sig h)) hstack hW (by rw [hb]; exact hdg)
    (fun vm₁ hW₁ => ⟨hf.1, hf.2, hp.2 (T.setVm vm₁) hT hW₁⟩)
  dsimp only [Pt.U, Pt.locs, Pt.cells, Pt.slots] at X' e1 e2 h1 h2 h3 st
  subst h1; subst h2; subst h3
  exact ⟨v, (T.setVm vm₁).calling g' mk As.toArray, t, U', L, hT, X', hL, e1, e2, hq, st⟩
/-- not caught here, past rows that name other classes: it goes on to the caller -/
theorem vx_outP {p : Program} {l : Launch} {e : Env} {R : Room} {s : State} {m : MethodId} {args : Array Value} {below : List Frame} {meth : Method} {c : Code} {H : Heap} {locs : List Loc} {cells slots : Nat} {free : Addr → Prop} {ls : Array Slot} {rest : List Value} {Qc : Array Value → State → Outcome → State → Prop} {XC : String → State → State → Prop}
    {pc : Nat} {own E : String} {ce : Cell} {q : Addr} {mc ms : Nat} (hown : s.vm.findClass own = some m.cls) (hlocks : meth.locks = false)
    (hpass : ∀ z ∈ c.exceptionTable.toList, covers z pc = false ∨ (z.catchType ≠ 0 ∧ ∃ nm : String, (Cond.classLink own z.catchType nm).before args s = true ∧ va_Nc E nm s)) (hcell : H[q]? = some ce) (hv : ce.vm = .none) (hcl : s.vm.findClass E = some ce.cls)
    (hx : ∀ t : State, t.heap = H → s.vm.Alike t.vm → XC E s t) (hf : ∀ z ∈ locs, free z.base) (hc : cells ≤ mc) (hs : slots ≤ ms) :
    vx_W p l e R s m args below meth c H locs cells slots (vx_MQ below Qc XC args s mc ms free) (F0 m pc ls rest) q := by
  intro T hT X
  have hpl : e.platform.magicAccessors = ({} : Platform).magicAccessors := by rw [X.admits.platform]
  obtain ⟨vm', hW', X', st⟩ := X.outThrough hlocks q (g := F0 m pc ls rest) rfl rfl rfl (cell := ce) (by rw [hT]; exact hcell) (by rw [hv]; rfl)
    (by obtain ⟨k9, h9, -⟩ := Vm.findClass_spec hcl; exact ⟨k9, h9⟩) (fun z hz => by
      rcases hpass z hz with h | ⟨hz0, nm, hl1, hn1⟩
      · exact Or.inl h
      · obtain ⟨c6, hc6, hcl6⟩ := Cond.classLink_spec hown hl1 e.platform hpl
        obtain ⟨a8, b8, h1, h2, h3⟩ := hn1
        cases Option.some.inj (h1.symm.trans hcl)
        cases Option.some.inj (h2.symm.trans hc6)
        exact Or.inr ⟨hz0, _, hcl6, h3⟩)
  obtain ⟨g₀, hfr⟩ := X'.frames_eq
  have hcell9 : ((T.setVm vm').setFrames (.throwing q :: below)).heap[q]? = some ce := by
    show T.heap[q]? = some ce
    rw [hT]; exact hcell
  have hend : Ended ((T.setVm vm').setFrames (.throwing q :: below)) below (.threw q) := State.frames_setFrames _ (State.cur_lt_of_frames hfr)
  refine ⟨(T.setVm vm').setFrames (.throwing q :: below), ?_, .threw q, X'.here.running, hend, Or.inr ⟨q, rfl, E, ce, locs, hx _ hT (X'.ends _).1.alike, hcell9, hv, hcl, (X'.ends _).1, (X'.ends _).2.mono hc hs, hf⟩⟩
  rw [X.pushThrowing_eq]
  exact st
/-- a thing of a world lies in the heap -/
theorem vx_lt {D : va_G} {cl : List vw_C} {ws : va_W} {H1 : Heap} (h : va_P D cl ws H1) {k : Nat} {q : Nat × va_E} (hk : ws[k]? = some q) : q.1 < H1.size := (h k q hk).lt
end VXS
/-! ===== END ===== -/
/-! ===== BEGIN methods with a table of their own: called by a name, returning or throwing ===== -/
section VXH
/-! vx_backW, vx_callVX, vx_callSX, vx_callVW, vx_runVW, vx_runVX, vx_runSX, vx_ofWH follow the same proofs as their sisters above (Free/Laws.lean, Shelf42/LK1.lean); vx_outP calls Shelf42/NT130.lean (outThrough). -/
section
variable {l : Launch} {R : Room} {p : Program} {e : Env} {below : List Frame} {s : State} {sargs : Array Value} {y : MethodName} {len W9 : Nat}
theorem vx_backW {ws : List Cond} {rm : Room} {Pc : Array Value → State → Prop} {Qc : Array Value → State → Outcome → State → Prop} {XC : String → State → State → Prop} {mc ms : Nat} {free : Addr → Prop} {bytes : ByteArray} {maxL : Nat} {ret : Option FieldType} {hh : List (Nat × Nat × Nat × Nat)}
    (hM : vx_Met l y ws rm Pc Qc XC mc ms free) (hblind : FrameBlind Pc) (hrc : rm.cells = mc) (hrs : rm.slots = ms)
    (hframes : rm.frames + 1 ≤ R.frames) (hlocals : W9 + (maxL + 11) + rm.locals ≤ R.locals)
    (hws : ∀ w ∈ ws, ∀ a' U, s.WarmedH U.vm → w.before a' U = true) (hcode : Cond.codeWith y bytes maxL ret hh ∈ ws) (hinit : ∀ a' U, s.WarmedH U.vm → (Cond.initialized y.cls).before a' U = true) :
    vx_Back l R p e below s sargs y len W9 (PreOf R mc ms Pc) (PostOf Qc mc ms free) (vx_Post XC mc ms free) := by
  intro m meth c A g ig mk a X hg hsize hdg hW hn hp
  have h1 : (headSpec ws rm).pre.before a A.U = true := atoms_intro fun w hw => hws w hw _ _ X.warmed
  have h2 : (Cond.codeWith y bytes maxL ret hh).before a A.U = true := hws _ hcode _ _ X.warmed
  have h3 : (Cond.initialized y.cls).before a A.U = true := hinit _ _ X.warmed
  have h4 : A.cells + (headSpec ws rm).room.cells ≤ R.cells := by rw [show (headSpec ws rm).room.cells = mc from hrc]; exact hp.1
  have h5 : A.slots + (headSpec ws rm).room.slots ≤ R.slots := by rw [show (headSpec ws rm).room.slots = ms from hrs]; exact hp.2.1
  have hPc : Pc a (A.U.calling g mk a) := hblind _ _ _ _ hp.2.2
  obtain ⟨U, Ls, c0, s0⟩ := A
  dsimp only [Pt.U, Pt.locs, Pt.cells, Pt.slots] at h1 h2 h3 h4 h5 X hn hPc ⊢
  obtain ⟨m9, methY, cY, hn9, hmY, hcY, -, hlY, -⟩ := Cond.codeWith_spec h2
  cases Option.some.inj (hn9.symm.trans hn)
  obtain ⟨kY, hkY, -⟩ := className_of_methodNamed hn
  have hinitY : kY.init = .initialized := Cond.initialized_spec (findClass_of_methodNamed hn) hkY h3
  have h : At U g.method c below := by rw [hg]; exact X.here
  have hlocals9 : W9 + (maxL + 11) + (headSpec ws rm).room.locals ≤ R.locals := hlocals
  have happ : (headSpec ws rm).appliesLoose y e.platform (U.calling g mk a) = true :=
    Spec.appliesLoose_calling (g := g) h hdg hn hkY hinitY
      (X.room_calling (g := g) (R' := (headSpec ws rm).room) hsize hmY hcY hframes (by rw [hlY]; omega) h4 h5) h1
  obtain ⟨mid, hmid⟩ := h.above
  have hfr : (U.setTop g).frames = (.java g :: mid) ++ below := by rw [State.frames_setTop' g h.top, hmid]; rfl
  obtain ⟨o, s₂, hsteps, -, hend, hq⟩ := Steps.callFree hM p X.admits X.cas X.clock (acts := []) hfr happ hPc trivial
  have hq' : vx_Q Qc XC mc ms free a (U.calling g mk a) o s₂ := hq
  rw [State.frames_setTop' g h.top] at hend
  obtain ⟨g₀, hg0⟩ := Option.isSome_iff_exists.mp h.top
  obtain ⟨r, hr⟩ := State.topJava?_eq_some.mp hg0
  have hr' : (({ U with heap := s₂.heap, slotsUsed := s₂.slotsUsed } : State).setVm s₂.vm).frames = .java g₀ :: r := hr
  rcases hq' with ⟨hqc, L, hfe, hL⟩ | ⟨q, rfl, E, ce, L, hx, hce, hcv, hcl, hW₂, hsm, hL⟩
  · obtain ⟨⟨v, rfl⟩, hW₂, e2, q2, q3, q4, q5, q6⟩ := id hfe
    have e3 : s₂ = ({ (U.calling g mk a).setFrames s₂.frames with heap := s₂.heap, slotsUsed := s₂.slotsUsed } : State).setVm s₂.vm := by
      have : s₂ = ({ s₂ with vm := (U.calling g mk a).vm } : State).setVm s₂.vm := rfl
      rw [e2] at this
      exact this
    obtain ⟨c₂, i₂, len₂, hc₂, hd₂, hf₂⟩ := hend
    have hW' : U.WarmedH s₂.vm := hW₂
    have hcc : c₂ = c := by
      have h1 : s₂.code? g.method = U.code? g.method := by
        rw [State.code?_eq, State.code?_eq, hW'.alike.method?]
      exact Option.some.inj (hc₂.symm.trans (h1.trans h.code))
    subst hcc
    have hlen : len₂ = len := by rw [hdg] at hd₂; cases hd₂; rfl
    subst hlen
    have hs₂ : s₂ = (({ U with heap := s₂.heap, slotsUsed := s₂.slotsUsed } : State).setVm s₂.vm).setTop { g with pc := g.pc + len₂, stack := v.toList ++ g.stack } := by
      refine e3.trans ?_
      rw [hf₂, State.calling_eq h.top, State.setFrames_setFrames, State.setTop_of_frames _ hr', hr]
      rfl
    have hsame : U.sameButNew ({ U with heap := s₂.heap, slotsUsed := s₂.slotsUsed } : State) L mc ms := by
      refine ⟨?_, q2, q3, q4, q5, q6⟩
      obtain ⟨t, ht, -⟩ := State.frames_cons hr
      show ({ U with heap := s₂.heap, slotsUsed := s₂.slotsUsed } : State) = { U.setFrames U.frames with heap := s₂.heap, slotsUsed := s₂.slotsUsed }
      rw [State.setFrames_self ht]
    subst hg
    refine Or.inl ⟨v, ⟨(({ U with heap := s₂.heap, slotsUsed := s₂.slotsUsed } : State).setVm s₂.vm), Ls ++ L, c0 + mc, s0 + ms⟩,
      ⟨X.admits, X.cas, X.clock, X.frames, X.room, X.hears, X.method, X.code, (X.here.setHeapUsed s₂.heap s₂.slotsUsed).setVm hW'.alike, X.tail, State.WarmedH.trans X.warmed hW', X.limits, X.bytes, X.same.trans (hsame.setVm s.vm)⟩,
      ⟨g, mk, s₂, L, rfl, rfl, hqc, rfl, hL, rfl, rfl⟩, ?_⟩
    show Steps p.tables e below _ ((({ U with heap := s₂.heap, slotsUsed := s₂.slotsUsed } : State).setVm s₂.vm).setTop { g with pc := g.pc + len₂, stack := v.toList ++ g.stack })
    rw [← hs₂]
    exact hsteps
  · obtain ⟨e2, q2, q3, q4, q5, q6⟩ := id hsm
    have e3 : s₂ = ({ (U.calling g mk a).setFrames s₂.frames with heap := s₂.heap, slotsUsed := s₂.slotsUsed } : State).setVm s₂.vm := by
      have : s₂ = ({ s₂ with vm := (U.calling g mk a).vm } : State).setVm s₂.vm := rfl
      rw [e2] at this
      exact this
    have hf₂ : s₂.frames = .throwing q :: .java g :: U.frames.tail := hend
    have hW' : U.WarmedH s₂.vm := hW₂
    have hs₂ : s₂ = ((({ U with heap := s₂.heap, slotsUsed := s₂.slotsUsed } : State).setVm s₂.vm).setTop g).pushFrame (.throwing q) := by
      refine e3.trans ?_
      rw [hf₂, State.calling_eq h.top, State.setFrames_setFrames, State.pushFrame, State.frames_setTop _ hr', State.setTop_of_frames _ hr', State.setFrames_setFrames, hr]
      rfl
    have hsame : U.sameButNew ({ U with heap := s₂.heap, slotsUsed := s₂.slotsUsed } : State) L mc ms := by
      refine ⟨?_, q2, q3, q4, q5, q6⟩
      obtain ⟨t, ht, -⟩ := State.frames_cons hr
      show ({ U with heap := s₂.heap, slotsUsed := s₂.slotsUsed } : State) = { U.setFrames U.frames with heap := s₂.heap, slotsUsed := s₂.slotsUsed }
      rw [State.setFrames_self ht]
    subst hg
    refine Or.inr ⟨q, ⟨(({ U with heap := s₂.heap, slotsUsed := s₂.slotsUsed } : State).setVm s₂.vm), Ls ++ L, c0 + mc, s0 + ms⟩,
      ⟨X.admits, X.cas, X.clock, X.frames, X.room, X.hears, X.method, X.code, (X.here.setHeapUsed s₂.heap s₂.slotsUsed).setVm hW'.alike, X.tail, State.WarmedH.trans X.warmed hW', X.limits, X.bytes, X.same.trans (hsame.setVm s.vm)⟩,
      ⟨g, mk, s₂, L, E, ce, rfl, rfl, hx, hce, hcv, hcl, rfl, hL, rfl, rfl⟩, ?_⟩
    show Steps p.tables e below _ (((({ U with heap := s₂.heap, slotsUsed := s₂.slotsUsed } : State).setVm s₂.vm).setTop g).pushFrame (.throwing q))
    rw [← hs₂]
    exact hsteps
end
variable {p : Program} {l : Launch} {e : Env} {R : Room} {s : State} {m : MethodId} {args : Array Value} {below : List Frame} {meth : Method} {c : Code} {T : State} {H : Heap} {locs : List Loc} {cells slots : Nat}
theorem vx_callVX (X : Stand p l e R s m args below meth c T locs cells slots) (hexec : p.tables.exec = Jvm.exec) {own C : String} {index : Nat} {y : MethodName} {bytes : ByteArray} {maxL : Nat} {ret : Option FieldType} {hh : List (Nat × Nat × Nat × Nat)}
    (hown : s.vm.findClass own = some m.cls) (hlink : (Cond.methodLink own index y).before args s = true) (hinst : (Cond.instanceMethod y).before args s = true) (hsel : (Cond.selects C y y).before args s = true)
    (hcode : (Cond.codeWith y bytes maxL ret hh).before args s = true) (hy : y.cls ≠ "java/lang/invoke/MethodHandle" ∧ y.cls ≠ "java/lang/invoke/VarHandle")
    {W9 : Nat} {Pre : Pt → Array Value → Prop} {Post : Pt → Array Value → Option Value → Pt → Prop} {PostX : Pt → Array Value → Addr → Pt → Prop} (hK : vx_Back l R p e below s args y 3 W9 Pre Post PostX)
    {b : Addr} {cellB : Cell} (hcell : T.heap[b]? = some cellB) (hobj : cellB.vm.isStatics = false) (hcls : s.vm.findClass C = some cellB.cls)
    {g : JFrame} (hg : g.method = m) (hsize : g.locals.size = c.maxLocals) {argsL rest : List Value} (hlen : ∀ sig, parseMethodDescriptor y.desc = some sig → argsL.length = sig.parameters.length)
    (hstack : g.stack = argsL.reverse ++ .ref b :: rest) (hW : 2 * g.monitorRoom + (rest.map fun v => v.category).sum ≤ W9) (hdg : decode c.code g.pc = .ok (.invokevirtual index, 3))
    (hpre : ∀ vm₁, s.WarmedH vm₁ → Pre ⟨T.setVm vm₁, locs, cells, slots⟩ (Value.ref b :: argsL).toArray) :
    (∃ (v : Option Value) (vm₁ : Vm) (B : Pt), s.WarmedH vm₁ ∧ Stand p l e R s m args below meth c B.U B.locs B.cells B.slots ∧ Post ⟨T.setVm vm₁, locs, cells, slots⟩ (Value.ref b :: argsL).toArray v B ∧
      ∀ target, Steps p.tables e below (B.U.setTop { g with pc := g.pc + 3, stack := v.toList ++ rest }) target → Steps p.tables e below (T.setTop g) target) ∨
    (∃ (q : Addr) (vm₁ : Vm) (B : Pt), s.WarmedH vm₁ ∧ Stand p l e R s m args below meth c B.U B.locs B.cells B.slots ∧ PostX ⟨T.setVm vm₁, locs, cells, slots⟩ (Value.ref b :: argsL).toArray q B ∧
      Steps p.tables e below (T.setTop g) ((B.U.setTop { g with stack := rest }).pushFrame (.throwing q))) := by
  obtain ⟨mk, methM, hnamed, hmethM, hstM, habM⟩ := Cond.instanceMethod_spec hinst
  obtain ⟨m8, methM', cM, hn8, hmethM', -, -, -, -, -, -, hsigM⟩ := Cond.codeWith_spec hcode
  cases Option.some.inj (hn8.symm.trans hnamed)
  cases hmethM.symm.trans hmethM'
  obtain ⟨c2, r2, m2, q1, q2, q3, q4, kP, hkP, hkPi⟩ := Cond.selects_spec hsel
  cases hcls.symm.trans q1
  cases (State.methodFound?_of_named hnamed hy).symm.trans q2
  cases hnamed.symm.trans q3
  have hselP : selectMethod e.platform s.vm cellB.cls mk = .method mk := by rw [Launch.admits_selectMethod X.admits]; exact q4
  obtain ⟨vm₁, X₁, hstep₁⟩ := X.invokevirtual hexec hown hlink hnamed hmethM hstM hkP hkPi hy (a := b) (cell := cellB) hcell
    (fun z h => by rw [h] at hobj; cases hobj) hselP hmethM habM hkP hkPi (g := g) hg (argsL := argsL) (rest := rest) (hlen _ hsigM) hstack hdg
  rcases hK m meth c ⟨T.setVm vm₁, locs, cells, slots⟩ { g with stack := rest } (.invokevirtual index) mk (Value.ref b :: argsL).toArray X₁ hg hsize hdg hW (X₁.named hnamed) (hpre vm₁ X₁.warmed) with ⟨v, B, X', hpost, hsteps⟩ | ⟨q, B, X', hpost, hsteps⟩
  · exact Or.inl ⟨v, vm₁, B, X₁.warmed, X', hpost, fun target h => hstep₁ _ fun acts => by rw [doInvoke_state]; exact hsteps.trans h⟩
  · exact Or.inr ⟨q, vm₁, B, X₁.warmed, X', hpost, hstep₁ _ fun acts => by rw [doInvoke_state]; exact hsteps⟩
theorem vx_callSX (X : Stand p l e R s m args below meth c T locs cells slots) (hexec : p.tables.exec = Jvm.exec) {own : String} {index : Nat} {y : MethodName} {bytes : ByteArray} {maxL : Nat} {ret : Option FieldType} {hh : List (Nat × Nat × Nat × Nat)}
    (hown : s.vm.findClass own = some m.cls) (hlink : (Cond.methodLink own index y).before args s = true) (hstat : (Cond.static y).before args s = true) (hinit : (Cond.initialized y.cls).before args s = true)
    (hcode : (Cond.codeWith y bytes maxL ret hh).before args s = true) (hy : y.cls ≠ "java/lang/invoke/MethodHandle" ∧ y.cls ≠ "java/lang/invoke/VarHandle")
    {W9 : Nat} {Pre : Pt → Array Value → Prop} {Post : Pt → Array Value → Option Value → Pt → Prop} {PostX : Pt → Array Value → Addr → Pt → Prop} (hK : vx_Back l R p e below s args y 3 W9 Pre Post PostX)
    {g : JFrame} (hg : g.method = m) (hsize : g.locals.size = c.maxLocals) {argsL rest : List Value} (hlen : ∀ sig, parseMethodDescriptor y.desc = some sig → argsL.length = sig.parameters.length)
    (hstack : g.stack = argsL.reverse ++ rest) (hW : 2 * g.monitorRoom + (rest.map fun v => v.category).sum ≤ W9) (hdg : decode c.code g.pc = .ok (.invokestatic index, 3))
    (hpre : ∀ vm₁, s.WarmedH vm₁ → Pre ⟨T.setVm vm₁, locs, cells, slots⟩ argsL.toArray) :
    (∃ (v : Option Value) (vm₁ : Vm) (B : Pt), s.WarmedH vm₁ ∧ Stand p l e R s m args below meth c B.U B.locs B.cells B.slots ∧ Post ⟨T.setVm vm₁, locs, cells, slots⟩ argsL.toArray v B ∧
      ∀ target, Steps p.tables e below (B.U.setTop { g with pc := g.pc + 3, stack := v.toList ++ rest }) target → Steps p.tables e below (T.setTop g) target) ∨
    (∃ (q : Addr) (vm₁ : Vm) (B : Pt), s.WarmedH vm₁ ∧ Stand p l e R s m args below meth c B.U B.locs B.cells B.slots ∧ PostX ⟨T.setVm vm₁, locs, cells, slots⟩ argsL.toArray q B ∧
      Steps p.tables e below (T.setTop g) ((B.U.setTop { g with stack := rest }).pushFrame (.throwing q))) := by
  obtain ⟨mk, methM, cM, hnamed, hmethM, -, -, -, -, -, -, hsigM⟩ := Cond.codeWith_spec hcode
  have hstatic : methM.isStatic = true := Cond.static_spec hnamed hmethM hstat
  obtain ⟨kP, hkP, -⟩ := className_of_methodNamed hnamed
  have hinitP : kP.init = .initialized := Cond.initialized_spec (findClass_of_methodNamed hnamed) hkP hinit
  obtain ⟨vm₁, X₁, hstep₁⟩ := X.invokestatic hexec hown hlink hnamed hmethM hstatic hkP hinitP hy (g := g) hg (argsL := argsL) (rest := rest) (hlen _ hsigM) hstack hdg
  rcases hK m meth c ⟨T.setVm vm₁, locs, cells, slots⟩ { g with stack := rest } (.invokestatic index) mk argsL.toArray X₁ hg hsize hdg hW (X₁.named hnamed) (hpre vm₁ X₁.warmed) with ⟨v, B, X', hpost, hsteps⟩ | ⟨q, B, X', hpost, hsteps⟩
  · exact Or.inl ⟨v, vm₁, B, X₁.warmed, X', hpost, fun target h => hstep₁ _ fun acts => by rw [doInvoke_state]; exact hsteps.trans h⟩
  · exact Or.inr ⟨q, vm₁, B, X₁.warmed, X', hpost, hstep₁ _ fun acts => by rw [doInvoke_state]; exact hsteps⟩
theorem vx_callVW (X : Stand p l e R s m args below meth c T locs cells slots) (hexec : p.tables.exec = Jvm.exec) {own C : String} {index : Nat} {y : MethodName} {bytes : ByteArray} {maxL : Nat} {ret : Option FieldType} {hh : List (Nat × Nat × Nat × Nat)}
    (hown : s.vm.findClass own = some m.cls) (hlink : (Cond.methodLink own index y).before args s = true) (hinst : (Cond.instanceMethod y).before args s = true) (hsel : (Cond.selects C y y).before args s = true)
    (hcode : (Cond.codeWith y bytes maxL ret hh).before args s = true) (hy : y.cls ≠ "java/lang/invoke/MethodHandle" ∧ y.cls ≠ "java/lang/invoke/VarHandle")
    {W9 : Nat} {Pre : Pt → Array Value → Prop} {Post : Pt → Array Value → Option Value → Pt → Prop} (hK : Back l R p e below s args y 3 W9 Pre Post)
    {b : Addr} {cellB : Cell} (hcell : T.heap[b]? = some cellB) (hobj : cellB.vm.isStatics = false) (hcls : s.vm.findClass C = some cellB.cls)
    {g : JFrame} (hg : g.method = m) (hsize : g.locals.size = c.maxLocals) {argsL rest : List Value} (hlen : ∀ sig, parseMethodDescriptor y.desc = some sig → argsL.length = sig.parameters.length)
    (hstack : g.stack = argsL.reverse ++ .ref b :: rest) (hW : 2 * g.monitorRoom + (rest.map fun v => v.category).sum ≤ W9) (hdg : decode c.code g.pc = .ok (.invokevirtual index, 3))
    (hpre : ∀ vm₁, s.WarmedH vm₁ → Pre ⟨T.setVm vm₁, locs, cells, slots⟩ (Value.ref b :: argsL).toArray) :
    ∃ (v : Option Value) (vm₁ : Vm) (B : Pt), s.WarmedH vm₁ ∧ Stand p l e R s m args below meth c B.U B.locs B.cells B.slots ∧ Post ⟨T.setVm vm₁, locs, cells, slots⟩ (Value.ref b :: argsL).toArray v B ∧
      ∀ target, Steps p.tables e below (B.U.setTop { g with pc := g.pc + 3, stack := v.toList ++ rest }) target → Steps p.tables e below (T.setTop g) target := by
  obtain ⟨mk, methM, hnamed, hmethM, hstM, habM⟩ := Cond.instanceMethod_spec hinst
  obtain ⟨m8, methM', cM, hn8, hmethM', -, -, -, -, -, -, hsigM⟩ := Cond.codeWith_spec hcode
  cases Option.some.inj (hn8.symm.trans hnamed)
  cases hmethM.symm.trans hmethM'
  obtain ⟨c2, r2, m2, q1, q2, q3, q4, kP, hkP, hkPi⟩ := Cond.selects_spec hsel
  cases hcls.symm.trans q1
  cases (State.methodFound?_of_named hnamed hy).symm.trans q2
  cases hnamed.symm.trans q3
  have hselP : selectMethod e.platform s.vm cellB.cls mk = .method mk := by rw [Launch.admits_selectMethod X.admits]; exact q4
  obtain ⟨vm₁, X₁, hstep₁⟩ := X.invokevirtual hexec hown hlink hnamed hmethM hstM hkP hkPi hy (a := b) (cell := cellB) hcell
    (fun z h => by rw [h] at hobj; cases hobj) hselP hmethM habM hkP hkPi (g := g) hg (argsL := argsL) (rest := rest) (hlen _ hsigM) hstack hdg
  obtain ⟨v, B, X', hpost, hsteps⟩ := hK m meth c ⟨T.setVm vm₁, locs, cells, slots⟩ { g with stack := rest } (.invokevirtual index) mk (Value.ref b :: argsL).toArray X₁ hg hsize hdg hW (X₁.named hnamed) (hpre vm₁ X₁.warmed)
  exact ⟨v, vm₁, B, X₁.warmed, X', hpost, fun target h => hstep₁ _ fun acts => by rw [doInvoke_state]; exact hsteps.trans h⟩
abbrev vx_CVW (R : Room) (s : State) (args : Array Value) (own C : String) (index : Nat) (y : MethodName) (bytes : ByteArray) (maxL : Nat) (ret : Option FieldType) (hh : List (Nat × Nat × Nat × Nat)) (ws : List Cond) (rm : Room) (mc ms n : Nat) : Prop :=
  (rm.cells = mc ∧ rm.slots = ms ∧ rm.frames + 1 ≤ R.frames ∧ 8 + (maxL + 11) + rm.locals ≤ R.locals ∧ (∀ w ∈ ws, ∀ (a' : Array Value) (U : State), s.WarmedH U.vm → w.before a' U = true) ∧ Cond.codeWith y bytes maxL ret hh ∈ ws) ∧
  (Cond.codeWith y bytes maxL ret hh).before args s = true ∧ (Cond.initialized y.cls).before args s = true ∧ (y.cls ≠ "java/lang/invoke/MethodHandle" ∧ y.cls ≠ "java/lang/invoke/VarHandle") ∧
  (∀ sig, parseMethodDescriptor y.desc = some sig → n = sig.parameters.length) ∧ (Cond.methodLink own index y).before args s = true ∧ (Cond.instanceMethod y).before args s = true ∧ (Cond.selects C y y).before args s = true
theorem vx_cwVW {own C : String} {index maxL mc ms : Nat} {y : MethodName} {bytes : ByteArray} {ret : Option FieldType} {hh : List (Nat × Nat × Nat × Nat)} {Ts ws ws' : List Cond} {rm : Room} (n : Nat) (ht : ∀ w ∈ Ts, w.before args s = true) (hT : GoodIn Ts (wsV own index C y ws)) (hw : ws = Cond.codeWith y bytes maxL ret hh :: ws') (hrc : rm.cells = mc) (hrs : rm.slots = ms)
    (hd : y.cls = C ∧ y.cls ≠ "java/lang/invoke/MethodHandle" ∧ y.cls ≠ "java/lang/invoke/VarHandle" ∧ (parseMethodDescriptor y.desc).map (fun d => d.parameters.length) = some n) (hR : rm.frames + 1 ≤ R.frames ∧ 8 + (maxL + 11) + rm.locals ≤ R.locals) :
    vx_CVW R s args own C index y bytes maxL ret hh ws rm mc ms n := by
  obtain ⟨hC, hd⟩ := hd
  subst hC
  have ok : ∀ w ∈ wsV own index y.cls y ws, w.before args s = true := fun w h => ht w (hT w h).1
  have hG : GoodIn Ts ws := fun w h => hT w (by unfold wsV; exact List.mem_append_right _ h)
  have hc : Cond.codeWith y bytes maxL ret hh ∈ ws := by rw [hw]; exact List.mem_cons_self
  refine ⟨⟨hrc, hrs, hR.1, hR.2, pay_in ht hG, hc⟩, ht _ (hG _ hc).1, ok _ (by simp [wsV]), ⟨hd.1, hd.2.1⟩, fun sig h => ?_, ok _ (by simp [wsV]), ok _ (by simp [wsV]), ok _ (by simp [wsV])⟩
  have h2 := hd.2.2
  rw [h] at h2
  exact (Option.some.inj h2).symm
theorem vx_runVW {y : MethodName} {bytes cc : ByteArray} {maxL nL mc ms n index : Nat} {ret : Option FieldType} {hh : List (Nat × Nat × Nat × Nat)} {ws : List Cond} {rm : Room} {Pc : Array Value → State → Prop} {Qc : Array Value → State → Outcome → State → Prop} {free : Addr → Prop} {Ts : List Cond} {own C : String} {b : Addr} {As rest : List Value} {g : JFrame}
    (S : CallFix p m c cc nL s args Ts own) (hM : Met l y ws rm Pc Qc mc ms free) (cw : vx_CVW R s args own C index y bytes maxL ret hh ws rm mc ms n) (hp : PreV s H C b Pc As)
    (hg : g.method = m) (hn : As.length = n) (hsize : g.locals.size = nL) (hstack : g.stack = As.reverse ++ .ref b :: rest) (hW : 2 * g.monitorRoom + (rest.map fun v => v.category).sum ≤ 8) (hdg : decode cc g.pc = .ok (.invokevirtual index, 3)) (hf : cells + mc ≤ R.cells ∧ slots + ms ≤ R.slots) :
    va_Run p l e R s m args below meth c H locs cells slots mc ms g rest (Qc (Value.ref b :: As).toArray) free := by
  obtain ⟨⟨hrc, hrs, hfr, hlo, hws, hcw⟩, hcode, hini, hy, hlen, hl, hin, hse⟩ := cw
  have hK : Back l R p e below s args y 3 8 (PreOf R mc ms Pc) (PostOf Qc mc ms free) := va_backW (hh := hh) (bytes := bytes) (maxL := maxL) (ret := ret) hM hp.1 hrc hrs hfr hlo hws hcw (fun a' U hW => word_at hW (Or.inl (by first | rfl | simp [Cond.onTables, Cond.keeps, Cond.steady])) hini)
  obtain ⟨hx, hb, hml, ho, -⟩ := S
  obtain ⟨-, ⟨cellB, hcB, hoB, hclB⟩, hPc⟩ := hp
  intro T hT X
  obtain ⟨v, vm₁, ⟨U', l2, c2, s2⟩, hW₁, X', ⟨g', mk, t, L, e1, e2, hq, h1, hL, h2, h3⟩, st⟩ := vx_callVW X hx (C := C) (hh := hh) (bytes := bytes) (maxL := maxL) (ret := ret) ho hl hin hse hcode hy hK (by rw [hT]; exact hcB) hoB hclB hg (hsize.trans hml.symm) (argsL := As) (rest := rest) (fun sig h => hn.trans (hlen sig h)) hstack hW (by rw [hb]; exact hdg)
    (fun vm₁ hW₁ => ⟨hf.1, hf.2, hPc (T.setVm vm₁) hT hW₁⟩)
  dsimp only [Pt.U, Pt.locs, Pt.cells, Pt.slots] at X' e1 e2 h1 h2 h3 st
  subst h1; subst h2; subst h3
  exact ⟨v, (T.setVm vm₁).calling g' mk (Value.ref b :: As).toArray, t, U', L, hT, X', hL, e1, e2, hq, st⟩
section
variable {y : MethodName} {bytes cc : ByteArray} {maxL nL mc ms n index : Nat} {ret : Option FieldType} {ws : List Cond} {rm : Room} {Pc : Array Value → State → Prop} {Qc : Array Value → State → Outcome → State → Prop} {XC : String → State → State → Prop} {free : Addr → Prop} {Ts : List Cond} {own C : String} {b : Addr} {As rest : List Value} {g : JFrame}
theorem vx_runVX {hh : List (Nat × Nat × Nat × Nat)} (S : CallFix p m c cc nL s args Ts own) (hM : vx_Met l y ws rm Pc Qc XC mc ms free) (cw : vx_CVW R s args own C index y bytes maxL ret hh ws rm mc ms n) (hp : PreV s H C b Pc As)
    (hg : g.method = m) (hn : As.length = n) (hsize : g.locals.size = nL) (hstack : g.stack = As.reverse ++ .ref b :: rest) (hW : 2 * g.monitorRoom + (rest.map fun v => v.category).sum ≤ 8) (hdg : decode cc g.pc = .ok (.invokevirtual index, 3)) (hf : cells + mc ≤ R.cells ∧ slots + ms ≤ R.slots) :
    vx_Run p l e R s m args below meth c H locs cells slots mc ms g rest (Qc (Value.ref b :: As).toArray) XC free := by
  obtain ⟨⟨hrc, hrs, hfr, hlo, hws, hcw⟩, hcode, hini, hy, hlen, hl, hin, hse⟩ := cw
  have hK : vx_Back l R p e below s args y 3 8 (PreOf R mc ms Pc) (PostOf Qc mc ms free) (vx_Post XC mc ms free) := vx_backW (hh := hh) (bytes := bytes) (maxL := maxL) (ret := ret) hM hp.1 hrc hrs hfr hlo hws hcw (fun a' U hW => word_at hW (Or.inl (by first | rfl | simp [Cond.onTables, Cond.keeps, Cond.steady])) hini)
  obtain ⟨hx, hb, hml, ho, -⟩ := S
  obtain ⟨-, ⟨cellB, hcB, hoB, hclB⟩, hPc⟩ := hp
  intro T hT X
  rcases vx_callVX X hx (C := C) (hh := hh) (bytes := bytes) (maxL := maxL) (ret := ret) ho hl hin hse hcode hy hK (by rw [hT]; exact hcB) hoB hclB hg (hsize.trans hml.symm) (argsL := As) (rest := rest) (fun sig h => hn.trans (hlen sig h)) hstack hW (by rw [hb]; exact hdg)
    (fun vm₁ hW₁ => ⟨hf.1, hf.2, hPc (T.setVm vm₁) hT hW₁⟩) with ⟨v, vm₁, ⟨U', l2, c2, s2⟩, hW₁, X', ⟨g', mk, t, L, e1, e2, hq, h1, hL, h2, h3⟩, st⟩ | ⟨q, vm₁, ⟨U', l2, c2, s2⟩, hW₁, X', ⟨g', mk, t, L, E, ce, e1, e2, hq, hce, hcv, hcl, h1, hL, h2, h3⟩, st⟩
  · dsimp only [Pt.U, Pt.locs, Pt.cells, Pt.slots] at X' e1 e2 h1 h2 h3 st
    subst h1; subst h2; subst h3
    exact Or.inl ⟨v, (T.setVm vm₁).calling g' mk (Value.ref b :: As).toArray, t, U', L, hT, X', hL, e1, e2, hq, st⟩
  · dsimp only [Pt.U, Pt.locs, Pt.cells, Pt.slots] at X' e1 e2 h1 h2 h3 st hcl
    subst h1; subst h2; subst h3
    exact Or.inr ⟨q, (T.setVm vm₁).calling g' mk (Value.ref b :: As).toArray, t, U', L, E, ce, hT, X', hL, e1, e2, hq, hce, hcv, vx_cls hW₁ hcl, st⟩
theorem vx_runSX {hh : List (Nat × Nat × Nat × Nat)} (S : CallFix p m c cc nL s args Ts own) (hM : vx_Met l y ws rm Pc Qc XC mc ms free) (cw : vx_CSW R s args own index y bytes maxL ret hh ws rm mc ms n) (hp : PreS s H Pc As)
    (hg : g.method = m) (hn : As.length = n) (hsize : g.locals.size = nL) (hstack : g.stack = As.reverse ++ rest) (hW : 2 * g.monitorRoom + (rest.map fun v => v.category).sum ≤ 8) (hdg : decode cc g.pc = .ok (.invokestatic index, 3)) (hf : cells + mc ≤ R.cells ∧ slots + ms ≤ R.slots) :
    vx_Run p l e R s m args below meth c H locs cells slots mc ms g rest (Qc As.toArray) XC free := by
  obtain ⟨⟨hrc, hrs, hfr, hlo, hws, hcw⟩, hcode, hini, hy, hlen, hl, hstt⟩ := cw
  have hK : vx_Back l R p e below s args y 3 8 (PreOf R mc ms Pc) (PostOf Qc mc ms free) (vx_Post XC mc ms free) := vx_backW (hh := hh) (bytes := bytes) (maxL := maxL) (ret := ret) hM hp.1 hrc hrs hfr hlo hws hcw (fun a' U hW => word_at hW (Or.inl (by first | rfl | simp [Cond.onTables, Cond.keeps, Cond.steady])) hini)
  obtain ⟨hx, hb, hml, ho, -⟩ := S
  intro T hT X
  rcases vx_callSX X hx (hh := hh) (bytes := bytes) (maxL := maxL) (ret := ret) ho hl hstt hini hcode hy hK hg (hsize.trans hml.symm) (argsL := As) (rest := rest) (fun sig h => hn.trans (hlen sig h)) hstack hW (by rw [hb]; exact hdg)
    (fun vm₁ hW₁ => ⟨hf.1, hf.2, hp.2 (T.setVm vm₁) hT hW₁⟩) with ⟨v, vm₁, ⟨U', l2, c2, s2⟩, hW₁, X', ⟨g', mk, t, L, e1, e2, hq, h1, hL, h2, h3⟩, st⟩ | ⟨q, vm₁, ⟨U', l2, c2, s2⟩, hW₁, X', ⟨g', mk, t, L, E, ce, e1, e2, hq, hce, hcv, hcl, h1, hL, h2, h3⟩, st⟩
  · dsimp only [Pt.U, Pt.locs, Pt.cells, Pt.slots] at X' e1 e2 h1 h2 h3 st
    subst h1; subst h2; subst h3
    exact Or.inl ⟨v, (T.setVm vm₁).calling g' mk As.toArray, t, U', L, hT, X', hL, e1, e2, hq, st⟩
  · dsimp only [Pt.U, Pt.locs, Pt.cells, Pt.slots] at X' e1 e2 h1 h2 h3 st hcl
    subst h1; subst h2; subst h3
    exact Or.inr ⟨q, (T.setVm vm₁).calling g' mk As.toArray, t, U', L, E, ce, hT, X', hL, e1, e2, hq, hce, hcv, vx_cls hW₁ hcl, st⟩
end
end VXH
theorem vx_ofWH {l : Launch} {y : MethodName} {ws ws' : List Cond} {rm : Room} {Pc : Array Value → State → Prop} {Qc : Array Value → State → Outcome → State → Prop} {XC : String → State → State → Prop} {mc ms : Nat} {free : Addr → Prop} {cc : ByteArray} {maxL : Nat} {ret : Option FieldType} {hh : List (Nat × Nat × Nat × Nat)}
    (hy : plainName y.cls = true) (hw : ws = Cond.codeWith y cc maxL ret hh :: ws')
    (body : ∀ p e s m args below meth c s₁, BodyLoose p l y (headSpec ws rm) cc maxL ret e s m args below meth c s₁ → c.maxLocals = maxL → Pc args s →
      W p l e (headSpec ws rm).room s m args below meth c s.heap [] 0 0 (vx_MQ below Qc XC args s mc ms free) (entryFrame m args maxL)) : vx_Met l y ws rm Pc Qc XC mc ms free := by
  refine MetFree.of_bodyS (code := cc) (maxLocals := maxL) (ret := ret) hy ?_ ?_
  · intro args s m h hn
    obtain ⟨m9, meth, c, hn9, h1, h2, h3, h4, -, h5, h6, -⟩ := Cond.codeWith_spec (atoms_spec (ws := ws) h _ (by rw [hw]; exact List.mem_cons_self))
    cases hn.symm.trans hn9
    exact ⟨meth, c, h1, h2, h3, h4, h5, h6⟩
  · intro p e s m args below meth c s₁ B hml hP _
    have hh0 : s₁.heap = s.heap := by rw [B.state]; rfl
    obtain ⟨t, a1, o, b1, b2, b3⟩ := body p e s m args below meth c s₁ B hml hP s₁ hh0 (Stand.of_body B)
    exact ⟨t, o, a1, b1, b2, b3⟩
/-! ===== END ===== -/
end
section
-- ===== PART A: goes FIRST, ahead of the names: the tables' words, and 'selects' of the private methods out of them =====
/-- a private method of a class that the tables say can be made, by its rows of tables_1 -/
def lw_okq (q : MethodName × Nat) : Prop := (q.1.cls ≠ "java/lang/invoke/MethodHandle" ∧ q.1.cls ≠ "java/lang/invoke/VarHandle") ∧ Cond.instantiable q.1.cls q.2 ∈ tables_1 ∧ Cond.privateMethod q.1 ∈ tables_1 ∧ Cond.instanceMethod q.1 ∈ tables_1
theorem lw_p0 : lw_okq (⟨"java/lang/Throwable", "fillInStackTrace", "(I)Ljava/lang/Throwable;"⟩, 6) := ⟨⟨by decide +kernel, by decide +kernel⟩, List.mem_of_getElem? (i := 158) (by decide +kernel), List.mem_of_getElem? (i := 156) (by decide +kernel), List.mem_of_getElem? (i := 157) (by decide +kernel)⟩
theorem lw_p1 : lw_okq (⟨"java/util/ArrayList", "add", "(Ljava/lang/Object;[Ljava/lang/Object;I)V"⟩, 3) := ⟨⟨by decide +kernel, by decide +kernel⟩, List.mem_of_getElem? (i := 33) (by decide +kernel), List.mem_of_getElem? (i := 239) (by decide +kernel), List.mem_of_getElem? (i := 240) (by decide +kernel)⟩
theorem lw_p2 : lw_okq (⟨"java/util/ArrayList", "grow", "()[Ljava/lang/Object;"⟩, 3) := ⟨⟨by decide +kernel, by decide +kernel⟩, List.mem_of_getElem? (i := 33) (by decide +kernel), List.mem_of_getElem? (i := 243) (by decide +kernel), List.mem_of_getElem? (i := 244) (by decide +kernel)⟩
theorem lw_p3 : lw_okq (⟨"java/util/ArrayList", "grow", "(I)[Ljava/lang/Object;"⟩, 3) := ⟨⟨by decide +kernel, by decide +kernel⟩, List.mem_of_getElem? (i := 33) (by decide +kernel), List.mem_of_getElem? (i := 247) (by decide +kernel), List.mem_of_getElem? (i := 248) (by decide +kernel)⟩
theorem lw_p4 : lw_okq (⟨"DyeRing", "findEntry", "(I)LDyeRing$Entry;"⟩, 8) := ⟨⟨by decide +kernel, by decide +kernel⟩, List.mem_of_getElem? (i := 25) (by decide +kernel), List.mem_of_getElem? (i := 335) (by decide +kernel), List.mem_of_getElem? (i := 336) (by decide +kernel)⟩
theorem lw_p5 : lw_okq (⟨"DyeRing", "findBath", "(I)LDyeRing$Bath;"⟩, 8) := ⟨⟨by decide +kernel, by decide +kernel⟩, List.mem_of_getElem? (i := 25) (by decide +kernel), List.mem_of_getElem? (i := 403) (by decide +kernel), List.mem_of_getElem? (i := 404) (by decide +kernel)⟩
theorem lw_p6 : lw_okq (⟨"DyeRing", "findOrder", "(I)LDyeRing$Order;"⟩, 8) := ⟨⟨by decide +kernel, by decide +kernel⟩, List.mem_of_getElem? (i := 25) (by decide +kernel), List.mem_of_getElem? (i := 463) (by decide +kernel), List.mem_of_getElem? (i := 464) (by decide +kernel)⟩
theorem lw_p7 : lw_okq (⟨"DyeRing", "weakestRightBath", "(LDyeRing$Order;)I"⟩, 8) := ⟨⟨by decide +kernel, by decide +kernel⟩, List.mem_of_getElem? (i := 25) (by decide +kernel), List.mem_of_getElem? (i := 471) (by decide +kernel), List.mem_of_getElem? (i := 472) (by decide +kernel)⟩
theorem lw_p8 : lw_okq (⟨"DyeRing", "isRight", "(LDyeRing$Bath;LDyeRing$Order;)Z"⟩, 8) := ⟨⟨by decide +kernel, by decide +kernel⟩, List.mem_of_getElem? (i := 25) (by decide +kernel), List.mem_of_getElem? (i := 475) (by decide +kernel), List.mem_of_getElem? (i := 476) (by decide +kernel)⟩
theorem lw_p9 : lw_okq (⟨"DyeRing", "dyeIn", "(LDyeRing$Order;LDyeRing$Bath;)LDyeRing$Piece;"⟩, 8) := ⟨⟨by decide +kernel, by decide +kernel⟩, List.mem_of_getElem? (i := 25) (by decide +kernel), List.mem_of_getElem? (i := 512) (by decide +kernel), List.mem_of_getElem? (i := 513) (by decide +kernel)⟩
theorem lw_p10 : lw_okq (⟨"DyeRing$Cloth", "settleLowest", "()Z"⟩, 3) := ⟨⟨by decide +kernel, by decide +kernel⟩, List.mem_of_getElem? (i := 62) (by decide +kernel), List.mem_of_getElem? (i := 693) (by decide +kernel), List.mem_of_getElem? (i := 694) (by decide +kernel)⟩
theorem lw_p11 : lw_okq (⟨"DyeRing$Cloth", "lowest", "(I)I"⟩, 3) := ⟨⟨by decide +kernel, by decide +kernel⟩, List.mem_of_getElem? (i := 62) (by decide +kernel), List.mem_of_getElem? (i := 697) (by decide +kernel), List.mem_of_getElem? (i := 698) (by decide +kernel)⟩
theorem lw_p12 : lw_okq (⟨"DyeRingModel", "mayBoth", "(ZZ)Z"⟩, 24) := ⟨⟨by decide +kernel, by decide +kernel⟩, List.mem_of_getElem? (i := 702) (by decide +kernel), List.mem_of_getElem? (i := 792) (by decide +kernel), List.mem_of_getElem? (i := 793) (by decide +kernel)⟩
theorem lw_p13 : lw_okq (⟨"DyeRingModel", "isEntry", "(I)Z"⟩, 24) := ⟨⟨by decide +kernel, by decide +kernel⟩, List.mem_of_getElem? (i := 702) (by decide +kernel), List.mem_of_getElem? (i := 811) (by decide +kernel), List.mem_of_getElem? (i := 812) (by decide +kernel)⟩
theorem lw_p14 : lw_okq (⟨"DyeRingModel", "may", "(Z)Z"⟩, 24) := ⟨⟨by decide +kernel, by decide +kernel⟩, List.mem_of_getElem? (i := 702) (by decide +kernel), List.mem_of_getElem? (i := 815) (by decide +kernel), List.mem_of_getElem? (i := 816) (by decide +kernel)⟩
theorem lw_p15 : lw_okq (⟨"DyeRingModel", "isBath", "(I)Z"⟩, 24) := ⟨⟨by decide +kernel, by decide +kernel⟩, List.mem_of_getElem? (i := 702) (by decide +kernel), List.mem_of_getElem? (i := 830) (by decide +kernel), List.mem_of_getElem? (i := 831) (by decide +kernel)⟩
def lw_privs_1 : List (MethodName × Nat) := [(⟨"java/lang/Throwable", "fillInStackTrace", "(I)Ljava/lang/Throwable;"⟩, 6), (⟨"java/util/ArrayList", "add", "(Ljava/lang/Object;[Ljava/lang/Object;I)V"⟩, 3), (⟨"java/util/ArrayList", "grow", "()[Ljava/lang/Object;"⟩, 3), (⟨"java/util/ArrayList", "grow", "(I)[Ljava/lang/Object;"⟩, 3), (⟨"DyeRing", "findEntry", "(I)LDyeRing$Entry;"⟩, 8), (⟨"DyeRing", "findBath", "(I)LDyeRing$Bath;"⟩, 8), (⟨"DyeRing", "findOrder", "(I)LDyeRing$Order;"⟩, 8), (⟨"DyeRing", "weakestRightBath", "(LDyeRing$Order;)I"⟩, 8), (⟨"DyeRing", "isRight", "(LDyeRing$Bath;LDyeRing$Order;)Z"⟩, 8), (⟨"DyeRing", "dyeIn", "(LDyeRing$Order;LDyeRing$Bath;)LDyeRing$Piece;"⟩, 8), (⟨"DyeRing$Cloth", "settleLowest", "()Z"⟩, 3), (⟨"DyeRing$Cloth", "lowest", "(I)I"⟩, 3), (⟨"DyeRingModel", "mayBoth", "(ZZ)Z"⟩, 24), (⟨"DyeRingModel", "isEntry", "(I)Z"⟩, 24), (⟨"DyeRingModel", "may", "(Z)Z"⟩, 24), (⟨"DyeRingModel", "isBath", "(I)Z"⟩, 24)]
theorem lw_r1 : ∀ q ∈ lw_privs_1, lw_okq q := List.forall_mem_cons.mpr ⟨lw_p0, List.forall_mem_cons.mpr ⟨lw_p1, List.forall_mem_cons.mpr ⟨lw_p2, List.forall_mem_cons.mpr ⟨lw_p3, List.forall_mem_cons.mpr ⟨lw_p4, List.forall_mem_cons.mpr ⟨lw_p5, List.forall_mem_cons.mpr ⟨lw_p6, List.forall_mem_cons.mpr ⟨lw_p7, List.forall_mem_cons.mpr ⟨lw_p8, List.forall_mem_cons.mpr ⟨lw_p9, List.forall_mem_cons.mpr ⟨lw_p10, List.forall_mem_cons.mpr ⟨lw_p11, List.forall_mem_cons.mpr ⟨lw_p12, List.forall_mem_cons.mpr ⟨lw_p13, List.forall_mem_cons.mpr ⟨lw_p14, List.forall_mem_cons.mpr ⟨lw_p15, fun _ h => absurd h List.not_mem_nil⟩⟩⟩⟩⟩⟩⟩⟩⟩⟩⟩⟩⟩⟩⟩⟩
theorem lw_p16 : lw_okq (⟨"DyeRingModel", "mayAll", "(ZZZ)Z"⟩, 24) := ⟨⟨by decide +kernel, by decide +kernel⟩, List.mem_of_getElem? (i := 702) (by decide +kernel), List.mem_of_getElem? (i := 842) (by decide +kernel), List.mem_of_getElem? (i := 843) (by decide +kernel)⟩
theorem lw_p17 : lw_okq (⟨"DyeRingModel", "isOrder", "(I)Z"⟩, 24) := ⟨⟨by decide +kernel, by decide +kernel⟩, List.mem_of_getElem? (i := 702) (by decide +kernel), List.mem_of_getElem? (i := 850) (by decide +kernel), List.mem_of_getElem? (i := 851) (by decide +kernel)⟩
theorem lw_p18 : lw_okq (⟨"DyeRingModel", "offBy", "(II)I"⟩, 24) := ⟨⟨by decide +kernel, by decide +kernel⟩, List.mem_of_getElem? (i := 702) (by decide +kernel), List.mem_of_getElem? (i := 854) (by decide +kernel), List.mem_of_getElem? (i := 855) (by decide +kernel)⟩
theorem lw_p19 : lw_okq (⟨"DyeRingModel", "off", "(IIII)I"⟩, 24) := ⟨⟨by decide +kernel, by decide +kernel⟩, List.mem_of_getElem? (i := 702) (by decide +kernel), List.mem_of_getElem? (i := 858) (by decide +kernel), List.mem_of_getElem? (i := 859) (by decide +kernel)⟩
theorem lw_p20 : lw_okq (⟨"DyeRingModel", "dyeIn", "(II)V"⟩, 24) := ⟨⟨by decide +kernel, by decide +kernel⟩, List.mem_of_getElem? (i := 702) (by decide +kernel), List.mem_of_getElem? (i := 862) (by decide +kernel), List.mem_of_getElem? (i := 863) (by decide +kernel)⟩
theorem lw_p21 : lw_okq (⟨"DyeRingModel", "offOf", "(I)I"⟩, 24) := ⟨⟨by decide +kernel, by decide +kernel⟩, List.mem_of_getElem? (i := 702) (by decide +kernel), List.mem_of_getElem? (i := 870) (by decide +kernel), List.mem_of_getElem? (i := 871) (by decide +kernel)⟩
theorem lw_p22 : lw_okq (⟨"DyeRingModel", "positionOf", "(II)I"⟩, 24) := ⟨⟨by decide +kernel, by decide +kernel⟩, List.mem_of_getElem? (i := 702) (by decide +kernel), List.mem_of_getElem? (i := 915) (by decide +kernel), List.mem_of_getElem? (i := 916) (by decide +kernel)⟩
def lw_privs_2 : List (MethodName × Nat) := [(⟨"DyeRingModel", "mayAll", "(ZZZ)Z"⟩, 24), (⟨"DyeRingModel", "isOrder", "(I)Z"⟩, 24), (⟨"DyeRingModel", "offBy", "(II)I"⟩, 24), (⟨"DyeRingModel", "off", "(IIII)I"⟩, 24), (⟨"DyeRingModel", "dyeIn", "(II)V"⟩, 24), (⟨"DyeRingModel", "offOf", "(I)I"⟩, 24), (⟨"DyeRingModel", "positionOf", "(II)I"⟩, 24)]
theorem lw_r2 : ∀ q ∈ lw_privs_2, lw_okq q := List.forall_mem_cons.mpr ⟨lw_p16, List.forall_mem_cons.mpr ⟨lw_p17, List.forall_mem_cons.mpr ⟨lw_p18, List.forall_mem_cons.mpr ⟨lw_p19, List.forall_mem_cons.mpr ⟨lw_p20, List.forall_mem_cons.mpr ⟨lw_p21, List.forall_mem_cons.mpr ⟨lw_p22, fun _ h => absurd h List.not_mem_nil⟩⟩⟩⟩⟩⟩⟩
def lw_privs : List (MethodName × Nat) := lw_privs_1 ++ (lw_privs_2)
def lw_tbl : List Cond := k2_sels lw_privs ++ tables_1
theorem lw_privs_ok : ∀ q ∈ lw_privs, lw_okq q := by
  show ∀ q ∈ lw_privs_1 ++ (lw_privs_2), lw_okq q
  exact List.forall_mem_append.mpr ⟨lw_r1, lw_r2⟩
end
section
/-! ===== BEGIN printed: names, fields, word lists, decode rows ===== -/
def RX0 : String := "DyeRing$Bath"
def TX0 : u_T := fun k => match k with
  | 0 => ("DyeRing$Bath", "dyer", "I", true)
  | 1 => ("DyeRing$Bath", "entry", "LDyeRing$Entry;", true)
  | 2 => ("DyeRing$Bath", "strengthNow", "I", false)
  | 3 => ("DyeRing$Bath", "renewedSincePiece", "Z", false)
  | _ => ("DyeRing$Bath", "pieces", "Ljava/util/ArrayList;", true)
def tyX0 : Nat → FieldType := fun k => match k with
  | 0 => .int
  | 1 => .object "DyeRing$Entry"
  | 2 => .int
  | 3 => .boolean
  | _ => .object "java/util/ArrayList"
theorem nmX0 : ∀ a, a < 5 → ∀ b, b < 5 → a ≠ b → (TX0 a).2.1 ≠ (TX0 b).2.1 := by decide +kernel
theorem tyX0_ok : ∀ k, k < 5 → parseFieldDescriptor (TX0 k).2.2.1 = some (tyX0 k) := by decide +kernel
abbrev cX0_init : ByteArray := prog_2_method_1_code
def yX0_init : MethodName := ⟨RX0, "<init>", "(ILDyeRing$Entry;)V"⟩
abbrev cX0_isFor : ByteArray := prog_2_method_2_code
def yX0_isFor : MethodName := ⟨RX0, "isFor", "(LDyeRing$Entry;)Z"⟩
abbrev cX0_renew : ByteArray := prog_2_method_3_code
def yX0_renew : MethodName := ⟨RX0, "renew", "()I"⟩
abbrev cX0_take : ByteArray := prog_2_method_4_code
def yX0_take : MethodName := ⟨RX0, "take", "(LDyeRing$Piece;)V"⟩
abbrev cX0_followedTo : ByteArray := prog_2_method_5_code
def yX0_followedTo : MethodName := ⟨RX0, "followedTo", "(I)I"⟩
def RX1 : String := "DyeRing$Cloth"
def TX1 : u_T := fun k => match k with
  | 0 => ("DyeRing$Cloth", "shrinkage", "I", false)
  | 1 => ("DyeRing$Cloth", "debts", "[[I", true)
  | _ => ("DyeRing$Cloth", "unsettled", "[I", true)
def tyX1 : Nat → FieldType := fun k => match k with
  | 0 => .int
  | 1 => .array (.array .int)
  | _ => .array .int
theorem nmX1 : ∀ a, a < 3 → ∀ b, b < 3 → a ≠ b → (TX1 a).2.1 ≠ (TX1 b).2.1 := by decide +kernel
theorem tyX1_ok : ∀ k, k < 3 → parseFieldDescriptor (TX1 k).2.2.1 = some (tyX1 k) := by decide +kernel
abbrev cX1_init : ByteArray := prog_3_method_1_code
def yX1_init : MethodName := ⟨RX1, "<init>", "()V"⟩
abbrev cX1_shrunk : ByteArray := prog_3_method_2_code
def yX1_shrunk : MethodName := ⟨RX1, "shrunk", "(I)I"⟩
abbrev cX1_balanceOf : ByteArray := prog_3_method_3_code
def yX1_balanceOf : MethodName := ⟨RX1, "balanceOf", "(I)I"⟩
abbrev cX1_settle : ByteArray := prog_3_method_4_code
def yX1_settle : MethodName := ⟨RX1, "settle", "()I"⟩
abbrev cX1_settleLowest : ByteArray := prog_3_method_5_code
def yX1_settleLowest : MethodName := ⟨RX1, "settleLowest", "()Z"⟩
abbrev cX1_lowest : ByteArray := prog_3_method_6_code
def yX1_lowest : MethodName := ⟨RX1, "lowest", "(I)I"⟩
def RX2 : String := "DyeRing$Entry"
def TX2 : u_T := fun k => match k with
  | 0 => ("DyeRing$Entry", "number", "I", true)
  | 1 => ("DyeRing$Entry", "first", "I", true)
  | 2 => ("DyeRing$Entry", "second", "I", true)
  | _ => ("DyeRing$Entry", "tolerance", "I", true)
def tyX2 : Nat → FieldType := fun k => match k with
  | 0 => .int
  | 1 => .int
  | 2 => .int
  | _ => .int
theorem nmX2 : ∀ a, a < 4 → ∀ b, b < 4 → a ≠ b → (TX2 a).2.1 ≠ (TX2 b).2.1 := by decide +kernel
theorem tyX2_ok : ∀ k, k < 4 → parseFieldDescriptor (TX2 k).2.2.1 = some (tyX2 k) := by decide +kernel
abbrev cX2_init : ByteArray := prog_4_method_1_code
def yX2_init : MethodName := ⟨RX2, "<init>", "(IIII)V"⟩
abbrev cX2_distanceTo : ByteArray := prog_4_method_2_code
def yX2_distanceTo : MethodName := ⟨RX2, "distanceTo", "(II)I"⟩
abbrev cX2_dyedFirst : ByteArray := prog_4_method_3_code
def yX2_dyedFirst : MethodName := ⟨RX2, "dyedFirst", "(III)I"⟩
abbrev cX2_dyedSecond : ByteArray := prog_4_method_4_code
def yX2_dyedSecond : MethodName := ⟨RX2, "dyedSecond", "(II)I"⟩
abbrev cX2_distanceOfDyed : ByteArray := prog_4_method_5_code
def yX2_distanceOfDyed : MethodName := ⟨RX2, "distanceOfDyed", "(IIII)I"⟩
def RX3 : String := "DyeRing$Order"
def TX3 : u_T := fun k => match k with
  | 0 => ("DyeRing$Order", "number", "I", true)
  | 1 => ("DyeRing$Order", "entry", "LDyeRing$Entry;", true)
  | 2 => ("DyeRing$Order", "weight", "I", true)
  | 3 => ("DyeRing$Order", "yarn", "I", true)
  | 4 => ("DyeRing$Order", "piece", "LDyeRing$Piece;", false)
  | _ => ("DyeRing$Order", "claimed", "Z", false)
def tyX3 : Nat → FieldType := fun k => match k with
  | 0 => .int
  | 1 => .object "DyeRing$Entry"
  | 2 => .int
  | 3 => .int
  | 4 => .object "DyeRing$Piece"
  | _ => .boolean
theorem nmX3 : ∀ a, a < 6 → ∀ b, b < 6 → a ≠ b → (TX3 a).2.1 ≠ (TX3 b).2.1 := by decide +kernel
theorem tyX3_ok : ∀ k, k < 6 → parseFieldDescriptor (TX3 k).2.2.1 = some (tyX3 k) := by decide +kernel
abbrev cX3_init : ByteArray := prog_5_method_1_code
def yX3_init : MethodName := ⟨RX3, "<init>", "(ILDyeRing$Entry;II)V"⟩
def RX4 : String := "DyeRing$Piece"
def TX4 : u_T := fun k => match k with
  | 0 => ("DyeRing$Piece", "orderNumber", "I", true)
  | 1 => ("DyeRing$Piece", "entry", "LDyeRing$Entry;", true)
  | 2 => ("DyeRing$Piece", "weight", "I", true)
  | 3 => ("DyeRing$Piece", "bath", "LDyeRing$Bath;", true)
  | 4 => ("DyeRing$Piece", "afterRenewal", "Z", true)
  | 5 => ("DyeRing$Piece", "strengthThen", "I", true)
  | 6 => ("DyeRing$Piece", "waterThen", "I", true)
  | 7 => ("DyeRing$Piece", "yarnFirstThen", "I", true)
  | _ => ("DyeRing$Piece", "yarnSecondThen", "I", true)
def tyX4 : Nat → FieldType := fun k => match k with
  | 0 => .int
  | 1 => .object "DyeRing$Entry"
  | 2 => .int
  | 3 => .object "DyeRing$Bath"
  | 4 => .boolean
  | 5 => .int
  | 6 => .int
  | 7 => .int
  | _ => .int
theorem nmX4 : ∀ a, a < 9 → ∀ b, b < 9 → a ≠ b → (TX4 a).2.1 ≠ (TX4 b).2.1 := by decide +kernel
theorem tyX4_ok : ∀ k, k < 9 → parseFieldDescriptor (TX4 k).2.2.1 = some (tyX4 k) := by decide +kernel
abbrev cX4_init : ByteArray := prog_6_method_1_code
def yX4_init : MethodName := ⟨RX4, "<init>", "(LDyeRing$Order;LDyeRing$Bath;III)V"⟩
abbrev cX4_colourAt : ByteArray := prog_6_method_2_code
def yX4_colourAt : MethodName := ⟨RX4, "colourAt", "(II)I"⟩
abbrev cX4_distance : ByteArray := prog_6_method_3_code
def yX4_distance : MethodName := ⟨RX4, "distance", "()I"⟩
abbrev cX4_isOff : ByteArray := prog_6_method_4_code
def yX4_isOff : MethodName := ⟨RX4, "isOff", "()Z"⟩
abbrev cX4_toBlame : ByteArray := prog_6_method_5_code
def yX4_toBlame : MethodName := ⟨RX4, "toBlame", "()I"⟩
def RX5 : String := "DyeRing"
def TX5 : u_T := fun k => match k with
  | 0 => ("DyeRing", "entries", "Ljava/util/ArrayList;", true)
  | 1 => ("DyeRing", "baths", "Ljava/util/ArrayList;", true)
  | 2 => ("DyeRing", "orders", "Ljava/util/ArrayList;", true)
  | 3 => ("DyeRing", "waters", "[I", true)
  | 4 => ("DyeRing", "yarnFirsts", "[I", true)
  | 5 => ("DyeRing", "yarnSeconds", "[I", true)
  | 6 => ("DyeRing", "blames", "[[I", true)
  | _ => ("DyeRing", "cloths", "[LDyeRing$Cloth;", true)
def tyX5 : Nat → FieldType := fun k => match k with
  | 0 => .object "java/util/ArrayList"
  | 1 => .object "java/util/ArrayList"
  | 2 => .object "java/util/ArrayList"
  | 3 => .array .int
  | 4 => .array .int
  | 5 => .array .int
  | 6 => .array (.array .int)
  | _ => .array (.object "DyeRing$Cloth")
theorem nmX5 : ∀ a, a < 8 → ∀ b, b < 8 → a ≠ b → (TX5 a).2.1 ≠ (TX5 b).2.1 := by decide +kernel
theorem tyX5_ok : ∀ k, k < 8 → parseFieldDescriptor (TX5 k).2.2.1 = some (tyX5 k) := by decide +kernel
abbrev cX5_init : ByteArray := prog_1_method_1_code
def yX5_init : MethodName := ⟨RX5, "<init>", "()V"⟩
abbrev cX5_entry : ByteArray := prog_1_method_2_code
def yX5_entry : MethodName := ⟨RX5, "entry", "(III)I"⟩
abbrev cX5_water : ByteArray := prog_1_method_3_code
def yX5_water : MethodName := ⟨RX5, "water", "(II)I"⟩
abbrev cX5_yarn : ByteArray := prog_1_method_4_code
def yX5_yarn : MethodName := ⟨RX5, "yarn", "(III)I"⟩
abbrev cX5_apart : ByteArray := prog_1_method_5_code
def yX5_apart : MethodName := ⟨RX5, "apart", "(II)I"⟩
abbrev cX5_bath : ByteArray := prog_1_method_6_code
def yX5_bath : MethodName := ⟨RX5, "bath", "(II)I"⟩
abbrev cX5_freshen : ByteArray := prog_1_method_7_code
def yX5_freshen : MethodName := ⟨RX5, "freshen", "(I)I"⟩
abbrev cX5_strength : ByteArray := prog_1_method_8_code
def yX5_strength : MethodName := ⟨RX5, "strength", "(I)I"⟩
abbrev cX5_order : ByteArray := prog_1_method_9_code
def yX5_order : MethodName := ⟨RX5, "order", "(III)I"⟩
abbrev cX5_place : ByteArray := prog_1_method_10_code
def yX5_place : MethodName := ⟨RX5, "place", "(I)I"⟩
abbrev cX5_dye : ByteArray := prog_1_method_11_code
def yX5_dye : MethodName := ⟨RX5, "dye", "(II)I"⟩
abbrev cX5_claim : ByteArray := prog_1_method_12_code
def yX5_claim : MethodName := ⟨RX5, "claim", "(I)I"⟩
abbrev cX5_stateOf : ByteArray := prog_1_method_13_code
def yX5_stateOf : MethodName := ⟨RX5, "stateOf", "(I)I"⟩
abbrev cX5_colour : ByteArray := prog_1_method_14_code
def yX5_colour : MethodName := ⟨RX5, "colour", "(II)I"⟩
abbrev cX5_colourByBath : ByteArray := prog_1_method_15_code
def yX5_colourByBath : MethodName := ⟨RX5, "colourByBath", "(II)I"⟩
abbrev cX5_blamed : ByteArray := prog_1_method_16_code
def yX5_blamed : MethodName := ⟨RX5, "blamed", "(II)I"⟩
abbrev cX5_shrinks : ByteArray := prog_1_method_17_code
def yX5_shrinks : MethodName := ⟨RX5, "shrinks", "(II)I"⟩
abbrev cX5_give : ByteArray := prog_1_method_18_code
def yX5_give : MethodName := ⟨RX5, "give", "(IIII)I"⟩
abbrev cX5_owes : ByteArray := prog_1_method_19_code
def yX5_owes : MethodName := ⟨RX5, "owes", "(III)I"⟩
abbrev cX5_position : ByteArray := prog_1_method_20_code
def yX5_position : MethodName := ⟨RX5, "position", "(II)I"⟩
abbrev cX5_net : ByteArray := prog_1_method_21_code
def yX5_net : MethodName := ⟨RX5, "net", "(I)I"⟩
abbrev cX5_requireIndex : ByteArray := prog_1_method_22_code
def yX5_requireIndex : MethodName := ⟨RX5, "requireIndex", "(II)V"⟩
abbrev cX5_requireRange : ByteArray := prog_1_method_23_code
def yX5_requireRange : MethodName := ⟨RX5, "requireRange", "(III)V"⟩
abbrev cX5_requireRoom : ByteArray := prog_1_method_24_code
def yX5_requireRoom : MethodName := ⟨RX5, "requireRoom", "(II)V"⟩
abbrev cX5_requireWaiting : ByteArray := prog_1_method_25_code
def yX5_requireWaiting : MethodName := ⟨RX5, "requireWaiting", "(LDyeRing$Order;)V"⟩
abbrev cX5_pieceOf : ByteArray := prog_1_method_26_code
def yX5_pieceOf : MethodName := ⟨RX5, "pieceOf", "(LDyeRing$Order;)LDyeRing$Piece;"⟩
abbrev cX5_findEntry : ByteArray := prog_1_method_27_code
def yX5_findEntry : MethodName := ⟨RX5, "findEntry", "(I)LDyeRing$Entry;"⟩
abbrev cX5_findBath : ByteArray := prog_1_method_28_code
def yX5_findBath : MethodName := ⟨RX5, "findBath", "(I)LDyeRing$Bath;"⟩
abbrev cX5_findOrder : ByteArray := prog_1_method_29_code
def yX5_findOrder : MethodName := ⟨RX5, "findOrder", "(I)LDyeRing$Order;"⟩
abbrev cX5_weakestRightBath : ByteArray := prog_1_method_30_code
def yX5_weakestRightBath : MethodName := ⟨RX5, "weakestRightBath", "(LDyeRing$Order;)I"⟩
abbrev cX5_isRight : ByteArray := prog_1_method_31_code
def yX5_isRight : MethodName := ⟨RX5, "isRight", "(LDyeRing$Bath;LDyeRing$Order;)Z"⟩
abbrev cX5_dyeIn : ByteArray := prog_1_method_32_code
def yX5_dyeIn : MethodName := ⟨RX5, "dyeIn", "(LDyeRing$Order;LDyeRing$Bath;)LDyeRing$Piece;"⟩
abbrev cX5_weakened : ByteArray := prog_1_method_33_code
def yX5_weakened : MethodName := ⟨RX5, "weakened", "(II)I"⟩
def RX6 : String := "DyeRingModel"
def TX6 : u_T := fun k => match k with
  | 0 => ("DyeRingModel", "entries", "I", false)
  | 1 => ("DyeRingModel", "book", "[I", true)
  | 2 => ("DyeRingModel", "tolerance", "[I", true)
  | 3 => ("DyeRingModel", "waters", "[I", true)
  | 4 => ("DyeRingModel", "yarns", "[I", true)
  | 5 => ("DyeRingModel", "baths", "I", false)
  | 6 => ("DyeRingModel", "dyer", "[I", true)
  | 7 => ("DyeRingModel", "bathFor", "[I", true)
  | 8 => ("DyeRingModel", "strength", "[I", true)
  | 9 => ("DyeRingModel", "orders", "I", false)
  | 10 => ("DyeRingModel", "entryOf", "[I", true)
  | 11 => ("DyeRingModel", "weight", "[I", true)
  | 12 => ("DyeRingModel", "yarnOf", "[I", true)
  | 13 => ("DyeRingModel", "state", "[I", true)
  | 14 => ("DyeRingModel", "bathOf", "[I", true)
  | 15 => ("DyeRingModel", "hadStrength", "[I", true)
  | 16 => ("DyeRingModel", "hadWater", "[I", true)
  | 17 => ("DyeRingModel", "hadFirst", "[I", true)
  | 18 => ("DyeRingModel", "hadSecond", "[I", true)
  | 19 => ("DyeRingModel", "blames", "[I", true)
  | 20 => ("DyeRingModel", "shrinkage", "[I", true)
  | 21 => ("DyeRingModel", "debts", "[I", true)
  | 22 => ("DyeRingModel", "positions", "[I", true)
  | _ => ("DyeRingModel", "thrown", "I", false)
def tyX6 : Nat → FieldType := fun k => match k with
  | 0 => .int
  | 1 => .array .int
  | 2 => .array .int
  | 3 => .array .int
  | 4 => .array .int
  | 5 => .int
  | 6 => .array .int
  | 7 => .array .int
  | 8 => .array .int
  | 9 => .int
  | 10 => .array .int
  | 11 => .array .int
  | 12 => .array .int
  | 13 => .array .int
  | 14 => .array .int
  | 15 => .array .int
  | 16 => .array .int
  | 17 => .array .int
  | 18 => .array .int
  | 19 => .array .int
  | 20 => .array .int
  | 21 => .array .int
  | 22 => .array .int
  | _ => .int
theorem nmX6 : ∀ a, a < 24 → ∀ b, b < 24 → a ≠ b → (TX6 a).2.1 ≠ (TX6 b).2.1 := by decide +kernel
theorem tyX6_ok : ∀ k, k < 24 → parseFieldDescriptor (TX6 k).2.2.1 = some (tyX6 k) := by decide +kernel
abbrev cX6_init : ByteArray := prog_8_method_1_code
def yX6_init : MethodName := ⟨RX6, "<init>", "()V"⟩
abbrev cX6_thrown : ByteArray := prog_8_method_2_code
def yX6_thrown : MethodName := ⟨RX6, "thrown", "()I"⟩
abbrev cX6_may : ByteArray := prog_8_method_3_code
def yX6_may : MethodName := ⟨RX6, "may", "(Z)Z"⟩
abbrev cX6_mayBoth : ByteArray := prog_8_method_4_code
def yX6_mayBoth : MethodName := ⟨RX6, "mayBoth", "(ZZ)Z"⟩
abbrev cX6_mayAll : ByteArray := prog_8_method_5_code
def yX6_mayAll : MethodName := ⟨RX6, "mayAll", "(ZZZ)Z"⟩
abbrev cX6_isIn : ByteArray := prog_8_method_6_code
def yX6_isIn : MethodName := ⟨RX6, "isIn", "(III)Z"⟩
abbrev cX6_isThird : ByteArray := prog_8_method_7_code
def yX6_isThird : MethodName := ⟨RX6, "isThird", "(I)Z"⟩
abbrev cX6_isEntry : ByteArray := prog_8_method_8_code
def yX6_isEntry : MethodName := ⟨RX6, "isEntry", "(I)Z"⟩
abbrev cX6_isBath : ByteArray := prog_8_method_9_code
def yX6_isBath : MethodName := ⟨RX6, "isBath", "(I)Z"⟩
abbrev cX6_isOrder : ByteArray := prog_8_method_10_code
def yX6_isOrder : MethodName := ⟨RX6, "isOrder", "(I)Z"⟩
abbrev cX6_far : ByteArray := prog_8_method_11_code
def yX6_far : MethodName := ⟨RX6, "far", "(II)I"⟩
abbrev cX6_entry : ByteArray := prog_8_method_12_code
def yX6_entry : MethodName := ⟨RX6, "entry", "(III)I"⟩
abbrev cX6_water : ByteArray := prog_8_method_13_code
def yX6_water : MethodName := ⟨RX6, "water", "(II)I"⟩
abbrev cX6_yarn : ByteArray := prog_8_method_14_code
def yX6_yarn : MethodName := ⟨RX6, "yarn", "(III)I"⟩
abbrev cX6_apart : ByteArray := prog_8_method_15_code
def yX6_apart : MethodName := ⟨RX6, "apart", "(II)I"⟩
abbrev cX6_bath : ByteArray := prog_8_method_16_code
def yX6_bath : MethodName := ⟨RX6, "bath", "(II)I"⟩
abbrev cX6_freshen : ByteArray := prog_8_method_17_code
def yX6_freshen : MethodName := ⟨RX6, "freshen", "(I)I"⟩
abbrev cX6_strength : ByteArray := prog_8_method_18_code
def yX6_strength : MethodName := ⟨RX6, "strength", "(I)I"⟩
abbrev cX6_order : ByteArray := prog_8_method_19_code
def yX6_order : MethodName := ⟨RX6, "order", "(III)I"⟩
abbrev cX6_off : ByteArray := prog_8_method_20_code
def yX6_off : MethodName := ⟨RX6, "off", "(IIII)I"⟩
abbrev cX6_offBy : ByteArray := prog_8_method_21_code
def yX6_offBy : MethodName := ⟨RX6, "offBy", "(II)I"⟩
abbrev cX6_offOf : ByteArray := prog_8_method_22_code
def yX6_offOf : MethodName := ⟨RX6, "offOf", "(I)I"⟩
abbrev cX6_dyeIn : ByteArray := prog_8_method_23_code
def yX6_dyeIn : MethodName := ⟨RX6, "dyeIn", "(II)V"⟩
abbrev cX6_place : ByteArray := prog_8_method_24_code
def yX6_place : MethodName := ⟨RX6, "place", "(I)I"⟩
abbrev cX6_dye : ByteArray := prog_8_method_25_code
def yX6_dye : MethodName := ⟨RX6, "dye", "(II)I"⟩
abbrev cX6_claim : ByteArray := prog_8_method_26_code
def yX6_claim : MethodName := ⟨RX6, "claim", "(I)I"⟩
abbrev cX6_stateOf : ByteArray := prog_8_method_27_code
def yX6_stateOf : MethodName := ⟨RX6, "stateOf", "(I)I"⟩
abbrev cX6_colour : ByteArray := prog_8_method_28_code
def yX6_colour : MethodName := ⟨RX6, "colour", "(II)I"⟩
abbrev cX6_colourByBath : ByteArray := prog_8_method_29_code
def yX6_colourByBath : MethodName := ⟨RX6, "colourByBath", "(II)I"⟩
abbrev cX6_blamed : ByteArray := prog_8_method_30_code
def yX6_blamed : MethodName := ⟨RX6, "blamed", "(II)I"⟩
abbrev cX6_isPerson : ByteArray := prog_8_method_31_code
def yX6_isPerson : MethodName := ⟨RX6, "isPerson", "(I)Z"⟩
abbrev cX6_shrinks : ByteArray := prog_8_method_32_code
def yX6_shrinks : MethodName := ⟨RX6, "shrinks", "(II)I"⟩
abbrev cX6_give : ByteArray := prog_8_method_33_code
def yX6_give : MethodName := ⟨RX6, "give", "(IIII)I"⟩
abbrev cX6_owes : ByteArray := prog_8_method_34_code
def yX6_owes : MethodName := ⟨RX6, "owes", "(III)I"⟩
abbrev cX6_positionOf : ByteArray := prog_8_method_35_code
def yX6_positionOf : MethodName := ⟨RX6, "positionOf", "(II)I"⟩
abbrev cX6_position : ByteArray := prog_8_method_36_code
def yX6_position : MethodName := ⟨RX6, "position", "(II)I"⟩
abbrev cX6_net : ByteArray := prog_8_method_37_code
def yX6_net : MethodName := ⟨RX6, "net", "(I)I"⟩
def RJx145de : String := "java/io/Serializable"
def TJx145de : u_T := fun k => match k with
  | _ => ("", "", "", false)
def tyJx145de : Nat → FieldType := fun k => match k with
  | _ => .int
theorem nmJx145de : ∀ a, a < 0 → ∀ b, b < 0 → a ≠ b → (TJx145de a).2.1 ≠ (TJx145de b).2.1 := by decide +kernel
theorem tyJx145de_ok : ∀ k, k < 0 → parseFieldDescriptor (TJx145de k).2.2.1 = some (tyJx145de k) := by decide +kernel
def RJx8e188 : String := "java/lang/Cloneable"
def TJx8e188 : u_T := fun k => match k with
  | _ => ("", "", "", false)
def tyJx8e188 : Nat → FieldType := fun k => match k with
  | _ => .int
theorem nmJx8e188 : ∀ a, a < 0 → ∀ b, b < 0 → a ≠ b → (TJx8e188 a).2.1 ≠ (TJx8e188 b).2.1 := by decide +kernel
theorem tyJx8e188_ok : ∀ k, k < 0 → parseFieldDescriptor (TJx8e188 k).2.2.1 = some (tyJx8e188 k) := by decide +kernel
def RJxab1ab : String := "java/lang/Iterable"
def TJxab1ab : u_T := fun k => match k with
  | _ => ("", "", "", false)
def tyJxab1ab : Nat → FieldType := fun k => match k with
  | _ => .int
theorem nmJxab1ab : ∀ a, a < 0 → ∀ b, b < 0 → a ≠ b → (TJxab1ab a).2.1 ≠ (TJxab1ab b).2.1 := by decide +kernel
theorem tyJxab1ab_ok : ∀ k, k < 0 → parseFieldDescriptor (TJxab1ab k).2.2.1 = some (tyJxab1ab k) := by decide +kernel
def RJ9 : String := "java/lang/Math"
def TJ9 : u_T := fun k => match k with
  | _ => ("", "", "", false)
def tyJ9 : Nat → FieldType := fun k => match k with
  | _ => .int
theorem nmJ9 : ∀ a, a < 0 → ∀ b, b < 0 → a ≠ b → (TJ9 a).2.1 ≠ (TJ9 b).2.1 := by decide +kernel
theorem tyJ9_ok : ∀ k, k < 0 → parseFieldDescriptor (TJ9 k).2.2.1 = some (tyJ9 k) := by decide +kernel
abbrev cJ9_abs_0f7a4 : ByteArray := prog_16_method_59_code
def yJ9_abs_0f7a4 : MethodName := ⟨RJ9, "abs", "(I)I"⟩
abbrev cJ9_max_7cf53 : ByteArray := prog_16_method_65_code
def yJ9_max_7cf53 : MethodName := ⟨RJ9, "max", "(II)I"⟩
abbrev cJ9_min_7cf53 : ByteArray := prog_16_method_69_code
def yJ9_min_7cf53 : MethodName := ⟨RJ9, "min", "(II)I"⟩
def RJ0 : String := "java/lang/String"
def TJ0 : u_T := fun k => match k with
  | _ => ("", "", "", false)
def tyJ0 : Nat → FieldType := fun k => match k with
  | _ => .int
theorem nmJ0 : ∀ a, a < 0 → ∀ b, b < 0 → a ≠ b → (TJ0 a).2.1 ≠ (TJ0 b).2.1 := by decide +kernel
theorem tyJ0_ok : ∀ k, k < 0 → parseFieldDescriptor (TJ0 k).2.2.1 = some (tyJ0 k) := by decide +kernel
def RJ10 : String := "java/lang/System"
def TJ10 : u_T := fun k => match k with
  | _ => ("", "", "", false)
def tyJ10 : Nat → FieldType := fun k => match k with
  | _ => .int
theorem nmJ10 : ∀ a, a < 0 → ∀ b, b < 0 → a ≠ b → (TJ10 a).2.1 ≠ (TJ10 b).2.1 := by decide +kernel
theorem tyJ10_ok : ∀ k, k < 0 → parseFieldDescriptor (TJ10 k).2.2.1 = some (tyJ10 k) := by decide +kernel
def RJxa1e45 : String := "java/util/AbstractCollection"
def TJxa1e45 : u_T := fun k => match k with
  | _ => ("", "", "", false)
def tyJxa1e45 : Nat → FieldType := fun k => match k with
  | _ => .int
theorem nmJxa1e45 : ∀ a, a < 0 → ∀ b, b < 0 → a ≠ b → (TJxa1e45 a).2.1 ≠ (TJxa1e45 b).2.1 := by decide +kernel
theorem tyJxa1e45_ok : ∀ k, k < 0 → parseFieldDescriptor (TJxa1e45 k).2.2.1 = some (tyJxa1e45 k) := by decide +kernel
abbrev cJxa1e45_init_da8c8 : ByteArray := prog_21_method_1_code
def yJxa1e45_init_da8c8 : MethodName := ⟨RJxa1e45, "<init>", "()V"⟩
def RJxc12de : String := "java/util/AbstractList"
def TJxc12de : u_T := fun k => match k with
  | _ => ("", "", "", false)
def tyJxc12de : Nat → FieldType := fun k => match k with
  | _ => .int
theorem nmJxc12de : ∀ a, a < 0 → ∀ b, b < 0 → a ≠ b → (TJxc12de a).2.1 ≠ (TJxc12de b).2.1 := by decide +kernel
theorem tyJxc12de_ok : ∀ k, k < 0 → parseFieldDescriptor (TJxc12de k).2.2.1 = some (tyJxc12de k) := by decide +kernel
abbrev cJxc12de_init_da8c8 : ByteArray := prog_22_method_1_code
def yJxc12de_init_da8c8 : MethodName := ⟨RJxc12de, "<init>", "()V"⟩
def RJx4a65c : String := "java/util/ArrayList"
def TJx4a65c : u_T := fun k => match k with
  | 0 => ("java/util/AbstractList", "modCount", "I", false)
  | 1 => ("java/util/ArrayList", "elementData", "[Ljava/lang/Object;", false)
  | _ => ("java/util/ArrayList", "size", "I", false)
def tyJx4a65c : Nat → FieldType := fun k => match k with
  | 0 => .int
  | 1 => .array (.object "java/lang/Object")
  | _ => .int
theorem nmJx4a65c : ∀ a, a < 3 → ∀ b, b < 3 → a ≠ b → (TJx4a65c a).2.1 ≠ (TJx4a65c b).2.1 := by decide +kernel
theorem tyJx4a65c_ok : ∀ k, k < 3 → parseFieldDescriptor (TJx4a65c k).2.2.1 = some (tyJx4a65c k) := by decide +kernel
abbrev cJx4a65c_init_da8c8 : ByteArray := prog_23_method_2_code
def yJx4a65c_init_da8c8 : MethodName := ⟨RJx4a65c, "<init>", "()V"⟩
abbrev cJx4a65c_grow_92f84 : ByteArray := prog_23_method_6_code
def yJx4a65c_grow_92f84 : MethodName := ⟨RJx4a65c, "grow", "(I)[Ljava/lang/Object;"⟩
abbrev cJx4a65c_grow_d5877 : ByteArray := prog_23_method_7_code
def yJx4a65c_grow_d5877 : MethodName := ⟨RJx4a65c, "grow", "()[Ljava/lang/Object;"⟩
abbrev cJx4a65c_size_8abf5 : ByteArray := prog_23_method_8_code
def yJx4a65c_size_8abf5 : MethodName := ⟨RJx4a65c, "size", "()I"⟩
abbrev cJx4a65c_elementData_915e3 : ByteArray := prog_23_method_18_code
def yJx4a65c_elementData_915e3 : MethodName := ⟨RJx4a65c, "elementData", "(I)Ljava/lang/Object;"⟩
abbrev cJx4a65c_get_915e3 : ByteArray := prog_23_method_20_code
def yJx4a65c_get_915e3 : MethodName := ⟨RJx4a65c, "get", "(I)Ljava/lang/Object;"⟩
abbrev cJx4a65c_add_72be8 : ByteArray := prog_23_method_24_code
def yJx4a65c_add_72be8 : MethodName := ⟨RJx4a65c, "add", "(Ljava/lang/Object;[Ljava/lang/Object;I)V"⟩
abbrev cJx4a65c_add_9ea2d : ByteArray := prog_23_method_25_code
def yJx4a65c_add_9ea2d : MethodName := ⟨RJx4a65c, "add", "(Ljava/lang/Object;)Z"⟩
def RJ7 : String := "java/util/Arrays"
def TJ7 : u_T := fun k => match k with
  | _ => ("", "", "", false)
def tyJ7 : Nat → FieldType := fun k => match k with
  | _ => .int
theorem nmJ7 : ∀ a, a < 0 → ∀ b, b < 0 → a ≠ b → (TJ7 a).2.1 ≠ (TJ7 b).2.1 := by decide +kernel
theorem tyJ7_ok : ∀ k, k < 0 → parseFieldDescriptor (TJ7 k).2.2.1 = some (tyJ7 k) := by decide +kernel
abbrev cJ7_fill_53178 : ByteArray := prog_24_method_103_code
def yJ7_fill_53178 : MethodName := ⟨RJ7, "fill", "([II)V"⟩
abbrev cJ7_copyOf_1904c : ByteArray := prog_24_method_119_code
def yJ7_copyOf_1904c : MethodName := ⟨RJ7, "copyOf", "([Ljava/lang/Object;I)[Ljava/lang/Object;"⟩
abbrev cJ7_copyOf_6403c : ByteArray := prog_24_method_120_code
def yJ7_copyOf_6403c : MethodName := ⟨RJ7, "copyOf", "([Ljava/lang/Object;ILjava/lang/Class;)[Ljava/lang/Object;"⟩
def RJx5ef63 : String := "java/util/Collection"
def TJx5ef63 : u_T := fun k => match k with
  | _ => ("", "", "", false)
def tyJx5ef63 : Nat → FieldType := fun k => match k with
  | _ => .int
theorem nmJx5ef63 : ∀ a, a < 0 → ∀ b, b < 0 → a ≠ b → (TJx5ef63 a).2.1 ≠ (TJx5ef63 b).2.1 := by decide +kernel
theorem tyJx5ef63_ok : ∀ k, k < 0 → parseFieldDescriptor (TJx5ef63 k).2.2.1 = some (tyJx5ef63 k) := by decide +kernel
def RJxbd725 : String := "java/util/List"
def TJxbd725 : u_T := fun k => match k with
  | _ => ("", "", "", false)
def tyJxbd725 : Nat → FieldType := fun k => match k with
  | _ => .int
theorem nmJxbd725 : ∀ a, a < 0 → ∀ b, b < 0 → a ≠ b → (TJxbd725 a).2.1 ≠ (TJxbd725 b).2.1 := by decide +kernel
theorem tyJxbd725_ok : ∀ k, k < 0 → parseFieldDescriptor (TJxbd725 k).2.2.1 = some (tyJxbd725 k) := by decide +kernel
def RJ15 : String := "java/util/Objects"
def TJ15 : u_T := fun k => match k with
  | _ => ("", "", "", false)
def tyJ15 : Nat → FieldType := fun k => match k with
  | _ => .int
theorem nmJ15 : ∀ a, a < 0 → ∀ b, b < 0 → a ≠ b → (TJ15 a).2.1 ≠ (TJ15 b).2.1 := by decide +kernel
theorem tyJ15_ok : ∀ k, k < 0 → parseFieldDescriptor (TJ15 k).2.2.1 = some (tyJ15 k) := by decide +kernel
abbrev cJ15_checkIndex_7cf53 : ByteArray := prog_28_method_17_code
def yJ15_checkIndex_7cf53 : MethodName := ⟨RJ15, "checkIndex", "(II)I"⟩
def RJxf0a74 : String := "java/util/RandomAccess"
def TJxf0a74 : u_T := fun k => match k with
  | _ => ("", "", "", false)
def tyJxf0a74 : Nat → FieldType := fun k => match k with
  | _ => .int
theorem nmJxf0a74 : ∀ a, a < 0 → ∀ b, b < 0 → a ≠ b → (TJxf0a74 a).2.1 ≠ (TJxf0a74 b).2.1 := by decide +kernel
theorem tyJxf0a74_ok : ∀ k, k < 0 → parseFieldDescriptor (TJxf0a74 k).2.2.1 = some (tyJxf0a74 k) := by decide +kernel
def RJxa66e6 : String := "java/util/SequencedCollection"
def TJxa66e6 : u_T := fun k => match k with
  | _ => ("", "", "", false)
def tyJxa66e6 : Nat → FieldType := fun k => match k with
  | _ => .int
theorem nmJxa66e6 : ∀ a, a < 0 → ∀ b, b < 0 → a ≠ b → (TJxa66e6 a).2.1 ≠ (TJxa66e6 b).2.1 := by decide +kernel
theorem tyJxa66e6_ok : ∀ k, k < 0 → parseFieldDescriptor (TJxa66e6 k).2.2.1 = some (tyJxa66e6 k) := by decide +kernel
def RJ8 : String := "jdk/internal/util/ArraysSupport"
def TJ8 : u_T := fun k => match k with
  | _ => ("", "", "", false)
def tyJ8 : Nat → FieldType := fun k => match k with
  | _ => .int
theorem nmJ8 : ∀ a, a < 0 → ∀ b, b < 0 → a ≠ b → (TJ8 a).2.1 ≠ (TJ8 b).2.1 := by decide +kernel
theorem tyJ8_ok : ∀ k, k < 0 → parseFieldDescriptor (TJ8 k).2.2.1 = some (tyJ8 k) := by decide +kernel
abbrev cJ8_newLength_cabcc : ByteArray := prog_31_method_27_code
def yJ8_newLength_cabcc : MethodName := ⟨RJ8, "newLength", "(III)I"⟩
abbrev cJ8_hugeLength_7cf53 : ByteArray := prog_31_method_28_code
def yJ8_hugeLength_7cf53 : MethodName := ⟨RJ8, "hugeLength", "(II)I"⟩
def RJ3 : String := "jdk/internal/util/Preconditions"
def TJ3 : u_T := fun k => match k with
  | _ => ("", "", "", false)
def tyJ3 : Nat → FieldType := fun k => match k with
  | _ => .int
theorem nmJ3 : ∀ a, a < 0 → ∀ b, b < 0 → a ≠ b → (TJ3 a).2.1 ≠ (TJ3 b).2.1 := by decide +kernel
theorem tyJ3_ok : ∀ k, k < 0 → parseFieldDescriptor (TJ3 k).2.2.1 = some (tyJ3 k) := by decide +kernel
abbrev cJ3_checkIndex_8e157 : ByteArray := prog_32_method_11_code
def yJ3_checkIndex_8e157 : MethodName := ⟨RJ3, "checkIndex", "(IILjava/util/function/BiFunction;)I"⟩
def RL : String := "DyeRingLaw"
abbrev cL_entry : ByteArray := method_3_code
def yL_entry : MethodName := ⟨RL, "entry", "(LDyeRing;III[J)I"⟩
abbrev cL_water : ByteArray := method_4_code
def yL_water : MethodName := ⟨RL, "water", "(LDyeRing;II[J)I"⟩
abbrev cL_yarn : ByteArray := method_5_code
def yL_yarn : MethodName := ⟨RL, "yarn", "(LDyeRing;III[J)I"⟩
abbrev cL_apart : ByteArray := method_6_code
def yL_apart : MethodName := ⟨RL, "apart", "(LDyeRing;II[J)I"⟩
abbrev cL_bath : ByteArray := method_7_code
def yL_bath : MethodName := ⟨RL, "bath", "(LDyeRing;II[J)I"⟩
abbrev cL_freshen : ByteArray := method_8_code
def yL_freshen : MethodName := ⟨RL, "freshen", "(LDyeRing;I[J)I"⟩
abbrev cL_strength : ByteArray := method_9_code
def yL_strength : MethodName := ⟨RL, "strength", "(LDyeRing;I[J)I"⟩
abbrev cL_order : ByteArray := method_10_code
def yL_order : MethodName := ⟨RL, "order", "(LDyeRing;III[J)I"⟩
abbrev cL_place : ByteArray := method_11_code
def yL_place : MethodName := ⟨RL, "place", "(LDyeRing;I[J)I"⟩
abbrev cL_dye : ByteArray := method_12_code
def yL_dye : MethodName := ⟨RL, "dye", "(LDyeRing;II[J)I"⟩
abbrev cL_claim : ByteArray := method_13_code
def yL_claim : MethodName := ⟨RL, "claim", "(LDyeRing;I[J)I"⟩
abbrev cL_stateOf : ByteArray := method_14_code
def yL_stateOf : MethodName := ⟨RL, "stateOf", "(LDyeRing;I[J)I"⟩
abbrev cL_colour : ByteArray := method_15_code
def yL_colour : MethodName := ⟨RL, "colour", "(LDyeRing;II[J)I"⟩
abbrev cL_colourByBath : ByteArray := method_16_code
def yL_colourByBath : MethodName := ⟨RL, "colourByBath", "(LDyeRing;II[J)I"⟩
abbrev cL_blamed : ByteArray := method_17_code
def yL_blamed : MethodName := ⟨RL, "blamed", "(LDyeRing;II[J)I"⟩
abbrev cL_shrinks : ByteArray := method_18_code
def yL_shrinks : MethodName := ⟨RL, "shrinks", "(LDyeRing;II[J)I"⟩
abbrev cL_give : ByteArray := method_19_code
def yL_give : MethodName := ⟨RL, "give", "(LDyeRing;IIII[J)I"⟩
abbrev cL_owes : ByteArray := method_20_code
def yL_owes : MethodName := ⟨RL, "owes", "(LDyeRing;III[J)I"⟩
abbrev cL_position : ByteArray := method_21_code
def yL_position : MethodName := ⟨RL, "position", "(LDyeRing;II[J)I"⟩
abbrev cL_net : ByteArray := method_22_code
def yL_net : MethodName := ⟨RL, "net", "(LDyeRing;I[J)I"⟩
abbrev cL_law : ByteArray := code
def yL_law : MethodName := ⟨RL, "law", "([I)Z"⟩
theorem dX0_init_0 : decode cX0_init 0 = .ok (.aload_n 0, 1) := by decide +kernel
theorem dX0_init_1 : decode cX0_init 1 = .ok (.invokespecial 3, 3) := by decide +kernel
theorem dX0_init_4 : decode cX0_init 4 = .ok (.aload_n 0, 1) := by decide +kernel
theorem dX0_init_5 : decode cX0_init 5 = .ok (.bipush 100, 2) := by decide +kernel
theorem dX0_init_7 : decode cX0_init 7 = .ok (.putfield 9, 3) := by decide +kernel
theorem dX0_init_10 : decode cX0_init 10 = .ok (.aload_n 0, 1) := by decide +kernel
theorem dX0_init_11 : decode cX0_init 11 = .ok (.new 15, 3) := by decide +kernel
theorem dX0_init_14 : decode cX0_init 14 = .ok (.dup, 1) := by decide +kernel
theorem dX0_init_15 : decode cX0_init 15 = .ok (.invokespecial 17, 3) := by decide +kernel
theorem dX0_init_18 : decode cX0_init 18 = .ok (.putfield 18, 3) := by decide +kernel
theorem dX0_init_21 : decode cX0_init 21 = .ok (.aload_n 0, 1) := by decide +kernel
theorem dX0_init_22 : decode cX0_init 22 = .ok (.iload_n 1, 1) := by decide +kernel
theorem dX0_init_23 : decode cX0_init 23 = .ok (.putfield 22, 3) := by decide +kernel
theorem dX0_init_26 : decode cX0_init 26 = .ok (.aload_n 0, 1) := by decide +kernel
theorem dX0_init_27 : decode cX0_init 27 = .ok (.aload_n 2, 1) := by decide +kernel
theorem dX0_init_28 : decode cX0_init 28 = .ok (.putfield 25, 3) := by decide +kernel
theorem dX0_init_31 : decode cX0_init 31 = .ok (.return_, 1) := by decide +kernel
theorem dX0_isFor_0 : decode cX0_isFor 0 = .ok (.aload_n 0, 1) := by decide +kernel
theorem dX0_isFor_1 : decode cX0_isFor 1 = .ok (.getfield 25, 3) := by decide +kernel
theorem dX0_isFor_4 : decode cX0_isFor 4 = .ok (.getfield 29, 3) := by decide +kernel
theorem dX0_isFor_7 : decode cX0_isFor 7 = .ok (.aload_n 1, 1) := by decide +kernel
theorem dX0_isFor_8 : decode cX0_isFor 8 = .ok (.getfield 29, 3) := by decide +kernel
theorem dX0_isFor_11 : decode cX0_isFor 11 = .ok (.if_icmp .ne 7, 3) := by decide +kernel
theorem dX0_isFor_14 : decode cX0_isFor 14 = .ok (.iconst 1, 1) := by decide +kernel
theorem dX0_isFor_15 : decode cX0_isFor 15 = .ok (.goto 4, 3) := by decide +kernel
theorem dX0_isFor_18 : decode cX0_isFor 18 = .ok (.iconst 0, 1) := by decide +kernel
theorem dX0_isFor_19 : decode cX0_isFor 19 = .ok (.ireturn, 1) := by decide +kernel
theorem dX0_renew_0 : decode cX0_renew 0 = .ok (.aload_n 0, 1) := by decide +kernel
theorem dX0_renew_1 : decode cX0_renew 1 = .ok (.getfield 9, 3) := by decide +kernel
theorem dX0_renew_4 : decode cX0_renew 4 = .ok (.istore_n 1, 1) := by decide +kernel
theorem dX0_renew_5 : decode cX0_renew 5 = .ok (.aload_n 0, 1) := by decide +kernel
theorem dX0_renew_6 : decode cX0_renew 6 = .ok (.bipush 100, 2) := by decide +kernel
theorem dX0_renew_8 : decode cX0_renew 8 = .ok (.putfield 9, 3) := by decide +kernel
theorem dX0_renew_11 : decode cX0_renew 11 = .ok (.aload_n 0, 1) := by decide +kernel
theorem dX0_renew_12 : decode cX0_renew 12 = .ok (.iconst 1, 1) := by decide +kernel
theorem dX0_renew_13 : decode cX0_renew 13 = .ok (.putfield 34, 3) := by decide +kernel
theorem dX0_renew_16 : decode cX0_renew 16 = .ok (.iload_n 1, 1) := by decide +kernel
theorem dX0_renew_17 : decode cX0_renew 17 = .ok (.ireturn, 1) := by decide +kernel
theorem dX0_take_0 : decode cX0_take 0 = .ok (.aload_n 0, 1) := by decide +kernel
theorem dX0_take_1 : decode cX0_take 1 = .ok (.getfield 18, 3) := by decide +kernel
theorem dX0_take_4 : decode cX0_take 4 = .ok (.aload_n 1, 1) := by decide +kernel
theorem dX0_take_5 : decode cX0_take 5 = .ok (.invokevirtual 38, 3) := by decide +kernel
theorem dX0_take_8 : decode cX0_take 8 = .ok (.pop, 1) := by decide +kernel
theorem dX0_take_9 : decode cX0_take 9 = .ok (.aload_n 0, 1) := by decide +kernel
theorem dX0_take_10 : decode cX0_take 10 = .ok (.aload_n 0, 1) := by decide +kernel
theorem dX0_take_11 : decode cX0_take 11 = .ok (.getfield 9, 3) := by decide +kernel
theorem dX0_take_14 : decode cX0_take 14 = .ok (.aload_n 1, 1) := by decide +kernel
theorem dX0_take_15 : decode cX0_take 15 = .ok (.getfield 42, 3) := by decide +kernel
theorem dX0_take_18 : decode cX0_take 18 = .ok (.invokestatic 47, 3) := by decide +kernel
theorem dX0_take_21 : decode cX0_take 21 = .ok (.putfield 9, 3) := by decide +kernel
theorem dX0_take_24 : decode cX0_take 24 = .ok (.aload_n 0, 1) := by decide +kernel
theorem dX0_take_25 : decode cX0_take 25 = .ok (.iconst 0, 1) := by decide +kernel
theorem dX0_take_26 : decode cX0_take 26 = .ok (.putfield 34, 3) := by decide +kernel
theorem dX0_take_29 : decode cX0_take 29 = .ok (.return_, 1) := by decide +kernel
theorem dX0_followedTo_0 : decode cX0_followedTo 0 = .ok (.bipush 100, 2) := by decide +kernel
theorem dX0_followedTo_2 : decode cX0_followedTo 2 = .ok (.istore_n 2, 1) := by decide +kernel
theorem dX0_followedTo_3 : decode cX0_followedTo 3 = .ok (.iconst 0, 1) := by decide +kernel
theorem dX0_followedTo_4 : decode cX0_followedTo 4 = .ok (.istore_n 3, 1) := by decide +kernel
theorem dX0_followedTo_5 : decode cX0_followedTo 5 = .ok (.iload_n 3, 1) := by decide +kernel
theorem dX0_followedTo_6 : decode cX0_followedTo 6 = .ok (.aload_n 0, 1) := by decide +kernel
theorem dX0_followedTo_7 : decode cX0_followedTo 7 = .ok (.getfield 18, 3) := by decide +kernel
theorem dX0_followedTo_10 : decode cX0_followedTo 10 = .ok (.invokevirtual 51, 3) := by decide +kernel
theorem dX0_followedTo_13 : decode cX0_followedTo 13 = .ok (.if_icmp .ge 54, 3) := by decide +kernel
theorem dX0_followedTo_16 : decode cX0_followedTo 16 = .ok (.aload_n 0, 1) := by decide +kernel
theorem dX0_followedTo_17 : decode cX0_followedTo 17 = .ok (.getfield 18, 3) := by decide +kernel
theorem dX0_followedTo_20 : decode cX0_followedTo 20 = .ok (.iload_n 3, 1) := by decide +kernel
theorem dX0_followedTo_21 : decode cX0_followedTo 21 = .ok (.invokevirtual 55, 3) := by decide +kernel
theorem dX0_followedTo_24 : decode cX0_followedTo 24 = .ok (.checkcast 43, 3) := by decide +kernel
theorem dX0_followedTo_27 : decode cX0_followedTo 27 = .ok (.astore 4, 2) := by decide +kernel
theorem dX0_followedTo_29 : decode cX0_followedTo 29 = .ok (.aload 4, 2) := by decide +kernel
theorem dX0_followedTo_31 : decode cX0_followedTo 31 = .ok (.getfield 59, 3) := by decide +kernel
theorem dX0_followedTo_34 : decode cX0_followedTo 34 = .ok (.ifCond .eq 6, 3) := by decide +kernel
theorem dX0_followedTo_37 : decode cX0_followedTo 37 = .ok (.bipush 100, 2) := by decide +kernel
theorem dX0_followedTo_39 : decode cX0_followedTo 39 = .ok (.istore_n 2, 1) := by decide +kernel
theorem dX0_followedTo_40 : decode cX0_followedTo 40 = .ok (.aload 4, 2) := by decide +kernel
theorem dX0_followedTo_42 : decode cX0_followedTo 42 = .ok (.getfield 62, 3) := by decide +kernel
theorem dX0_followedTo_45 : decode cX0_followedTo 45 = .ok (.iload_n 1, 1) := by decide +kernel
theorem dX0_followedTo_46 : decode cX0_followedTo 46 = .ok (.if_icmp .ne 5, 3) := by decide +kernel
theorem dX0_followedTo_49 : decode cX0_followedTo 49 = .ok (.iload_n 2, 1) := by decide +kernel
theorem dX0_followedTo_50 : decode cX0_followedTo 50 = .ok (.ireturn, 1) := by decide +kernel
theorem dX0_followedTo_51 : decode cX0_followedTo 51 = .ok (.iload_n 2, 1) := by decide +kernel
theorem dX0_followedTo_52 : decode cX0_followedTo 52 = .ok (.aload 4, 2) := by decide +kernel
theorem dX0_followedTo_54 : decode cX0_followedTo 54 = .ok (.getfield 42, 3) := by decide +kernel
theorem dX0_followedTo_57 : decode cX0_followedTo 57 = .ok (.invokestatic 47, 3) := by decide +kernel
theorem dX0_followedTo_60 : decode cX0_followedTo 60 = .ok (.istore_n 2, 1) := by decide +kernel
theorem dX0_followedTo_61 : decode cX0_followedTo 61 = .ok (.iinc 3 1, 3) := by decide +kernel
theorem dX0_followedTo_64 : decode cX0_followedTo 64 = .ok (.goto (-59), 3) := by decide +kernel
theorem dX0_followedTo_67 : decode cX0_followedTo 67 = .ok (.iload_n 2, 1) := by decide +kernel
theorem dX0_followedTo_68 : decode cX0_followedTo 68 = .ok (.ireturn, 1) := by decide +kernel
theorem dX1_init_0 : decode cX1_init 0 = .ok (.aload_n 0, 1) := by decide +kernel
theorem dX1_init_1 : decode cX1_init 1 = .ok (.invokespecial 3, 3) := by decide +kernel
theorem dX1_init_4 : decode cX1_init 4 = .ok (.aload_n 0, 1) := by decide +kernel
theorem dX1_init_5 : decode cX1_init 5 = .ok (.iconst 5, 1) := by decide +kernel
theorem dX1_init_6 : decode cX1_init 6 = .ok (.iconst 5, 1) := by decide +kernel
theorem dX1_init_7 : decode cX1_init 7 = .ok (.multianewarray 9 2, 4) := by decide +kernel
theorem dX1_init_11 : decode cX1_init 11 = .ok (.putfield 11, 3) := by decide +kernel
theorem dX1_init_14 : decode cX1_init 14 = .ok (.aload_n 0, 1) := by decide +kernel
theorem dX1_init_15 : decode cX1_init 15 = .ok (.iconst 5, 1) := by decide +kernel
theorem dX1_init_16 : decode cX1_init 16 = .ok (.newarray .int, 2) := by decide +kernel
theorem dX1_init_18 : decode cX1_init 18 = .ok (.putfield 16, 3) := by decide +kernel
theorem dX1_init_21 : decode cX1_init 21 = .ok (.return_, 1) := by decide +kernel
theorem dX1_shrunk_0 : decode cX1_shrunk 0 = .ok (.iload_n 1, 1) := by decide +kernel
theorem dX1_shrunk_1 : decode cX1_shrunk 1 = .ok (.aload_n 0, 1) := by decide +kernel
theorem dX1_shrunk_2 : decode cX1_shrunk 2 = .ok (.getfield 20, 3) := by decide +kernel
theorem dX1_shrunk_5 : decode cX1_shrunk 5 = .ok (.imul, 1) := by decide +kernel
theorem dX1_shrunk_6 : decode cX1_shrunk 6 = .ok (.bipush 99, 2) := by decide +kernel
theorem dX1_shrunk_8 : decode cX1_shrunk 8 = .ok (.iadd, 1) := by decide +kernel
theorem dX1_shrunk_9 : decode cX1_shrunk 9 = .ok (.bipush 100, 2) := by decide +kernel
theorem dX1_shrunk_11 : decode cX1_shrunk 11 = .ok (.idiv, 1) := by decide +kernel
theorem dX1_shrunk_12 : decode cX1_shrunk 12 = .ok (.istore_n 2, 1) := by decide +kernel
theorem dX1_shrunk_13 : decode cX1_shrunk 13 = .ok (.iload_n 1, 1) := by decide +kernel
theorem dX1_shrunk_14 : decode cX1_shrunk 14 = .ok (.iload_n 2, 1) := by decide +kernel
theorem dX1_shrunk_15 : decode cX1_shrunk 15 = .ok (.isub, 1) := by decide +kernel
theorem dX1_shrunk_16 : decode cX1_shrunk 16 = .ok (.ireturn, 1) := by decide +kernel
theorem dX1_balanceOf_0 : decode cX1_balanceOf 0 = .ok (.iconst 0, 1) := by decide +kernel
theorem dX1_balanceOf_1 : decode cX1_balanceOf 1 = .ok (.istore_n 2, 1) := by decide +kernel
theorem dX1_balanceOf_2 : decode cX1_balanceOf 2 = .ok (.iconst 0, 1) := by decide +kernel
theorem dX1_balanceOf_3 : decode cX1_balanceOf 3 = .ok (.istore_n 3, 1) := by decide +kernel
theorem dX1_balanceOf_4 : decode cX1_balanceOf 4 = .ok (.iload_n 3, 1) := by decide +kernel
theorem dX1_balanceOf_5 : decode cX1_balanceOf 5 = .ok (.iconst 5, 1) := by decide +kernel
theorem dX1_balanceOf_6 : decode cX1_balanceOf 6 = .ok (.if_icmp .ge 29, 3) := by decide +kernel
theorem dX1_balanceOf_9 : decode cX1_balanceOf 9 = .ok (.iload_n 2, 1) := by decide +kernel
theorem dX1_balanceOf_10 : decode cX1_balanceOf 10 = .ok (.aload_n 0, 1) := by decide +kernel
theorem dX1_balanceOf_11 : decode cX1_balanceOf 11 = .ok (.getfield 11, 3) := by decide +kernel
theorem dX1_balanceOf_14 : decode cX1_balanceOf 14 = .ok (.iload_n 3, 1) := by decide +kernel
theorem dX1_balanceOf_15 : decode cX1_balanceOf 15 = .ok (.aaload, 1) := by decide +kernel
theorem dX1_balanceOf_16 : decode cX1_balanceOf 16 = .ok (.iload_n 1, 1) := by decide +kernel
theorem dX1_balanceOf_17 : decode cX1_balanceOf 17 = .ok (.iaload, 1) := by decide +kernel
theorem dX1_balanceOf_18 : decode cX1_balanceOf 18 = .ok (.aload_n 0, 1) := by decide +kernel
theorem dX1_balanceOf_19 : decode cX1_balanceOf 19 = .ok (.getfield 11, 3) := by decide +kernel
theorem dX1_balanceOf_22 : decode cX1_balanceOf 22 = .ok (.iload_n 1, 1) := by decide +kernel
theorem dX1_balanceOf_23 : decode cX1_balanceOf 23 = .ok (.aaload, 1) := by decide +kernel
theorem dX1_balanceOf_24 : decode cX1_balanceOf 24 = .ok (.iload_n 3, 1) := by decide +kernel
theorem dX1_balanceOf_25 : decode cX1_balanceOf 25 = .ok (.iaload, 1) := by decide +kernel
theorem dX1_balanceOf_26 : decode cX1_balanceOf 26 = .ok (.isub, 1) := by decide +kernel
theorem dX1_balanceOf_27 : decode cX1_balanceOf 27 = .ok (.iadd, 1) := by decide +kernel
theorem dX1_balanceOf_28 : decode cX1_balanceOf 28 = .ok (.istore_n 2, 1) := by decide +kernel
theorem dX1_balanceOf_29 : decode cX1_balanceOf 29 = .ok (.iinc 3 1, 3) := by decide +kernel
theorem dX1_balanceOf_32 : decode cX1_balanceOf 32 = .ok (.goto (-28), 3) := by decide +kernel
theorem dX1_balanceOf_35 : decode cX1_balanceOf 35 = .ok (.iload_n 2, 1) := by decide +kernel
theorem dX1_balanceOf_36 : decode cX1_balanceOf 36 = .ok (.ireturn, 1) := by decide +kernel
theorem dX1_settle_0 : decode cX1_settle 0 = .ok (.iconst 0, 1) := by decide +kernel
theorem dX1_settle_1 : decode cX1_settle 1 = .ok (.istore_n 1, 1) := by decide +kernel
theorem dX1_settle_2 : decode cX1_settle 2 = .ok (.iload_n 1, 1) := by decide +kernel
theorem dX1_settle_3 : decode cX1_settle 3 = .ok (.iconst 5, 1) := by decide +kernel
theorem dX1_settle_4 : decode cX1_settle 4 = .ok (.if_icmp .ge 20, 3) := by decide +kernel
theorem dX1_settle_7 : decode cX1_settle 7 = .ok (.aload_n 0, 1) := by decide +kernel
theorem dX1_settle_8 : decode cX1_settle 8 = .ok (.getfield 16, 3) := by decide +kernel
theorem dX1_settle_11 : decode cX1_settle 11 = .ok (.iload_n 1, 1) := by decide +kernel
theorem dX1_settle_12 : decode cX1_settle 12 = .ok (.aload_n 0, 1) := by decide +kernel
theorem dX1_settle_13 : decode cX1_settle 13 = .ok (.iload_n 1, 1) := by decide +kernel
theorem dX1_settle_14 : decode cX1_settle 14 = .ok (.invokevirtual 24, 3) := by decide +kernel
theorem dX1_settle_17 : decode cX1_settle 17 = .ok (.iastore, 1) := by decide +kernel
theorem dX1_settle_18 : decode cX1_settle 18 = .ok (.iinc 1 1, 3) := by decide +kernel
theorem dX1_settle_21 : decode cX1_settle 21 = .ok (.goto (-19), 3) := by decide +kernel
theorem dX1_settle_24 : decode cX1_settle 24 = .ok (.iconst 0, 1) := by decide +kernel
theorem dX1_settle_25 : decode cX1_settle 25 = .ok (.istore_n 1, 1) := by decide +kernel
theorem dX1_settle_26 : decode cX1_settle 26 = .ok (.iload_n 1, 1) := by decide +kernel
theorem dX1_settle_27 : decode cX1_settle 27 = .ok (.iconst 5, 1) := by decide +kernel
theorem dX1_settle_28 : decode cX1_settle 28 = .ok (.if_icmp .ge 19, 3) := by decide +kernel
theorem dX1_settle_31 : decode cX1_settle 31 = .ok (.aload_n 0, 1) := by decide +kernel
theorem dX1_settle_32 : decode cX1_settle 32 = .ok (.getfield 11, 3) := by decide +kernel
theorem dX1_settle_35 : decode cX1_settle 35 = .ok (.iload_n 1, 1) := by decide +kernel
theorem dX1_settle_36 : decode cX1_settle 36 = .ok (.aaload, 1) := by decide +kernel
theorem dX1_settle_37 : decode cX1_settle 37 = .ok (.iconst 0, 1) := by decide +kernel
theorem dX1_settle_38 : decode cX1_settle 38 = .ok (.invokestatic 28, 3) := by decide +kernel
theorem dX1_settle_41 : decode cX1_settle 41 = .ok (.iinc 1 1, 3) := by decide +kernel
theorem dX1_settle_44 : decode cX1_settle 44 = .ok (.goto (-18), 3) := by decide +kernel
theorem dX1_settle_47 : decode cX1_settle 47 = .ok (.iconst 0, 1) := by decide +kernel
theorem dX1_settle_48 : decode cX1_settle 48 = .ok (.istore_n 1, 1) := by decide +kernel
theorem dX1_settle_49 : decode cX1_settle 49 = .ok (.iload_n 1, 1) := by decide +kernel
theorem dX1_settle_50 : decode cX1_settle 50 = .ok (.iconst 5, 1) := by decide +kernel
theorem dX1_settle_51 : decode cX1_settle 51 = .ok (.if_icmp .ge 16, 3) := by decide +kernel
theorem dX1_settle_54 : decode cX1_settle 54 = .ok (.aload_n 0, 1) := by decide +kernel
theorem dX1_settle_55 : decode cX1_settle 55 = .ok (.invokevirtual 34, 3) := by decide +kernel
theorem dX1_settle_58 : decode cX1_settle 58 = .ok (.ifCond .eq 9, 3) := by decide +kernel
theorem dX1_settle_61 : decode cX1_settle 61 = .ok (.iinc 1 1, 3) := by decide +kernel
theorem dX1_settle_64 : decode cX1_settle 64 = .ok (.goto (-15), 3) := by decide +kernel
theorem dX1_settle_67 : decode cX1_settle 67 = .ok (.iload_n 1, 1) := by decide +kernel
theorem dX1_settle_68 : decode cX1_settle 68 = .ok (.ireturn, 1) := by decide +kernel
theorem dX1_settleLowest_0 : decode cX1_settleLowest 0 = .ok (.aload_n 0, 1) := by decide +kernel
theorem dX1_settleLowest_1 : decode cX1_settleLowest 1 = .ok (.iconst (-1), 1) := by decide +kernel
theorem dX1_settleLowest_2 : decode cX1_settleLowest 2 = .ok (.invokevirtual 38, 3) := by decide +kernel
theorem dX1_settleLowest_5 : decode cX1_settleLowest 5 = .ok (.istore_n 1, 1) := by decide +kernel
theorem dX1_settleLowest_6 : decode cX1_settleLowest 6 = .ok (.aload_n 0, 1) := by decide +kernel
theorem dX1_settleLowest_7 : decode cX1_settleLowest 7 = .ok (.iconst 1, 1) := by decide +kernel
theorem dX1_settleLowest_8 : decode cX1_settleLowest 8 = .ok (.invokevirtual 38, 3) := by decide +kernel
theorem dX1_settleLowest_11 : decode cX1_settleLowest 11 = .ok (.istore_n 2, 1) := by decide +kernel
theorem dX1_settleLowest_12 : decode cX1_settleLowest 12 = .ok (.iload_n 1, 1) := by decide +kernel
theorem dX1_settleLowest_13 : decode cX1_settleLowest 13 = .ok (.iconst (-1), 1) := by decide +kernel
theorem dX1_settleLowest_14 : decode cX1_settleLowest 14 = .ok (.if_icmp .eq 8, 3) := by decide +kernel
theorem dX1_settleLowest_17 : decode cX1_settleLowest 17 = .ok (.iload_n 2, 1) := by decide +kernel
theorem dX1_settleLowest_18 : decode cX1_settleLowest 18 = .ok (.iconst (-1), 1) := by decide +kernel
theorem dX1_settleLowest_19 : decode cX1_settleLowest 19 = .ok (.if_icmp .ne 5, 3) := by decide +kernel
theorem dX1_settleLowest_22 : decode cX1_settleLowest 22 = .ok (.iconst 0, 1) := by decide +kernel
theorem dX1_settleLowest_23 : decode cX1_settleLowest 23 = .ok (.ireturn, 1) := by decide +kernel
theorem dX1_settleLowest_24 : decode cX1_settleLowest 24 = .ok (.aload_n 0, 1) := by decide +kernel
theorem dX1_settleLowest_25 : decode cX1_settleLowest 25 = .ok (.getfield 16, 3) := by decide +kernel
theorem dX1_settleLowest_28 : decode cX1_settleLowest 28 = .ok (.iload_n 1, 1) := by decide +kernel
theorem dX1_settleLowest_29 : decode cX1_settleLowest 29 = .ok (.iaload, 1) := by decide +kernel
theorem dX1_settleLowest_30 : decode cX1_settleLowest 30 = .ok (.ineg, 1) := by decide +kernel
theorem dX1_settleLowest_31 : decode cX1_settleLowest 31 = .ok (.aload_n 0, 1) := by decide +kernel
theorem dX1_settleLowest_32 : decode cX1_settleLowest 32 = .ok (.getfield 16, 3) := by decide +kernel
theorem dX1_settleLowest_35 : decode cX1_settleLowest 35 = .ok (.iload_n 2, 1) := by decide +kernel
theorem dX1_settleLowest_36 : decode cX1_settleLowest 36 = .ok (.iaload, 1) := by decide +kernel
theorem dX1_settleLowest_37 : decode cX1_settleLowest 37 = .ok (.invokestatic 41, 3) := by decide +kernel
theorem dX1_settleLowest_40 : decode cX1_settleLowest 40 = .ok (.istore_n 3, 1) := by decide +kernel
theorem dX1_settleLowest_41 : decode cX1_settleLowest 41 = .ok (.aload_n 0, 1) := by decide +kernel
theorem dX1_settleLowest_42 : decode cX1_settleLowest 42 = .ok (.getfield 11, 3) := by decide +kernel
theorem dX1_settleLowest_45 : decode cX1_settleLowest 45 = .ok (.iload_n 1, 1) := by decide +kernel
theorem dX1_settleLowest_46 : decode cX1_settleLowest 46 = .ok (.aaload, 1) := by decide +kernel
theorem dX1_settleLowest_47 : decode cX1_settleLowest 47 = .ok (.iload_n 2, 1) := by decide +kernel
theorem dX1_settleLowest_48 : decode cX1_settleLowest 48 = .ok (.iload_n 3, 1) := by decide +kernel
theorem dX1_settleLowest_49 : decode cX1_settleLowest 49 = .ok (.iastore, 1) := by decide +kernel
theorem dX1_settleLowest_50 : decode cX1_settleLowest 50 = .ok (.aload_n 0, 1) := by decide +kernel
theorem dX1_settleLowest_51 : decode cX1_settleLowest 51 = .ok (.getfield 16, 3) := by decide +kernel
theorem dX1_settleLowest_54 : decode cX1_settleLowest 54 = .ok (.iload_n 1, 1) := by decide +kernel
theorem dX1_settleLowest_55 : decode cX1_settleLowest 55 = .ok (.dup2, 1) := by decide +kernel
theorem dX1_settleLowest_56 : decode cX1_settleLowest 56 = .ok (.iaload, 1) := by decide +kernel
theorem dX1_settleLowest_57 : decode cX1_settleLowest 57 = .ok (.iload_n 3, 1) := by decide +kernel
theorem dX1_settleLowest_58 : decode cX1_settleLowest 58 = .ok (.iadd, 1) := by decide +kernel
theorem dX1_settleLowest_59 : decode cX1_settleLowest 59 = .ok (.iastore, 1) := by decide +kernel
theorem dX1_settleLowest_60 : decode cX1_settleLowest 60 = .ok (.aload_n 0, 1) := by decide +kernel
theorem dX1_settleLowest_61 : decode cX1_settleLowest 61 = .ok (.getfield 16, 3) := by decide +kernel
theorem dX1_settleLowest_64 : decode cX1_settleLowest 64 = .ok (.iload_n 2, 1) := by decide +kernel
theorem dX1_settleLowest_65 : decode cX1_settleLowest 65 = .ok (.dup2, 1) := by decide +kernel
theorem dX1_settleLowest_66 : decode cX1_settleLowest 66 = .ok (.iaload, 1) := by decide +kernel
theorem dX1_settleLowest_67 : decode cX1_settleLowest 67 = .ok (.iload_n 3, 1) := by decide +kernel
theorem dX1_settleLowest_68 : decode cX1_settleLowest 68 = .ok (.isub, 1) := by decide +kernel
theorem dX1_settleLowest_69 : decode cX1_settleLowest 69 = .ok (.iastore, 1) := by decide +kernel
theorem dX1_settleLowest_70 : decode cX1_settleLowest 70 = .ok (.iconst 1, 1) := by decide +kernel
theorem dX1_settleLowest_71 : decode cX1_settleLowest 71 = .ok (.ireturn, 1) := by decide +kernel
theorem dX1_lowest_0 : decode cX1_lowest 0 = .ok (.iconst 0, 1) := by decide +kernel
theorem dX1_lowest_1 : decode cX1_lowest 1 = .ok (.istore_n 2, 1) := by decide +kernel
theorem dX1_lowest_2 : decode cX1_lowest 2 = .ok (.iload_n 2, 1) := by decide +kernel
theorem dX1_lowest_3 : decode cX1_lowest 3 = .ok (.iconst 5, 1) := by decide +kernel
theorem dX1_lowest_4 : decode cX1_lowest 4 = .ok (.if_icmp .ge 22, 3) := by decide +kernel
theorem dX1_lowest_7 : decode cX1_lowest 7 = .ok (.aload_n 0, 1) := by decide +kernel
theorem dX1_lowest_8 : decode cX1_lowest 8 = .ok (.getfield 16, 3) := by decide +kernel
theorem dX1_lowest_11 : decode cX1_lowest 11 = .ok (.iload_n 2, 1) := by decide +kernel
theorem dX1_lowest_12 : decode cX1_lowest 12 = .ok (.iaload, 1) := by decide +kernel
theorem dX1_lowest_13 : decode cX1_lowest 13 = .ok (.iload_n 1, 1) := by decide +kernel
theorem dX1_lowest_14 : decode cX1_lowest 14 = .ok (.imul, 1) := by decide +kernel
theorem dX1_lowest_15 : decode cX1_lowest 15 = .ok (.ifCond .le 5, 3) := by decide +kernel
theorem dX1_lowest_18 : decode cX1_lowest 18 = .ok (.iload_n 2, 1) := by decide +kernel
theorem dX1_lowest_19 : decode cX1_lowest 19 = .ok (.ireturn, 1) := by decide +kernel
theorem dX1_lowest_20 : decode cX1_lowest 20 = .ok (.iinc 2 1, 3) := by decide +kernel
theorem dX1_lowest_23 : decode cX1_lowest 23 = .ok (.goto (-21), 3) := by decide +kernel
theorem dX1_lowest_26 : decode cX1_lowest 26 = .ok (.iconst (-1), 1) := by decide +kernel
theorem dX1_lowest_27 : decode cX1_lowest 27 = .ok (.ireturn, 1) := by decide +kernel
theorem dX2_init_0 : decode cX2_init 0 = .ok (.aload_n 0, 1) := by decide +kernel
theorem dX2_init_1 : decode cX2_init 1 = .ok (.invokespecial 3, 3) := by decide +kernel
theorem dX2_init_4 : decode cX2_init 4 = .ok (.aload_n 0, 1) := by decide +kernel
theorem dX2_init_5 : decode cX2_init 5 = .ok (.iload_n 1, 1) := by decide +kernel
theorem dX2_init_6 : decode cX2_init 6 = .ok (.putfield 9, 3) := by decide +kernel
theorem dX2_init_9 : decode cX2_init 9 = .ok (.aload_n 0, 1) := by decide +kernel
theorem dX2_init_10 : decode cX2_init 10 = .ok (.iload_n 2, 1) := by decide +kernel
theorem dX2_init_11 : decode cX2_init 11 = .ok (.putfield 15, 3) := by decide +kernel
theorem dX2_init_14 : decode cX2_init 14 = .ok (.aload_n 0, 1) := by decide +kernel
theorem dX2_init_15 : decode cX2_init 15 = .ok (.iload_n 3, 1) := by decide +kernel
theorem dX2_init_16 : decode cX2_init 16 = .ok (.putfield 18, 3) := by decide +kernel
theorem dX2_init_19 : decode cX2_init 19 = .ok (.aload_n 0, 1) := by decide +kernel
theorem dX2_init_20 : decode cX2_init 20 = .ok (.iload 4, 2) := by decide +kernel
theorem dX2_init_22 : decode cX2_init 22 = .ok (.putfield 21, 3) := by decide +kernel
theorem dX2_init_25 : decode cX2_init 25 = .ok (.return_, 1) := by decide +kernel
theorem dX2_distanceTo_0 : decode cX2_distanceTo 0 = .ok (.aload_n 0, 1) := by decide +kernel
theorem dX2_distanceTo_1 : decode cX2_distanceTo 1 = .ok (.getfield 15, 3) := by decide +kernel
theorem dX2_distanceTo_4 : decode cX2_distanceTo 4 = .ok (.iload_n 1, 1) := by decide +kernel
theorem dX2_distanceTo_5 : decode cX2_distanceTo 5 = .ok (.isub, 1) := by decide +kernel
theorem dX2_distanceTo_6 : decode cX2_distanceTo 6 = .ok (.invokestatic 24, 3) := by decide +kernel
theorem dX2_distanceTo_9 : decode cX2_distanceTo 9 = .ok (.aload_n 0, 1) := by decide +kernel
theorem dX2_distanceTo_10 : decode cX2_distanceTo 10 = .ok (.getfield 18, 3) := by decide +kernel
theorem dX2_distanceTo_13 : decode cX2_distanceTo 13 = .ok (.iload_n 2, 1) := by decide +kernel
theorem dX2_distanceTo_14 : decode cX2_distanceTo 14 = .ok (.isub, 1) := by decide +kernel
theorem dX2_distanceTo_15 : decode cX2_distanceTo 15 = .ok (.invokestatic 24, 3) := by decide +kernel
theorem dX2_distanceTo_18 : decode cX2_distanceTo 18 = .ok (.iadd, 1) := by decide +kernel
theorem dX2_distanceTo_19 : decode cX2_distanceTo 19 = .ok (.ireturn, 1) := by decide +kernel
theorem dX2_dyedFirst_0 : decode cX2_dyedFirst 0 = .ok (.aload_n 0, 1) := by decide +kernel
theorem dX2_dyedFirst_1 : decode cX2_dyedFirst 1 = .ok (.getfield 15, 3) := by decide +kernel
theorem dX2_dyedFirst_4 : decode cX2_dyedFirst 4 = .ok (.iload_n 1, 1) := by decide +kernel
theorem dX2_dyedFirst_5 : decode cX2_dyedFirst 5 = .ok (.imul, 1) := by decide +kernel
theorem dX2_dyedFirst_6 : decode cX2_dyedFirst 6 = .ok (.bipush 100, 2) := by decide +kernel
theorem dX2_dyedFirst_8 : decode cX2_dyedFirst 8 = .ok (.idiv, 1) := by decide +kernel
theorem dX2_dyedFirst_9 : decode cX2_dyedFirst 9 = .ok (.iload_n 3, 1) := by decide +kernel
theorem dX2_dyedFirst_10 : decode cX2_dyedFirst 10 = .ok (.iadd, 1) := by decide +kernel
theorem dX2_dyedFirst_11 : decode cX2_dyedFirst 11 = .ok (.iload_n 2, 1) := by decide +kernel
theorem dX2_dyedFirst_12 : decode cX2_dyedFirst 12 = .ok (.iadd, 1) := by decide +kernel
theorem dX2_dyedFirst_13 : decode cX2_dyedFirst 13 = .ok (.ireturn, 1) := by decide +kernel
theorem dX2_dyedSecond_0 : decode cX2_dyedSecond 0 = .ok (.aload_n 0, 1) := by decide +kernel
theorem dX2_dyedSecond_1 : decode cX2_dyedSecond 1 = .ok (.getfield 18, 3) := by decide +kernel
theorem dX2_dyedSecond_4 : decode cX2_dyedSecond 4 = .ok (.iload_n 1, 1) := by decide +kernel
theorem dX2_dyedSecond_5 : decode cX2_dyedSecond 5 = .ok (.imul, 1) := by decide +kernel
theorem dX2_dyedSecond_6 : decode cX2_dyedSecond 6 = .ok (.bipush 100, 2) := by decide +kernel
theorem dX2_dyedSecond_8 : decode cX2_dyedSecond 8 = .ok (.idiv, 1) := by decide +kernel
theorem dX2_dyedSecond_9 : decode cX2_dyedSecond 9 = .ok (.iload_n 2, 1) := by decide +kernel
theorem dX2_dyedSecond_10 : decode cX2_dyedSecond 10 = .ok (.iadd, 1) := by decide +kernel
theorem dX2_dyedSecond_11 : decode cX2_dyedSecond 11 = .ok (.ireturn, 1) := by decide +kernel
theorem dX2_distanceOfDyed_0 : decode cX2_distanceOfDyed 0 = .ok (.aload_n 0, 1) := by decide +kernel
theorem dX2_distanceOfDyed_1 : decode cX2_distanceOfDyed 1 = .ok (.aload_n 0, 1) := by decide +kernel
theorem dX2_distanceOfDyed_2 : decode cX2_distanceOfDyed 2 = .ok (.iload_n 1, 1) := by decide +kernel
theorem dX2_distanceOfDyed_3 : decode cX2_distanceOfDyed 3 = .ok (.iload_n 2, 1) := by decide +kernel
theorem dX2_distanceOfDyed_4 : decode cX2_distanceOfDyed 4 = .ok (.iload_n 3, 1) := by decide +kernel
theorem dX2_distanceOfDyed_5 : decode cX2_distanceOfDyed 5 = .ok (.invokevirtual 30, 3) := by decide +kernel
theorem dX2_distanceOfDyed_8 : decode cX2_distanceOfDyed 8 = .ok (.aload_n 0, 1) := by decide +kernel
theorem dX2_distanceOfDyed_9 : decode cX2_distanceOfDyed 9 = .ok (.iload_n 1, 1) := by decide +kernel
theorem dX2_distanceOfDyed_10 : decode cX2_distanceOfDyed 10 = .ok (.iload 4, 2) := by decide +kernel
theorem dX2_distanceOfDyed_12 : decode cX2_distanceOfDyed 12 = .ok (.invokevirtual 34, 3) := by decide +kernel
theorem dX2_distanceOfDyed_15 : decode cX2_distanceOfDyed 15 = .ok (.invokevirtual 38, 3) := by decide +kernel
theorem dX2_distanceOfDyed_18 : decode cX2_distanceOfDyed 18 = .ok (.ireturn, 1) := by decide +kernel
theorem dX3_init_0 : decode cX3_init 0 = .ok (.aload_n 0, 1) := by decide +kernel
theorem dX3_init_1 : decode cX3_init 1 = .ok (.invokespecial 1, 3) := by decide +kernel
theorem dX3_init_4 : decode cX3_init 4 = .ok (.aload_n 0, 1) := by decide +kernel
theorem dX3_init_5 : decode cX3_init 5 = .ok (.iload_n 1, 1) := by decide +kernel
theorem dX3_init_6 : decode cX3_init 6 = .ok (.putfield 7, 3) := by decide +kernel
theorem dX3_init_9 : decode cX3_init 9 = .ok (.aload_n 0, 1) := by decide +kernel
theorem dX3_init_10 : decode cX3_init 10 = .ok (.aload_n 2, 1) := by decide +kernel
theorem dX3_init_11 : decode cX3_init 11 = .ok (.putfield 13, 3) := by decide +kernel
theorem dX3_init_14 : decode cX3_init 14 = .ok (.aload_n 0, 1) := by decide +kernel
theorem dX3_init_15 : decode cX3_init 15 = .ok (.iload_n 3, 1) := by decide +kernel
theorem dX3_init_16 : decode cX3_init 16 = .ok (.putfield 17, 3) := by decide +kernel
theorem dX3_init_19 : decode cX3_init 19 = .ok (.aload_n 0, 1) := by decide +kernel
theorem dX3_init_20 : decode cX3_init 20 = .ok (.iload 4, 2) := by decide +kernel
theorem dX3_init_22 : decode cX3_init 22 = .ok (.putfield 20, 3) := by decide +kernel
theorem dX3_init_25 : decode cX3_init 25 = .ok (.return_, 1) := by decide +kernel
theorem dX4_init_0 : decode cX4_init 0 = .ok (.aload_n 0, 1) := by decide +kernel
theorem dX4_init_1 : decode cX4_init 1 = .ok (.invokespecial 3, 3) := by decide +kernel
theorem dX4_init_4 : decode cX4_init 4 = .ok (.aload_n 0, 1) := by decide +kernel
theorem dX4_init_5 : decode cX4_init 5 = .ok (.aload_n 1, 1) := by decide +kernel
theorem dX4_init_6 : decode cX4_init 6 = .ok (.getfield 9, 3) := by decide +kernel
theorem dX4_init_9 : decode cX4_init 9 = .ok (.putfield 15, 3) := by decide +kernel
theorem dX4_init_12 : decode cX4_init 12 = .ok (.aload_n 0, 1) := by decide +kernel
theorem dX4_init_13 : decode cX4_init 13 = .ok (.aload_n 1, 1) := by decide +kernel
theorem dX4_init_14 : decode cX4_init 14 = .ok (.getfield 20, 3) := by decide +kernel
theorem dX4_init_17 : decode cX4_init 17 = .ok (.putfield 24, 3) := by decide +kernel
theorem dX4_init_20 : decode cX4_init 20 = .ok (.aload_n 0, 1) := by decide +kernel
theorem dX4_init_21 : decode cX4_init 21 = .ok (.aload_n 1, 1) := by decide +kernel
theorem dX4_init_22 : decode cX4_init 22 = .ok (.getfield 25, 3) := by decide +kernel
theorem dX4_init_25 : decode cX4_init 25 = .ok (.putfield 28, 3) := by decide +kernel
theorem dX4_init_28 : decode cX4_init 28 = .ok (.aload_n 0, 1) := by decide +kernel
theorem dX4_init_29 : decode cX4_init 29 = .ok (.aload_n 2, 1) := by decide +kernel
theorem dX4_init_30 : decode cX4_init 30 = .ok (.putfield 29, 3) := by decide +kernel
theorem dX4_init_33 : decode cX4_init 33 = .ok (.aload_n 0, 1) := by decide +kernel
theorem dX4_init_34 : decode cX4_init 34 = .ok (.aload_n 2, 1) := by decide +kernel
theorem dX4_init_35 : decode cX4_init 35 = .ok (.getfield 33, 3) := by decide +kernel
theorem dX4_init_38 : decode cX4_init 38 = .ok (.putfield 39, 3) := by decide +kernel
theorem dX4_init_41 : decode cX4_init 41 = .ok (.aload_n 0, 1) := by decide +kernel
theorem dX4_init_42 : decode cX4_init 42 = .ok (.aload_n 2, 1) := by decide +kernel
theorem dX4_init_43 : decode cX4_init 43 = .ok (.getfield 42, 3) := by decide +kernel
theorem dX4_init_46 : decode cX4_init 46 = .ok (.putfield 45, 3) := by decide +kernel
theorem dX4_init_49 : decode cX4_init 49 = .ok (.aload_n 0, 1) := by decide +kernel
theorem dX4_init_50 : decode cX4_init 50 = .ok (.iload_n 3, 1) := by decide +kernel
theorem dX4_init_51 : decode cX4_init 51 = .ok (.putfield 48, 3) := by decide +kernel
theorem dX4_init_54 : decode cX4_init 54 = .ok (.aload_n 0, 1) := by decide +kernel
theorem dX4_init_55 : decode cX4_init 55 = .ok (.iload 4, 2) := by decide +kernel
theorem dX4_init_57 : decode cX4_init 57 = .ok (.putfield 51, 3) := by decide +kernel
theorem dX4_init_60 : decode cX4_init 60 = .ok (.aload_n 0, 1) := by decide +kernel
theorem dX4_init_61 : decode cX4_init 61 = .ok (.iload 5, 2) := by decide +kernel
theorem dX4_init_63 : decode cX4_init 63 = .ok (.putfield 54, 3) := by decide +kernel
theorem dX4_init_66 : decode cX4_init 66 = .ok (.return_, 1) := by decide +kernel
theorem dX4_colourAt_0 : decode cX4_colourAt 0 = .ok (.iload_n 1, 1) := by decide +kernel
theorem dX4_colourAt_1 : decode cX4_colourAt 1 = .ok (.ifCond .ne 22, 3) := by decide +kernel
theorem dX4_colourAt_4 : decode cX4_colourAt 4 = .ok (.aload_n 0, 1) := by decide +kernel
theorem dX4_colourAt_5 : decode cX4_colourAt 5 = .ok (.getfield 24, 3) := by decide +kernel
theorem dX4_colourAt_8 : decode cX4_colourAt 8 = .ok (.iload_n 2, 1) := by decide +kernel
theorem dX4_colourAt_9 : decode cX4_colourAt 9 = .ok (.aload_n 0, 1) := by decide +kernel
theorem dX4_colourAt_10 : decode cX4_colourAt 10 = .ok (.getfield 48, 3) := by decide +kernel
theorem dX4_colourAt_13 : decode cX4_colourAt 13 = .ok (.aload_n 0, 1) := by decide +kernel
theorem dX4_colourAt_14 : decode cX4_colourAt 14 = .ok (.getfield 51, 3) := by decide +kernel
theorem dX4_colourAt_17 : decode cX4_colourAt 17 = .ok (.invokevirtual 57, 3) := by decide +kernel
theorem dX4_colourAt_20 : decode cX4_colourAt 20 = .ok (.goto 15, 3) := by decide +kernel
theorem dX4_colourAt_23 : decode cX4_colourAt 23 = .ok (.aload_n 0, 1) := by decide +kernel
theorem dX4_colourAt_24 : decode cX4_colourAt 24 = .ok (.getfield 24, 3) := by decide +kernel
theorem dX4_colourAt_27 : decode cX4_colourAt 27 = .ok (.iload_n 2, 1) := by decide +kernel
theorem dX4_colourAt_28 : decode cX4_colourAt 28 = .ok (.aload_n 0, 1) := by decide +kernel
theorem dX4_colourAt_29 : decode cX4_colourAt 29 = .ok (.getfield 54, 3) := by decide +kernel
theorem dX4_colourAt_32 : decode cX4_colourAt 32 = .ok (.invokevirtual 63, 3) := by decide +kernel
theorem dX4_colourAt_35 : decode cX4_colourAt 35 = .ok (.ireturn, 1) := by decide +kernel
theorem dX4_distance_0 : decode cX4_distance 0 = .ok (.aload_n 0, 1) := by decide +kernel
theorem dX4_distance_1 : decode cX4_distance 1 = .ok (.getfield 24, 3) := by decide +kernel
theorem dX4_distance_4 : decode cX4_distance 4 = .ok (.aload_n 0, 1) := by decide +kernel
theorem dX4_distance_5 : decode cX4_distance 5 = .ok (.getfield 45, 3) := by decide +kernel
theorem dX4_distance_8 : decode cX4_distance 8 = .ok (.aload_n 0, 1) := by decide +kernel
theorem dX4_distance_9 : decode cX4_distance 9 = .ok (.getfield 48, 3) := by decide +kernel
theorem dX4_distance_12 : decode cX4_distance 12 = .ok (.aload_n 0, 1) := by decide +kernel
theorem dX4_distance_13 : decode cX4_distance 13 = .ok (.getfield 51, 3) := by decide +kernel
theorem dX4_distance_16 : decode cX4_distance 16 = .ok (.aload_n 0, 1) := by decide +kernel
theorem dX4_distance_17 : decode cX4_distance 17 = .ok (.getfield 54, 3) := by decide +kernel
theorem dX4_distance_20 : decode cX4_distance 20 = .ok (.invokevirtual 67, 3) := by decide +kernel
theorem dX4_distance_23 : decode cX4_distance 23 = .ok (.ireturn, 1) := by decide +kernel
theorem dX4_isOff_0 : decode cX4_isOff 0 = .ok (.aload_n 0, 1) := by decide +kernel
theorem dX4_isOff_1 : decode cX4_isOff 1 = .ok (.invokevirtual 71, 3) := by decide +kernel
theorem dX4_isOff_4 : decode cX4_isOff 4 = .ok (.aload_n 0, 1) := by decide +kernel
theorem dX4_isOff_5 : decode cX4_isOff 5 = .ok (.getfield 24, 3) := by decide +kernel
theorem dX4_isOff_8 : decode cX4_isOff 8 = .ok (.getfield 75, 3) := by decide +kernel
theorem dX4_isOff_11 : decode cX4_isOff 11 = .ok (.if_icmp .le 7, 3) := by decide +kernel
theorem dX4_isOff_14 : decode cX4_isOff 14 = .ok (.iconst 1, 1) := by decide +kernel
theorem dX4_isOff_15 : decode cX4_isOff 15 = .ok (.goto 4, 3) := by decide +kernel
theorem dX4_isOff_18 : decode cX4_isOff 18 = .ok (.iconst 0, 1) := by decide +kernel
theorem dX4_isOff_19 : decode cX4_isOff 19 = .ok (.ireturn, 1) := by decide +kernel
theorem dX4_toBlame_0 : decode cX4_toBlame 0 = .ok (.aload_n 0, 1) := by decide +kernel
theorem dX4_toBlame_1 : decode cX4_toBlame 1 = .ok (.getfield 24, 3) := by decide +kernel
theorem dX4_toBlame_4 : decode cX4_toBlame 4 = .ok (.bipush 100, 2) := by decide +kernel
theorem dX4_toBlame_6 : decode cX4_toBlame 6 = .ok (.aload_n 0, 1) := by decide +kernel
theorem dX4_toBlame_7 : decode cX4_toBlame 7 = .ok (.getfield 48, 3) := by decide +kernel
theorem dX4_toBlame_10 : decode cX4_toBlame 10 = .ok (.aload_n 0, 1) := by decide +kernel
theorem dX4_toBlame_11 : decode cX4_toBlame 11 = .ok (.getfield 51, 3) := by decide +kernel
theorem dX4_toBlame_14 : decode cX4_toBlame 14 = .ok (.aload_n 0, 1) := by decide +kernel
theorem dX4_toBlame_15 : decode cX4_toBlame 15 = .ok (.getfield 54, 3) := by decide +kernel
theorem dX4_toBlame_18 : decode cX4_toBlame 18 = .ok (.invokevirtual 67, 3) := by decide +kernel
theorem dX4_toBlame_21 : decode cX4_toBlame 21 = .ok (.istore_n 1, 1) := by decide +kernel
theorem dX4_toBlame_22 : decode cX4_toBlame 22 = .ok (.aload_n 0, 1) := by decide +kernel
theorem dX4_toBlame_23 : decode cX4_toBlame 23 = .ok (.getfield 24, 3) := by decide +kernel
theorem dX4_toBlame_26 : decode cX4_toBlame 26 = .ok (.aload_n 0, 1) := by decide +kernel
theorem dX4_toBlame_27 : decode cX4_toBlame 27 = .ok (.getfield 45, 3) := by decide +kernel
theorem dX4_toBlame_30 : decode cX4_toBlame 30 = .ok (.iconst 0, 1) := by decide +kernel
theorem dX4_toBlame_31 : decode cX4_toBlame 31 = .ok (.aload_n 0, 1) := by decide +kernel
theorem dX4_toBlame_32 : decode cX4_toBlame 32 = .ok (.getfield 51, 3) := by decide +kernel
theorem dX4_toBlame_35 : decode cX4_toBlame 35 = .ok (.aload_n 0, 1) := by decide +kernel
theorem dX4_toBlame_36 : decode cX4_toBlame 36 = .ok (.getfield 54, 3) := by decide +kernel
theorem dX4_toBlame_39 : decode cX4_toBlame 39 = .ok (.invokevirtual 67, 3) := by decide +kernel
theorem dX4_toBlame_42 : decode cX4_toBlame 42 = .ok (.istore_n 2, 1) := by decide +kernel
theorem dX4_toBlame_43 : decode cX4_toBlame 43 = .ok (.aload_n 0, 1) := by decide +kernel
theorem dX4_toBlame_44 : decode cX4_toBlame 44 = .ok (.getfield 24, 3) := by decide +kernel
theorem dX4_toBlame_47 : decode cX4_toBlame 47 = .ok (.aload_n 0, 1) := by decide +kernel
theorem dX4_toBlame_48 : decode cX4_toBlame 48 = .ok (.getfield 45, 3) := by decide +kernel
theorem dX4_toBlame_51 : decode cX4_toBlame 51 = .ok (.aload_n 0, 1) := by decide +kernel
theorem dX4_toBlame_52 : decode cX4_toBlame 52 = .ok (.getfield 48, 3) := by decide +kernel
theorem dX4_toBlame_55 : decode cX4_toBlame 55 = .ok (.iconst 0, 1) := by decide +kernel
theorem dX4_toBlame_56 : decode cX4_toBlame 56 = .ok (.iconst 0, 1) := by decide +kernel
theorem dX4_toBlame_57 : decode cX4_toBlame 57 = .ok (.invokevirtual 67, 3) := by decide +kernel
theorem dX4_toBlame_60 : decode cX4_toBlame 60 = .ok (.istore_n 3, 1) := by decide +kernel
theorem dX4_toBlame_61 : decode cX4_toBlame 61 = .ok (.iload_n 1, 1) := by decide +kernel
theorem dX4_toBlame_62 : decode cX4_toBlame 62 = .ok (.iload_n 2, 1) := by decide +kernel
theorem dX4_toBlame_63 : decode cX4_toBlame 63 = .ok (.if_icmp .gt 10, 3) := by decide +kernel
theorem dX4_toBlame_66 : decode cX4_toBlame 66 = .ok (.iload_n 1, 1) := by decide +kernel
theorem dX4_toBlame_67 : decode cX4_toBlame 67 = .ok (.iload_n 3, 1) := by decide +kernel
theorem dX4_toBlame_68 : decode cX4_toBlame 68 = .ok (.if_icmp .gt 5, 3) := by decide +kernel
theorem dX4_toBlame_71 : decode cX4_toBlame 71 = .ok (.iconst 0, 1) := by decide +kernel
theorem dX4_toBlame_72 : decode cX4_toBlame 72 = .ok (.ireturn, 1) := by decide +kernel
theorem dX4_toBlame_73 : decode cX4_toBlame 73 = .ok (.iload_n 2, 1) := by decide +kernel
theorem dX4_toBlame_74 : decode cX4_toBlame 74 = .ok (.iload_n 3, 1) := by decide +kernel
theorem dX4_toBlame_75 : decode cX4_toBlame 75 = .ok (.if_icmp .gt 7, 3) := by decide +kernel
theorem dX4_toBlame_78 : decode cX4_toBlame 78 = .ok (.iconst 1, 1) := by decide +kernel
theorem dX4_toBlame_79 : decode cX4_toBlame 79 = .ok (.goto 4, 3) := by decide +kernel
theorem dX4_toBlame_82 : decode cX4_toBlame 82 = .ok (.iconst 2, 1) := by decide +kernel
theorem dX4_toBlame_83 : decode cX4_toBlame 83 = .ok (.ireturn, 1) := by decide +kernel
theorem dX5_init_0 : decode cX5_init 0 = .ok (.aload_n 0, 1) := by decide +kernel
theorem dX5_init_1 : decode cX5_init 1 = .ok (.invokespecial 1, 3) := by decide +kernel
theorem dX5_init_4 : decode cX5_init 4 = .ok (.aload_n 0, 1) := by decide +kernel
theorem dX5_init_5 : decode cX5_init 5 = .ok (.new 7, 3) := by decide +kernel
theorem dX5_init_8 : decode cX5_init 8 = .ok (.dup, 1) := by decide +kernel
theorem dX5_init_9 : decode cX5_init 9 = .ok (.invokespecial 9, 3) := by decide +kernel
theorem dX5_init_12 : decode cX5_init 12 = .ok (.putfield 10, 3) := by decide +kernel
theorem dX5_init_15 : decode cX5_init 15 = .ok (.aload_n 0, 1) := by decide +kernel
theorem dX5_init_16 : decode cX5_init 16 = .ok (.new 7, 3) := by decide +kernel
theorem dX5_init_19 : decode cX5_init 19 = .ok (.dup, 1) := by decide +kernel
theorem dX5_init_20 : decode cX5_init 20 = .ok (.invokespecial 9, 3) := by decide +kernel
theorem dX5_init_23 : decode cX5_init 23 = .ok (.putfield 16, 3) := by decide +kernel
theorem dX5_init_26 : decode cX5_init 26 = .ok (.aload_n 0, 1) := by decide +kernel
theorem dX5_init_27 : decode cX5_init 27 = .ok (.new 7, 3) := by decide +kernel
theorem dX5_init_30 : decode cX5_init 30 = .ok (.dup, 1) := by decide +kernel
theorem dX5_init_31 : decode cX5_init 31 = .ok (.invokespecial 9, 3) := by decide +kernel
theorem dX5_init_34 : decode cX5_init 34 = .ok (.putfield 19, 3) := by decide +kernel
theorem dX5_init_37 : decode cX5_init 37 = .ok (.aload_n 0, 1) := by decide +kernel
theorem dX5_init_38 : decode cX5_init 38 = .ok (.iconst 3, 1) := by decide +kernel
theorem dX5_init_39 : decode cX5_init 39 = .ok (.newarray .int, 2) := by decide +kernel
theorem dX5_init_41 : decode cX5_init 41 = .ok (.putfield 22, 3) := by decide +kernel
theorem dX5_init_44 : decode cX5_init 44 = .ok (.aload_n 0, 1) := by decide +kernel
theorem dX5_init_45 : decode cX5_init 45 = .ok (.iconst 4, 1) := by decide +kernel
theorem dX5_init_46 : decode cX5_init 46 = .ok (.newarray .int, 2) := by decide +kernel
theorem dX5_init_48 : decode cX5_init 48 = .ok (.putfield 26, 3) := by decide +kernel
theorem dX5_init_51 : decode cX5_init 51 = .ok (.aload_n 0, 1) := by decide +kernel
theorem dX5_init_52 : decode cX5_init 52 = .ok (.iconst 4, 1) := by decide +kernel
theorem dX5_init_53 : decode cX5_init 53 = .ok (.newarray .int, 2) := by decide +kernel
theorem dX5_init_55 : decode cX5_init 55 = .ok (.putfield 29, 3) := by decide +kernel
theorem dX5_init_58 : decode cX5_init 58 = .ok (.aload_n 0, 1) := by decide +kernel
theorem dX5_init_59 : decode cX5_init 59 = .ok (.iconst 3, 1) := by decide +kernel
theorem dX5_init_60 : decode cX5_init 60 = .ok (.iconst 3, 1) := by decide +kernel
theorem dX5_init_61 : decode cX5_init 61 = .ok (.multianewarray 32 2, 4) := by decide +kernel
theorem dX5_init_65 : decode cX5_init 65 = .ok (.putfield 34, 3) := by decide +kernel
theorem dX5_init_68 : decode cX5_init 68 = .ok (.aload_n 0, 1) := by decide +kernel
theorem dX5_init_69 : decode cX5_init 69 = .ok (.iconst 3, 1) := by decide +kernel
theorem dX5_init_70 : decode cX5_init 70 = .ok (.anewarray 37, 3) := by decide +kernel
theorem dX5_init_73 : decode cX5_init 73 = .ok (.putfield 39, 3) := by decide +kernel
theorem dX5_init_76 : decode cX5_init 76 = .ok (.iconst 0, 1) := by decide +kernel
theorem dX5_init_77 : decode cX5_init 77 = .ok (.istore_n 1, 1) := by decide +kernel
theorem dX5_init_78 : decode cX5_init 78 = .ok (.iload_n 1, 1) := by decide +kernel
theorem dX5_init_79 : decode cX5_init 79 = .ok (.iconst 3, 1) := by decide +kernel
theorem dX5_init_80 : decode cX5_init 80 = .ok (.if_icmp .ge 22, 3) := by decide +kernel
theorem dX5_init_83 : decode cX5_init 83 = .ok (.aload_n 0, 1) := by decide +kernel
theorem dX5_init_84 : decode cX5_init 84 = .ok (.getfield 39, 3) := by decide +kernel
theorem dX5_init_87 : decode cX5_init 87 = .ok (.iload_n 1, 1) := by decide +kernel
theorem dX5_init_88 : decode cX5_init 88 = .ok (.new 37, 3) := by decide +kernel
theorem dX5_init_91 : decode cX5_init 91 = .ok (.dup, 1) := by decide +kernel
theorem dX5_init_92 : decode cX5_init 92 = .ok (.invokespecial 43, 3) := by decide +kernel
theorem dX5_init_95 : decode cX5_init 95 = .ok (.aastore, 1) := by decide +kernel
theorem dX5_init_96 : decode cX5_init 96 = .ok (.iinc 1 1, 3) := by decide +kernel
theorem dX5_init_99 : decode cX5_init 99 = .ok (.goto (-21), 3) := by decide +kernel
theorem dX5_init_102 : decode cX5_init 102 = .ok (.return_, 1) := by decide +kernel
theorem dX5_entry_0 : decode cX5_entry 0 = .ok (.iload_n 1, 1) := by decide +kernel
theorem dX5_entry_1 : decode cX5_entry 1 = .ok (.iconst 0, 1) := by decide +kernel
theorem dX5_entry_2 : decode cX5_entry 2 = .ok (.bipush 60, 2) := by decide +kernel
theorem dX5_entry_4 : decode cX5_entry 4 = .ok (.invokestatic 44, 3) := by decide +kernel
theorem dX5_entry_7 : decode cX5_entry 7 = .ok (.iload_n 2, 1) := by decide +kernel
theorem dX5_entry_8 : decode cX5_entry 8 = .ok (.iconst 0, 1) := by decide +kernel
theorem dX5_entry_9 : decode cX5_entry 9 = .ok (.bipush 60, 2) := by decide +kernel
theorem dX5_entry_11 : decode cX5_entry 11 = .ok (.invokestatic 44, 3) := by decide +kernel
theorem dX5_entry_14 : decode cX5_entry 14 = .ok (.iload_n 3, 1) := by decide +kernel
theorem dX5_entry_15 : decode cX5_entry 15 = .ok (.iconst 0, 1) := by decide +kernel
theorem dX5_entry_16 : decode cX5_entry 16 = .ok (.bipush 20, 2) := by decide +kernel
theorem dX5_entry_18 : decode cX5_entry 18 = .ok (.invokestatic 44, 3) := by decide +kernel
theorem dX5_entry_21 : decode cX5_entry 21 = .ok (.aload_n 0, 1) := by decide +kernel
theorem dX5_entry_22 : decode cX5_entry 22 = .ok (.getfield 10, 3) := by decide +kernel
theorem dX5_entry_25 : decode cX5_entry 25 = .ok (.invokevirtual 48, 3) := by decide +kernel
theorem dX5_entry_28 : decode cX5_entry 28 = .ok (.istore 4, 2) := by decide +kernel
theorem dX5_entry_30 : decode cX5_entry 30 = .ok (.iload 4, 2) := by decide +kernel
theorem dX5_entry_32 : decode cX5_entry 32 = .ok (.bipush 12, 2) := by decide +kernel
theorem dX5_entry_34 : decode cX5_entry 34 = .ok (.invokestatic 52, 3) := by decide +kernel
theorem dX5_entry_37 : decode cX5_entry 37 = .ok (.aload_n 0, 1) := by decide +kernel
theorem dX5_entry_38 : decode cX5_entry 38 = .ok (.getfield 10, 3) := by decide +kernel
theorem dX5_entry_41 : decode cX5_entry 41 = .ok (.new 56, 3) := by decide +kernel
theorem dX5_entry_44 : decode cX5_entry 44 = .ok (.dup, 1) := by decide +kernel
theorem dX5_entry_45 : decode cX5_entry 45 = .ok (.iload 4, 2) := by decide +kernel
theorem dX5_entry_47 : decode cX5_entry 47 = .ok (.iload_n 1, 1) := by decide +kernel
theorem dX5_entry_48 : decode cX5_entry 48 = .ok (.iload_n 2, 1) := by decide +kernel
theorem dX5_entry_49 : decode cX5_entry 49 = .ok (.iload_n 3, 1) := by decide +kernel
theorem dX5_entry_50 : decode cX5_entry 50 = .ok (.invokespecial 58, 3) := by decide +kernel
theorem dX5_entry_53 : decode cX5_entry 53 = .ok (.invokevirtual 61, 3) := by decide +kernel
theorem dX5_entry_56 : decode cX5_entry 56 = .ok (.pop, 1) := by decide +kernel
theorem dX5_entry_57 : decode cX5_entry 57 = .ok (.iload 4, 2) := by decide +kernel
theorem dX5_entry_59 : decode cX5_entry 59 = .ok (.ireturn, 1) := by decide +kernel
theorem dX5_water_0 : decode cX5_water 0 = .ok (.iload_n 1, 1) := by decide +kernel
theorem dX5_water_1 : decode cX5_water 1 = .ok (.iconst 3, 1) := by decide +kernel
theorem dX5_water_2 : decode cX5_water 2 = .ok (.invokestatic 65, 3) := by decide +kernel
theorem dX5_water_5 : decode cX5_water 5 = .ok (.iload_n 2, 1) := by decide +kernel
theorem dX5_water_6 : decode cX5_water 6 = .ok (.bipush (-10), 2) := by decide +kernel
theorem dX5_water_8 : decode cX5_water 8 = .ok (.bipush 10, 2) := by decide +kernel
theorem dX5_water_10 : decode cX5_water 10 = .ok (.invokestatic 44, 3) := by decide +kernel
theorem dX5_water_13 : decode cX5_water 13 = .ok (.aload_n 0, 1) := by decide +kernel
theorem dX5_water_14 : decode cX5_water 14 = .ok (.getfield 22, 3) := by decide +kernel
theorem dX5_water_17 : decode cX5_water 17 = .ok (.iload_n 1, 1) := by decide +kernel
theorem dX5_water_18 : decode cX5_water 18 = .ok (.iaload, 1) := by decide +kernel
theorem dX5_water_19 : decode cX5_water 19 = .ok (.istore_n 3, 1) := by decide +kernel
theorem dX5_water_20 : decode cX5_water 20 = .ok (.aload_n 0, 1) := by decide +kernel
theorem dX5_water_21 : decode cX5_water 21 = .ok (.getfield 22, 3) := by decide +kernel
theorem dX5_water_24 : decode cX5_water 24 = .ok (.iload_n 1, 1) := by decide +kernel
theorem dX5_water_25 : decode cX5_water 25 = .ok (.iload_n 2, 1) := by decide +kernel
theorem dX5_water_26 : decode cX5_water 26 = .ok (.iastore, 1) := by decide +kernel
theorem dX5_water_27 : decode cX5_water 27 = .ok (.iload_n 3, 1) := by decide +kernel
theorem dX5_water_28 : decode cX5_water 28 = .ok (.ireturn, 1) := by decide +kernel
theorem dX5_yarn_0 : decode cX5_yarn 0 = .ok (.iload_n 1, 1) := by decide +kernel
theorem dX5_yarn_1 : decode cX5_yarn 1 = .ok (.iconst 4, 1) := by decide +kernel
theorem dX5_yarn_2 : decode cX5_yarn 2 = .ok (.invokestatic 65, 3) := by decide +kernel
theorem dX5_yarn_5 : decode cX5_yarn 5 = .ok (.iload_n 2, 1) := by decide +kernel
theorem dX5_yarn_6 : decode cX5_yarn 6 = .ok (.bipush (-10), 2) := by decide +kernel
theorem dX5_yarn_8 : decode cX5_yarn 8 = .ok (.bipush 10, 2) := by decide +kernel
theorem dX5_yarn_10 : decode cX5_yarn 10 = .ok (.invokestatic 44, 3) := by decide +kernel
theorem dX5_yarn_13 : decode cX5_yarn 13 = .ok (.iload_n 3, 1) := by decide +kernel
theorem dX5_yarn_14 : decode cX5_yarn 14 = .ok (.bipush (-10), 2) := by decide +kernel
theorem dX5_yarn_16 : decode cX5_yarn 16 = .ok (.bipush 10, 2) := by decide +kernel
theorem dX5_yarn_18 : decode cX5_yarn 18 = .ok (.invokestatic 44, 3) := by decide +kernel
theorem dX5_yarn_21 : decode cX5_yarn 21 = .ok (.aload_n 0, 1) := by decide +kernel
theorem dX5_yarn_22 : decode cX5_yarn 22 = .ok (.getfield 26, 3) := by decide +kernel
theorem dX5_yarn_25 : decode cX5_yarn 25 = .ok (.iload_n 1, 1) := by decide +kernel
theorem dX5_yarn_26 : decode cX5_yarn 26 = .ok (.iaload, 1) := by decide +kernel
theorem dX5_yarn_27 : decode cX5_yarn 27 = .ok (.istore 4, 2) := by decide +kernel
theorem dX5_yarn_29 : decode cX5_yarn 29 = .ok (.aload_n 0, 1) := by decide +kernel
theorem dX5_yarn_30 : decode cX5_yarn 30 = .ok (.getfield 26, 3) := by decide +kernel
theorem dX5_yarn_33 : decode cX5_yarn 33 = .ok (.iload_n 1, 1) := by decide +kernel
theorem dX5_yarn_34 : decode cX5_yarn 34 = .ok (.iload_n 2, 1) := by decide +kernel
theorem dX5_yarn_35 : decode cX5_yarn 35 = .ok (.iastore, 1) := by decide +kernel
theorem dX5_yarn_36 : decode cX5_yarn 36 = .ok (.aload_n 0, 1) := by decide +kernel
theorem dX5_yarn_37 : decode cX5_yarn 37 = .ok (.getfield 29, 3) := by decide +kernel
theorem dX5_yarn_40 : decode cX5_yarn 40 = .ok (.iload_n 1, 1) := by decide +kernel
theorem dX5_yarn_41 : decode cX5_yarn 41 = .ok (.iload_n 3, 1) := by decide +kernel
theorem dX5_yarn_42 : decode cX5_yarn 42 = .ok (.iastore, 1) := by decide +kernel
theorem dX5_yarn_43 : decode cX5_yarn 43 = .ok (.iload 4, 2) := by decide +kernel
theorem dX5_yarn_45 : decode cX5_yarn 45 = .ok (.ireturn, 1) := by decide +kernel
theorem dX5_apart_0 : decode cX5_apart 0 = .ok (.aload_n 0, 1) := by decide +kernel
theorem dX5_apart_1 : decode cX5_apart 1 = .ok (.iload_n 1, 1) := by decide +kernel
theorem dX5_apart_2 : decode cX5_apart 2 = .ok (.invokevirtual 68, 3) := by decide +kernel
theorem dX5_apart_5 : decode cX5_apart 5 = .ok (.astore_n 3, 1) := by decide +kernel
theorem dX5_apart_6 : decode cX5_apart 6 = .ok (.aload_n 0, 1) := by decide +kernel
theorem dX5_apart_7 : decode cX5_apart 7 = .ok (.iload_n 2, 1) := by decide +kernel
theorem dX5_apart_8 : decode cX5_apart 8 = .ok (.invokevirtual 68, 3) := by decide +kernel
theorem dX5_apart_11 : decode cX5_apart 11 = .ok (.astore 4, 2) := by decide +kernel
theorem dX5_apart_13 : decode cX5_apart 13 = .ok (.aload_n 3, 1) := by decide +kernel
theorem dX5_apart_14 : decode cX5_apart 14 = .ok (.aload 4, 2) := by decide +kernel
theorem dX5_apart_16 : decode cX5_apart 16 = .ok (.getfield 72, 3) := by decide +kernel
theorem dX5_apart_19 : decode cX5_apart 19 = .ok (.aload 4, 2) := by decide +kernel
theorem dX5_apart_21 : decode cX5_apart 21 = .ok (.getfield 76, 3) := by decide +kernel
theorem dX5_apart_24 : decode cX5_apart 24 = .ok (.invokevirtual 79, 3) := by decide +kernel
theorem dX5_apart_27 : decode cX5_apart 27 = .ok (.ireturn, 1) := by decide +kernel
theorem dX5_bath_0 : decode cX5_bath 0 = .ok (.iload_n 1, 1) := by decide +kernel
theorem dX5_bath_1 : decode cX5_bath 1 = .ok (.iconst 3, 1) := by decide +kernel
theorem dX5_bath_2 : decode cX5_bath 2 = .ok (.invokestatic 65, 3) := by decide +kernel
theorem dX5_bath_5 : decode cX5_bath 5 = .ok (.aload_n 0, 1) := by decide +kernel
theorem dX5_bath_6 : decode cX5_bath 6 = .ok (.iload_n 2, 1) := by decide +kernel
theorem dX5_bath_7 : decode cX5_bath 7 = .ok (.invokevirtual 68, 3) := by decide +kernel
theorem dX5_bath_10 : decode cX5_bath 10 = .ok (.astore_n 3, 1) := by decide +kernel
theorem dX5_bath_11 : decode cX5_bath 11 = .ok (.aload_n 0, 1) := by decide +kernel
theorem dX5_bath_12 : decode cX5_bath 12 = .ok (.getfield 16, 3) := by decide +kernel
theorem dX5_bath_15 : decode cX5_bath 15 = .ok (.invokevirtual 48, 3) := by decide +kernel
theorem dX5_bath_18 : decode cX5_bath 18 = .ok (.istore 4, 2) := by decide +kernel
theorem dX5_bath_20 : decode cX5_bath 20 = .ok (.iload 4, 2) := by decide +kernel
theorem dX5_bath_22 : decode cX5_bath 22 = .ok (.bipush 10, 2) := by decide +kernel
theorem dX5_bath_24 : decode cX5_bath 24 = .ok (.invokestatic 52, 3) := by decide +kernel
theorem dX5_bath_27 : decode cX5_bath 27 = .ok (.aload_n 0, 1) := by decide +kernel
theorem dX5_bath_28 : decode cX5_bath 28 = .ok (.getfield 16, 3) := by decide +kernel
theorem dX5_bath_31 : decode cX5_bath 31 = .ok (.new 83, 3) := by decide +kernel
theorem dX5_bath_34 : decode cX5_bath 34 = .ok (.dup, 1) := by decide +kernel
theorem dX5_bath_35 : decode cX5_bath 35 = .ok (.iload_n 1, 1) := by decide +kernel
theorem dX5_bath_36 : decode cX5_bath 36 = .ok (.aload_n 3, 1) := by decide +kernel
theorem dX5_bath_37 : decode cX5_bath 37 = .ok (.invokespecial 85, 3) := by decide +kernel
theorem dX5_bath_40 : decode cX5_bath 40 = .ok (.invokevirtual 61, 3) := by decide +kernel
theorem dX5_bath_43 : decode cX5_bath 43 = .ok (.pop, 1) := by decide +kernel
theorem dX5_bath_44 : decode cX5_bath 44 = .ok (.iload 4, 2) := by decide +kernel
theorem dX5_bath_46 : decode cX5_bath 46 = .ok (.ireturn, 1) := by decide +kernel
theorem dX5_freshen_0 : decode cX5_freshen 0 = .ok (.aload_n 0, 1) := by decide +kernel
theorem dX5_freshen_1 : decode cX5_freshen 1 = .ok (.iload_n 1, 1) := by decide +kernel
theorem dX5_freshen_2 : decode cX5_freshen 2 = .ok (.invokevirtual 88, 3) := by decide +kernel
theorem dX5_freshen_5 : decode cX5_freshen 5 = .ok (.invokevirtual 92, 3) := by decide +kernel
theorem dX5_freshen_8 : decode cX5_freshen 8 = .ok (.ireturn, 1) := by decide +kernel
theorem dX5_strength_0 : decode cX5_strength 0 = .ok (.aload_n 0, 1) := by decide +kernel
theorem dX5_strength_1 : decode cX5_strength 1 = .ok (.iload_n 1, 1) := by decide +kernel
theorem dX5_strength_2 : decode cX5_strength 2 = .ok (.invokevirtual 88, 3) := by decide +kernel
theorem dX5_strength_5 : decode cX5_strength 5 = .ok (.getfield 95, 3) := by decide +kernel
theorem dX5_strength_8 : decode cX5_strength 8 = .ok (.ireturn, 1) := by decide +kernel
theorem dX5_order_0 : decode cX5_order 0 = .ok (.aload_n 0, 1) := by decide +kernel
theorem dX5_order_1 : decode cX5_order 1 = .ok (.iload_n 1, 1) := by decide +kernel
theorem dX5_order_2 : decode cX5_order 2 = .ok (.invokevirtual 68, 3) := by decide +kernel
theorem dX5_order_5 : decode cX5_order 5 = .ok (.astore 4, 2) := by decide +kernel
theorem dX5_order_7 : decode cX5_order 7 = .ok (.iload_n 3, 1) := by decide +kernel
theorem dX5_order_8 : decode cX5_order 8 = .ok (.iconst 4, 1) := by decide +kernel
theorem dX5_order_9 : decode cX5_order 9 = .ok (.invokestatic 65, 3) := by decide +kernel
theorem dX5_order_12 : decode cX5_order 12 = .ok (.iload_n 2, 1) := by decide +kernel
theorem dX5_order_13 : decode cX5_order 13 = .ok (.iconst 1, 1) := by decide +kernel
theorem dX5_order_14 : decode cX5_order 14 = .ok (.bipush 40, 2) := by decide +kernel
theorem dX5_order_16 : decode cX5_order 16 = .ok (.invokestatic 44, 3) := by decide +kernel
theorem dX5_order_19 : decode cX5_order 19 = .ok (.aload_n 0, 1) := by decide +kernel
theorem dX5_order_20 : decode cX5_order 20 = .ok (.getfield 19, 3) := by decide +kernel
theorem dX5_order_23 : decode cX5_order 23 = .ok (.invokevirtual 48, 3) := by decide +kernel
theorem dX5_order_26 : decode cX5_order 26 = .ok (.istore 5, 2) := by decide +kernel
theorem dX5_order_28 : decode cX5_order 28 = .ok (.iload 5, 2) := by decide +kernel
theorem dX5_order_30 : decode cX5_order 30 = .ok (.bipush 40, 2) := by decide +kernel
theorem dX5_order_32 : decode cX5_order 32 = .ok (.invokestatic 52, 3) := by decide +kernel
theorem dX5_order_35 : decode cX5_order 35 = .ok (.aload_n 0, 1) := by decide +kernel
theorem dX5_order_36 : decode cX5_order 36 = .ok (.getfield 19, 3) := by decide +kernel
theorem dX5_order_39 : decode cX5_order 39 = .ok (.new 98, 3) := by decide +kernel
theorem dX5_order_42 : decode cX5_order 42 = .ok (.dup, 1) := by decide +kernel
theorem dX5_order_43 : decode cX5_order 43 = .ok (.iload 5, 2) := by decide +kernel
theorem dX5_order_45 : decode cX5_order 45 = .ok (.aload 4, 2) := by decide +kernel
theorem dX5_order_47 : decode cX5_order 47 = .ok (.iload_n 2, 1) := by decide +kernel
theorem dX5_order_48 : decode cX5_order 48 = .ok (.iload_n 3, 1) := by decide +kernel
theorem dX5_order_49 : decode cX5_order 49 = .ok (.invokespecial 100, 3) := by decide +kernel
theorem dX5_order_52 : decode cX5_order 52 = .ok (.invokevirtual 61, 3) := by decide +kernel
theorem dX5_order_55 : decode cX5_order 55 = .ok (.pop, 1) := by decide +kernel
theorem dX5_order_56 : decode cX5_order 56 = .ok (.iload 5, 2) := by decide +kernel
theorem dX5_order_58 : decode cX5_order 58 = .ok (.ireturn, 1) := by decide +kernel
theorem dX5_place_0 : decode cX5_place 0 = .ok (.aload_n 0, 1) := by decide +kernel
theorem dX5_place_1 : decode cX5_place 1 = .ok (.iload_n 1, 1) := by decide +kernel
theorem dX5_place_2 : decode cX5_place 2 = .ok (.invokevirtual 103, 3) := by decide +kernel
theorem dX5_place_5 : decode cX5_place 5 = .ok (.astore_n 2, 1) := by decide +kernel
theorem dX5_place_6 : decode cX5_place 6 = .ok (.aload_n 2, 1) := by decide +kernel
theorem dX5_place_7 : decode cX5_place 7 = .ok (.invokestatic 107, 3) := by decide +kernel
theorem dX5_place_10 : decode cX5_place 10 = .ok (.aload_n 0, 1) := by decide +kernel
theorem dX5_place_11 : decode cX5_place 11 = .ok (.aload_n 2, 1) := by decide +kernel
theorem dX5_place_12 : decode cX5_place 12 = .ok (.invokevirtual 111, 3) := by decide +kernel
theorem dX5_place_15 : decode cX5_place 15 = .ok (.istore_n 3, 1) := by decide +kernel
theorem dX5_place_16 : decode cX5_place 16 = .ok (.iload_n 3, 1) := by decide +kernel
theorem dX5_place_17 : decode cX5_place 17 = .ok (.iconst (-1), 1) := by decide +kernel
theorem dX5_place_18 : decode cX5_place 18 = .ok (.if_icmp .ne 13, 3) := by decide +kernel
theorem dX5_place_21 : decode cX5_place 21 = .ok (.new 115, 3) := by decide +kernel
theorem dX5_place_24 : decode cX5_place 24 = .ok (.dup, 1) := by decide +kernel
theorem dX5_place_25 : decode cX5_place 25 = .ok (.ldc 117, 2) := by decide +kernel
theorem dX5_place_27 : decode cX5_place 27 = .ok (.invokespecial 119, 3) := by decide +kernel
theorem dX5_place_30 : decode cX5_place 30 = .ok (.athrow, 1) := by decide +kernel
theorem dX5_place_31 : decode cX5_place 31 = .ok (.aload_n 0, 1) := by decide +kernel
theorem dX5_place_32 : decode cX5_place 32 = .ok (.aload_n 2, 1) := by decide +kernel
theorem dX5_place_33 : decode cX5_place 33 = .ok (.aload_n 0, 1) := by decide +kernel
theorem dX5_place_34 : decode cX5_place 34 = .ok (.iload_n 3, 1) := by decide +kernel
theorem dX5_place_35 : decode cX5_place 35 = .ok (.invokevirtual 88, 3) := by decide +kernel
theorem dX5_place_38 : decode cX5_place 38 = .ok (.invokevirtual 122, 3) := by decide +kernel
theorem dX5_place_41 : decode cX5_place 41 = .ok (.pop, 1) := by decide +kernel
theorem dX5_place_42 : decode cX5_place 42 = .ok (.iload_n 3, 1) := by decide +kernel
theorem dX5_place_43 : decode cX5_place 43 = .ok (.ireturn, 1) := by decide +kernel
theorem dX5_dye_0 : decode cX5_dye 0 = .ok (.aload_n 0, 1) := by decide +kernel
theorem dX5_dye_1 : decode cX5_dye 1 = .ok (.iload_n 1, 1) := by decide +kernel
theorem dX5_dye_2 : decode cX5_dye 2 = .ok (.invokevirtual 103, 3) := by decide +kernel
theorem dX5_dye_5 : decode cX5_dye 5 = .ok (.astore_n 3, 1) := by decide +kernel
theorem dX5_dye_6 : decode cX5_dye 6 = .ok (.aload_n 0, 1) := by decide +kernel
theorem dX5_dye_7 : decode cX5_dye 7 = .ok (.iload_n 2, 1) := by decide +kernel
theorem dX5_dye_8 : decode cX5_dye 8 = .ok (.invokevirtual 88, 3) := by decide +kernel
theorem dX5_dye_11 : decode cX5_dye 11 = .ok (.astore 4, 2) := by decide +kernel
theorem dX5_dye_13 : decode cX5_dye 13 = .ok (.aload 4, 2) := by decide +kernel
theorem dX5_dye_15 : decode cX5_dye 15 = .ok (.aload_n 3, 1) := by decide +kernel
theorem dX5_dye_16 : decode cX5_dye 16 = .ok (.getfield 126, 3) := by decide +kernel
theorem dX5_dye_19 : decode cX5_dye 19 = .ok (.invokevirtual 130, 3) := by decide +kernel
theorem dX5_dye_22 : decode cX5_dye 22 = .ok (.ifCond .ne 13, 3) := by decide +kernel
theorem dX5_dye_25 : decode cX5_dye 25 = .ok (.new 134, 3) := by decide +kernel
theorem dX5_dye_28 : decode cX5_dye 28 = .ok (.dup, 1) := by decide +kernel
theorem dX5_dye_29 : decode cX5_dye 29 = .ok (.ldc 136, 2) := by decide +kernel
theorem dX5_dye_31 : decode cX5_dye 31 = .ok (.invokespecial 138, 3) := by decide +kernel
theorem dX5_dye_34 : decode cX5_dye 34 = .ok (.athrow, 1) := by decide +kernel
theorem dX5_dye_35 : decode cX5_dye 35 = .ok (.aload_n 3, 1) := by decide +kernel
theorem dX5_dye_36 : decode cX5_dye 36 = .ok (.invokestatic 107, 3) := by decide +kernel
theorem dX5_dye_39 : decode cX5_dye 39 = .ok (.aload_n 0, 1) := by decide +kernel
theorem dX5_dye_40 : decode cX5_dye 40 = .ok (.aload_n 3, 1) := by decide +kernel
theorem dX5_dye_41 : decode cX5_dye 41 = .ok (.aload 4, 2) := by decide +kernel
theorem dX5_dye_43 : decode cX5_dye 43 = .ok (.invokevirtual 122, 3) := by decide +kernel
theorem dX5_dye_46 : decode cX5_dye 46 = .ok (.invokevirtual 139, 3) := by decide +kernel
theorem dX5_dye_49 : decode cX5_dye 49 = .ok (.ireturn, 1) := by decide +kernel
theorem dX5_claim_0 : decode cX5_claim 0 = .ok (.aload_n 0, 1) := by decide +kernel
theorem dX5_claim_1 : decode cX5_claim 1 = .ok (.iload_n 1, 1) := by decide +kernel
theorem dX5_claim_2 : decode cX5_claim 2 = .ok (.invokevirtual 103, 3) := by decide +kernel
theorem dX5_claim_5 : decode cX5_claim 5 = .ok (.astore_n 2, 1) := by decide +kernel
theorem dX5_claim_6 : decode cX5_claim 6 = .ok (.aload_n 2, 1) := by decide +kernel
theorem dX5_claim_7 : decode cX5_claim 7 = .ok (.invokestatic 144, 3) := by decide +kernel
theorem dX5_claim_10 : decode cX5_claim 10 = .ok (.astore_n 3, 1) := by decide +kernel
theorem dX5_claim_11 : decode cX5_claim 11 = .ok (.aload_n 2, 1) := by decide +kernel
theorem dX5_claim_12 : decode cX5_claim 12 = .ok (.getfield 148, 3) := by decide +kernel
theorem dX5_claim_15 : decode cX5_claim 15 = .ok (.ifCond .ne 10, 3) := by decide +kernel
theorem dX5_claim_18 : decode cX5_claim 18 = .ok (.aload_n 3, 1) := by decide +kernel
theorem dX5_claim_19 : decode cX5_claim 19 = .ok (.invokevirtual 152, 3) := by decide +kernel
theorem dX5_claim_22 : decode cX5_claim 22 = .ok (.ifCond .ne 13, 3) := by decide +kernel
theorem dX5_claim_25 : decode cX5_claim 25 = .ok (.new 156, 3) := by decide +kernel
theorem dX5_claim_28 : decode cX5_claim 28 = .ok (.dup, 1) := by decide +kernel
theorem dX5_claim_29 : decode cX5_claim 29 = .ok (.ldc 158, 2) := by decide +kernel
theorem dX5_claim_31 : decode cX5_claim 31 = .ok (.invokespecial 160, 3) := by decide +kernel
theorem dX5_claim_34 : decode cX5_claim 34 = .ok (.athrow, 1) := by decide +kernel
theorem dX5_claim_35 : decode cX5_claim 35 = .ok (.aload_n 3, 1) := by decide +kernel
theorem dX5_claim_36 : decode cX5_claim 36 = .ok (.invokevirtual 161, 3) := by decide +kernel
theorem dX5_claim_39 : decode cX5_claim 39 = .ok (.istore 4, 2) := by decide +kernel
theorem dX5_claim_41 : decode cX5_claim 41 = .ok (.aload_n 2, 1) := by decide +kernel
theorem dX5_claim_42 : decode cX5_claim 42 = .ok (.iconst 1, 1) := by decide +kernel
theorem dX5_claim_43 : decode cX5_claim 43 = .ok (.putfield 148, 3) := by decide +kernel
theorem dX5_claim_46 : decode cX5_claim 46 = .ok (.aload_n 0, 1) := by decide +kernel
theorem dX5_claim_47 : decode cX5_claim 47 = .ok (.getfield 34, 3) := by decide +kernel
theorem dX5_claim_50 : decode cX5_claim 50 = .ok (.aload_n 3, 1) := by decide +kernel
theorem dX5_claim_51 : decode cX5_claim 51 = .ok (.getfield 164, 3) := by decide +kernel
theorem dX5_claim_54 : decode cX5_claim 54 = .ok (.getfield 168, 3) := by decide +kernel
theorem dX5_claim_57 : decode cX5_claim 57 = .ok (.aaload, 1) := by decide +kernel
theorem dX5_claim_58 : decode cX5_claim 58 = .ok (.iload 4, 2) := by decide +kernel
theorem dX5_claim_60 : decode cX5_claim 60 = .ok (.dup2, 1) := by decide +kernel
theorem dX5_claim_61 : decode cX5_claim 61 = .ok (.iaload, 1) := by decide +kernel
theorem dX5_claim_62 : decode cX5_claim 62 = .ok (.iconst 1, 1) := by decide +kernel
theorem dX5_claim_63 : decode cX5_claim 63 = .ok (.iadd, 1) := by decide +kernel
theorem dX5_claim_64 : decode cX5_claim 64 = .ok (.iastore, 1) := by decide +kernel
theorem dX5_claim_65 : decode cX5_claim 65 = .ok (.iload 4, 2) := by decide +kernel
theorem dX5_claim_67 : decode cX5_claim 67 = .ok (.ireturn, 1) := by decide +kernel
theorem dX5_stateOf_0 : decode cX5_stateOf 0 = .ok (.aload_n 0, 1) := by decide +kernel
theorem dX5_stateOf_1 : decode cX5_stateOf 1 = .ok (.iload_n 1, 1) := by decide +kernel
theorem dX5_stateOf_2 : decode cX5_stateOf 2 = .ok (.invokevirtual 103, 3) := by decide +kernel
theorem dX5_stateOf_5 : decode cX5_stateOf 5 = .ok (.astore_n 2, 1) := by decide +kernel
theorem dX5_stateOf_6 : decode cX5_stateOf 6 = .ok (.aload_n 2, 1) := by decide +kernel
theorem dX5_stateOf_7 : decode cX5_stateOf 7 = .ok (.getfield 171, 3) := by decide +kernel
theorem dX5_stateOf_10 : decode cX5_stateOf 10 = .ok (.ifnonnull 5, 3) := by decide +kernel
theorem dX5_stateOf_13 : decode cX5_stateOf 13 = .ok (.iconst 0, 1) := by decide +kernel
theorem dX5_stateOf_14 : decode cX5_stateOf 14 = .ok (.ireturn, 1) := by decide +kernel
theorem dX5_stateOf_15 : decode cX5_stateOf 15 = .ok (.aload_n 2, 1) := by decide +kernel
theorem dX5_stateOf_16 : decode cX5_stateOf 16 = .ok (.getfield 148, 3) := by decide +kernel
theorem dX5_stateOf_19 : decode cX5_stateOf 19 = .ok (.ifCond .eq 7, 3) := by decide +kernel
theorem dX5_stateOf_22 : decode cX5_stateOf 22 = .ok (.iconst 2, 1) := by decide +kernel
theorem dX5_stateOf_23 : decode cX5_stateOf 23 = .ok (.goto 4, 3) := by decide +kernel
theorem dX5_stateOf_26 : decode cX5_stateOf 26 = .ok (.iconst 1, 1) := by decide +kernel
theorem dX5_stateOf_27 : decode cX5_stateOf 27 = .ok (.ireturn, 1) := by decide +kernel
theorem dX5_colour_0 : decode cX5_colour 0 = .ok (.aload_n 0, 1) := by decide +kernel
theorem dX5_colour_1 : decode cX5_colour 1 = .ok (.iload_n 1, 1) := by decide +kernel
theorem dX5_colour_2 : decode cX5_colour 2 = .ok (.invokevirtual 103, 3) := by decide +kernel
theorem dX5_colour_5 : decode cX5_colour 5 = .ok (.astore_n 3, 1) := by decide +kernel
theorem dX5_colour_6 : decode cX5_colour 6 = .ok (.iload_n 2, 1) := by decide +kernel
theorem dX5_colour_7 : decode cX5_colour 7 = .ok (.iconst 2, 1) := by decide +kernel
theorem dX5_colour_8 : decode cX5_colour 8 = .ok (.invokestatic 65, 3) := by decide +kernel
theorem dX5_colour_11 : decode cX5_colour 11 = .ok (.aload_n 3, 1) := by decide +kernel
theorem dX5_colour_12 : decode cX5_colour 12 = .ok (.invokestatic 144, 3) := by decide +kernel
theorem dX5_colour_15 : decode cX5_colour 15 = .ok (.astore 4, 2) := by decide +kernel
theorem dX5_colour_17 : decode cX5_colour 17 = .ok (.aload 4, 2) := by decide +kernel
theorem dX5_colour_19 : decode cX5_colour 19 = .ok (.iload_n 2, 1) := by decide +kernel
theorem dX5_colour_20 : decode cX5_colour 20 = .ok (.aload 4, 2) := by decide +kernel
theorem dX5_colour_22 : decode cX5_colour 22 = .ok (.getfield 175, 3) := by decide +kernel
theorem dX5_colour_25 : decode cX5_colour 25 = .ok (.invokevirtual 178, 3) := by decide +kernel
theorem dX5_colour_28 : decode cX5_colour 28 = .ok (.ireturn, 1) := by decide +kernel
theorem dX5_colourByBath_0 : decode cX5_colourByBath 0 = .ok (.aload_n 0, 1) := by decide +kernel
theorem dX5_colourByBath_1 : decode cX5_colourByBath 1 = .ok (.iload_n 1, 1) := by decide +kernel
theorem dX5_colourByBath_2 : decode cX5_colourByBath 2 = .ok (.invokevirtual 103, 3) := by decide +kernel
theorem dX5_colourByBath_5 : decode cX5_colourByBath 5 = .ok (.astore_n 3, 1) := by decide +kernel
theorem dX5_colourByBath_6 : decode cX5_colourByBath 6 = .ok (.iload_n 2, 1) := by decide +kernel
theorem dX5_colourByBath_7 : decode cX5_colourByBath 7 = .ok (.iconst 2, 1) := by decide +kernel
theorem dX5_colourByBath_8 : decode cX5_colourByBath 8 = .ok (.invokestatic 65, 3) := by decide +kernel
theorem dX5_colourByBath_11 : decode cX5_colourByBath 11 = .ok (.aload_n 3, 1) := by decide +kernel
theorem dX5_colourByBath_12 : decode cX5_colourByBath 12 = .ok (.invokestatic 144, 3) := by decide +kernel
theorem dX5_colourByBath_15 : decode cX5_colourByBath 15 = .ok (.astore 4, 2) := by decide +kernel
theorem dX5_colourByBath_17 : decode cX5_colourByBath 17 = .ok (.aload 4, 2) := by decide +kernel
theorem dX5_colourByBath_19 : decode cX5_colourByBath 19 = .ok (.iload_n 2, 1) := by decide +kernel
theorem dX5_colourByBath_20 : decode cX5_colourByBath 20 = .ok (.aload 4, 2) := by decide +kernel
theorem dX5_colourByBath_22 : decode cX5_colourByBath 22 = .ok (.getfield 164, 3) := by decide +kernel
theorem dX5_colourByBath_25 : decode cX5_colourByBath 25 = .ok (.iload_n 1, 1) := by decide +kernel
theorem dX5_colourByBath_26 : decode cX5_colourByBath 26 = .ok (.invokevirtual 181, 3) := by decide +kernel
theorem dX5_colourByBath_29 : decode cX5_colourByBath 29 = .ok (.invokevirtual 178, 3) := by decide +kernel
theorem dX5_colourByBath_32 : decode cX5_colourByBath 32 = .ok (.ireturn, 1) := by decide +kernel
theorem dX5_blamed_0 : decode cX5_blamed 0 = .ok (.iload_n 1, 1) := by decide +kernel
theorem dX5_blamed_1 : decode cX5_blamed 1 = .ok (.iconst 3, 1) := by decide +kernel
theorem dX5_blamed_2 : decode cX5_blamed 2 = .ok (.invokestatic 65, 3) := by decide +kernel
theorem dX5_blamed_5 : decode cX5_blamed 5 = .ok (.iload_n 2, 1) := by decide +kernel
theorem dX5_blamed_6 : decode cX5_blamed 6 = .ok (.iconst 0, 1) := by decide +kernel
theorem dX5_blamed_7 : decode cX5_blamed 7 = .ok (.iconst 2, 1) := by decide +kernel
theorem dX5_blamed_8 : decode cX5_blamed 8 = .ok (.invokestatic 44, 3) := by decide +kernel
theorem dX5_blamed_11 : decode cX5_blamed 11 = .ok (.aload_n 0, 1) := by decide +kernel
theorem dX5_blamed_12 : decode cX5_blamed 12 = .ok (.getfield 34, 3) := by decide +kernel
theorem dX5_blamed_15 : decode cX5_blamed 15 = .ok (.iload_n 1, 1) := by decide +kernel
theorem dX5_blamed_16 : decode cX5_blamed 16 = .ok (.aaload, 1) := by decide +kernel
theorem dX5_blamed_17 : decode cX5_blamed 17 = .ok (.iload_n 2, 1) := by decide +kernel
theorem dX5_blamed_18 : decode cX5_blamed 18 = .ok (.iaload, 1) := by decide +kernel
theorem dX5_blamed_19 : decode cX5_blamed 19 = .ok (.ireturn, 1) := by decide +kernel
theorem dX5_shrinks_0 : decode cX5_shrinks 0 = .ok (.iload_n 1, 1) := by decide +kernel
theorem dX5_shrinks_1 : decode cX5_shrinks 1 = .ok (.iconst 3, 1) := by decide +kernel
theorem dX5_shrinks_2 : decode cX5_shrinks 2 = .ok (.invokestatic 65, 3) := by decide +kernel
theorem dX5_shrinks_5 : decode cX5_shrinks 5 = .ok (.iload_n 2, 1) := by decide +kernel
theorem dX5_shrinks_6 : decode cX5_shrinks 6 = .ok (.iconst 0, 1) := by decide +kernel
theorem dX5_shrinks_7 : decode cX5_shrinks 7 = .ok (.bipush 90, 2) := by decide +kernel
theorem dX5_shrinks_9 : decode cX5_shrinks 9 = .ok (.invokestatic 44, 3) := by decide +kernel
theorem dX5_shrinks_12 : decode cX5_shrinks 12 = .ok (.aload_n 0, 1) := by decide +kernel
theorem dX5_shrinks_13 : decode cX5_shrinks 13 = .ok (.getfield 39, 3) := by decide +kernel
theorem dX5_shrinks_16 : decode cX5_shrinks 16 = .ok (.iload_n 1, 1) := by decide +kernel
theorem dX5_shrinks_17 : decode cX5_shrinks 17 = .ok (.aaload, 1) := by decide +kernel
theorem dX5_shrinks_18 : decode cX5_shrinks 18 = .ok (.getfield 185, 3) := by decide +kernel
theorem dX5_shrinks_21 : decode cX5_shrinks 21 = .ok (.istore_n 3, 1) := by decide +kernel
theorem dX5_shrinks_22 : decode cX5_shrinks 22 = .ok (.aload_n 0, 1) := by decide +kernel
theorem dX5_shrinks_23 : decode cX5_shrinks 23 = .ok (.getfield 39, 3) := by decide +kernel
theorem dX5_shrinks_26 : decode cX5_shrinks 26 = .ok (.iload_n 1, 1) := by decide +kernel
theorem dX5_shrinks_27 : decode cX5_shrinks 27 = .ok (.aaload, 1) := by decide +kernel
theorem dX5_shrinks_28 : decode cX5_shrinks 28 = .ok (.iload_n 2, 1) := by decide +kernel
theorem dX5_shrinks_29 : decode cX5_shrinks 29 = .ok (.putfield 185, 3) := by decide +kernel
theorem dX5_shrinks_32 : decode cX5_shrinks 32 = .ok (.iload_n 3, 1) := by decide +kernel
theorem dX5_shrinks_33 : decode cX5_shrinks 33 = .ok (.ireturn, 1) := by decide +kernel
theorem dX5_give_0 : decode cX5_give 0 = .ok (.iload_n 1, 1) := by decide +kernel
theorem dX5_give_1 : decode cX5_give 1 = .ok (.iconst 5, 1) := by decide +kernel
theorem dX5_give_2 : decode cX5_give 2 = .ok (.invokestatic 65, 3) := by decide +kernel
theorem dX5_give_5 : decode cX5_give 5 = .ok (.iload_n 2, 1) := by decide +kernel
theorem dX5_give_6 : decode cX5_give 6 = .ok (.iconst 5, 1) := by decide +kernel
theorem dX5_give_7 : decode cX5_give 7 = .ok (.invokestatic 65, 3) := by decide +kernel
theorem dX5_give_10 : decode cX5_give 10 = .ok (.iload_n 3, 1) := by decide +kernel
theorem dX5_give_11 : decode cX5_give 11 = .ok (.iconst 3, 1) := by decide +kernel
theorem dX5_give_12 : decode cX5_give 12 = .ok (.invokestatic 65, 3) := by decide +kernel
theorem dX5_give_15 : decode cX5_give 15 = .ok (.iload_n 1, 1) := by decide +kernel
theorem dX5_give_16 : decode cX5_give 16 = .ok (.iload_n 2, 1) := by decide +kernel
theorem dX5_give_17 : decode cX5_give 17 = .ok (.if_icmp .ne 13, 3) := by decide +kernel
theorem dX5_give_20 : decode cX5_give 20 = .ok (.new 134, 3) := by decide +kernel
theorem dX5_give_23 : decode cX5_give 23 = .ok (.dup, 1) := by decide +kernel
theorem dX5_give_24 : decode cX5_give 24 = .ok (.ldc 188, 2) := by decide +kernel
theorem dX5_give_26 : decode cX5_give 26 = .ok (.invokespecial 138, 3) := by decide +kernel
theorem dX5_give_29 : decode cX5_give 29 = .ok (.athrow, 1) := by decide +kernel
theorem dX5_give_30 : decode cX5_give 30 = .ok (.iload 4, 2) := by decide +kernel
theorem dX5_give_32 : decode cX5_give 32 = .ok (.iconst 1, 1) := by decide +kernel
theorem dX5_give_33 : decode cX5_give 33 = .ok (.sipush 1000, 3) := by decide +kernel
theorem dX5_give_36 : decode cX5_give 36 = .ok (.invokestatic 44, 3) := by decide +kernel
theorem dX5_give_39 : decode cX5_give 39 = .ok (.aload_n 0, 1) := by decide +kernel
theorem dX5_give_40 : decode cX5_give 40 = .ok (.getfield 39, 3) := by decide +kernel
theorem dX5_give_43 : decode cX5_give 43 = .ok (.iload_n 3, 1) := by decide +kernel
theorem dX5_give_44 : decode cX5_give 44 = .ok (.aaload, 1) := by decide +kernel
theorem dX5_give_45 : decode cX5_give 45 = .ok (.astore 5, 2) := by decide +kernel
theorem dX5_give_47 : decode cX5_give 47 = .ok (.aload 5, 2) := by decide +kernel
theorem dX5_give_49 : decode cX5_give 49 = .ok (.getfield 190, 3) := by decide +kernel
theorem dX5_give_52 : decode cX5_give 52 = .ok (.iload_n 2, 1) := by decide +kernel
theorem dX5_give_53 : decode cX5_give 53 = .ok (.aaload, 1) := by decide +kernel
theorem dX5_give_54 : decode cX5_give 54 = .ok (.iload_n 1, 1) := by decide +kernel
theorem dX5_give_55 : decode cX5_give 55 = .ok (.iaload, 1) := by decide +kernel
theorem dX5_give_56 : decode cX5_give 56 = .ok (.aload 5, 2) := by decide +kernel
theorem dX5_give_58 : decode cX5_give 58 = .ok (.iload 4, 2) := by decide +kernel
theorem dX5_give_60 : decode cX5_give 60 = .ok (.invokevirtual 193, 3) := by decide +kernel
theorem dX5_give_63 : decode cX5_give 63 = .ok (.iadd, 1) := by decide +kernel
theorem dX5_give_64 : decode cX5_give 64 = .ok (.istore 6, 2) := by decide +kernel
theorem dX5_give_66 : decode cX5_give 66 = .ok (.iload 6, 2) := by decide +kernel
theorem dX5_give_68 : decode cX5_give 68 = .ok (.ldc 196, 2) := by decide +kernel
theorem dX5_give_70 : decode cX5_give 70 = .ok (.if_icmp .le 13, 3) := by decide +kernel
theorem dX5_give_73 : decode cX5_give 73 = .ok (.new 156, 3) := by decide +kernel
theorem dX5_give_76 : decode cX5_give 76 = .ok (.dup, 1) := by decide +kernel
theorem dX5_give_77 : decode cX5_give 77 = .ok (.ldc 197, 2) := by decide +kernel
theorem dX5_give_79 : decode cX5_give 79 = .ok (.invokespecial 160, 3) := by decide +kernel
theorem dX5_give_82 : decode cX5_give 82 = .ok (.athrow, 1) := by decide +kernel
theorem dX5_give_83 : decode cX5_give 83 = .ok (.aload 5, 2) := by decide +kernel
theorem dX5_give_85 : decode cX5_give 85 = .ok (.getfield 190, 3) := by decide +kernel
theorem dX5_give_88 : decode cX5_give 88 = .ok (.iload_n 2, 1) := by decide +kernel
theorem dX5_give_89 : decode cX5_give 89 = .ok (.aaload, 1) := by decide +kernel
theorem dX5_give_90 : decode cX5_give 90 = .ok (.iload_n 1, 1) := by decide +kernel
theorem dX5_give_91 : decode cX5_give 91 = .ok (.iload 6, 2) := by decide +kernel
theorem dX5_give_93 : decode cX5_give 93 = .ok (.iastore, 1) := by decide +kernel
theorem dX5_give_94 : decode cX5_give 94 = .ok (.iload 6, 2) := by decide +kernel
theorem dX5_give_96 : decode cX5_give 96 = .ok (.ireturn, 1) := by decide +kernel
theorem dX5_owes_0 : decode cX5_owes 0 = .ok (.iload_n 1, 1) := by decide +kernel
theorem dX5_owes_1 : decode cX5_owes 1 = .ok (.iconst 5, 1) := by decide +kernel
theorem dX5_owes_2 : decode cX5_owes 2 = .ok (.invokestatic 65, 3) := by decide +kernel
theorem dX5_owes_5 : decode cX5_owes 5 = .ok (.iload_n 2, 1) := by decide +kernel
theorem dX5_owes_6 : decode cX5_owes 6 = .ok (.iconst 5, 1) := by decide +kernel
theorem dX5_owes_7 : decode cX5_owes 7 = .ok (.invokestatic 65, 3) := by decide +kernel
theorem dX5_owes_10 : decode cX5_owes 10 = .ok (.iload_n 3, 1) := by decide +kernel
theorem dX5_owes_11 : decode cX5_owes 11 = .ok (.iconst 3, 1) := by decide +kernel
theorem dX5_owes_12 : decode cX5_owes 12 = .ok (.invokestatic 65, 3) := by decide +kernel
theorem dX5_owes_15 : decode cX5_owes 15 = .ok (.aload_n 0, 1) := by decide +kernel
theorem dX5_owes_16 : decode cX5_owes 16 = .ok (.getfield 39, 3) := by decide +kernel
theorem dX5_owes_19 : decode cX5_owes 19 = .ok (.iload_n 3, 1) := by decide +kernel
theorem dX5_owes_20 : decode cX5_owes 20 = .ok (.aaload, 1) := by decide +kernel
theorem dX5_owes_21 : decode cX5_owes 21 = .ok (.getfield 190, 3) := by decide +kernel
theorem dX5_owes_24 : decode cX5_owes 24 = .ok (.iload_n 1, 1) := by decide +kernel
theorem dX5_owes_25 : decode cX5_owes 25 = .ok (.aaload, 1) := by decide +kernel
theorem dX5_owes_26 : decode cX5_owes 26 = .ok (.iload_n 2, 1) := by decide +kernel
theorem dX5_owes_27 : decode cX5_owes 27 = .ok (.iaload, 1) := by decide +kernel
theorem dX5_owes_28 : decode cX5_owes 28 = .ok (.ireturn, 1) := by decide +kernel
theorem dX5_position_0 : decode cX5_position 0 = .ok (.iload_n 1, 1) := by decide +kernel
theorem dX5_position_1 : decode cX5_position 1 = .ok (.iconst 5, 1) := by decide +kernel
theorem dX5_position_2 : decode cX5_position 2 = .ok (.invokestatic 65, 3) := by decide +kernel
theorem dX5_position_5 : decode cX5_position 5 = .ok (.iload_n 2, 1) := by decide +kernel
theorem dX5_position_6 : decode cX5_position 6 = .ok (.iconst 3, 1) := by decide +kernel
theorem dX5_position_7 : decode cX5_position 7 = .ok (.invokestatic 65, 3) := by decide +kernel
theorem dX5_position_10 : decode cX5_position 10 = .ok (.aload_n 0, 1) := by decide +kernel
theorem dX5_position_11 : decode cX5_position 11 = .ok (.getfield 39, 3) := by decide +kernel
theorem dX5_position_14 : decode cX5_position 14 = .ok (.iload_n 2, 1) := by decide +kernel
theorem dX5_position_15 : decode cX5_position 15 = .ok (.aaload, 1) := by decide +kernel
theorem dX5_position_16 : decode cX5_position 16 = .ok (.iload_n 1, 1) := by decide +kernel
theorem dX5_position_17 : decode cX5_position 17 = .ok (.invokevirtual 199, 3) := by decide +kernel
theorem dX5_position_20 : decode cX5_position 20 = .ok (.ireturn, 1) := by decide +kernel
theorem dX5_net_0 : decode cX5_net 0 = .ok (.iload_n 1, 1) := by decide +kernel
theorem dX5_net_1 : decode cX5_net 1 = .ok (.iconst 3, 1) := by decide +kernel
theorem dX5_net_2 : decode cX5_net 2 = .ok (.invokestatic 65, 3) := by decide +kernel
theorem dX5_net_5 : decode cX5_net 5 = .ok (.aload_n 0, 1) := by decide +kernel
theorem dX5_net_6 : decode cX5_net 6 = .ok (.getfield 39, 3) := by decide +kernel
theorem dX5_net_9 : decode cX5_net 9 = .ok (.iload_n 1, 1) := by decide +kernel
theorem dX5_net_10 : decode cX5_net 10 = .ok (.aaload, 1) := by decide +kernel
theorem dX5_net_11 : decode cX5_net 11 = .ok (.invokevirtual 202, 3) := by decide +kernel
theorem dX5_net_14 : decode cX5_net 14 = .ok (.ireturn, 1) := by decide +kernel
theorem dX5_requireIndex_0 : decode cX5_requireIndex 0 = .ok (.iload_n 0, 1) := by decide +kernel
theorem dX5_requireIndex_1 : decode cX5_requireIndex 1 = .ok (.ifCond .lt 8, 3) := by decide +kernel
theorem dX5_requireIndex_4 : decode cX5_requireIndex 4 = .ok (.iload_n 0, 1) := by decide +kernel
theorem dX5_requireIndex_5 : decode cX5_requireIndex 5 = .ok (.iload_n 1, 1) := by decide +kernel
theorem dX5_requireIndex_6 : decode cX5_requireIndex 6 = .ok (.if_icmp .lt 13, 3) := by decide +kernel
theorem dX5_requireIndex_9 : decode cX5_requireIndex 9 = .ok (.new 205, 3) := by decide +kernel
theorem dX5_requireIndex_12 : decode cX5_requireIndex 12 = .ok (.dup, 1) := by decide +kernel
theorem dX5_requireIndex_13 : decode cX5_requireIndex 13 = .ok (.ldc 207, 2) := by decide +kernel
theorem dX5_requireIndex_15 : decode cX5_requireIndex 15 = .ok (.invokespecial 209, 3) := by decide +kernel
theorem dX5_requireIndex_18 : decode cX5_requireIndex 18 = .ok (.athrow, 1) := by decide +kernel
theorem dX5_requireIndex_19 : decode cX5_requireIndex 19 = .ok (.return_, 1) := by decide +kernel
theorem dX5_requireRange_0 : decode cX5_requireRange 0 = .ok (.iload_n 0, 1) := by decide +kernel
theorem dX5_requireRange_1 : decode cX5_requireRange 1 = .ok (.iload_n 1, 1) := by decide +kernel
theorem dX5_requireRange_2 : decode cX5_requireRange 2 = .ok (.if_icmp .lt 8, 3) := by decide +kernel
theorem dX5_requireRange_5 : decode cX5_requireRange 5 = .ok (.iload_n 0, 1) := by decide +kernel
theorem dX5_requireRange_6 : decode cX5_requireRange 6 = .ok (.iload_n 2, 1) := by decide +kernel
theorem dX5_requireRange_7 : decode cX5_requireRange 7 = .ok (.if_icmp .le 13, 3) := by decide +kernel
theorem dX5_requireRange_10 : decode cX5_requireRange 10 = .ok (.new 134, 3) := by decide +kernel
theorem dX5_requireRange_13 : decode cX5_requireRange 13 = .ok (.dup, 1) := by decide +kernel
theorem dX5_requireRange_14 : decode cX5_requireRange 14 = .ok (.ldc 210, 2) := by decide +kernel
theorem dX5_requireRange_16 : decode cX5_requireRange 16 = .ok (.invokespecial 138, 3) := by decide +kernel
theorem dX5_requireRange_19 : decode cX5_requireRange 19 = .ok (.athrow, 1) := by decide +kernel
theorem dX5_requireRange_20 : decode cX5_requireRange 20 = .ok (.return_, 1) := by decide +kernel
theorem dX5_requireRoom_0 : decode cX5_requireRoom 0 = .ok (.iload_n 0, 1) := by decide +kernel
theorem dX5_requireRoom_1 : decode cX5_requireRoom 1 = .ok (.iload_n 1, 1) := by decide +kernel
theorem dX5_requireRoom_2 : decode cX5_requireRoom 2 = .ok (.if_icmp .lt 13, 3) := by decide +kernel
theorem dX5_requireRoom_5 : decode cX5_requireRoom 5 = .ok (.new 156, 3) := by decide +kernel
theorem dX5_requireRoom_8 : decode cX5_requireRoom 8 = .ok (.dup, 1) := by decide +kernel
theorem dX5_requireRoom_9 : decode cX5_requireRoom 9 = .ok (.ldc 212, 2) := by decide +kernel
theorem dX5_requireRoom_11 : decode cX5_requireRoom 11 = .ok (.invokespecial 160, 3) := by decide +kernel
theorem dX5_requireRoom_14 : decode cX5_requireRoom 14 = .ok (.athrow, 1) := by decide +kernel
theorem dX5_requireRoom_15 : decode cX5_requireRoom 15 = .ok (.return_, 1) := by decide +kernel
theorem dX5_requireWaiting_0 : decode cX5_requireWaiting 0 = .ok (.aload_n 0, 1) := by decide +kernel
theorem dX5_requireWaiting_1 : decode cX5_requireWaiting 1 = .ok (.getfield 171, 3) := by decide +kernel
theorem dX5_requireWaiting_4 : decode cX5_requireWaiting 4 = .ok (.ifnull 13, 3) := by decide +kernel
theorem dX5_requireWaiting_7 : decode cX5_requireWaiting 7 = .ok (.new 156, 3) := by decide +kernel
theorem dX5_requireWaiting_10 : decode cX5_requireWaiting 10 = .ok (.dup, 1) := by decide +kernel
theorem dX5_requireWaiting_11 : decode cX5_requireWaiting 11 = .ok (.ldc 214, 2) := by decide +kernel
theorem dX5_requireWaiting_13 : decode cX5_requireWaiting 13 = .ok (.invokespecial 160, 3) := by decide +kernel
theorem dX5_requireWaiting_16 : decode cX5_requireWaiting 16 = .ok (.athrow, 1) := by decide +kernel
theorem dX5_requireWaiting_17 : decode cX5_requireWaiting 17 = .ok (.return_, 1) := by decide +kernel
theorem dX5_pieceOf_0 : decode cX5_pieceOf 0 = .ok (.aload_n 0, 1) := by decide +kernel
theorem dX5_pieceOf_1 : decode cX5_pieceOf 1 = .ok (.getfield 171, 3) := by decide +kernel
theorem dX5_pieceOf_4 : decode cX5_pieceOf 4 = .ok (.astore_n 1, 1) := by decide +kernel
theorem dX5_pieceOf_5 : decode cX5_pieceOf 5 = .ok (.aload_n 1, 1) := by decide +kernel
theorem dX5_pieceOf_6 : decode cX5_pieceOf 6 = .ok (.ifnonnull 13, 3) := by decide +kernel
theorem dX5_pieceOf_9 : decode cX5_pieceOf 9 = .ok (.new 156, 3) := by decide +kernel
theorem dX5_pieceOf_12 : decode cX5_pieceOf 12 = .ok (.dup, 1) := by decide +kernel
theorem dX5_pieceOf_13 : decode cX5_pieceOf 13 = .ok (.ldc 216, 2) := by decide +kernel
theorem dX5_pieceOf_15 : decode cX5_pieceOf 15 = .ok (.invokespecial 160, 3) := by decide +kernel
theorem dX5_pieceOf_18 : decode cX5_pieceOf 18 = .ok (.athrow, 1) := by decide +kernel
theorem dX5_pieceOf_19 : decode cX5_pieceOf 19 = .ok (.aload_n 1, 1) := by decide +kernel
theorem dX5_pieceOf_20 : decode cX5_pieceOf 20 = .ok (.areturn, 1) := by decide +kernel
theorem dX5_findEntry_0 : decode cX5_findEntry 0 = .ok (.iload_n 1, 1) := by decide +kernel
theorem dX5_findEntry_1 : decode cX5_findEntry 1 = .ok (.aload_n 0, 1) := by decide +kernel
theorem dX5_findEntry_2 : decode cX5_findEntry 2 = .ok (.getfield 10, 3) := by decide +kernel
theorem dX5_findEntry_5 : decode cX5_findEntry 5 = .ok (.invokevirtual 48, 3) := by decide +kernel
theorem dX5_findEntry_8 : decode cX5_findEntry 8 = .ok (.invokestatic 65, 3) := by decide +kernel
theorem dX5_findEntry_11 : decode cX5_findEntry 11 = .ok (.aload_n 0, 1) := by decide +kernel
theorem dX5_findEntry_12 : decode cX5_findEntry 12 = .ok (.getfield 10, 3) := by decide +kernel
theorem dX5_findEntry_15 : decode cX5_findEntry 15 = .ok (.iload_n 1, 1) := by decide +kernel
theorem dX5_findEntry_16 : decode cX5_findEntry 16 = .ok (.invokevirtual 218, 3) := by decide +kernel
theorem dX5_findEntry_19 : decode cX5_findEntry 19 = .ok (.checkcast 56, 3) := by decide +kernel
theorem dX5_findEntry_22 : decode cX5_findEntry 22 = .ok (.areturn, 1) := by decide +kernel
theorem dX5_findBath_0 : decode cX5_findBath 0 = .ok (.iload_n 1, 1) := by decide +kernel
theorem dX5_findBath_1 : decode cX5_findBath 1 = .ok (.aload_n 0, 1) := by decide +kernel
theorem dX5_findBath_2 : decode cX5_findBath 2 = .ok (.getfield 16, 3) := by decide +kernel
theorem dX5_findBath_5 : decode cX5_findBath 5 = .ok (.invokevirtual 48, 3) := by decide +kernel
theorem dX5_findBath_8 : decode cX5_findBath 8 = .ok (.invokestatic 65, 3) := by decide +kernel
theorem dX5_findBath_11 : decode cX5_findBath 11 = .ok (.aload_n 0, 1) := by decide +kernel
theorem dX5_findBath_12 : decode cX5_findBath 12 = .ok (.getfield 16, 3) := by decide +kernel
theorem dX5_findBath_15 : decode cX5_findBath 15 = .ok (.iload_n 1, 1) := by decide +kernel
theorem dX5_findBath_16 : decode cX5_findBath 16 = .ok (.invokevirtual 218, 3) := by decide +kernel
theorem dX5_findBath_19 : decode cX5_findBath 19 = .ok (.checkcast 83, 3) := by decide +kernel
theorem dX5_findBath_22 : decode cX5_findBath 22 = .ok (.areturn, 1) := by decide +kernel
theorem dX5_findOrder_0 : decode cX5_findOrder 0 = .ok (.iload_n 1, 1) := by decide +kernel
theorem dX5_findOrder_1 : decode cX5_findOrder 1 = .ok (.aload_n 0, 1) := by decide +kernel
theorem dX5_findOrder_2 : decode cX5_findOrder 2 = .ok (.getfield 19, 3) := by decide +kernel
theorem dX5_findOrder_5 : decode cX5_findOrder 5 = .ok (.invokevirtual 48, 3) := by decide +kernel
theorem dX5_findOrder_8 : decode cX5_findOrder 8 = .ok (.invokestatic 65, 3) := by decide +kernel
theorem dX5_findOrder_11 : decode cX5_findOrder 11 = .ok (.aload_n 0, 1) := by decide +kernel
theorem dX5_findOrder_12 : decode cX5_findOrder 12 = .ok (.getfield 19, 3) := by decide +kernel
theorem dX5_findOrder_15 : decode cX5_findOrder 15 = .ok (.iload_n 1, 1) := by decide +kernel
theorem dX5_findOrder_16 : decode cX5_findOrder 16 = .ok (.invokevirtual 218, 3) := by decide +kernel
theorem dX5_findOrder_19 : decode cX5_findOrder 19 = .ok (.checkcast 98, 3) := by decide +kernel
theorem dX5_findOrder_22 : decode cX5_findOrder 22 = .ok (.areturn, 1) := by decide +kernel
theorem dX5_weakestRightBath_0 : decode cX5_weakestRightBath 0 = .ok (.iconst (-1), 1) := by decide +kernel
theorem dX5_weakestRightBath_1 : decode cX5_weakestRightBath 1 = .ok (.istore_n 2, 1) := by decide +kernel
theorem dX5_weakestRightBath_2 : decode cX5_weakestRightBath 2 = .ok (.bipush 101, 2) := by decide +kernel
theorem dX5_weakestRightBath_4 : decode cX5_weakestRightBath 4 = .ok (.istore_n 3, 1) := by decide +kernel
theorem dX5_weakestRightBath_5 : decode cX5_weakestRightBath 5 = .ok (.iconst 0, 1) := by decide +kernel
theorem dX5_weakestRightBath_6 : decode cX5_weakestRightBath 6 = .ok (.istore 4, 2) := by decide +kernel
theorem dX5_weakestRightBath_8 : decode cX5_weakestRightBath 8 = .ok (.iload 4, 2) := by decide +kernel
theorem dX5_weakestRightBath_10 : decode cX5_weakestRightBath 10 = .ok (.aload_n 0, 1) := by decide +kernel
theorem dX5_weakestRightBath_11 : decode cX5_weakestRightBath 11 = .ok (.getfield 16, 3) := by decide +kernel
theorem dX5_weakestRightBath_14 : decode cX5_weakestRightBath 14 = .ok (.invokevirtual 48, 3) := by decide +kernel
theorem dX5_weakestRightBath_17 : decode cX5_weakestRightBath 17 = .ok (.if_icmp .ge 51, 3) := by decide +kernel
theorem dX5_weakestRightBath_20 : decode cX5_weakestRightBath 20 = .ok (.aload_n 0, 1) := by decide +kernel
theorem dX5_weakestRightBath_21 : decode cX5_weakestRightBath 21 = .ok (.getfield 16, 3) := by decide +kernel
theorem dX5_weakestRightBath_24 : decode cX5_weakestRightBath 24 = .ok (.iload 4, 2) := by decide +kernel
theorem dX5_weakestRightBath_26 : decode cX5_weakestRightBath 26 = .ok (.invokevirtual 218, 3) := by decide +kernel
theorem dX5_weakestRightBath_29 : decode cX5_weakestRightBath 29 = .ok (.checkcast 83, 3) := by decide +kernel
theorem dX5_weakestRightBath_32 : decode cX5_weakestRightBath 32 = .ok (.astore 5, 2) := by decide +kernel
theorem dX5_weakestRightBath_34 : decode cX5_weakestRightBath 34 = .ok (.aload 5, 2) := by decide +kernel
theorem dX5_weakestRightBath_36 : decode cX5_weakestRightBath 36 = .ok (.getfield 95, 3) := by decide +kernel
theorem dX5_weakestRightBath_39 : decode cX5_weakestRightBath 39 = .ok (.iload_n 3, 1) := by decide +kernel
theorem dX5_weakestRightBath_40 : decode cX5_weakestRightBath 40 = .ok (.if_icmp .ge 22, 3) := by decide +kernel
theorem dX5_weakestRightBath_43 : decode cX5_weakestRightBath 43 = .ok (.aload_n 0, 1) := by decide +kernel
theorem dX5_weakestRightBath_44 : decode cX5_weakestRightBath 44 = .ok (.aload 5, 2) := by decide +kernel
theorem dX5_weakestRightBath_46 : decode cX5_weakestRightBath 46 = .ok (.aload_n 1, 1) := by decide +kernel
theorem dX5_weakestRightBath_47 : decode cX5_weakestRightBath 47 = .ok (.invokevirtual 222, 3) := by decide +kernel
theorem dX5_weakestRightBath_50 : decode cX5_weakestRightBath 50 = .ok (.ifCond .eq 12, 3) := by decide +kernel
theorem dX5_weakestRightBath_53 : decode cX5_weakestRightBath 53 = .ok (.iload 4, 2) := by decide +kernel
theorem dX5_weakestRightBath_55 : decode cX5_weakestRightBath 55 = .ok (.istore_n 2, 1) := by decide +kernel
theorem dX5_weakestRightBath_56 : decode cX5_weakestRightBath 56 = .ok (.aload 5, 2) := by decide +kernel
theorem dX5_weakestRightBath_58 : decode cX5_weakestRightBath 58 = .ok (.getfield 95, 3) := by decide +kernel
theorem dX5_weakestRightBath_61 : decode cX5_weakestRightBath 61 = .ok (.istore_n 3, 1) := by decide +kernel
theorem dX5_weakestRightBath_62 : decode cX5_weakestRightBath 62 = .ok (.iinc 4 1, 3) := by decide +kernel
theorem dX5_weakestRightBath_65 : decode cX5_weakestRightBath 65 = .ok (.goto (-57), 3) := by decide +kernel
theorem dX5_weakestRightBath_68 : decode cX5_weakestRightBath 68 = .ok (.iload_n 2, 1) := by decide +kernel
theorem dX5_weakestRightBath_69 : decode cX5_weakestRightBath 69 = .ok (.ireturn, 1) := by decide +kernel
theorem dX5_isRight_0 : decode cX5_isRight 0 = .ok (.aload_n 1, 1) := by decide +kernel
theorem dX5_isRight_1 : decode cX5_isRight 1 = .ok (.aload_n 2, 1) := by decide +kernel
theorem dX5_isRight_2 : decode cX5_isRight 2 = .ok (.getfield 126, 3) := by decide +kernel
theorem dX5_isRight_5 : decode cX5_isRight 5 = .ok (.invokevirtual 130, 3) := by decide +kernel
theorem dX5_isRight_8 : decode cX5_isRight 8 = .ok (.ifCond .ne 5, 3) := by decide +kernel
theorem dX5_isRight_11 : decode cX5_isRight 11 = .ok (.iconst 0, 1) := by decide +kernel
theorem dX5_isRight_12 : decode cX5_isRight 12 = .ok (.ireturn, 1) := by decide +kernel
theorem dX5_isRight_13 : decode cX5_isRight 13 = .ok (.aload_n 1, 1) := by decide +kernel
theorem dX5_isRight_14 : decode cX5_isRight 14 = .ok (.getfield 226, 3) := by decide +kernel
theorem dX5_isRight_17 : decode cX5_isRight 17 = .ok (.aload_n 1, 1) := by decide +kernel
theorem dX5_isRight_18 : decode cX5_isRight 18 = .ok (.getfield 95, 3) := by decide +kernel
theorem dX5_isRight_21 : decode cX5_isRight 21 = .ok (.aload_n 0, 1) := by decide +kernel
theorem dX5_isRight_22 : decode cX5_isRight 22 = .ok (.getfield 22, 3) := by decide +kernel
theorem dX5_isRight_25 : decode cX5_isRight 25 = .ok (.aload_n 1, 1) := by decide +kernel
theorem dX5_isRight_26 : decode cX5_isRight 26 = .ok (.getfield 168, 3) := by decide +kernel
theorem dX5_isRight_29 : decode cX5_isRight 29 = .ok (.iaload, 1) := by decide +kernel
theorem dX5_isRight_30 : decode cX5_isRight 30 = .ok (.aload_n 0, 1) := by decide +kernel
theorem dX5_isRight_31 : decode cX5_isRight 31 = .ok (.getfield 26, 3) := by decide +kernel
theorem dX5_isRight_34 : decode cX5_isRight 34 = .ok (.aload_n 2, 1) := by decide +kernel
theorem dX5_isRight_35 : decode cX5_isRight 35 = .ok (.getfield 227, 3) := by decide +kernel
theorem dX5_isRight_38 : decode cX5_isRight 38 = .ok (.iaload, 1) := by decide +kernel
theorem dX5_isRight_39 : decode cX5_isRight 39 = .ok (.aload_n 0, 1) := by decide +kernel
theorem dX5_isRight_40 : decode cX5_isRight 40 = .ok (.getfield 29, 3) := by decide +kernel
theorem dX5_isRight_43 : decode cX5_isRight 43 = .ok (.aload_n 2, 1) := by decide +kernel
theorem dX5_isRight_44 : decode cX5_isRight 44 = .ok (.getfield 227, 3) := by decide +kernel
theorem dX5_isRight_47 : decode cX5_isRight 47 = .ok (.iaload, 1) := by decide +kernel
theorem dX5_isRight_48 : decode cX5_isRight 48 = .ok (.invokevirtual 230, 3) := by decide +kernel
theorem dX5_isRight_51 : decode cX5_isRight 51 = .ok (.istore_n 3, 1) := by decide +kernel
theorem dX5_isRight_52 : decode cX5_isRight 52 = .ok (.iload_n 3, 1) := by decide +kernel
theorem dX5_isRight_53 : decode cX5_isRight 53 = .ok (.aload_n 1, 1) := by decide +kernel
theorem dX5_isRight_54 : decode cX5_isRight 54 = .ok (.getfield 226, 3) := by decide +kernel
theorem dX5_isRight_57 : decode cX5_isRight 57 = .ok (.getfield 234, 3) := by decide +kernel
theorem dX5_isRight_60 : decode cX5_isRight 60 = .ok (.if_icmp .gt 7, 3) := by decide +kernel
theorem dX5_isRight_63 : decode cX5_isRight 63 = .ok (.iconst 1, 1) := by decide +kernel
theorem dX5_isRight_64 : decode cX5_isRight 64 = .ok (.goto 4, 3) := by decide +kernel
theorem dX5_isRight_67 : decode cX5_isRight 67 = .ok (.iconst 0, 1) := by decide +kernel
theorem dX5_isRight_68 : decode cX5_isRight 68 = .ok (.ireturn, 1) := by decide +kernel
theorem dX5_dyeIn_0 : decode cX5_dyeIn 0 = .ok (.new 140, 3) := by decide +kernel
theorem dX5_dyeIn_3 : decode cX5_dyeIn 3 = .ok (.dup, 1) := by decide +kernel
theorem dX5_dyeIn_4 : decode cX5_dyeIn 4 = .ok (.aload_n 1, 1) := by decide +kernel
theorem dX5_dyeIn_5 : decode cX5_dyeIn 5 = .ok (.aload_n 2, 1) := by decide +kernel
theorem dX5_dyeIn_6 : decode cX5_dyeIn 6 = .ok (.aload_n 0, 1) := by decide +kernel
theorem dX5_dyeIn_7 : decode cX5_dyeIn 7 = .ok (.getfield 22, 3) := by decide +kernel
theorem dX5_dyeIn_10 : decode cX5_dyeIn 10 = .ok (.aload_n 2, 1) := by decide +kernel
theorem dX5_dyeIn_11 : decode cX5_dyeIn 11 = .ok (.getfield 168, 3) := by decide +kernel
theorem dX5_dyeIn_14 : decode cX5_dyeIn 14 = .ok (.iaload, 1) := by decide +kernel
theorem dX5_dyeIn_15 : decode cX5_dyeIn 15 = .ok (.aload_n 0, 1) := by decide +kernel
theorem dX5_dyeIn_16 : decode cX5_dyeIn 16 = .ok (.getfield 26, 3) := by decide +kernel
theorem dX5_dyeIn_19 : decode cX5_dyeIn 19 = .ok (.aload_n 1, 1) := by decide +kernel
theorem dX5_dyeIn_20 : decode cX5_dyeIn 20 = .ok (.getfield 227, 3) := by decide +kernel
theorem dX5_dyeIn_23 : decode cX5_dyeIn 23 = .ok (.iaload, 1) := by decide +kernel
theorem dX5_dyeIn_24 : decode cX5_dyeIn 24 = .ok (.aload_n 0, 1) := by decide +kernel
theorem dX5_dyeIn_25 : decode cX5_dyeIn 25 = .ok (.getfield 29, 3) := by decide +kernel
theorem dX5_dyeIn_28 : decode cX5_dyeIn 28 = .ok (.aload_n 1, 1) := by decide +kernel
theorem dX5_dyeIn_29 : decode cX5_dyeIn 29 = .ok (.getfield 227, 3) := by decide +kernel
theorem dX5_dyeIn_32 : decode cX5_dyeIn 32 = .ok (.iaload, 1) := by decide +kernel
theorem dX5_dyeIn_33 : decode cX5_dyeIn 33 = .ok (.invokespecial 237, 3) := by decide +kernel
theorem dX5_dyeIn_36 : decode cX5_dyeIn 36 = .ok (.astore_n 3, 1) := by decide +kernel
theorem dX5_dyeIn_37 : decode cX5_dyeIn 37 = .ok (.aload_n 1, 1) := by decide +kernel
theorem dX5_dyeIn_38 : decode cX5_dyeIn 38 = .ok (.aload_n 3, 1) := by decide +kernel
theorem dX5_dyeIn_39 : decode cX5_dyeIn 39 = .ok (.putfield 171, 3) := by decide +kernel
theorem dX5_dyeIn_42 : decode cX5_dyeIn 42 = .ok (.aload_n 2, 1) := by decide +kernel
theorem dX5_dyeIn_43 : decode cX5_dyeIn 43 = .ok (.aload_n 3, 1) := by decide +kernel
theorem dX5_dyeIn_44 : decode cX5_dyeIn 44 = .ok (.invokevirtual 240, 3) := by decide +kernel
theorem dX5_dyeIn_47 : decode cX5_dyeIn 47 = .ok (.aload_n 3, 1) := by decide +kernel
theorem dX5_dyeIn_48 : decode cX5_dyeIn 48 = .ok (.areturn, 1) := by decide +kernel
theorem dX5_weakened_0 : decode cX5_weakened 0 = .ok (.iconst 0, 1) := by decide +kernel
theorem dX5_weakened_1 : decode cX5_weakened 1 = .ok (.iload_n 0, 1) := by decide +kernel
theorem dX5_weakened_2 : decode cX5_weakened 2 = .ok (.iload_n 1, 1) := by decide +kernel
theorem dX5_weakened_3 : decode cX5_weakened 3 = .ok (.isub, 1) := by decide +kernel
theorem dX5_weakened_4 : decode cX5_weakened 4 = .ok (.invokestatic 244, 3) := by decide +kernel
theorem dX5_weakened_7 : decode cX5_weakened 7 = .ok (.ireturn, 1) := by decide +kernel
theorem dX6_init_0 : decode cX6_init 0 = .ok (.aload_n 0, 1) := by decide +kernel
theorem dX6_init_1 : decode cX6_init 1 = .ok (.invokespecial 1, 3) := by decide +kernel
theorem dX6_init_4 : decode cX6_init 4 = .ok (.aload_n 0, 1) := by decide +kernel
theorem dX6_init_5 : decode cX6_init 5 = .ok (.bipush 24, 2) := by decide +kernel
theorem dX6_init_7 : decode cX6_init 7 = .ok (.newarray .int, 2) := by decide +kernel
theorem dX6_init_9 : decode cX6_init 9 = .ok (.putfield 7, 3) := by decide +kernel
theorem dX6_init_12 : decode cX6_init 12 = .ok (.aload_n 0, 1) := by decide +kernel
theorem dX6_init_13 : decode cX6_init 13 = .ok (.bipush 12, 2) := by decide +kernel
theorem dX6_init_15 : decode cX6_init 15 = .ok (.newarray .int, 2) := by decide +kernel
theorem dX6_init_17 : decode cX6_init 17 = .ok (.putfield 13, 3) := by decide +kernel
theorem dX6_init_20 : decode cX6_init 20 = .ok (.aload_n 0, 1) := by decide +kernel
theorem dX6_init_21 : decode cX6_init 21 = .ok (.iconst 3, 1) := by decide +kernel
theorem dX6_init_22 : decode cX6_init 22 = .ok (.newarray .int, 2) := by decide +kernel
theorem dX6_init_24 : decode cX6_init 24 = .ok (.putfield 16, 3) := by decide +kernel
theorem dX6_init_27 : decode cX6_init 27 = .ok (.aload_n 0, 1) := by decide +kernel
theorem dX6_init_28 : decode cX6_init 28 = .ok (.bipush 8, 2) := by decide +kernel
theorem dX6_init_30 : decode cX6_init 30 = .ok (.newarray .int, 2) := by decide +kernel
theorem dX6_init_32 : decode cX6_init 32 = .ok (.putfield 19, 3) := by decide +kernel
theorem dX6_init_35 : decode cX6_init 35 = .ok (.aload_n 0, 1) := by decide +kernel
theorem dX6_init_36 : decode cX6_init 36 = .ok (.bipush 10, 2) := by decide +kernel
theorem dX6_init_38 : decode cX6_init 38 = .ok (.newarray .int, 2) := by decide +kernel
theorem dX6_init_40 : decode cX6_init 40 = .ok (.putfield 22, 3) := by decide +kernel
theorem dX6_init_43 : decode cX6_init 43 = .ok (.aload_n 0, 1) := by decide +kernel
theorem dX6_init_44 : decode cX6_init 44 = .ok (.bipush 10, 2) := by decide +kernel
theorem dX6_init_46 : decode cX6_init 46 = .ok (.newarray .int, 2) := by decide +kernel
theorem dX6_init_48 : decode cX6_init 48 = .ok (.putfield 25, 3) := by decide +kernel
theorem dX6_init_51 : decode cX6_init 51 = .ok (.aload_n 0, 1) := by decide +kernel
theorem dX6_init_52 : decode cX6_init 52 = .ok (.bipush 10, 2) := by decide +kernel
theorem dX6_init_54 : decode cX6_init 54 = .ok (.newarray .int, 2) := by decide +kernel
theorem dX6_init_56 : decode cX6_init 56 = .ok (.putfield 28, 3) := by decide +kernel
theorem dX6_init_59 : decode cX6_init 59 = .ok (.aload_n 0, 1) := by decide +kernel
theorem dX6_init_60 : decode cX6_init 60 = .ok (.bipush 40, 2) := by decide +kernel
theorem dX6_init_62 : decode cX6_init 62 = .ok (.newarray .int, 2) := by decide +kernel
theorem dX6_init_64 : decode cX6_init 64 = .ok (.putfield 31, 3) := by decide +kernel
theorem dX6_init_67 : decode cX6_init 67 = .ok (.aload_n 0, 1) := by decide +kernel
theorem dX6_init_68 : decode cX6_init 68 = .ok (.bipush 40, 2) := by decide +kernel
theorem dX6_init_70 : decode cX6_init 70 = .ok (.newarray .int, 2) := by decide +kernel
theorem dX6_init_72 : decode cX6_init 72 = .ok (.putfield 34, 3) := by decide +kernel
theorem dX6_init_75 : decode cX6_init 75 = .ok (.aload_n 0, 1) := by decide +kernel
theorem dX6_init_76 : decode cX6_init 76 = .ok (.bipush 40, 2) := by decide +kernel
theorem dX6_init_78 : decode cX6_init 78 = .ok (.newarray .int, 2) := by decide +kernel
theorem dX6_init_80 : decode cX6_init 80 = .ok (.putfield 37, 3) := by decide +kernel
theorem dX6_init_83 : decode cX6_init 83 = .ok (.aload_n 0, 1) := by decide +kernel
theorem dX6_init_84 : decode cX6_init 84 = .ok (.bipush 40, 2) := by decide +kernel
theorem dX6_init_86 : decode cX6_init 86 = .ok (.newarray .int, 2) := by decide +kernel
theorem dX6_init_88 : decode cX6_init 88 = .ok (.putfield 40, 3) := by decide +kernel
theorem dX6_init_91 : decode cX6_init 91 = .ok (.aload_n 0, 1) := by decide +kernel
theorem dX6_init_92 : decode cX6_init 92 = .ok (.bipush 40, 2) := by decide +kernel
theorem dX6_init_94 : decode cX6_init 94 = .ok (.newarray .int, 2) := by decide +kernel
theorem dX6_init_96 : decode cX6_init 96 = .ok (.putfield 43, 3) := by decide +kernel
theorem dX6_init_99 : decode cX6_init 99 = .ok (.aload_n 0, 1) := by decide +kernel
theorem dX6_init_100 : decode cX6_init 100 = .ok (.bipush 40, 2) := by decide +kernel
theorem dX6_init_102 : decode cX6_init 102 = .ok (.newarray .int, 2) := by decide +kernel
theorem dX6_init_104 : decode cX6_init 104 = .ok (.putfield 46, 3) := by decide +kernel
theorem dX6_init_107 : decode cX6_init 107 = .ok (.aload_n 0, 1) := by decide +kernel
theorem dX6_init_108 : decode cX6_init 108 = .ok (.bipush 40, 2) := by decide +kernel
theorem dX6_init_110 : decode cX6_init 110 = .ok (.newarray .int, 2) := by decide +kernel
theorem dX6_init_112 : decode cX6_init 112 = .ok (.putfield 49, 3) := by decide +kernel
theorem dX6_init_115 : decode cX6_init 115 = .ok (.aload_n 0, 1) := by decide +kernel
theorem dX6_init_116 : decode cX6_init 116 = .ok (.bipush 40, 2) := by decide +kernel
theorem dX6_init_118 : decode cX6_init 118 = .ok (.newarray .int, 2) := by decide +kernel
theorem dX6_init_120 : decode cX6_init 120 = .ok (.putfield 52, 3) := by decide +kernel
theorem dX6_init_123 : decode cX6_init 123 = .ok (.aload_n 0, 1) := by decide +kernel
theorem dX6_init_124 : decode cX6_init 124 = .ok (.bipush 40, 2) := by decide +kernel
theorem dX6_init_126 : decode cX6_init 126 = .ok (.newarray .int, 2) := by decide +kernel
theorem dX6_init_128 : decode cX6_init 128 = .ok (.putfield 55, 3) := by decide +kernel
theorem dX6_init_131 : decode cX6_init 131 = .ok (.aload_n 0, 1) := by decide +kernel
theorem dX6_init_132 : decode cX6_init 132 = .ok (.bipush 9, 2) := by decide +kernel
theorem dX6_init_134 : decode cX6_init 134 = .ok (.newarray .int, 2) := by decide +kernel
theorem dX6_init_136 : decode cX6_init 136 = .ok (.putfield 58, 3) := by decide +kernel
theorem dX6_init_139 : decode cX6_init 139 = .ok (.aload_n 0, 1) := by decide +kernel
theorem dX6_init_140 : decode cX6_init 140 = .ok (.iconst 3, 1) := by decide +kernel
theorem dX6_init_141 : decode cX6_init 141 = .ok (.newarray .int, 2) := by decide +kernel
theorem dX6_init_143 : decode cX6_init 143 = .ok (.putfield 61, 3) := by decide +kernel
theorem dX6_init_146 : decode cX6_init 146 = .ok (.aload_n 0, 1) := by decide +kernel
theorem dX6_init_147 : decode cX6_init 147 = .ok (.bipush 75, 2) := by decide +kernel
theorem dX6_init_149 : decode cX6_init 149 = .ok (.newarray .int, 2) := by decide +kernel
theorem dX6_init_151 : decode cX6_init 151 = .ok (.putfield 64, 3) := by decide +kernel
theorem dX6_init_154 : decode cX6_init 154 = .ok (.aload_n 0, 1) := by decide +kernel
theorem dX6_init_155 : decode cX6_init 155 = .ok (.iconst 5, 1) := by decide +kernel
theorem dX6_init_156 : decode cX6_init 156 = .ok (.newarray .int, 2) := by decide +kernel
theorem dX6_init_158 : decode cX6_init 158 = .ok (.putfield 67, 3) := by decide +kernel
theorem dX6_init_161 : decode cX6_init 161 = .ok (.return_, 1) := by decide +kernel
theorem dX6_thrown_0 : decode cX6_thrown 0 = .ok (.aload_n 0, 1) := by decide +kernel
theorem dX6_thrown_1 : decode cX6_thrown 1 = .ok (.getfield 70, 3) := by decide +kernel
theorem dX6_thrown_4 : decode cX6_thrown 4 = .ok (.ireturn, 1) := by decide +kernel
theorem dX6_may_0 : decode cX6_may 0 = .ok (.aload_n 0, 1) := by decide +kernel
theorem dX6_may_1 : decode cX6_may 1 = .ok (.iload_n 1, 1) := by decide +kernel
theorem dX6_may_2 : decode cX6_may 2 = .ok (.ifCond .eq 7, 3) := by decide +kernel
theorem dX6_may_5 : decode cX6_may 5 = .ok (.iconst 0, 1) := by decide +kernel
theorem dX6_may_6 : decode cX6_may 6 = .ok (.goto 4, 3) := by decide +kernel
theorem dX6_may_9 : decode cX6_may 9 = .ok (.iconst 1, 1) := by decide +kernel
theorem dX6_may_10 : decode cX6_may 10 = .ok (.putfield 70, 3) := by decide +kernel
theorem dX6_may_13 : decode cX6_may 13 = .ok (.iload_n 1, 1) := by decide +kernel
theorem dX6_may_14 : decode cX6_may 14 = .ok (.ireturn, 1) := by decide +kernel
theorem dX6_mayBoth_0 : decode cX6_mayBoth 0 = .ok (.aload_n 0, 1) := by decide +kernel
theorem dX6_mayBoth_1 : decode cX6_mayBoth 1 = .ok (.iload_n 1, 1) := by decide +kernel
theorem dX6_mayBoth_2 : decode cX6_mayBoth 2 = .ok (.ifCond .ne 7, 3) := by decide +kernel
theorem dX6_mayBoth_5 : decode cX6_mayBoth 5 = .ok (.iconst 1, 1) := by decide +kernel
theorem dX6_mayBoth_6 : decode cX6_mayBoth 6 = .ok (.goto 12, 3) := by decide +kernel
theorem dX6_mayBoth_9 : decode cX6_mayBoth 9 = .ok (.iload_n 2, 1) := by decide +kernel
theorem dX6_mayBoth_10 : decode cX6_mayBoth 10 = .ok (.ifCond .ne 7, 3) := by decide +kernel
theorem dX6_mayBoth_13 : decode cX6_mayBoth 13 = .ok (.iconst 2, 1) := by decide +kernel
theorem dX6_mayBoth_14 : decode cX6_mayBoth 14 = .ok (.goto 4, 3) := by decide +kernel
theorem dX6_mayBoth_17 : decode cX6_mayBoth 17 = .ok (.iconst 0, 1) := by decide +kernel
theorem dX6_mayBoth_18 : decode cX6_mayBoth 18 = .ok (.putfield 70, 3) := by decide +kernel
theorem dX6_mayBoth_21 : decode cX6_mayBoth 21 = .ok (.aload_n 0, 1) := by decide +kernel
theorem dX6_mayBoth_22 : decode cX6_mayBoth 22 = .ok (.getfield 70, 3) := by decide +kernel
theorem dX6_mayBoth_25 : decode cX6_mayBoth 25 = .ok (.ifCond .ne 7, 3) := by decide +kernel
theorem dX6_mayBoth_28 : decode cX6_mayBoth 28 = .ok (.iconst 1, 1) := by decide +kernel
theorem dX6_mayBoth_29 : decode cX6_mayBoth 29 = .ok (.goto 4, 3) := by decide +kernel
theorem dX6_mayBoth_32 : decode cX6_mayBoth 32 = .ok (.iconst 0, 1) := by decide +kernel
theorem dX6_mayBoth_33 : decode cX6_mayBoth 33 = .ok (.ireturn, 1) := by decide +kernel
theorem dX6_mayAll_0 : decode cX6_mayAll 0 = .ok (.aload_n 0, 1) := by decide +kernel
theorem dX6_mayAll_1 : decode cX6_mayAll 1 = .ok (.iload_n 1, 1) := by decide +kernel
theorem dX6_mayAll_2 : decode cX6_mayAll 2 = .ok (.ifCond .ne 7, 3) := by decide +kernel
theorem dX6_mayAll_5 : decode cX6_mayAll 5 = .ok (.iconst 1, 1) := by decide +kernel
theorem dX6_mayAll_6 : decode cX6_mayAll 6 = .ok (.goto 20, 3) := by decide +kernel
theorem dX6_mayAll_9 : decode cX6_mayAll 9 = .ok (.iload_n 2, 1) := by decide +kernel
theorem dX6_mayAll_10 : decode cX6_mayAll 10 = .ok (.ifCond .ne 7, 3) := by decide +kernel
theorem dX6_mayAll_13 : decode cX6_mayAll 13 = .ok (.iconst 2, 1) := by decide +kernel
theorem dX6_mayAll_14 : decode cX6_mayAll 14 = .ok (.goto 12, 3) := by decide +kernel
theorem dX6_mayAll_17 : decode cX6_mayAll 17 = .ok (.iload_n 3, 1) := by decide +kernel
theorem dX6_mayAll_18 : decode cX6_mayAll 18 = .ok (.ifCond .ne 7, 3) := by decide +kernel
theorem dX6_mayAll_21 : decode cX6_mayAll 21 = .ok (.iconst 3, 1) := by decide +kernel
theorem dX6_mayAll_22 : decode cX6_mayAll 22 = .ok (.goto 4, 3) := by decide +kernel
theorem dX6_mayAll_25 : decode cX6_mayAll 25 = .ok (.iconst 0, 1) := by decide +kernel
theorem dX6_mayAll_26 : decode cX6_mayAll 26 = .ok (.putfield 70, 3) := by decide +kernel
theorem dX6_mayAll_29 : decode cX6_mayAll 29 = .ok (.aload_n 0, 1) := by decide +kernel
theorem dX6_mayAll_30 : decode cX6_mayAll 30 = .ok (.getfield 70, 3) := by decide +kernel
theorem dX6_mayAll_33 : decode cX6_mayAll 33 = .ok (.ifCond .ne 7, 3) := by decide +kernel
theorem dX6_mayAll_36 : decode cX6_mayAll 36 = .ok (.iconst 1, 1) := by decide +kernel
theorem dX6_mayAll_37 : decode cX6_mayAll 37 = .ok (.goto 4, 3) := by decide +kernel
theorem dX6_mayAll_40 : decode cX6_mayAll 40 = .ok (.iconst 0, 1) := by decide +kernel
theorem dX6_mayAll_41 : decode cX6_mayAll 41 = .ok (.ireturn, 1) := by decide +kernel
theorem dX6_isIn_0 : decode cX6_isIn 0 = .ok (.iload_n 0, 1) := by decide +kernel
theorem dX6_isIn_1 : decode cX6_isIn 1 = .ok (.iload_n 1, 1) := by decide +kernel
theorem dX6_isIn_2 : decode cX6_isIn 2 = .ok (.if_icmp .lt 12, 3) := by decide +kernel
theorem dX6_isIn_5 : decode cX6_isIn 5 = .ok (.iload_n 0, 1) := by decide +kernel
theorem dX6_isIn_6 : decode cX6_isIn 6 = .ok (.iload_n 2, 1) := by decide +kernel
theorem dX6_isIn_7 : decode cX6_isIn 7 = .ok (.if_icmp .gt 7, 3) := by decide +kernel
theorem dX6_isIn_10 : decode cX6_isIn 10 = .ok (.iconst 1, 1) := by decide +kernel
theorem dX6_isIn_11 : decode cX6_isIn 11 = .ok (.goto 4, 3) := by decide +kernel
theorem dX6_isIn_14 : decode cX6_isIn 14 = .ok (.iconst 0, 1) := by decide +kernel
theorem dX6_isIn_15 : decode cX6_isIn 15 = .ok (.ireturn, 1) := by decide +kernel
theorem dX6_isThird_0 : decode cX6_isThird 0 = .ok (.iload_n 0, 1) := by decide +kernel
theorem dX6_isThird_1 : decode cX6_isThird 1 = .ok (.iconst 0, 1) := by decide +kernel
theorem dX6_isThird_2 : decode cX6_isThird 2 = .ok (.iconst 2, 1) := by decide +kernel
theorem dX6_isThird_3 : decode cX6_isThird 3 = .ok (.invokestatic 74, 3) := by decide +kernel
theorem dX6_isThird_6 : decode cX6_isThird 6 = .ok (.ireturn, 1) := by decide +kernel
theorem dX6_isEntry_0 : decode cX6_isEntry 0 = .ok (.iload_n 1, 1) := by decide +kernel
theorem dX6_isEntry_1 : decode cX6_isEntry 1 = .ok (.iconst 0, 1) := by decide +kernel
theorem dX6_isEntry_2 : decode cX6_isEntry 2 = .ok (.aload_n 0, 1) := by decide +kernel
theorem dX6_isEntry_3 : decode cX6_isEntry 3 = .ok (.getfield 78, 3) := by decide +kernel
theorem dX6_isEntry_6 : decode cX6_isEntry 6 = .ok (.iconst 1, 1) := by decide +kernel
theorem dX6_isEntry_7 : decode cX6_isEntry 7 = .ok (.isub, 1) := by decide +kernel
theorem dX6_isEntry_8 : decode cX6_isEntry 8 = .ok (.invokestatic 74, 3) := by decide +kernel
theorem dX6_isEntry_11 : decode cX6_isEntry 11 = .ok (.ireturn, 1) := by decide +kernel
theorem dX6_isBath_0 : decode cX6_isBath 0 = .ok (.iload_n 1, 1) := by decide +kernel
theorem dX6_isBath_1 : decode cX6_isBath 1 = .ok (.iconst 0, 1) := by decide +kernel
theorem dX6_isBath_2 : decode cX6_isBath 2 = .ok (.aload_n 0, 1) := by decide +kernel
theorem dX6_isBath_3 : decode cX6_isBath 3 = .ok (.getfield 81, 3) := by decide +kernel
theorem dX6_isBath_6 : decode cX6_isBath 6 = .ok (.iconst 1, 1) := by decide +kernel
theorem dX6_isBath_7 : decode cX6_isBath 7 = .ok (.isub, 1) := by decide +kernel
theorem dX6_isBath_8 : decode cX6_isBath 8 = .ok (.invokestatic 74, 3) := by decide +kernel
theorem dX6_isBath_11 : decode cX6_isBath 11 = .ok (.ireturn, 1) := by decide +kernel
theorem dX6_isOrder_0 : decode cX6_isOrder 0 = .ok (.iload_n 1, 1) := by decide +kernel
theorem dX6_isOrder_1 : decode cX6_isOrder 1 = .ok (.iconst 0, 1) := by decide +kernel
theorem dX6_isOrder_2 : decode cX6_isOrder 2 = .ok (.aload_n 0, 1) := by decide +kernel
theorem dX6_isOrder_3 : decode cX6_isOrder 3 = .ok (.getfield 84, 3) := by decide +kernel
theorem dX6_isOrder_6 : decode cX6_isOrder 6 = .ok (.iconst 1, 1) := by decide +kernel
theorem dX6_isOrder_7 : decode cX6_isOrder 7 = .ok (.isub, 1) := by decide +kernel
theorem dX6_isOrder_8 : decode cX6_isOrder 8 = .ok (.invokestatic 74, 3) := by decide +kernel
theorem dX6_isOrder_11 : decode cX6_isOrder 11 = .ok (.ireturn, 1) := by decide +kernel
theorem dX6_far_0 : decode cX6_far 0 = .ok (.iload_n 0, 1) := by decide +kernel
theorem dX6_far_1 : decode cX6_far 1 = .ok (.iload_n 1, 1) := by decide +kernel
theorem dX6_far_2 : decode cX6_far 2 = .ok (.if_icmp .le 9, 3) := by decide +kernel
theorem dX6_far_5 : decode cX6_far 5 = .ok (.iload_n 0, 1) := by decide +kernel
theorem dX6_far_6 : decode cX6_far 6 = .ok (.iload_n 1, 1) := by decide +kernel
theorem dX6_far_7 : decode cX6_far 7 = .ok (.isub, 1) := by decide +kernel
theorem dX6_far_8 : decode cX6_far 8 = .ok (.goto 6, 3) := by decide +kernel
theorem dX6_far_11 : decode cX6_far 11 = .ok (.iload_n 1, 1) := by decide +kernel
theorem dX6_far_12 : decode cX6_far 12 = .ok (.iload_n 0, 1) := by decide +kernel
theorem dX6_far_13 : decode cX6_far 13 = .ok (.isub, 1) := by decide +kernel
theorem dX6_far_14 : decode cX6_far 14 = .ok (.ireturn, 1) := by decide +kernel
theorem dX6_entry_0 : decode cX6_entry 0 = .ok (.aload_n 0, 1) := by decide +kernel
theorem dX6_entry_1 : decode cX6_entry 1 = .ok (.iload_n 1, 1) := by decide +kernel
theorem dX6_entry_2 : decode cX6_entry 2 = .ok (.iconst 0, 1) := by decide +kernel
theorem dX6_entry_3 : decode cX6_entry 3 = .ok (.bipush 60, 2) := by decide +kernel
theorem dX6_entry_5 : decode cX6_entry 5 = .ok (.invokestatic 74, 3) := by decide +kernel
theorem dX6_entry_8 : decode cX6_entry 8 = .ok (.ifCond .eq 27, 3) := by decide +kernel
theorem dX6_entry_11 : decode cX6_entry 11 = .ok (.iload_n 2, 1) := by decide +kernel
theorem dX6_entry_12 : decode cX6_entry 12 = .ok (.iconst 0, 1) := by decide +kernel
theorem dX6_entry_13 : decode cX6_entry 13 = .ok (.bipush 60, 2) := by decide +kernel
theorem dX6_entry_15 : decode cX6_entry 15 = .ok (.invokestatic 74, 3) := by decide +kernel
theorem dX6_entry_18 : decode cX6_entry 18 = .ok (.ifCond .eq 17, 3) := by decide +kernel
theorem dX6_entry_21 : decode cX6_entry 21 = .ok (.iload_n 3, 1) := by decide +kernel
theorem dX6_entry_22 : decode cX6_entry 22 = .ok (.iconst 0, 1) := by decide +kernel
theorem dX6_entry_23 : decode cX6_entry 23 = .ok (.bipush 20, 2) := by decide +kernel
theorem dX6_entry_25 : decode cX6_entry 25 = .ok (.invokestatic 74, 3) := by decide +kernel
theorem dX6_entry_28 : decode cX6_entry 28 = .ok (.ifCond .eq 7, 3) := by decide +kernel
theorem dX6_entry_31 : decode cX6_entry 31 = .ok (.iconst 1, 1) := by decide +kernel
theorem dX6_entry_32 : decode cX6_entry 32 = .ok (.goto 4, 3) := by decide +kernel
theorem dX6_entry_35 : decode cX6_entry 35 = .ok (.iconst 0, 1) := by decide +kernel
theorem dX6_entry_36 : decode cX6_entry 36 = .ok (.aload_n 0, 1) := by decide +kernel
theorem dX6_entry_37 : decode cX6_entry 37 = .ok (.getfield 78, 3) := by decide +kernel
theorem dX6_entry_40 : decode cX6_entry 40 = .ok (.bipush 12, 2) := by decide +kernel
theorem dX6_entry_42 : decode cX6_entry 42 = .ok (.if_icmp .ge 7, 3) := by decide +kernel
theorem dX6_entry_45 : decode cX6_entry 45 = .ok (.iconst 1, 1) := by decide +kernel
theorem dX6_entry_46 : decode cX6_entry 46 = .ok (.goto 4, 3) := by decide +kernel
theorem dX6_entry_49 : decode cX6_entry 49 = .ok (.iconst 0, 1) := by decide +kernel
theorem dX6_entry_50 : decode cX6_entry 50 = .ok (.invokevirtual 87, 3) := by decide +kernel
theorem dX6_entry_53 : decode cX6_entry 53 = .ok (.ifCond .ne 5, 3) := by decide +kernel
theorem dX6_entry_56 : decode cX6_entry 56 = .ok (.iconst 0, 1) := by decide +kernel
theorem dX6_entry_57 : decode cX6_entry 57 = .ok (.ireturn, 1) := by decide +kernel
theorem dX6_entry_58 : decode cX6_entry 58 = .ok (.aload_n 0, 1) := by decide +kernel
theorem dX6_entry_59 : decode cX6_entry 59 = .ok (.getfield 7, 3) := by decide +kernel
theorem dX6_entry_62 : decode cX6_entry 62 = .ok (.iconst 2, 1) := by decide +kernel
theorem dX6_entry_63 : decode cX6_entry 63 = .ok (.aload_n 0, 1) := by decide +kernel
theorem dX6_entry_64 : decode cX6_entry 64 = .ok (.getfield 78, 3) := by decide +kernel
theorem dX6_entry_67 : decode cX6_entry 67 = .ok (.imul, 1) := by decide +kernel
theorem dX6_entry_68 : decode cX6_entry 68 = .ok (.iload_n 1, 1) := by decide +kernel
theorem dX6_entry_69 : decode cX6_entry 69 = .ok (.iastore, 1) := by decide +kernel
theorem dX6_entry_70 : decode cX6_entry 70 = .ok (.aload_n 0, 1) := by decide +kernel
theorem dX6_entry_71 : decode cX6_entry 71 = .ok (.getfield 7, 3) := by decide +kernel
theorem dX6_entry_74 : decode cX6_entry 74 = .ok (.iconst 2, 1) := by decide +kernel
theorem dX6_entry_75 : decode cX6_entry 75 = .ok (.aload_n 0, 1) := by decide +kernel
theorem dX6_entry_76 : decode cX6_entry 76 = .ok (.getfield 78, 3) := by decide +kernel
theorem dX6_entry_79 : decode cX6_entry 79 = .ok (.imul, 1) := by decide +kernel
theorem dX6_entry_80 : decode cX6_entry 80 = .ok (.iconst 1, 1) := by decide +kernel
theorem dX6_entry_81 : decode cX6_entry 81 = .ok (.iadd, 1) := by decide +kernel
theorem dX6_entry_82 : decode cX6_entry 82 = .ok (.iload_n 2, 1) := by decide +kernel
theorem dX6_entry_83 : decode cX6_entry 83 = .ok (.iastore, 1) := by decide +kernel
theorem dX6_entry_84 : decode cX6_entry 84 = .ok (.aload_n 0, 1) := by decide +kernel
theorem dX6_entry_85 : decode cX6_entry 85 = .ok (.getfield 13, 3) := by decide +kernel
theorem dX6_entry_88 : decode cX6_entry 88 = .ok (.aload_n 0, 1) := by decide +kernel
theorem dX6_entry_89 : decode cX6_entry 89 = .ok (.getfield 78, 3) := by decide +kernel
theorem dX6_entry_92 : decode cX6_entry 92 = .ok (.iload_n 3, 1) := by decide +kernel
theorem dX6_entry_93 : decode cX6_entry 93 = .ok (.iastore, 1) := by decide +kernel
theorem dX6_entry_94 : decode cX6_entry 94 = .ok (.aload_n 0, 1) := by decide +kernel
theorem dX6_entry_95 : decode cX6_entry 95 = .ok (.dup, 1) := by decide +kernel
theorem dX6_entry_96 : decode cX6_entry 96 = .ok (.getfield 78, 3) := by decide +kernel
theorem dX6_entry_99 : decode cX6_entry 99 = .ok (.iconst 1, 1) := by decide +kernel
theorem dX6_entry_100 : decode cX6_entry 100 = .ok (.iadd, 1) := by decide +kernel
theorem dX6_entry_101 : decode cX6_entry 101 = .ok (.putfield 78, 3) := by decide +kernel
theorem dX6_entry_104 : decode cX6_entry 104 = .ok (.aload_n 0, 1) := by decide +kernel
theorem dX6_entry_105 : decode cX6_entry 105 = .ok (.getfield 78, 3) := by decide +kernel
theorem dX6_entry_108 : decode cX6_entry 108 = .ok (.iconst 1, 1) := by decide +kernel
theorem dX6_entry_109 : decode cX6_entry 109 = .ok (.isub, 1) := by decide +kernel
theorem dX6_entry_110 : decode cX6_entry 110 = .ok (.ireturn, 1) := by decide +kernel
theorem dX6_water_0 : decode cX6_water 0 = .ok (.aload_n 0, 1) := by decide +kernel
theorem dX6_water_1 : decode cX6_water 1 = .ok (.iload_n 1, 1) := by decide +kernel
theorem dX6_water_2 : decode cX6_water 2 = .ok (.invokestatic 91, 3) := by decide +kernel
theorem dX6_water_5 : decode cX6_water 5 = .ok (.iload_n 2, 1) := by decide +kernel
theorem dX6_water_6 : decode cX6_water 6 = .ok (.bipush (-10), 2) := by decide +kernel
theorem dX6_water_8 : decode cX6_water 8 = .ok (.bipush 10, 2) := by decide +kernel
theorem dX6_water_10 : decode cX6_water 10 = .ok (.invokestatic 74, 3) := by decide +kernel
theorem dX6_water_13 : decode cX6_water 13 = .ok (.invokevirtual 87, 3) := by decide +kernel
theorem dX6_water_16 : decode cX6_water 16 = .ok (.ifCond .ne 5, 3) := by decide +kernel
theorem dX6_water_19 : decode cX6_water 19 = .ok (.iconst 0, 1) := by decide +kernel
theorem dX6_water_20 : decode cX6_water 20 = .ok (.ireturn, 1) := by decide +kernel
theorem dX6_water_21 : decode cX6_water 21 = .ok (.aload_n 0, 1) := by decide +kernel
theorem dX6_water_22 : decode cX6_water 22 = .ok (.getfield 16, 3) := by decide +kernel
theorem dX6_water_25 : decode cX6_water 25 = .ok (.iload_n 1, 1) := by decide +kernel
theorem dX6_water_26 : decode cX6_water 26 = .ok (.iaload, 1) := by decide +kernel
theorem dX6_water_27 : decode cX6_water 27 = .ok (.istore_n 3, 1) := by decide +kernel
theorem dX6_water_28 : decode cX6_water 28 = .ok (.aload_n 0, 1) := by decide +kernel
theorem dX6_water_29 : decode cX6_water 29 = .ok (.getfield 16, 3) := by decide +kernel
theorem dX6_water_32 : decode cX6_water 32 = .ok (.iload_n 1, 1) := by decide +kernel
theorem dX6_water_33 : decode cX6_water 33 = .ok (.iload_n 2, 1) := by decide +kernel
theorem dX6_water_34 : decode cX6_water 34 = .ok (.iastore, 1) := by decide +kernel
theorem dX6_water_35 : decode cX6_water 35 = .ok (.iload_n 3, 1) := by decide +kernel
theorem dX6_water_36 : decode cX6_water 36 = .ok (.ireturn, 1) := by decide +kernel
theorem dX6_yarn_0 : decode cX6_yarn 0 = .ok (.aload_n 0, 1) := by decide +kernel
theorem dX6_yarn_1 : decode cX6_yarn 1 = .ok (.iload_n 1, 1) := by decide +kernel
theorem dX6_yarn_2 : decode cX6_yarn 2 = .ok (.iconst 0, 1) := by decide +kernel
theorem dX6_yarn_3 : decode cX6_yarn 3 = .ok (.iconst 3, 1) := by decide +kernel
theorem dX6_yarn_4 : decode cX6_yarn 4 = .ok (.invokestatic 74, 3) := by decide +kernel
theorem dX6_yarn_7 : decode cX6_yarn 7 = .ok (.iload_n 2, 1) := by decide +kernel
theorem dX6_yarn_8 : decode cX6_yarn 8 = .ok (.bipush (-10), 2) := by decide +kernel
theorem dX6_yarn_10 : decode cX6_yarn 10 = .ok (.bipush 10, 2) := by decide +kernel
theorem dX6_yarn_12 : decode cX6_yarn 12 = .ok (.invokestatic 74, 3) := by decide +kernel
theorem dX6_yarn_15 : decode cX6_yarn 15 = .ok (.ifCond .eq 18, 3) := by decide +kernel
theorem dX6_yarn_18 : decode cX6_yarn 18 = .ok (.iload_n 3, 1) := by decide +kernel
theorem dX6_yarn_19 : decode cX6_yarn 19 = .ok (.bipush (-10), 2) := by decide +kernel
theorem dX6_yarn_21 : decode cX6_yarn 21 = .ok (.bipush 10, 2) := by decide +kernel
theorem dX6_yarn_23 : decode cX6_yarn 23 = .ok (.invokestatic 74, 3) := by decide +kernel
theorem dX6_yarn_26 : decode cX6_yarn 26 = .ok (.ifCond .eq 7, 3) := by decide +kernel
theorem dX6_yarn_29 : decode cX6_yarn 29 = .ok (.iconst 1, 1) := by decide +kernel
theorem dX6_yarn_30 : decode cX6_yarn 30 = .ok (.goto 4, 3) := by decide +kernel
theorem dX6_yarn_33 : decode cX6_yarn 33 = .ok (.iconst 0, 1) := by decide +kernel
theorem dX6_yarn_34 : decode cX6_yarn 34 = .ok (.invokevirtual 87, 3) := by decide +kernel
theorem dX6_yarn_37 : decode cX6_yarn 37 = .ok (.ifCond .ne 5, 3) := by decide +kernel
theorem dX6_yarn_40 : decode cX6_yarn 40 = .ok (.iconst 0, 1) := by decide +kernel
theorem dX6_yarn_41 : decode cX6_yarn 41 = .ok (.ireturn, 1) := by decide +kernel
theorem dX6_yarn_42 : decode cX6_yarn 42 = .ok (.aload_n 0, 1) := by decide +kernel
theorem dX6_yarn_43 : decode cX6_yarn 43 = .ok (.getfield 19, 3) := by decide +kernel
theorem dX6_yarn_46 : decode cX6_yarn 46 = .ok (.iconst 2, 1) := by decide +kernel
theorem dX6_yarn_47 : decode cX6_yarn 47 = .ok (.iload_n 1, 1) := by decide +kernel
theorem dX6_yarn_48 : decode cX6_yarn 48 = .ok (.imul, 1) := by decide +kernel
theorem dX6_yarn_49 : decode cX6_yarn 49 = .ok (.iaload, 1) := by decide +kernel
theorem dX6_yarn_50 : decode cX6_yarn 50 = .ok (.istore 4, 2) := by decide +kernel
theorem dX6_yarn_52 : decode cX6_yarn 52 = .ok (.aload_n 0, 1) := by decide +kernel
theorem dX6_yarn_53 : decode cX6_yarn 53 = .ok (.getfield 19, 3) := by decide +kernel
theorem dX6_yarn_56 : decode cX6_yarn 56 = .ok (.iconst 2, 1) := by decide +kernel
theorem dX6_yarn_57 : decode cX6_yarn 57 = .ok (.iload_n 1, 1) := by decide +kernel
theorem dX6_yarn_58 : decode cX6_yarn 58 = .ok (.imul, 1) := by decide +kernel
theorem dX6_yarn_59 : decode cX6_yarn 59 = .ok (.iload_n 2, 1) := by decide +kernel
theorem dX6_yarn_60 : decode cX6_yarn 60 = .ok (.iastore, 1) := by decide +kernel
theorem dX6_yarn_61 : decode cX6_yarn 61 = .ok (.aload_n 0, 1) := by decide +kernel
theorem dX6_yarn_62 : decode cX6_yarn 62 = .ok (.getfield 19, 3) := by decide +kernel
theorem dX6_yarn_65 : decode cX6_yarn 65 = .ok (.iconst 2, 1) := by decide +kernel
theorem dX6_yarn_66 : decode cX6_yarn 66 = .ok (.iload_n 1, 1) := by decide +kernel
theorem dX6_yarn_67 : decode cX6_yarn 67 = .ok (.imul, 1) := by decide +kernel
theorem dX6_yarn_68 : decode cX6_yarn 68 = .ok (.iconst 1, 1) := by decide +kernel
theorem dX6_yarn_69 : decode cX6_yarn 69 = .ok (.iadd, 1) := by decide +kernel
theorem dX6_yarn_70 : decode cX6_yarn 70 = .ok (.iload_n 3, 1) := by decide +kernel
theorem dX6_yarn_71 : decode cX6_yarn 71 = .ok (.iastore, 1) := by decide +kernel
theorem dX6_yarn_72 : decode cX6_yarn 72 = .ok (.iload 4, 2) := by decide +kernel
theorem dX6_yarn_74 : decode cX6_yarn 74 = .ok (.ireturn, 1) := by decide +kernel
theorem dX6_apart_0 : decode cX6_apart 0 = .ok (.aload_n 0, 1) := by decide +kernel
theorem dX6_apart_1 : decode cX6_apart 1 = .ok (.aload_n 0, 1) := by decide +kernel
theorem dX6_apart_2 : decode cX6_apart 2 = .ok (.iload_n 1, 1) := by decide +kernel
theorem dX6_apart_3 : decode cX6_apart 3 = .ok (.invokevirtual 95, 3) := by decide +kernel
theorem dX6_apart_6 : decode cX6_apart 6 = .ok (.ifCond .eq 15, 3) := by decide +kernel
theorem dX6_apart_9 : decode cX6_apart 9 = .ok (.aload_n 0, 1) := by decide +kernel
theorem dX6_apart_10 : decode cX6_apart 10 = .ok (.iload_n 2, 1) := by decide +kernel
theorem dX6_apart_11 : decode cX6_apart 11 = .ok (.invokevirtual 95, 3) := by decide +kernel
theorem dX6_apart_14 : decode cX6_apart 14 = .ok (.ifCond .eq 7, 3) := by decide +kernel
theorem dX6_apart_17 : decode cX6_apart 17 = .ok (.iconst 1, 1) := by decide +kernel
theorem dX6_apart_18 : decode cX6_apart 18 = .ok (.goto 4, 3) := by decide +kernel
theorem dX6_apart_21 : decode cX6_apart 21 = .ok (.iconst 0, 1) := by decide +kernel
theorem dX6_apart_22 : decode cX6_apart 22 = .ok (.invokevirtual 98, 3) := by decide +kernel
theorem dX6_apart_25 : decode cX6_apart 25 = .ok (.ifCond .ne 5, 3) := by decide +kernel
theorem dX6_apart_28 : decode cX6_apart 28 = .ok (.iconst 0, 1) := by decide +kernel
theorem dX6_apart_29 : decode cX6_apart 29 = .ok (.ireturn, 1) := by decide +kernel
theorem dX6_apart_30 : decode cX6_apart 30 = .ok (.aload_n 0, 1) := by decide +kernel
theorem dX6_apart_31 : decode cX6_apart 31 = .ok (.getfield 7, 3) := by decide +kernel
theorem dX6_apart_34 : decode cX6_apart 34 = .ok (.iconst 2, 1) := by decide +kernel
theorem dX6_apart_35 : decode cX6_apart 35 = .ok (.iload_n 1, 1) := by decide +kernel
theorem dX6_apart_36 : decode cX6_apart 36 = .ok (.imul, 1) := by decide +kernel
theorem dX6_apart_37 : decode cX6_apart 37 = .ok (.iaload, 1) := by decide +kernel
theorem dX6_apart_38 : decode cX6_apart 38 = .ok (.aload_n 0, 1) := by decide +kernel
theorem dX6_apart_39 : decode cX6_apart 39 = .ok (.getfield 7, 3) := by decide +kernel
theorem dX6_apart_42 : decode cX6_apart 42 = .ok (.iconst 2, 1) := by decide +kernel
theorem dX6_apart_43 : decode cX6_apart 43 = .ok (.iload_n 2, 1) := by decide +kernel
theorem dX6_apart_44 : decode cX6_apart 44 = .ok (.imul, 1) := by decide +kernel
theorem dX6_apart_45 : decode cX6_apart 45 = .ok (.iaload, 1) := by decide +kernel
theorem dX6_apart_46 : decode cX6_apart 46 = .ok (.invokestatic 102, 3) := by decide +kernel
theorem dX6_apart_49 : decode cX6_apart 49 = .ok (.aload_n 0, 1) := by decide +kernel
theorem dX6_apart_50 : decode cX6_apart 50 = .ok (.getfield 7, 3) := by decide +kernel
theorem dX6_apart_53 : decode cX6_apart 53 = .ok (.iconst 2, 1) := by decide +kernel
theorem dX6_apart_54 : decode cX6_apart 54 = .ok (.iload_n 1, 1) := by decide +kernel
theorem dX6_apart_55 : decode cX6_apart 55 = .ok (.imul, 1) := by decide +kernel
theorem dX6_apart_56 : decode cX6_apart 56 = .ok (.iconst 1, 1) := by decide +kernel
theorem dX6_apart_57 : decode cX6_apart 57 = .ok (.iadd, 1) := by decide +kernel
theorem dX6_apart_58 : decode cX6_apart 58 = .ok (.iaload, 1) := by decide +kernel
theorem dX6_apart_59 : decode cX6_apart 59 = .ok (.aload_n 0, 1) := by decide +kernel
theorem dX6_apart_60 : decode cX6_apart 60 = .ok (.getfield 7, 3) := by decide +kernel
theorem dX6_apart_63 : decode cX6_apart 63 = .ok (.iconst 2, 1) := by decide +kernel
theorem dX6_apart_64 : decode cX6_apart 64 = .ok (.iload_n 2, 1) := by decide +kernel
theorem dX6_apart_65 : decode cX6_apart 65 = .ok (.imul, 1) := by decide +kernel
theorem dX6_apart_66 : decode cX6_apart 66 = .ok (.iconst 1, 1) := by decide +kernel
theorem dX6_apart_67 : decode cX6_apart 67 = .ok (.iadd, 1) := by decide +kernel
theorem dX6_apart_68 : decode cX6_apart 68 = .ok (.iaload, 1) := by decide +kernel
theorem dX6_apart_69 : decode cX6_apart 69 = .ok (.invokestatic 102, 3) := by decide +kernel
theorem dX6_apart_72 : decode cX6_apart 72 = .ok (.iadd, 1) := by decide +kernel
theorem dX6_apart_73 : decode cX6_apart 73 = .ok (.ireturn, 1) := by decide +kernel
theorem dX6_bath_0 : decode cX6_bath 0 = .ok (.aload_n 0, 1) := by decide +kernel
theorem dX6_bath_1 : decode cX6_bath 1 = .ok (.iload_n 1, 1) := by decide +kernel
theorem dX6_bath_2 : decode cX6_bath 2 = .ok (.invokestatic 91, 3) := by decide +kernel
theorem dX6_bath_5 : decode cX6_bath 5 = .ok (.ifCond .eq 15, 3) := by decide +kernel
theorem dX6_bath_8 : decode cX6_bath 8 = .ok (.aload_n 0, 1) := by decide +kernel
theorem dX6_bath_9 : decode cX6_bath 9 = .ok (.iload_n 2, 1) := by decide +kernel
theorem dX6_bath_10 : decode cX6_bath 10 = .ok (.invokevirtual 95, 3) := by decide +kernel
theorem dX6_bath_13 : decode cX6_bath 13 = .ok (.ifCond .eq 7, 3) := by decide +kernel
theorem dX6_bath_16 : decode cX6_bath 16 = .ok (.iconst 1, 1) := by decide +kernel
theorem dX6_bath_17 : decode cX6_bath 17 = .ok (.goto 4, 3) := by decide +kernel
theorem dX6_bath_20 : decode cX6_bath 20 = .ok (.iconst 0, 1) := by decide +kernel
theorem dX6_bath_21 : decode cX6_bath 21 = .ok (.aload_n 0, 1) := by decide +kernel
theorem dX6_bath_22 : decode cX6_bath 22 = .ok (.getfield 81, 3) := by decide +kernel
theorem dX6_bath_25 : decode cX6_bath 25 = .ok (.bipush 10, 2) := by decide +kernel
theorem dX6_bath_27 : decode cX6_bath 27 = .ok (.if_icmp .ge 7, 3) := by decide +kernel
theorem dX6_bath_30 : decode cX6_bath 30 = .ok (.iconst 1, 1) := by decide +kernel
theorem dX6_bath_31 : decode cX6_bath 31 = .ok (.goto 4, 3) := by decide +kernel
theorem dX6_bath_34 : decode cX6_bath 34 = .ok (.iconst 0, 1) := by decide +kernel
theorem dX6_bath_35 : decode cX6_bath 35 = .ok (.invokevirtual 87, 3) := by decide +kernel
theorem dX6_bath_38 : decode cX6_bath 38 = .ok (.ifCond .ne 5, 3) := by decide +kernel
theorem dX6_bath_41 : decode cX6_bath 41 = .ok (.iconst 0, 1) := by decide +kernel
theorem dX6_bath_42 : decode cX6_bath 42 = .ok (.ireturn, 1) := by decide +kernel
theorem dX6_bath_43 : decode cX6_bath 43 = .ok (.aload_n 0, 1) := by decide +kernel
theorem dX6_bath_44 : decode cX6_bath 44 = .ok (.getfield 22, 3) := by decide +kernel
theorem dX6_bath_47 : decode cX6_bath 47 = .ok (.aload_n 0, 1) := by decide +kernel
theorem dX6_bath_48 : decode cX6_bath 48 = .ok (.getfield 81, 3) := by decide +kernel
theorem dX6_bath_51 : decode cX6_bath 51 = .ok (.iload_n 1, 1) := by decide +kernel
theorem dX6_bath_52 : decode cX6_bath 52 = .ok (.iastore, 1) := by decide +kernel
theorem dX6_bath_53 : decode cX6_bath 53 = .ok (.aload_n 0, 1) := by decide +kernel
theorem dX6_bath_54 : decode cX6_bath 54 = .ok (.getfield 25, 3) := by decide +kernel
theorem dX6_bath_57 : decode cX6_bath 57 = .ok (.aload_n 0, 1) := by decide +kernel
theorem dX6_bath_58 : decode cX6_bath 58 = .ok (.getfield 81, 3) := by decide +kernel
theorem dX6_bath_61 : decode cX6_bath 61 = .ok (.iload_n 2, 1) := by decide +kernel
theorem dX6_bath_62 : decode cX6_bath 62 = .ok (.iastore, 1) := by decide +kernel
theorem dX6_bath_63 : decode cX6_bath 63 = .ok (.aload_n 0, 1) := by decide +kernel
theorem dX6_bath_64 : decode cX6_bath 64 = .ok (.getfield 28, 3) := by decide +kernel
theorem dX6_bath_67 : decode cX6_bath 67 = .ok (.aload_n 0, 1) := by decide +kernel
theorem dX6_bath_68 : decode cX6_bath 68 = .ok (.getfield 81, 3) := by decide +kernel
theorem dX6_bath_71 : decode cX6_bath 71 = .ok (.bipush 100, 2) := by decide +kernel
theorem dX6_bath_73 : decode cX6_bath 73 = .ok (.iastore, 1) := by decide +kernel
theorem dX6_bath_74 : decode cX6_bath 74 = .ok (.aload_n 0, 1) := by decide +kernel
theorem dX6_bath_75 : decode cX6_bath 75 = .ok (.dup, 1) := by decide +kernel
theorem dX6_bath_76 : decode cX6_bath 76 = .ok (.getfield 81, 3) := by decide +kernel
theorem dX6_bath_79 : decode cX6_bath 79 = .ok (.iconst 1, 1) := by decide +kernel
theorem dX6_bath_80 : decode cX6_bath 80 = .ok (.iadd, 1) := by decide +kernel
theorem dX6_bath_81 : decode cX6_bath 81 = .ok (.putfield 81, 3) := by decide +kernel
theorem dX6_bath_84 : decode cX6_bath 84 = .ok (.aload_n 0, 1) := by decide +kernel
theorem dX6_bath_85 : decode cX6_bath 85 = .ok (.getfield 81, 3) := by decide +kernel
theorem dX6_bath_88 : decode cX6_bath 88 = .ok (.iconst 1, 1) := by decide +kernel
theorem dX6_bath_89 : decode cX6_bath 89 = .ok (.isub, 1) := by decide +kernel
theorem dX6_bath_90 : decode cX6_bath 90 = .ok (.ireturn, 1) := by decide +kernel
theorem dX6_freshen_0 : decode cX6_freshen 0 = .ok (.aload_n 0, 1) := by decide +kernel
theorem dX6_freshen_1 : decode cX6_freshen 1 = .ok (.aload_n 0, 1) := by decide +kernel
theorem dX6_freshen_2 : decode cX6_freshen 2 = .ok (.iload_n 1, 1) := by decide +kernel
theorem dX6_freshen_3 : decode cX6_freshen 3 = .ok (.invokevirtual 106, 3) := by decide +kernel
theorem dX6_freshen_6 : decode cX6_freshen 6 = .ok (.invokevirtual 98, 3) := by decide +kernel
theorem dX6_freshen_9 : decode cX6_freshen 9 = .ok (.ifCond .ne 5, 3) := by decide +kernel
theorem dX6_freshen_12 : decode cX6_freshen 12 = .ok (.iconst 0, 1) := by decide +kernel
theorem dX6_freshen_13 : decode cX6_freshen 13 = .ok (.ireturn, 1) := by decide +kernel
theorem dX6_freshen_14 : decode cX6_freshen 14 = .ok (.aload_n 0, 1) := by decide +kernel
theorem dX6_freshen_15 : decode cX6_freshen 15 = .ok (.getfield 28, 3) := by decide +kernel
theorem dX6_freshen_18 : decode cX6_freshen 18 = .ok (.iload_n 1, 1) := by decide +kernel
theorem dX6_freshen_19 : decode cX6_freshen 19 = .ok (.iaload, 1) := by decide +kernel
theorem dX6_freshen_20 : decode cX6_freshen 20 = .ok (.istore_n 2, 1) := by decide +kernel
theorem dX6_freshen_21 : decode cX6_freshen 21 = .ok (.aload_n 0, 1) := by decide +kernel
theorem dX6_freshen_22 : decode cX6_freshen 22 = .ok (.getfield 28, 3) := by decide +kernel
theorem dX6_freshen_25 : decode cX6_freshen 25 = .ok (.iload_n 1, 1) := by decide +kernel
theorem dX6_freshen_26 : decode cX6_freshen 26 = .ok (.bipush 100, 2) := by decide +kernel
theorem dX6_freshen_28 : decode cX6_freshen 28 = .ok (.iastore, 1) := by decide +kernel
theorem dX6_freshen_29 : decode cX6_freshen 29 = .ok (.iload_n 2, 1) := by decide +kernel
theorem dX6_freshen_30 : decode cX6_freshen 30 = .ok (.ireturn, 1) := by decide +kernel
theorem dX6_strength_0 : decode cX6_strength 0 = .ok (.aload_n 0, 1) := by decide +kernel
theorem dX6_strength_1 : decode cX6_strength 1 = .ok (.aload_n 0, 1) := by decide +kernel
theorem dX6_strength_2 : decode cX6_strength 2 = .ok (.iload_n 1, 1) := by decide +kernel
theorem dX6_strength_3 : decode cX6_strength 3 = .ok (.invokevirtual 106, 3) := by decide +kernel
theorem dX6_strength_6 : decode cX6_strength 6 = .ok (.invokevirtual 98, 3) := by decide +kernel
theorem dX6_strength_9 : decode cX6_strength 9 = .ok (.ifCond .eq 12, 3) := by decide +kernel
theorem dX6_strength_12 : decode cX6_strength 12 = .ok (.aload_n 0, 1) := by decide +kernel
theorem dX6_strength_13 : decode cX6_strength 13 = .ok (.getfield 28, 3) := by decide +kernel
theorem dX6_strength_16 : decode cX6_strength 16 = .ok (.iload_n 1, 1) := by decide +kernel
theorem dX6_strength_17 : decode cX6_strength 17 = .ok (.iaload, 1) := by decide +kernel
theorem dX6_strength_18 : decode cX6_strength 18 = .ok (.goto 4, 3) := by decide +kernel
theorem dX6_strength_21 : decode cX6_strength 21 = .ok (.iconst 0, 1) := by decide +kernel
theorem dX6_strength_22 : decode cX6_strength 22 = .ok (.ireturn, 1) := by decide +kernel
theorem dX6_order_0 : decode cX6_order 0 = .ok (.aload_n 0, 1) := by decide +kernel
theorem dX6_order_1 : decode cX6_order 1 = .ok (.aload_n 0, 1) := by decide +kernel
theorem dX6_order_2 : decode cX6_order 2 = .ok (.iload_n 1, 1) := by decide +kernel
theorem dX6_order_3 : decode cX6_order 3 = .ok (.invokevirtual 95, 3) := by decide +kernel
theorem dX6_order_6 : decode cX6_order 6 = .ok (.ifCond .eq 16, 3) := by decide +kernel
theorem dX6_order_9 : decode cX6_order 9 = .ok (.iload_n 3, 1) := by decide +kernel
theorem dX6_order_10 : decode cX6_order 10 = .ok (.iconst 0, 1) := by decide +kernel
theorem dX6_order_11 : decode cX6_order 11 = .ok (.iconst 3, 1) := by decide +kernel
theorem dX6_order_12 : decode cX6_order 12 = .ok (.invokestatic 74, 3) := by decide +kernel
theorem dX6_order_15 : decode cX6_order 15 = .ok (.ifCond .eq 7, 3) := by decide +kernel
theorem dX6_order_18 : decode cX6_order 18 = .ok (.iconst 1, 1) := by decide +kernel
theorem dX6_order_19 : decode cX6_order 19 = .ok (.goto 4, 3) := by decide +kernel
theorem dX6_order_22 : decode cX6_order 22 = .ok (.iconst 0, 1) := by decide +kernel
theorem dX6_order_23 : decode cX6_order 23 = .ok (.iload_n 2, 1) := by decide +kernel
theorem dX6_order_24 : decode cX6_order 24 = .ok (.iconst 1, 1) := by decide +kernel
theorem dX6_order_25 : decode cX6_order 25 = .ok (.bipush 40, 2) := by decide +kernel
theorem dX6_order_27 : decode cX6_order 27 = .ok (.invokestatic 74, 3) := by decide +kernel
theorem dX6_order_30 : decode cX6_order 30 = .ok (.aload_n 0, 1) := by decide +kernel
theorem dX6_order_31 : decode cX6_order 31 = .ok (.getfield 84, 3) := by decide +kernel
theorem dX6_order_34 : decode cX6_order 34 = .ok (.bipush 40, 2) := by decide +kernel
theorem dX6_order_36 : decode cX6_order 36 = .ok (.if_icmp .ge 7, 3) := by decide +kernel
theorem dX6_order_39 : decode cX6_order 39 = .ok (.iconst 1, 1) := by decide +kernel
theorem dX6_order_40 : decode cX6_order 40 = .ok (.goto 4, 3) := by decide +kernel
theorem dX6_order_43 : decode cX6_order 43 = .ok (.iconst 0, 1) := by decide +kernel
theorem dX6_order_44 : decode cX6_order 44 = .ok (.invokevirtual 109, 3) := by decide +kernel
theorem dX6_order_47 : decode cX6_order 47 = .ok (.ifCond .ne 5, 3) := by decide +kernel
theorem dX6_order_50 : decode cX6_order 50 = .ok (.iconst 0, 1) := by decide +kernel
theorem dX6_order_51 : decode cX6_order 51 = .ok (.ireturn, 1) := by decide +kernel
theorem dX6_order_52 : decode cX6_order 52 = .ok (.aload_n 0, 1) := by decide +kernel
theorem dX6_order_53 : decode cX6_order 53 = .ok (.getfield 31, 3) := by decide +kernel
theorem dX6_order_56 : decode cX6_order 56 = .ok (.aload_n 0, 1) := by decide +kernel
theorem dX6_order_57 : decode cX6_order 57 = .ok (.getfield 84, 3) := by decide +kernel
theorem dX6_order_60 : decode cX6_order 60 = .ok (.iload_n 1, 1) := by decide +kernel
theorem dX6_order_61 : decode cX6_order 61 = .ok (.iastore, 1) := by decide +kernel
theorem dX6_order_62 : decode cX6_order 62 = .ok (.aload_n 0, 1) := by decide +kernel
theorem dX6_order_63 : decode cX6_order 63 = .ok (.getfield 34, 3) := by decide +kernel
theorem dX6_order_66 : decode cX6_order 66 = .ok (.aload_n 0, 1) := by decide +kernel
theorem dX6_order_67 : decode cX6_order 67 = .ok (.getfield 84, 3) := by decide +kernel
theorem dX6_order_70 : decode cX6_order 70 = .ok (.iload_n 2, 1) := by decide +kernel
theorem dX6_order_71 : decode cX6_order 71 = .ok (.iastore, 1) := by decide +kernel
theorem dX6_order_72 : decode cX6_order 72 = .ok (.aload_n 0, 1) := by decide +kernel
theorem dX6_order_73 : decode cX6_order 73 = .ok (.getfield 37, 3) := by decide +kernel
theorem dX6_order_76 : decode cX6_order 76 = .ok (.aload_n 0, 1) := by decide +kernel
theorem dX6_order_77 : decode cX6_order 77 = .ok (.getfield 84, 3) := by decide +kernel
theorem dX6_order_80 : decode cX6_order 80 = .ok (.iload_n 3, 1) := by decide +kernel
theorem dX6_order_81 : decode cX6_order 81 = .ok (.iastore, 1) := by decide +kernel
theorem dX6_order_82 : decode cX6_order 82 = .ok (.aload_n 0, 1) := by decide +kernel
theorem dX6_order_83 : decode cX6_order 83 = .ok (.dup, 1) := by decide +kernel
theorem dX6_order_84 : decode cX6_order 84 = .ok (.getfield 84, 3) := by decide +kernel
theorem dX6_order_87 : decode cX6_order 87 = .ok (.iconst 1, 1) := by decide +kernel
theorem dX6_order_88 : decode cX6_order 88 = .ok (.iadd, 1) := by decide +kernel
theorem dX6_order_89 : decode cX6_order 89 = .ok (.putfield 84, 3) := by decide +kernel
theorem dX6_order_92 : decode cX6_order 92 = .ok (.aload_n 0, 1) := by decide +kernel
theorem dX6_order_93 : decode cX6_order 93 = .ok (.getfield 84, 3) := by decide +kernel
theorem dX6_order_96 : decode cX6_order 96 = .ok (.iconst 1, 1) := by decide +kernel
theorem dX6_order_97 : decode cX6_order 97 = .ok (.isub, 1) := by decide +kernel
theorem dX6_order_98 : decode cX6_order 98 = .ok (.ireturn, 1) := by decide +kernel
theorem dX6_off_0 : decode cX6_off 0 = .ok (.aload_n 0, 1) := by decide +kernel
theorem dX6_off_1 : decode cX6_off 1 = .ok (.getfield 7, 3) := by decide +kernel
theorem dX6_off_4 : decode cX6_off 4 = .ok (.iconst 2, 1) := by decide +kernel
theorem dX6_off_5 : decode cX6_off 5 = .ok (.iload_n 1, 1) := by decide +kernel
theorem dX6_off_6 : decode cX6_off 6 = .ok (.imul, 1) := by decide +kernel
theorem dX6_off_7 : decode cX6_off 7 = .ok (.iaload, 1) := by decide +kernel
theorem dX6_off_8 : decode cX6_off 8 = .ok (.iload_n 2, 1) := by decide +kernel
theorem dX6_off_9 : decode cX6_off 9 = .ok (.imul, 1) := by decide +kernel
theorem dX6_off_10 : decode cX6_off 10 = .ok (.bipush 100, 2) := by decide +kernel
theorem dX6_off_12 : decode cX6_off 12 = .ok (.idiv, 1) := by decide +kernel
theorem dX6_off_13 : decode cX6_off 13 = .ok (.iload_n 3, 1) := by decide +kernel
theorem dX6_off_14 : decode cX6_off 14 = .ok (.iadd, 1) := by decide +kernel
theorem dX6_off_15 : decode cX6_off 15 = .ok (.istore 5, 2) := by decide +kernel
theorem dX6_off_17 : decode cX6_off 17 = .ok (.aload_n 0, 1) := by decide +kernel
theorem dX6_off_18 : decode cX6_off 18 = .ok (.getfield 7, 3) := by decide +kernel
theorem dX6_off_21 : decode cX6_off 21 = .ok (.iconst 2, 1) := by decide +kernel
theorem dX6_off_22 : decode cX6_off 22 = .ok (.iload_n 1, 1) := by decide +kernel
theorem dX6_off_23 : decode cX6_off 23 = .ok (.imul, 1) := by decide +kernel
theorem dX6_off_24 : decode cX6_off 24 = .ok (.iconst 1, 1) := by decide +kernel
theorem dX6_off_25 : decode cX6_off 25 = .ok (.iadd, 1) := by decide +kernel
theorem dX6_off_26 : decode cX6_off 26 = .ok (.iaload, 1) := by decide +kernel
theorem dX6_off_27 : decode cX6_off 27 = .ok (.iload_n 2, 1) := by decide +kernel
theorem dX6_off_28 : decode cX6_off 28 = .ok (.imul, 1) := by decide +kernel
theorem dX6_off_29 : decode cX6_off 29 = .ok (.bipush 100, 2) := by decide +kernel
theorem dX6_off_31 : decode cX6_off 31 = .ok (.idiv, 1) := by decide +kernel
theorem dX6_off_32 : decode cX6_off 32 = .ok (.iload 4, 2) := by decide +kernel
theorem dX6_off_34 : decode cX6_off 34 = .ok (.iadd, 1) := by decide +kernel
theorem dX6_off_35 : decode cX6_off 35 = .ok (.istore 6, 2) := by decide +kernel
theorem dX6_off_37 : decode cX6_off 37 = .ok (.iload 5, 2) := by decide +kernel
theorem dX6_off_39 : decode cX6_off 39 = .ok (.aload_n 0, 1) := by decide +kernel
theorem dX6_off_40 : decode cX6_off 40 = .ok (.getfield 7, 3) := by decide +kernel
theorem dX6_off_43 : decode cX6_off 43 = .ok (.iconst 2, 1) := by decide +kernel
theorem dX6_off_44 : decode cX6_off 44 = .ok (.iload_n 1, 1) := by decide +kernel
theorem dX6_off_45 : decode cX6_off 45 = .ok (.imul, 1) := by decide +kernel
theorem dX6_off_46 : decode cX6_off 46 = .ok (.iaload, 1) := by decide +kernel
theorem dX6_off_47 : decode cX6_off 47 = .ok (.invokestatic 102, 3) := by decide +kernel
theorem dX6_off_50 : decode cX6_off 50 = .ok (.iload 6, 2) := by decide +kernel
theorem dX6_off_52 : decode cX6_off 52 = .ok (.aload_n 0, 1) := by decide +kernel
theorem dX6_off_53 : decode cX6_off 53 = .ok (.getfield 7, 3) := by decide +kernel
theorem dX6_off_56 : decode cX6_off 56 = .ok (.iconst 2, 1) := by decide +kernel
theorem dX6_off_57 : decode cX6_off 57 = .ok (.iload_n 1, 1) := by decide +kernel
theorem dX6_off_58 : decode cX6_off 58 = .ok (.imul, 1) := by decide +kernel
theorem dX6_off_59 : decode cX6_off 59 = .ok (.iconst 1, 1) := by decide +kernel
theorem dX6_off_60 : decode cX6_off 60 = .ok (.iadd, 1) := by decide +kernel
theorem dX6_off_61 : decode cX6_off 61 = .ok (.iaload, 1) := by decide +kernel
theorem dX6_off_62 : decode cX6_off 62 = .ok (.invokestatic 102, 3) := by decide +kernel
theorem dX6_off_65 : decode cX6_off 65 = .ok (.iadd, 1) := by decide +kernel
theorem dX6_off_66 : decode cX6_off 66 = .ok (.ireturn, 1) := by decide +kernel
theorem dX6_offBy_0 : decode cX6_offBy 0 = .ok (.aload_n 0, 1) := by decide +kernel
theorem dX6_offBy_1 : decode cX6_offBy 1 = .ok (.getfield 37, 3) := by decide +kernel
theorem dX6_offBy_4 : decode cX6_offBy 4 = .ok (.iload_n 1, 1) := by decide +kernel
theorem dX6_offBy_5 : decode cX6_offBy 5 = .ok (.iaload, 1) := by decide +kernel
theorem dX6_offBy_6 : decode cX6_offBy 6 = .ok (.istore_n 3, 1) := by decide +kernel
theorem dX6_offBy_7 : decode cX6_offBy 7 = .ok (.aload_n 0, 1) := by decide +kernel
theorem dX6_offBy_8 : decode cX6_offBy 8 = .ok (.aload_n 0, 1) := by decide +kernel
theorem dX6_offBy_9 : decode cX6_offBy 9 = .ok (.getfield 31, 3) := by decide +kernel
theorem dX6_offBy_12 : decode cX6_offBy 12 = .ok (.iload_n 1, 1) := by decide +kernel
theorem dX6_offBy_13 : decode cX6_offBy 13 = .ok (.iaload, 1) := by decide +kernel
theorem dX6_offBy_14 : decode cX6_offBy 14 = .ok (.aload_n 0, 1) := by decide +kernel
theorem dX6_offBy_15 : decode cX6_offBy 15 = .ok (.getfield 28, 3) := by decide +kernel
theorem dX6_offBy_18 : decode cX6_offBy 18 = .ok (.iload_n 2, 1) := by decide +kernel
theorem dX6_offBy_19 : decode cX6_offBy 19 = .ok (.iaload, 1) := by decide +kernel
theorem dX6_offBy_20 : decode cX6_offBy 20 = .ok (.aload_n 0, 1) := by decide +kernel
theorem dX6_offBy_21 : decode cX6_offBy 21 = .ok (.getfield 19, 3) := by decide +kernel
theorem dX6_offBy_24 : decode cX6_offBy 24 = .ok (.iconst 2, 1) := by decide +kernel
theorem dX6_offBy_25 : decode cX6_offBy 25 = .ok (.iload_n 3, 1) := by decide +kernel
theorem dX6_offBy_26 : decode cX6_offBy 26 = .ok (.imul, 1) := by decide +kernel
theorem dX6_offBy_27 : decode cX6_offBy 27 = .ok (.iaload, 1) := by decide +kernel
theorem dX6_offBy_28 : decode cX6_offBy 28 = .ok (.aload_n 0, 1) := by decide +kernel
theorem dX6_offBy_29 : decode cX6_offBy 29 = .ok (.getfield 16, 3) := by decide +kernel
theorem dX6_offBy_32 : decode cX6_offBy 32 = .ok (.aload_n 0, 1) := by decide +kernel
theorem dX6_offBy_33 : decode cX6_offBy 33 = .ok (.getfield 22, 3) := by decide +kernel
theorem dX6_offBy_36 : decode cX6_offBy 36 = .ok (.iload_n 2, 1) := by decide +kernel
theorem dX6_offBy_37 : decode cX6_offBy 37 = .ok (.iaload, 1) := by decide +kernel
theorem dX6_offBy_38 : decode cX6_offBy 38 = .ok (.iaload, 1) := by decide +kernel
theorem dX6_offBy_39 : decode cX6_offBy 39 = .ok (.iadd, 1) := by decide +kernel
theorem dX6_offBy_40 : decode cX6_offBy 40 = .ok (.aload_n 0, 1) := by decide +kernel
theorem dX6_offBy_41 : decode cX6_offBy 41 = .ok (.getfield 19, 3) := by decide +kernel
theorem dX6_offBy_44 : decode cX6_offBy 44 = .ok (.iconst 2, 1) := by decide +kernel
theorem dX6_offBy_45 : decode cX6_offBy 45 = .ok (.iload_n 3, 1) := by decide +kernel
theorem dX6_offBy_46 : decode cX6_offBy 46 = .ok (.imul, 1) := by decide +kernel
theorem dX6_offBy_47 : decode cX6_offBy 47 = .ok (.iconst 1, 1) := by decide +kernel
theorem dX6_offBy_48 : decode cX6_offBy 48 = .ok (.iadd, 1) := by decide +kernel
theorem dX6_offBy_49 : decode cX6_offBy 49 = .ok (.iaload, 1) := by decide +kernel
theorem dX6_offBy_50 : decode cX6_offBy 50 = .ok (.invokevirtual 113, 3) := by decide +kernel
theorem dX6_offBy_53 : decode cX6_offBy 53 = .ok (.ireturn, 1) := by decide +kernel
theorem dX6_offOf_0 : decode cX6_offOf 0 = .ok (.aload_n 0, 1) := by decide +kernel
theorem dX6_offOf_1 : decode cX6_offOf 1 = .ok (.aload_n 0, 1) := by decide +kernel
theorem dX6_offOf_2 : decode cX6_offOf 2 = .ok (.getfield 31, 3) := by decide +kernel
theorem dX6_offOf_5 : decode cX6_offOf 5 = .ok (.iload_n 1, 1) := by decide +kernel
theorem dX6_offOf_6 : decode cX6_offOf 6 = .ok (.iaload, 1) := by decide +kernel
theorem dX6_offOf_7 : decode cX6_offOf 7 = .ok (.aload_n 0, 1) := by decide +kernel
theorem dX6_offOf_8 : decode cX6_offOf 8 = .ok (.getfield 46, 3) := by decide +kernel
theorem dX6_offOf_11 : decode cX6_offOf 11 = .ok (.iload_n 1, 1) := by decide +kernel
theorem dX6_offOf_12 : decode cX6_offOf 12 = .ok (.iaload, 1) := by decide +kernel
theorem dX6_offOf_13 : decode cX6_offOf 13 = .ok (.aload_n 0, 1) := by decide +kernel
theorem dX6_offOf_14 : decode cX6_offOf 14 = .ok (.getfield 52, 3) := by decide +kernel
theorem dX6_offOf_17 : decode cX6_offOf 17 = .ok (.iload_n 1, 1) := by decide +kernel
theorem dX6_offOf_18 : decode cX6_offOf 18 = .ok (.iaload, 1) := by decide +kernel
theorem dX6_offOf_19 : decode cX6_offOf 19 = .ok (.aload_n 0, 1) := by decide +kernel
theorem dX6_offOf_20 : decode cX6_offOf 20 = .ok (.getfield 49, 3) := by decide +kernel
theorem dX6_offOf_23 : decode cX6_offOf 23 = .ok (.iload_n 1, 1) := by decide +kernel
theorem dX6_offOf_24 : decode cX6_offOf 24 = .ok (.iaload, 1) := by decide +kernel
theorem dX6_offOf_25 : decode cX6_offOf 25 = .ok (.iadd, 1) := by decide +kernel
theorem dX6_offOf_26 : decode cX6_offOf 26 = .ok (.aload_n 0, 1) := by decide +kernel
theorem dX6_offOf_27 : decode cX6_offOf 27 = .ok (.getfield 55, 3) := by decide +kernel
theorem dX6_offOf_30 : decode cX6_offOf 30 = .ok (.iload_n 1, 1) := by decide +kernel
theorem dX6_offOf_31 : decode cX6_offOf 31 = .ok (.iaload, 1) := by decide +kernel
theorem dX6_offOf_32 : decode cX6_offOf 32 = .ok (.invokevirtual 113, 3) := by decide +kernel
theorem dX6_offOf_35 : decode cX6_offOf 35 = .ok (.ireturn, 1) := by decide +kernel
theorem dX6_dyeIn_0 : decode cX6_dyeIn 0 = .ok (.aload_n 0, 1) := by decide +kernel
theorem dX6_dyeIn_1 : decode cX6_dyeIn 1 = .ok (.getfield 40, 3) := by decide +kernel
theorem dX6_dyeIn_4 : decode cX6_dyeIn 4 = .ok (.iload_n 1, 1) := by decide +kernel
theorem dX6_dyeIn_5 : decode cX6_dyeIn 5 = .ok (.iconst 1, 1) := by decide +kernel
theorem dX6_dyeIn_6 : decode cX6_dyeIn 6 = .ok (.iastore, 1) := by decide +kernel
theorem dX6_dyeIn_7 : decode cX6_dyeIn 7 = .ok (.aload_n 0, 1) := by decide +kernel
theorem dX6_dyeIn_8 : decode cX6_dyeIn 8 = .ok (.getfield 43, 3) := by decide +kernel
theorem dX6_dyeIn_11 : decode cX6_dyeIn 11 = .ok (.iload_n 1, 1) := by decide +kernel
theorem dX6_dyeIn_12 : decode cX6_dyeIn 12 = .ok (.iload_n 2, 1) := by decide +kernel
theorem dX6_dyeIn_13 : decode cX6_dyeIn 13 = .ok (.iastore, 1) := by decide +kernel
theorem dX6_dyeIn_14 : decode cX6_dyeIn 14 = .ok (.aload_n 0, 1) := by decide +kernel
theorem dX6_dyeIn_15 : decode cX6_dyeIn 15 = .ok (.getfield 46, 3) := by decide +kernel
theorem dX6_dyeIn_18 : decode cX6_dyeIn 18 = .ok (.iload_n 1, 1) := by decide +kernel
theorem dX6_dyeIn_19 : decode cX6_dyeIn 19 = .ok (.aload_n 0, 1) := by decide +kernel
theorem dX6_dyeIn_20 : decode cX6_dyeIn 20 = .ok (.getfield 28, 3) := by decide +kernel
theorem dX6_dyeIn_23 : decode cX6_dyeIn 23 = .ok (.iload_n 2, 1) := by decide +kernel
theorem dX6_dyeIn_24 : decode cX6_dyeIn 24 = .ok (.iaload, 1) := by decide +kernel
theorem dX6_dyeIn_25 : decode cX6_dyeIn 25 = .ok (.iastore, 1) := by decide +kernel
theorem dX6_dyeIn_26 : decode cX6_dyeIn 26 = .ok (.aload_n 0, 1) := by decide +kernel
theorem dX6_dyeIn_27 : decode cX6_dyeIn 27 = .ok (.getfield 49, 3) := by decide +kernel
theorem dX6_dyeIn_30 : decode cX6_dyeIn 30 = .ok (.iload_n 1, 1) := by decide +kernel
theorem dX6_dyeIn_31 : decode cX6_dyeIn 31 = .ok (.aload_n 0, 1) := by decide +kernel
theorem dX6_dyeIn_32 : decode cX6_dyeIn 32 = .ok (.getfield 16, 3) := by decide +kernel
theorem dX6_dyeIn_35 : decode cX6_dyeIn 35 = .ok (.aload_n 0, 1) := by decide +kernel
theorem dX6_dyeIn_36 : decode cX6_dyeIn 36 = .ok (.getfield 22, 3) := by decide +kernel
theorem dX6_dyeIn_39 : decode cX6_dyeIn 39 = .ok (.iload_n 2, 1) := by decide +kernel
theorem dX6_dyeIn_40 : decode cX6_dyeIn 40 = .ok (.iaload, 1) := by decide +kernel
theorem dX6_dyeIn_41 : decode cX6_dyeIn 41 = .ok (.iaload, 1) := by decide +kernel
theorem dX6_dyeIn_42 : decode cX6_dyeIn 42 = .ok (.iastore, 1) := by decide +kernel
theorem dX6_dyeIn_43 : decode cX6_dyeIn 43 = .ok (.aload_n 0, 1) := by decide +kernel
theorem dX6_dyeIn_44 : decode cX6_dyeIn 44 = .ok (.getfield 52, 3) := by decide +kernel
theorem dX6_dyeIn_47 : decode cX6_dyeIn 47 = .ok (.iload_n 1, 1) := by decide +kernel
theorem dX6_dyeIn_48 : decode cX6_dyeIn 48 = .ok (.aload_n 0, 1) := by decide +kernel
theorem dX6_dyeIn_49 : decode cX6_dyeIn 49 = .ok (.getfield 19, 3) := by decide +kernel
theorem dX6_dyeIn_52 : decode cX6_dyeIn 52 = .ok (.iconst 2, 1) := by decide +kernel
theorem dX6_dyeIn_53 : decode cX6_dyeIn 53 = .ok (.aload_n 0, 1) := by decide +kernel
theorem dX6_dyeIn_54 : decode cX6_dyeIn 54 = .ok (.getfield 37, 3) := by decide +kernel
theorem dX6_dyeIn_57 : decode cX6_dyeIn 57 = .ok (.iload_n 1, 1) := by decide +kernel
theorem dX6_dyeIn_58 : decode cX6_dyeIn 58 = .ok (.iaload, 1) := by decide +kernel
theorem dX6_dyeIn_59 : decode cX6_dyeIn 59 = .ok (.imul, 1) := by decide +kernel
theorem dX6_dyeIn_60 : decode cX6_dyeIn 60 = .ok (.iaload, 1) := by decide +kernel
theorem dX6_dyeIn_61 : decode cX6_dyeIn 61 = .ok (.iastore, 1) := by decide +kernel
theorem dX6_dyeIn_62 : decode cX6_dyeIn 62 = .ok (.aload_n 0, 1) := by decide +kernel
theorem dX6_dyeIn_63 : decode cX6_dyeIn 63 = .ok (.getfield 55, 3) := by decide +kernel
theorem dX6_dyeIn_66 : decode cX6_dyeIn 66 = .ok (.iload_n 1, 1) := by decide +kernel
theorem dX6_dyeIn_67 : decode cX6_dyeIn 67 = .ok (.aload_n 0, 1) := by decide +kernel
theorem dX6_dyeIn_68 : decode cX6_dyeIn 68 = .ok (.getfield 19, 3) := by decide +kernel
theorem dX6_dyeIn_71 : decode cX6_dyeIn 71 = .ok (.iconst 2, 1) := by decide +kernel
theorem dX6_dyeIn_72 : decode cX6_dyeIn 72 = .ok (.aload_n 0, 1) := by decide +kernel
theorem dX6_dyeIn_73 : decode cX6_dyeIn 73 = .ok (.getfield 37, 3) := by decide +kernel
theorem dX6_dyeIn_76 : decode cX6_dyeIn 76 = .ok (.iload_n 1, 1) := by decide +kernel
theorem dX6_dyeIn_77 : decode cX6_dyeIn 77 = .ok (.iaload, 1) := by decide +kernel
theorem dX6_dyeIn_78 : decode cX6_dyeIn 78 = .ok (.imul, 1) := by decide +kernel
theorem dX6_dyeIn_79 : decode cX6_dyeIn 79 = .ok (.iconst 1, 1) := by decide +kernel
theorem dX6_dyeIn_80 : decode cX6_dyeIn 80 = .ok (.iadd, 1) := by decide +kernel
theorem dX6_dyeIn_81 : decode cX6_dyeIn 81 = .ok (.iaload, 1) := by decide +kernel
theorem dX6_dyeIn_82 : decode cX6_dyeIn 82 = .ok (.iastore, 1) := by decide +kernel
theorem dX6_dyeIn_83 : decode cX6_dyeIn 83 = .ok (.aload_n 0, 1) := by decide +kernel
theorem dX6_dyeIn_84 : decode cX6_dyeIn 84 = .ok (.getfield 28, 3) := by decide +kernel
theorem dX6_dyeIn_87 : decode cX6_dyeIn 87 = .ok (.iload_n 2, 1) := by decide +kernel
theorem dX6_dyeIn_88 : decode cX6_dyeIn 88 = .ok (.aload_n 0, 1) := by decide +kernel
theorem dX6_dyeIn_89 : decode cX6_dyeIn 89 = .ok (.getfield 28, 3) := by decide +kernel
theorem dX6_dyeIn_92 : decode cX6_dyeIn 92 = .ok (.iload_n 2, 1) := by decide +kernel
theorem dX6_dyeIn_93 : decode cX6_dyeIn 93 = .ok (.iaload, 1) := by decide +kernel
theorem dX6_dyeIn_94 : decode cX6_dyeIn 94 = .ok (.aload_n 0, 1) := by decide +kernel
theorem dX6_dyeIn_95 : decode cX6_dyeIn 95 = .ok (.getfield 34, 3) := by decide +kernel
theorem dX6_dyeIn_98 : decode cX6_dyeIn 98 = .ok (.iload_n 1, 1) := by decide +kernel
theorem dX6_dyeIn_99 : decode cX6_dyeIn 99 = .ok (.iaload, 1) := by decide +kernel
theorem dX6_dyeIn_100 : decode cX6_dyeIn 100 = .ok (.if_icmp .le 19, 3) := by decide +kernel
theorem dX6_dyeIn_103 : decode cX6_dyeIn 103 = .ok (.aload_n 0, 1) := by decide +kernel
theorem dX6_dyeIn_104 : decode cX6_dyeIn 104 = .ok (.getfield 28, 3) := by decide +kernel
theorem dX6_dyeIn_107 : decode cX6_dyeIn 107 = .ok (.iload_n 2, 1) := by decide +kernel
theorem dX6_dyeIn_108 : decode cX6_dyeIn 108 = .ok (.iaload, 1) := by decide +kernel
theorem dX6_dyeIn_109 : decode cX6_dyeIn 109 = .ok (.aload_n 0, 1) := by decide +kernel
theorem dX6_dyeIn_110 : decode cX6_dyeIn 110 = .ok (.getfield 34, 3) := by decide +kernel
theorem dX6_dyeIn_113 : decode cX6_dyeIn 113 = .ok (.iload_n 1, 1) := by decide +kernel
theorem dX6_dyeIn_114 : decode cX6_dyeIn 114 = .ok (.iaload, 1) := by decide +kernel
theorem dX6_dyeIn_115 : decode cX6_dyeIn 115 = .ok (.isub, 1) := by decide +kernel
theorem dX6_dyeIn_116 : decode cX6_dyeIn 116 = .ok (.goto 4, 3) := by decide +kernel
theorem dX6_dyeIn_119 : decode cX6_dyeIn 119 = .ok (.iconst 0, 1) := by decide +kernel
theorem dX6_dyeIn_120 : decode cX6_dyeIn 120 = .ok (.iastore, 1) := by decide +kernel
theorem dX6_dyeIn_121 : decode cX6_dyeIn 121 = .ok (.return_, 1) := by decide +kernel
theorem dX6_place_0 : decode cX6_place 0 = .ok (.aload_n 0, 1) := by decide +kernel
theorem dX6_place_1 : decode cX6_place 1 = .ok (.iload_n 1, 1) := by decide +kernel
theorem dX6_place_2 : decode cX6_place 2 = .ok (.invokevirtual 117, 3) := by decide +kernel
theorem dX6_place_5 : decode cX6_place 5 = .ok (.istore_n 2, 1) := by decide +kernel
theorem dX6_place_6 : decode cX6_place 6 = .ok (.iload_n 2, 1) := by decide +kernel
theorem dX6_place_7 : decode cX6_place 7 = .ok (.ifCond .eq 16, 3) := by decide +kernel
theorem dX6_place_10 : decode cX6_place 10 = .ok (.aload_n 0, 1) := by decide +kernel
theorem dX6_place_11 : decode cX6_place 11 = .ok (.getfield 40, 3) := by decide +kernel
theorem dX6_place_14 : decode cX6_place 14 = .ok (.iload_n 1, 1) := by decide +kernel
theorem dX6_place_15 : decode cX6_place 15 = .ok (.iaload, 1) := by decide +kernel
theorem dX6_place_16 : decode cX6_place 16 = .ok (.ifCond .ne 7, 3) := by decide +kernel
theorem dX6_place_19 : decode cX6_place 19 = .ok (.iconst 1, 1) := by decide +kernel
theorem dX6_place_20 : decode cX6_place 20 = .ok (.goto 4, 3) := by decide +kernel
theorem dX6_place_23 : decode cX6_place 23 = .ok (.iconst 0, 1) := by decide +kernel
theorem dX6_place_24 : decode cX6_place 24 = .ok (.istore_n 3, 1) := by decide +kernel
theorem dX6_place_25 : decode cX6_place 25 = .ok (.iconst (-1), 1) := by decide +kernel
theorem dX6_place_26 : decode cX6_place 26 = .ok (.istore 4, 2) := by decide +kernel
theorem dX6_place_28 : decode cX6_place 28 = .ok (.iconst 0, 1) := by decide +kernel
theorem dX6_place_29 : decode cX6_place 29 = .ok (.istore 5, 2) := by decide +kernel
theorem dX6_place_31 : decode cX6_place 31 = .ok (.iload 5, 2) := by decide +kernel
theorem dX6_place_33 : decode cX6_place 33 = .ok (.aload_n 0, 1) := by decide +kernel
theorem dX6_place_34 : decode cX6_place 34 = .ok (.getfield 81, 3) := by decide +kernel
theorem dX6_place_37 : decode cX6_place 37 = .ok (.if_icmp .ge 94, 3) := by decide +kernel
theorem dX6_place_40 : decode cX6_place 40 = .ok (.iload_n 3, 1) := by decide +kernel
theorem dX6_place_41 : decode cX6_place 41 = .ok (.ifCond .eq 90, 3) := by decide +kernel
theorem dX6_place_44 : decode cX6_place 44 = .ok (.aload_n 0, 1) := by decide +kernel
theorem dX6_place_45 : decode cX6_place 45 = .ok (.getfield 25, 3) := by decide +kernel
theorem dX6_place_48 : decode cX6_place 48 = .ok (.iload 5, 2) := by decide +kernel
theorem dX6_place_50 : decode cX6_place 50 = .ok (.iaload, 1) := by decide +kernel
theorem dX6_place_51 : decode cX6_place 51 = .ok (.aload_n 0, 1) := by decide +kernel
theorem dX6_place_52 : decode cX6_place 52 = .ok (.getfield 31, 3) := by decide +kernel
theorem dX6_place_55 : decode cX6_place 55 = .ok (.iload_n 1, 1) := by decide +kernel
theorem dX6_place_56 : decode cX6_place 56 = .ok (.iaload, 1) := by decide +kernel
theorem dX6_place_57 : decode cX6_place 57 = .ok (.if_icmp .ne 28, 3) := by decide +kernel
theorem dX6_place_60 : decode cX6_place 60 = .ok (.aload_n 0, 1) := by decide +kernel
theorem dX6_place_61 : decode cX6_place 61 = .ok (.iload_n 1, 1) := by decide +kernel
theorem dX6_place_62 : decode cX6_place 62 = .ok (.iload 5, 2) := by decide +kernel
theorem dX6_place_64 : decode cX6_place 64 = .ok (.invokevirtual 120, 3) := by decide +kernel
theorem dX6_place_67 : decode cX6_place 67 = .ok (.aload_n 0, 1) := by decide +kernel
theorem dX6_place_68 : decode cX6_place 68 = .ok (.getfield 13, 3) := by decide +kernel
theorem dX6_place_71 : decode cX6_place 71 = .ok (.aload_n 0, 1) := by decide +kernel
theorem dX6_place_72 : decode cX6_place 72 = .ok (.getfield 31, 3) := by decide +kernel
theorem dX6_place_75 : decode cX6_place 75 = .ok (.iload_n 1, 1) := by decide +kernel
theorem dX6_place_76 : decode cX6_place 76 = .ok (.iaload, 1) := by decide +kernel
theorem dX6_place_77 : decode cX6_place 77 = .ok (.iaload, 1) := by decide +kernel
theorem dX6_place_78 : decode cX6_place 78 = .ok (.if_icmp .gt 7, 3) := by decide +kernel
theorem dX6_place_81 : decode cX6_place 81 = .ok (.iconst 1, 1) := by decide +kernel
theorem dX6_place_82 : decode cX6_place 82 = .ok (.goto 4, 3) := by decide +kernel
theorem dX6_place_85 : decode cX6_place 85 = .ok (.iconst 0, 1) := by decide +kernel
theorem dX6_place_86 : decode cX6_place 86 = .ok (.istore 6, 2) := by decide +kernel
theorem dX6_place_88 : decode cX6_place 88 = .ok (.iload 6, 2) := by decide +kernel
theorem dX6_place_90 : decode cX6_place 90 = .ok (.ifCond .eq 31, 3) := by decide +kernel
theorem dX6_place_93 : decode cX6_place 93 = .ok (.iload 4, 2) := by decide +kernel
theorem dX6_place_95 : decode cX6_place 95 = .ok (.iconst (-1), 1) := by decide +kernel
theorem dX6_place_96 : decode cX6_place 96 = .ok (.if_icmp .eq 20, 3) := by decide +kernel
theorem dX6_place_99 : decode cX6_place 99 = .ok (.aload_n 0, 1) := by decide +kernel
theorem dX6_place_100 : decode cX6_place 100 = .ok (.getfield 28, 3) := by decide +kernel
theorem dX6_place_103 : decode cX6_place 103 = .ok (.iload 5, 2) := by decide +kernel
theorem dX6_place_105 : decode cX6_place 105 = .ok (.iaload, 1) := by decide +kernel
theorem dX6_place_106 : decode cX6_place 106 = .ok (.aload_n 0, 1) := by decide +kernel
theorem dX6_place_107 : decode cX6_place 107 = .ok (.getfield 28, 3) := by decide +kernel
theorem dX6_place_110 : decode cX6_place 110 = .ok (.iload 4, 2) := by decide +kernel
theorem dX6_place_112 : decode cX6_place 112 = .ok (.iaload, 1) := by decide +kernel
theorem dX6_place_113 : decode cX6_place 113 = .ok (.if_icmp .ge 8, 3) := by decide +kernel
theorem dX6_place_116 : decode cX6_place 116 = .ok (.iload 5, 2) := by decide +kernel
theorem dX6_place_118 : decode cX6_place 118 = .ok (.goto 5, 3) := by decide +kernel
theorem dX6_place_121 : decode cX6_place 121 = .ok (.iload 4, 2) := by decide +kernel
theorem dX6_place_123 : decode cX6_place 123 = .ok (.istore 4, 2) := by decide +kernel
theorem dX6_place_125 : decode cX6_place 125 = .ok (.iinc 5 1, 3) := by decide +kernel
theorem dX6_place_128 : decode cX6_place 128 = .ok (.goto (-97), 3) := by decide +kernel
theorem dX6_place_131 : decode cX6_place 131 = .ok (.aload_n 0, 1) := by decide +kernel
theorem dX6_place_132 : decode cX6_place 132 = .ok (.iload_n 2, 1) := by decide +kernel
theorem dX6_place_133 : decode cX6_place 133 = .ok (.iload_n 3, 1) := by decide +kernel
theorem dX6_place_134 : decode cX6_place 134 = .ok (.iload 4, 2) := by decide +kernel
theorem dX6_place_136 : decode cX6_place 136 = .ok (.iconst (-1), 1) := by decide +kernel
theorem dX6_place_137 : decode cX6_place 137 = .ok (.if_icmp .eq 7, 3) := by decide +kernel
theorem dX6_place_140 : decode cX6_place 140 = .ok (.iconst 1, 1) := by decide +kernel
theorem dX6_place_141 : decode cX6_place 141 = .ok (.goto 4, 3) := by decide +kernel
theorem dX6_place_144 : decode cX6_place 144 = .ok (.iconst 0, 1) := by decide +kernel
theorem dX6_place_145 : decode cX6_place 145 = .ok (.invokevirtual 109, 3) := by decide +kernel
theorem dX6_place_148 : decode cX6_place 148 = .ok (.ifCond .ne 5, 3) := by decide +kernel
theorem dX6_place_151 : decode cX6_place 151 = .ok (.iconst 0, 1) := by decide +kernel
theorem dX6_place_152 : decode cX6_place 152 = .ok (.ireturn, 1) := by decide +kernel
theorem dX6_place_153 : decode cX6_place 153 = .ok (.aload_n 0, 1) := by decide +kernel
theorem dX6_place_154 : decode cX6_place 154 = .ok (.iload_n 1, 1) := by decide +kernel
theorem dX6_place_155 : decode cX6_place 155 = .ok (.iload 4, 2) := by decide +kernel
theorem dX6_place_157 : decode cX6_place 157 = .ok (.invokevirtual 123, 3) := by decide +kernel
theorem dX6_place_160 : decode cX6_place 160 = .ok (.iload 4, 2) := by decide +kernel
theorem dX6_place_162 : decode cX6_place 162 = .ok (.ireturn, 1) := by decide +kernel
theorem dX6_dye_0 : decode cX6_dye 0 = .ok (.aload_n 0, 1) := by decide +kernel
theorem dX6_dye_1 : decode cX6_dye 1 = .ok (.iload_n 1, 1) := by decide +kernel
theorem dX6_dye_2 : decode cX6_dye 2 = .ok (.invokevirtual 117, 3) := by decide +kernel
theorem dX6_dye_5 : decode cX6_dye 5 = .ok (.ifCond .eq 15, 3) := by decide +kernel
theorem dX6_dye_8 : decode cX6_dye 8 = .ok (.aload_n 0, 1) := by decide +kernel
theorem dX6_dye_9 : decode cX6_dye 9 = .ok (.iload_n 2, 1) := by decide +kernel
theorem dX6_dye_10 : decode cX6_dye 10 = .ok (.invokevirtual 106, 3) := by decide +kernel
theorem dX6_dye_13 : decode cX6_dye 13 = .ok (.ifCond .eq 7, 3) := by decide +kernel
theorem dX6_dye_16 : decode cX6_dye 16 = .ok (.iconst 1, 1) := by decide +kernel
theorem dX6_dye_17 : decode cX6_dye 17 = .ok (.goto 4, 3) := by decide +kernel
theorem dX6_dye_20 : decode cX6_dye 20 = .ok (.iconst 0, 1) := by decide +kernel
theorem dX6_dye_21 : decode cX6_dye 21 = .ok (.istore_n 3, 1) := by decide +kernel
theorem dX6_dye_22 : decode cX6_dye 22 = .ok (.aload_n 0, 1) := by decide +kernel
theorem dX6_dye_23 : decode cX6_dye 23 = .ok (.iload_n 3, 1) := by decide +kernel
theorem dX6_dye_24 : decode cX6_dye 24 = .ok (.iload_n 3, 1) := by decide +kernel
theorem dX6_dye_25 : decode cX6_dye 25 = .ok (.ifCond .eq 22, 3) := by decide +kernel
theorem dX6_dye_28 : decode cX6_dye 28 = .ok (.aload_n 0, 1) := by decide +kernel
theorem dX6_dye_29 : decode cX6_dye 29 = .ok (.getfield 25, 3) := by decide +kernel
theorem dX6_dye_32 : decode cX6_dye 32 = .ok (.iload_n 2, 1) := by decide +kernel
theorem dX6_dye_33 : decode cX6_dye 33 = .ok (.iaload, 1) := by decide +kernel
theorem dX6_dye_34 : decode cX6_dye 34 = .ok (.aload_n 0, 1) := by decide +kernel
theorem dX6_dye_35 : decode cX6_dye 35 = .ok (.getfield 31, 3) := by decide +kernel
theorem dX6_dye_38 : decode cX6_dye 38 = .ok (.iload_n 1, 1) := by decide +kernel
theorem dX6_dye_39 : decode cX6_dye 39 = .ok (.iaload, 1) := by decide +kernel
theorem dX6_dye_40 : decode cX6_dye 40 = .ok (.if_icmp .ne 7, 3) := by decide +kernel
theorem dX6_dye_43 : decode cX6_dye 43 = .ok (.iconst 1, 1) := by decide +kernel
theorem dX6_dye_44 : decode cX6_dye 44 = .ok (.goto 4, 3) := by decide +kernel
theorem dX6_dye_47 : decode cX6_dye 47 = .ok (.iconst 0, 1) := by decide +kernel
theorem dX6_dye_48 : decode cX6_dye 48 = .ok (.iload_n 3, 1) := by decide +kernel
theorem dX6_dye_49 : decode cX6_dye 49 = .ok (.ifCond .eq 16, 3) := by decide +kernel
theorem dX6_dye_52 : decode cX6_dye 52 = .ok (.aload_n 0, 1) := by decide +kernel
theorem dX6_dye_53 : decode cX6_dye 53 = .ok (.getfield 40, 3) := by decide +kernel
theorem dX6_dye_56 : decode cX6_dye 56 = .ok (.iload_n 1, 1) := by decide +kernel
theorem dX6_dye_57 : decode cX6_dye 57 = .ok (.iaload, 1) := by decide +kernel
theorem dX6_dye_58 : decode cX6_dye 58 = .ok (.ifCond .ne 7, 3) := by decide +kernel
theorem dX6_dye_61 : decode cX6_dye 61 = .ok (.iconst 1, 1) := by decide +kernel
theorem dX6_dye_62 : decode cX6_dye 62 = .ok (.goto 4, 3) := by decide +kernel
theorem dX6_dye_65 : decode cX6_dye 65 = .ok (.iconst 0, 1) := by decide +kernel
theorem dX6_dye_66 : decode cX6_dye 66 = .ok (.invokevirtual 109, 3) := by decide +kernel
theorem dX6_dye_69 : decode cX6_dye 69 = .ok (.ifCond .ne 5, 3) := by decide +kernel
theorem dX6_dye_72 : decode cX6_dye 72 = .ok (.iconst 0, 1) := by decide +kernel
theorem dX6_dye_73 : decode cX6_dye 73 = .ok (.ireturn, 1) := by decide +kernel
theorem dX6_dye_74 : decode cX6_dye 74 = .ok (.aload_n 0, 1) := by decide +kernel
theorem dX6_dye_75 : decode cX6_dye 75 = .ok (.iload_n 1, 1) := by decide +kernel
theorem dX6_dye_76 : decode cX6_dye 76 = .ok (.iload_n 2, 1) := by decide +kernel
theorem dX6_dye_77 : decode cX6_dye 77 = .ok (.invokevirtual 123, 3) := by decide +kernel
theorem dX6_dye_80 : decode cX6_dye 80 = .ok (.aload_n 0, 1) := by decide +kernel
theorem dX6_dye_81 : decode cX6_dye 81 = .ok (.iload_n 1, 1) := by decide +kernel
theorem dX6_dye_82 : decode cX6_dye 82 = .ok (.invokevirtual 127, 3) := by decide +kernel
theorem dX6_dye_85 : decode cX6_dye 85 = .ok (.ireturn, 1) := by decide +kernel
theorem dX6_claim_0 : decode cX6_claim 0 = .ok (.aload_n 0, 1) := by decide +kernel
theorem dX6_claim_1 : decode cX6_claim 1 = .ok (.iload_n 1, 1) := by decide +kernel
theorem dX6_claim_2 : decode cX6_claim 2 = .ok (.invokevirtual 117, 3) := by decide +kernel
theorem dX6_claim_5 : decode cX6_claim 5 = .ok (.istore_n 2, 1) := by decide +kernel
theorem dX6_claim_6 : decode cX6_claim 6 = .ok (.aload_n 0, 1) := by decide +kernel
theorem dX6_claim_7 : decode cX6_claim 7 = .ok (.iload_n 2, 1) := by decide +kernel
theorem dX6_claim_8 : decode cX6_claim 8 = .ok (.iload_n 2, 1) := by decide +kernel
theorem dX6_claim_9 : decode cX6_claim 9 = .ok (.ifCond .eq 36, 3) := by decide +kernel
theorem dX6_claim_12 : decode cX6_claim 12 = .ok (.aload_n 0, 1) := by decide +kernel
theorem dX6_claim_13 : decode cX6_claim 13 = .ok (.getfield 40, 3) := by decide +kernel
theorem dX6_claim_16 : decode cX6_claim 16 = .ok (.iload_n 1, 1) := by decide +kernel
theorem dX6_claim_17 : decode cX6_claim 17 = .ok (.iaload, 1) := by decide +kernel
theorem dX6_claim_18 : decode cX6_claim 18 = .ok (.iconst 1, 1) := by decide +kernel
theorem dX6_claim_19 : decode cX6_claim 19 = .ok (.if_icmp .ne 26, 3) := by decide +kernel
theorem dX6_claim_22 : decode cX6_claim 22 = .ok (.aload_n 0, 1) := by decide +kernel
theorem dX6_claim_23 : decode cX6_claim 23 = .ok (.iload_n 1, 1) := by decide +kernel
theorem dX6_claim_24 : decode cX6_claim 24 = .ok (.invokevirtual 127, 3) := by decide +kernel
theorem dX6_claim_27 : decode cX6_claim 27 = .ok (.aload_n 0, 1) := by decide +kernel
theorem dX6_claim_28 : decode cX6_claim 28 = .ok (.getfield 13, 3) := by decide +kernel
theorem dX6_claim_31 : decode cX6_claim 31 = .ok (.aload_n 0, 1) := by decide +kernel
theorem dX6_claim_32 : decode cX6_claim 32 = .ok (.getfield 31, 3) := by decide +kernel
theorem dX6_claim_35 : decode cX6_claim 35 = .ok (.iload_n 1, 1) := by decide +kernel
theorem dX6_claim_36 : decode cX6_claim 36 = .ok (.iaload, 1) := by decide +kernel
theorem dX6_claim_37 : decode cX6_claim 37 = .ok (.iaload, 1) := by decide +kernel
theorem dX6_claim_38 : decode cX6_claim 38 = .ok (.if_icmp .le 7, 3) := by decide +kernel
theorem dX6_claim_41 : decode cX6_claim 41 = .ok (.iconst 1, 1) := by decide +kernel
theorem dX6_claim_42 : decode cX6_claim 42 = .ok (.goto 4, 3) := by decide +kernel
theorem dX6_claim_45 : decode cX6_claim 45 = .ok (.iconst 0, 1) := by decide +kernel
theorem dX6_claim_46 : decode cX6_claim 46 = .ok (.invokevirtual 87, 3) := by decide +kernel
theorem dX6_claim_49 : decode cX6_claim 49 = .ok (.ifCond .ne 5, 3) := by decide +kernel
theorem dX6_claim_52 : decode cX6_claim 52 = .ok (.iconst 0, 1) := by decide +kernel
theorem dX6_claim_53 : decode cX6_claim 53 = .ok (.ireturn, 1) := by decide +kernel
theorem dX6_claim_54 : decode cX6_claim 54 = .ok (.aload_n 0, 1) := by decide +kernel
theorem dX6_claim_55 : decode cX6_claim 55 = .ok (.getfield 31, 3) := by decide +kernel
theorem dX6_claim_58 : decode cX6_claim 58 = .ok (.iload_n 1, 1) := by decide +kernel
theorem dX6_claim_59 : decode cX6_claim 59 = .ok (.iaload, 1) := by decide +kernel
theorem dX6_claim_60 : decode cX6_claim 60 = .ok (.istore_n 3, 1) := by decide +kernel
theorem dX6_claim_61 : decode cX6_claim 61 = .ok (.aload_n 0, 1) := by decide +kernel
theorem dX6_claim_62 : decode cX6_claim 62 = .ok (.iload_n 3, 1) := by decide +kernel
theorem dX6_claim_63 : decode cX6_claim 63 = .ok (.bipush 100, 2) := by decide +kernel
theorem dX6_claim_65 : decode cX6_claim 65 = .ok (.aload_n 0, 1) := by decide +kernel
theorem dX6_claim_66 : decode cX6_claim 66 = .ok (.getfield 52, 3) := by decide +kernel
theorem dX6_claim_69 : decode cX6_claim 69 = .ok (.iload_n 1, 1) := by decide +kernel
theorem dX6_claim_70 : decode cX6_claim 70 = .ok (.iaload, 1) := by decide +kernel
theorem dX6_claim_71 : decode cX6_claim 71 = .ok (.aload_n 0, 1) := by decide +kernel
theorem dX6_claim_72 : decode cX6_claim 72 = .ok (.getfield 49, 3) := by decide +kernel
theorem dX6_claim_75 : decode cX6_claim 75 = .ok (.iload_n 1, 1) := by decide +kernel
theorem dX6_claim_76 : decode cX6_claim 76 = .ok (.iaload, 1) := by decide +kernel
theorem dX6_claim_77 : decode cX6_claim 77 = .ok (.iadd, 1) := by decide +kernel
theorem dX6_claim_78 : decode cX6_claim 78 = .ok (.aload_n 0, 1) := by decide +kernel
theorem dX6_claim_79 : decode cX6_claim 79 = .ok (.getfield 55, 3) := by decide +kernel
theorem dX6_claim_82 : decode cX6_claim 82 = .ok (.iload_n 1, 1) := by decide +kernel
theorem dX6_claim_83 : decode cX6_claim 83 = .ok (.iaload, 1) := by decide +kernel
theorem dX6_claim_84 : decode cX6_claim 84 = .ok (.invokevirtual 113, 3) := by decide +kernel
theorem dX6_claim_87 : decode cX6_claim 87 = .ok (.istore 4, 2) := by decide +kernel
theorem dX6_claim_89 : decode cX6_claim 89 = .ok (.aload_n 0, 1) := by decide +kernel
theorem dX6_claim_90 : decode cX6_claim 90 = .ok (.iload_n 3, 1) := by decide +kernel
theorem dX6_claim_91 : decode cX6_claim 91 = .ok (.aload_n 0, 1) := by decide +kernel
theorem dX6_claim_92 : decode cX6_claim 92 = .ok (.getfield 46, 3) := by decide +kernel
theorem dX6_claim_95 : decode cX6_claim 95 = .ok (.iload_n 1, 1) := by decide +kernel
theorem dX6_claim_96 : decode cX6_claim 96 = .ok (.iaload, 1) := by decide +kernel
theorem dX6_claim_97 : decode cX6_claim 97 = .ok (.aload_n 0, 1) := by decide +kernel
theorem dX6_claim_98 : decode cX6_claim 98 = .ok (.getfield 52, 3) := by decide +kernel
theorem dX6_claim_101 : decode cX6_claim 101 = .ok (.iload_n 1, 1) := by decide +kernel
theorem dX6_claim_102 : decode cX6_claim 102 = .ok (.iaload, 1) := by decide +kernel
theorem dX6_claim_103 : decode cX6_claim 103 = .ok (.aload_n 0, 1) := by decide +kernel
theorem dX6_claim_104 : decode cX6_claim 104 = .ok (.getfield 55, 3) := by decide +kernel
theorem dX6_claim_107 : decode cX6_claim 107 = .ok (.iload_n 1, 1) := by decide +kernel
theorem dX6_claim_108 : decode cX6_claim 108 = .ok (.iaload, 1) := by decide +kernel
theorem dX6_claim_109 : decode cX6_claim 109 = .ok (.invokevirtual 113, 3) := by decide +kernel
theorem dX6_claim_112 : decode cX6_claim 112 = .ok (.istore 5, 2) := by decide +kernel
theorem dX6_claim_114 : decode cX6_claim 114 = .ok (.aload_n 0, 1) := by decide +kernel
theorem dX6_claim_115 : decode cX6_claim 115 = .ok (.iload_n 3, 1) := by decide +kernel
theorem dX6_claim_116 : decode cX6_claim 116 = .ok (.aload_n 0, 1) := by decide +kernel
theorem dX6_claim_117 : decode cX6_claim 117 = .ok (.getfield 46, 3) := by decide +kernel
theorem dX6_claim_120 : decode cX6_claim 120 = .ok (.iload_n 1, 1) := by decide +kernel
theorem dX6_claim_121 : decode cX6_claim 121 = .ok (.iaload, 1) := by decide +kernel
theorem dX6_claim_122 : decode cX6_claim 122 = .ok (.aload_n 0, 1) := by decide +kernel
theorem dX6_claim_123 : decode cX6_claim 123 = .ok (.getfield 49, 3) := by decide +kernel
theorem dX6_claim_126 : decode cX6_claim 126 = .ok (.iload_n 1, 1) := by decide +kernel
theorem dX6_claim_127 : decode cX6_claim 127 = .ok (.iaload, 1) := by decide +kernel
theorem dX6_claim_128 : decode cX6_claim 128 = .ok (.iconst 0, 1) := by decide +kernel
theorem dX6_claim_129 : decode cX6_claim 129 = .ok (.invokevirtual 113, 3) := by decide +kernel
theorem dX6_claim_132 : decode cX6_claim 132 = .ok (.istore 6, 2) := by decide +kernel
theorem dX6_claim_134 : decode cX6_claim 134 = .ok (.iload 4, 2) := by decide +kernel
theorem dX6_claim_136 : decode cX6_claim 136 = .ok (.iload 5, 2) := by decide +kernel
theorem dX6_claim_138 : decode cX6_claim 138 = .ok (.if_icmp .gt 14, 3) := by decide +kernel
theorem dX6_claim_141 : decode cX6_claim 141 = .ok (.iload 4, 2) := by decide +kernel
theorem dX6_claim_143 : decode cX6_claim 143 = .ok (.iload 6, 2) := by decide +kernel
theorem dX6_claim_145 : decode cX6_claim 145 = .ok (.if_icmp .gt 7, 3) := by decide +kernel
theorem dX6_claim_148 : decode cX6_claim 148 = .ok (.iconst 0, 1) := by decide +kernel
theorem dX6_claim_149 : decode cX6_claim 149 = .ok (.goto 15, 3) := by decide +kernel
theorem dX6_claim_152 : decode cX6_claim 152 = .ok (.iload 5, 2) := by decide +kernel
theorem dX6_claim_154 : decode cX6_claim 154 = .ok (.iload 6, 2) := by decide +kernel
theorem dX6_claim_156 : decode cX6_claim 156 = .ok (.if_icmp .gt 7, 3) := by decide +kernel
theorem dX6_claim_159 : decode cX6_claim 159 = .ok (.iconst 1, 1) := by decide +kernel
theorem dX6_claim_160 : decode cX6_claim 160 = .ok (.goto 4, 3) := by decide +kernel
theorem dX6_claim_163 : decode cX6_claim 163 = .ok (.iconst 2, 1) := by decide +kernel
theorem dX6_claim_164 : decode cX6_claim 164 = .ok (.istore 7, 2) := by decide +kernel
theorem dX6_claim_166 : decode cX6_claim 166 = .ok (.aload_n 0, 1) := by decide +kernel
theorem dX6_claim_167 : decode cX6_claim 167 = .ok (.getfield 40, 3) := by decide +kernel
theorem dX6_claim_170 : decode cX6_claim 170 = .ok (.iload_n 1, 1) := by decide +kernel
theorem dX6_claim_171 : decode cX6_claim 171 = .ok (.iconst 2, 1) := by decide +kernel
theorem dX6_claim_172 : decode cX6_claim 172 = .ok (.iastore, 1) := by decide +kernel
theorem dX6_claim_173 : decode cX6_claim 173 = .ok (.aload_n 0, 1) := by decide +kernel
theorem dX6_claim_174 : decode cX6_claim 174 = .ok (.getfield 58, 3) := by decide +kernel
theorem dX6_claim_177 : decode cX6_claim 177 = .ok (.iconst 3, 1) := by decide +kernel
theorem dX6_claim_178 : decode cX6_claim 178 = .ok (.aload_n 0, 1) := by decide +kernel
theorem dX6_claim_179 : decode cX6_claim 179 = .ok (.getfield 22, 3) := by decide +kernel
theorem dX6_claim_182 : decode cX6_claim 182 = .ok (.aload_n 0, 1) := by decide +kernel
theorem dX6_claim_183 : decode cX6_claim 183 = .ok (.getfield 43, 3) := by decide +kernel
theorem dX6_claim_186 : decode cX6_claim 186 = .ok (.iload_n 1, 1) := by decide +kernel
theorem dX6_claim_187 : decode cX6_claim 187 = .ok (.iaload, 1) := by decide +kernel
theorem dX6_claim_188 : decode cX6_claim 188 = .ok (.iaload, 1) := by decide +kernel
theorem dX6_claim_189 : decode cX6_claim 189 = .ok (.imul, 1) := by decide +kernel
theorem dX6_claim_190 : decode cX6_claim 190 = .ok (.iload 7, 2) := by decide +kernel
theorem dX6_claim_192 : decode cX6_claim 192 = .ok (.iadd, 1) := by decide +kernel
theorem dX6_claim_193 : decode cX6_claim 193 = .ok (.dup2, 1) := by decide +kernel
theorem dX6_claim_194 : decode cX6_claim 194 = .ok (.iaload, 1) := by decide +kernel
theorem dX6_claim_195 : decode cX6_claim 195 = .ok (.iconst 1, 1) := by decide +kernel
theorem dX6_claim_196 : decode cX6_claim 196 = .ok (.iadd, 1) := by decide +kernel
theorem dX6_claim_197 : decode cX6_claim 197 = .ok (.iastore, 1) := by decide +kernel
theorem dX6_claim_198 : decode cX6_claim 198 = .ok (.iload 7, 2) := by decide +kernel
theorem dX6_claim_200 : decode cX6_claim 200 = .ok (.ireturn, 1) := by decide +kernel
theorem dX6_stateOf_0 : decode cX6_stateOf 0 = .ok (.aload_n 0, 1) := by decide +kernel
theorem dX6_stateOf_1 : decode cX6_stateOf 1 = .ok (.aload_n 0, 1) := by decide +kernel
theorem dX6_stateOf_2 : decode cX6_stateOf 2 = .ok (.iload_n 1, 1) := by decide +kernel
theorem dX6_stateOf_3 : decode cX6_stateOf 3 = .ok (.invokevirtual 117, 3) := by decide +kernel
theorem dX6_stateOf_6 : decode cX6_stateOf 6 = .ok (.invokevirtual 98, 3) := by decide +kernel
theorem dX6_stateOf_9 : decode cX6_stateOf 9 = .ok (.ifCond .eq 12, 3) := by decide +kernel
theorem dX6_stateOf_12 : decode cX6_stateOf 12 = .ok (.aload_n 0, 1) := by decide +kernel
theorem dX6_stateOf_13 : decode cX6_stateOf 13 = .ok (.getfield 40, 3) := by decide +kernel
theorem dX6_stateOf_16 : decode cX6_stateOf 16 = .ok (.iload_n 1, 1) := by decide +kernel
theorem dX6_stateOf_17 : decode cX6_stateOf 17 = .ok (.iaload, 1) := by decide +kernel
theorem dX6_stateOf_18 : decode cX6_stateOf 18 = .ok (.goto 4, 3) := by decide +kernel
theorem dX6_stateOf_21 : decode cX6_stateOf 21 = .ok (.iconst 0, 1) := by decide +kernel
theorem dX6_stateOf_22 : decode cX6_stateOf 22 = .ok (.ireturn, 1) := by decide +kernel
theorem dX6_colour_0 : decode cX6_colour 0 = .ok (.aload_n 0, 1) := by decide +kernel
theorem dX6_colour_1 : decode cX6_colour 1 = .ok (.iload_n 1, 1) := by decide +kernel
theorem dX6_colour_2 : decode cX6_colour 2 = .ok (.invokevirtual 117, 3) := by decide +kernel
theorem dX6_colour_5 : decode cX6_colour 5 = .ok (.ifCond .eq 16, 3) := by decide +kernel
theorem dX6_colour_8 : decode cX6_colour 8 = .ok (.iload_n 2, 1) := by decide +kernel
theorem dX6_colour_9 : decode cX6_colour 9 = .ok (.iconst 0, 1) := by decide +kernel
theorem dX6_colour_10 : decode cX6_colour 10 = .ok (.iconst 1, 1) := by decide +kernel
theorem dX6_colour_11 : decode cX6_colour 11 = .ok (.invokestatic 74, 3) := by decide +kernel
theorem dX6_colour_14 : decode cX6_colour 14 = .ok (.ifCond .eq 7, 3) := by decide +kernel
theorem dX6_colour_17 : decode cX6_colour 17 = .ok (.iconst 1, 1) := by decide +kernel
theorem dX6_colour_18 : decode cX6_colour 18 = .ok (.goto 4, 3) := by decide +kernel
theorem dX6_colour_21 : decode cX6_colour 21 = .ok (.iconst 0, 1) := by decide +kernel
theorem dX6_colour_22 : decode cX6_colour 22 = .ok (.istore_n 3, 1) := by decide +kernel
theorem dX6_colour_23 : decode cX6_colour 23 = .ok (.aload_n 0, 1) := by decide +kernel
theorem dX6_colour_24 : decode cX6_colour 24 = .ok (.iload_n 3, 1) := by decide +kernel
theorem dX6_colour_25 : decode cX6_colour 25 = .ok (.iload_n 3, 1) := by decide +kernel
theorem dX6_colour_26 : decode cX6_colour 26 = .ok (.ifCond .eq 16, 3) := by decide +kernel
theorem dX6_colour_29 : decode cX6_colour 29 = .ok (.aload_n 0, 1) := by decide +kernel
theorem dX6_colour_30 : decode cX6_colour 30 = .ok (.getfield 40, 3) := by decide +kernel
theorem dX6_colour_33 : decode cX6_colour 33 = .ok (.iload_n 1, 1) := by decide +kernel
theorem dX6_colour_34 : decode cX6_colour 34 = .ok (.iaload, 1) := by decide +kernel
theorem dX6_colour_35 : decode cX6_colour 35 = .ok (.ifCond .eq 7, 3) := by decide +kernel
theorem dX6_colour_38 : decode cX6_colour 38 = .ok (.iconst 1, 1) := by decide +kernel
theorem dX6_colour_39 : decode cX6_colour 39 = .ok (.goto 4, 3) := by decide +kernel
theorem dX6_colour_42 : decode cX6_colour 42 = .ok (.iconst 0, 1) := by decide +kernel
theorem dX6_colour_43 : decode cX6_colour 43 = .ok (.invokevirtual 87, 3) := by decide +kernel
theorem dX6_colour_46 : decode cX6_colour 46 = .ok (.ifCond .ne 5, 3) := by decide +kernel
theorem dX6_colour_49 : decode cX6_colour 49 = .ok (.iconst 0, 1) := by decide +kernel
theorem dX6_colour_50 : decode cX6_colour 50 = .ok (.ireturn, 1) := by decide +kernel
theorem dX6_colour_51 : decode cX6_colour 51 = .ok (.aload_n 0, 1) := by decide +kernel
theorem dX6_colour_52 : decode cX6_colour 52 = .ok (.getfield 7, 3) := by decide +kernel
theorem dX6_colour_55 : decode cX6_colour 55 = .ok (.iconst 2, 1) := by decide +kernel
theorem dX6_colour_56 : decode cX6_colour 56 = .ok (.aload_n 0, 1) := by decide +kernel
theorem dX6_colour_57 : decode cX6_colour 57 = .ok (.getfield 31, 3) := by decide +kernel
theorem dX6_colour_60 : decode cX6_colour 60 = .ok (.iload_n 1, 1) := by decide +kernel
theorem dX6_colour_61 : decode cX6_colour 61 = .ok (.iaload, 1) := by decide +kernel
theorem dX6_colour_62 : decode cX6_colour 62 = .ok (.imul, 1) := by decide +kernel
theorem dX6_colour_63 : decode cX6_colour 63 = .ok (.iload_n 2, 1) := by decide +kernel
theorem dX6_colour_64 : decode cX6_colour 64 = .ok (.iadd, 1) := by decide +kernel
theorem dX6_colour_65 : decode cX6_colour 65 = .ok (.iaload, 1) := by decide +kernel
theorem dX6_colour_66 : decode cX6_colour 66 = .ok (.aload_n 0, 1) := by decide +kernel
theorem dX6_colour_67 : decode cX6_colour 67 = .ok (.getfield 46, 3) := by decide +kernel
theorem dX6_colour_70 : decode cX6_colour 70 = .ok (.iload_n 1, 1) := by decide +kernel
theorem dX6_colour_71 : decode cX6_colour 71 = .ok (.iaload, 1) := by decide +kernel
theorem dX6_colour_72 : decode cX6_colour 72 = .ok (.imul, 1) := by decide +kernel
theorem dX6_colour_73 : decode cX6_colour 73 = .ok (.bipush 100, 2) := by decide +kernel
theorem dX6_colour_75 : decode cX6_colour 75 = .ok (.idiv, 1) := by decide +kernel
theorem dX6_colour_76 : decode cX6_colour 76 = .ok (.istore 4, 2) := by decide +kernel
theorem dX6_colour_78 : decode cX6_colour 78 = .ok (.iload 4, 2) := by decide +kernel
theorem dX6_colour_80 : decode cX6_colour 80 = .ok (.iload_n 2, 1) := by decide +kernel
theorem dX6_colour_81 : decode cX6_colour 81 = .ok (.ifCond .ne 19, 3) := by decide +kernel
theorem dX6_colour_84 : decode cX6_colour 84 = .ok (.aload_n 0, 1) := by decide +kernel
theorem dX6_colour_85 : decode cX6_colour 85 = .ok (.getfield 52, 3) := by decide +kernel
theorem dX6_colour_88 : decode cX6_colour 88 = .ok (.iload_n 1, 1) := by decide +kernel
theorem dX6_colour_89 : decode cX6_colour 89 = .ok (.iaload, 1) := by decide +kernel
theorem dX6_colour_90 : decode cX6_colour 90 = .ok (.aload_n 0, 1) := by decide +kernel
theorem dX6_colour_91 : decode cX6_colour 91 = .ok (.getfield 49, 3) := by decide +kernel
theorem dX6_colour_94 : decode cX6_colour 94 = .ok (.iload_n 1, 1) := by decide +kernel
theorem dX6_colour_95 : decode cX6_colour 95 = .ok (.iaload, 1) := by decide +kernel
theorem dX6_colour_96 : decode cX6_colour 96 = .ok (.iadd, 1) := by decide +kernel
theorem dX6_colour_97 : decode cX6_colour 97 = .ok (.goto 9, 3) := by decide +kernel
theorem dX6_colour_100 : decode cX6_colour 100 = .ok (.aload_n 0, 1) := by decide +kernel
theorem dX6_colour_101 : decode cX6_colour 101 = .ok (.getfield 55, 3) := by decide +kernel
theorem dX6_colour_104 : decode cX6_colour 104 = .ok (.iload_n 1, 1) := by decide +kernel
theorem dX6_colour_105 : decode cX6_colour 105 = .ok (.iaload, 1) := by decide +kernel
theorem dX6_colour_106 : decode cX6_colour 106 = .ok (.iadd, 1) := by decide +kernel
theorem dX6_colour_107 : decode cX6_colour 107 = .ok (.ireturn, 1) := by decide +kernel
theorem dX6_colourByBath_0 : decode cX6_colourByBath 0 = .ok (.aload_n 0, 1) := by decide +kernel
theorem dX6_colourByBath_1 : decode cX6_colourByBath 1 = .ok (.iload_n 1, 1) := by decide +kernel
theorem dX6_colourByBath_2 : decode cX6_colourByBath 2 = .ok (.iload_n 2, 1) := by decide +kernel
theorem dX6_colourByBath_3 : decode cX6_colourByBath 3 = .ok (.invokevirtual 131, 3) := by decide +kernel
theorem dX6_colourByBath_6 : decode cX6_colourByBath 6 = .ok (.ireturn, 1) := by decide +kernel
theorem dX6_blamed_0 : decode cX6_blamed 0 = .ok (.aload_n 0, 1) := by decide +kernel
theorem dX6_blamed_1 : decode cX6_blamed 1 = .ok (.iload_n 1, 1) := by decide +kernel
theorem dX6_blamed_2 : decode cX6_blamed 2 = .ok (.invokestatic 91, 3) := by decide +kernel
theorem dX6_blamed_5 : decode cX6_blamed 5 = .ok (.iload_n 2, 1) := by decide +kernel
theorem dX6_blamed_6 : decode cX6_blamed 6 = .ok (.iconst 0, 1) := by decide +kernel
theorem dX6_blamed_7 : decode cX6_blamed 7 = .ok (.iconst 2, 1) := by decide +kernel
theorem dX6_blamed_8 : decode cX6_blamed 8 = .ok (.invokestatic 74, 3) := by decide +kernel
theorem dX6_blamed_11 : decode cX6_blamed 11 = .ok (.invokevirtual 87, 3) := by decide +kernel
theorem dX6_blamed_14 : decode cX6_blamed 14 = .ok (.ifCond .eq 16, 3) := by decide +kernel
theorem dX6_blamed_17 : decode cX6_blamed 17 = .ok (.aload_n 0, 1) := by decide +kernel
theorem dX6_blamed_18 : decode cX6_blamed 18 = .ok (.getfield 58, 3) := by decide +kernel
theorem dX6_blamed_21 : decode cX6_blamed 21 = .ok (.iconst 3, 1) := by decide +kernel
theorem dX6_blamed_22 : decode cX6_blamed 22 = .ok (.iload_n 1, 1) := by decide +kernel
theorem dX6_blamed_23 : decode cX6_blamed 23 = .ok (.imul, 1) := by decide +kernel
theorem dX6_blamed_24 : decode cX6_blamed 24 = .ok (.iload_n 2, 1) := by decide +kernel
theorem dX6_blamed_25 : decode cX6_blamed 25 = .ok (.iadd, 1) := by decide +kernel
theorem dX6_blamed_26 : decode cX6_blamed 26 = .ok (.iaload, 1) := by decide +kernel
theorem dX6_blamed_27 : decode cX6_blamed 27 = .ok (.goto 4, 3) := by decide +kernel
theorem dX6_blamed_30 : decode cX6_blamed 30 = .ok (.iconst 0, 1) := by decide +kernel
theorem dX6_blamed_31 : decode cX6_blamed 31 = .ok (.ireturn, 1) := by decide +kernel
theorem dX6_isPerson_0 : decode cX6_isPerson 0 = .ok (.iload_n 0, 1) := by decide +kernel
theorem dX6_isPerson_1 : decode cX6_isPerson 1 = .ok (.iconst 0, 1) := by decide +kernel
theorem dX6_isPerson_2 : decode cX6_isPerson 2 = .ok (.iconst 4, 1) := by decide +kernel
theorem dX6_isPerson_3 : decode cX6_isPerson 3 = .ok (.invokestatic 74, 3) := by decide +kernel
theorem dX6_isPerson_6 : decode cX6_isPerson 6 = .ok (.ireturn, 1) := by decide +kernel
theorem dX6_shrinks_0 : decode cX6_shrinks 0 = .ok (.aload_n 0, 1) := by decide +kernel
theorem dX6_shrinks_1 : decode cX6_shrinks 1 = .ok (.iload_n 1, 1) := by decide +kernel
theorem dX6_shrinks_2 : decode cX6_shrinks 2 = .ok (.invokestatic 91, 3) := by decide +kernel
theorem dX6_shrinks_5 : decode cX6_shrinks 5 = .ok (.iload_n 2, 1) := by decide +kernel
theorem dX6_shrinks_6 : decode cX6_shrinks 6 = .ok (.iconst 0, 1) := by decide +kernel
theorem dX6_shrinks_7 : decode cX6_shrinks 7 = .ok (.bipush 90, 2) := by decide +kernel
theorem dX6_shrinks_9 : decode cX6_shrinks 9 = .ok (.invokestatic 74, 3) := by decide +kernel
theorem dX6_shrinks_12 : decode cX6_shrinks 12 = .ok (.invokevirtual 87, 3) := by decide +kernel
theorem dX6_shrinks_15 : decode cX6_shrinks 15 = .ok (.ifCond .ne 5, 3) := by decide +kernel
theorem dX6_shrinks_18 : decode cX6_shrinks 18 = .ok (.iconst 0, 1) := by decide +kernel
theorem dX6_shrinks_19 : decode cX6_shrinks 19 = .ok (.ireturn, 1) := by decide +kernel
theorem dX6_shrinks_20 : decode cX6_shrinks 20 = .ok (.aload_n 0, 1) := by decide +kernel
theorem dX6_shrinks_21 : decode cX6_shrinks 21 = .ok (.getfield 61, 3) := by decide +kernel
theorem dX6_shrinks_24 : decode cX6_shrinks 24 = .ok (.iload_n 1, 1) := by decide +kernel
theorem dX6_shrinks_25 : decode cX6_shrinks 25 = .ok (.iaload, 1) := by decide +kernel
theorem dX6_shrinks_26 : decode cX6_shrinks 26 = .ok (.istore_n 3, 1) := by decide +kernel
theorem dX6_shrinks_27 : decode cX6_shrinks 27 = .ok (.aload_n 0, 1) := by decide +kernel
theorem dX6_shrinks_28 : decode cX6_shrinks 28 = .ok (.getfield 61, 3) := by decide +kernel
theorem dX6_shrinks_31 : decode cX6_shrinks 31 = .ok (.iload_n 1, 1) := by decide +kernel
theorem dX6_shrinks_32 : decode cX6_shrinks 32 = .ok (.iload_n 2, 1) := by decide +kernel
theorem dX6_shrinks_33 : decode cX6_shrinks 33 = .ok (.iastore, 1) := by decide +kernel
theorem dX6_shrinks_34 : decode cX6_shrinks 34 = .ok (.iload_n 3, 1) := by decide +kernel
theorem dX6_shrinks_35 : decode cX6_shrinks 35 = .ok (.ireturn, 1) := by decide +kernel
theorem dX6_give_0 : decode cX6_give 0 = .ok (.iload_n 1, 1) := by decide +kernel
theorem dX6_give_1 : decode cX6_give 1 = .ok (.invokestatic 134, 3) := by decide +kernel
theorem dX6_give_4 : decode cX6_give 4 = .ok (.ifCond .eq 21, 3) := by decide +kernel
theorem dX6_give_7 : decode cX6_give 7 = .ok (.iload_n 2, 1) := by decide +kernel
theorem dX6_give_8 : decode cX6_give 8 = .ok (.invokestatic 134, 3) := by decide +kernel
theorem dX6_give_11 : decode cX6_give 11 = .ok (.ifCond .eq 14, 3) := by decide +kernel
theorem dX6_give_14 : decode cX6_give 14 = .ok (.iload_n 3, 1) := by decide +kernel
theorem dX6_give_15 : decode cX6_give 15 = .ok (.invokestatic 91, 3) := by decide +kernel
theorem dX6_give_18 : decode cX6_give 18 = .ok (.ifCond .eq 7, 3) := by decide +kernel
theorem dX6_give_21 : decode cX6_give 21 = .ok (.iconst 1, 1) := by decide +kernel
theorem dX6_give_22 : decode cX6_give 22 = .ok (.goto 4, 3) := by decide +kernel
theorem dX6_give_25 : decode cX6_give 25 = .ok (.iconst 0, 1) := by decide +kernel
theorem dX6_give_26 : decode cX6_give 26 = .ok (.istore 5, 2) := by decide +kernel
theorem dX6_give_28 : decode cX6_give 28 = .ok (.iload 5, 2) := by decide +kernel
theorem dX6_give_30 : decode cX6_give 30 = .ok (.ifCond .eq 24, 3) := by decide +kernel
theorem dX6_give_33 : decode cX6_give 33 = .ok (.iload_n 1, 1) := by decide +kernel
theorem dX6_give_34 : decode cX6_give 34 = .ok (.iload_n 2, 1) := by decide +kernel
theorem dX6_give_35 : decode cX6_give 35 = .ok (.if_icmp .eq 19, 3) := by decide +kernel
theorem dX6_give_38 : decode cX6_give 38 = .ok (.iload 4, 2) := by decide +kernel
theorem dX6_give_40 : decode cX6_give 40 = .ok (.iconst 1, 1) := by decide +kernel
theorem dX6_give_41 : decode cX6_give 41 = .ok (.sipush 1000, 3) := by decide +kernel
theorem dX6_give_44 : decode cX6_give 44 = .ok (.invokestatic 74, 3) := by decide +kernel
theorem dX6_give_47 : decode cX6_give 47 = .ok (.ifCond .eq 7, 3) := by decide +kernel
theorem dX6_give_50 : decode cX6_give 50 = .ok (.iconst 1, 1) := by decide +kernel
theorem dX6_give_51 : decode cX6_give 51 = .ok (.goto 4, 3) := by decide +kernel
theorem dX6_give_54 : decode cX6_give 54 = .ok (.iconst 0, 1) := by decide +kernel
theorem dX6_give_55 : decode cX6_give 55 = .ok (.istore 6, 2) := by decide +kernel
theorem dX6_give_57 : decode cX6_give 57 = .ok (.iload 6, 2) := by decide +kernel
theorem dX6_give_59 : decode cX6_give 59 = .ok (.ifCond .eq 24, 3) := by decide +kernel
theorem dX6_give_62 : decode cX6_give 62 = .ok (.iload 4, 2) := by decide +kernel
theorem dX6_give_64 : decode cX6_give 64 = .ok (.iload 4, 2) := by decide +kernel
theorem dX6_give_66 : decode cX6_give 66 = .ok (.aload_n 0, 1) := by decide +kernel
theorem dX6_give_67 : decode cX6_give 67 = .ok (.getfield 61, 3) := by decide +kernel
theorem dX6_give_70 : decode cX6_give 70 = .ok (.iload_n 3, 1) := by decide +kernel
theorem dX6_give_71 : decode cX6_give 71 = .ok (.iaload, 1) := by decide +kernel
theorem dX6_give_72 : decode cX6_give 72 = .ok (.imul, 1) := by decide +kernel
theorem dX6_give_73 : decode cX6_give 73 = .ok (.bipush 99, 2) := by decide +kernel
theorem dX6_give_75 : decode cX6_give 75 = .ok (.iadd, 1) := by decide +kernel
theorem dX6_give_76 : decode cX6_give 76 = .ok (.bipush 100, 2) := by decide +kernel
theorem dX6_give_78 : decode cX6_give 78 = .ok (.idiv, 1) := by decide +kernel
theorem dX6_give_79 : decode cX6_give 79 = .ok (.isub, 1) := by decide +kernel
theorem dX6_give_80 : decode cX6_give 80 = .ok (.goto 4, 3) := by decide +kernel
theorem dX6_give_83 : decode cX6_give 83 = .ok (.iconst 0, 1) := by decide +kernel
theorem dX6_give_84 : decode cX6_give 84 = .ok (.istore 7, 2) := by decide +kernel
theorem dX6_give_86 : decode cX6_give 86 = .ok (.iload 5, 2) := by decide +kernel
theorem dX6_give_88 : decode cX6_give 88 = .ok (.ifCond .eq 16, 3) := by decide +kernel
theorem dX6_give_91 : decode cX6_give 91 = .ok (.bipush 25, 2) := by decide +kernel
theorem dX6_give_93 : decode cX6_give 93 = .ok (.iload_n 3, 1) := by decide +kernel
theorem dX6_give_94 : decode cX6_give 94 = .ok (.imul, 1) := by decide +kernel
theorem dX6_give_95 : decode cX6_give 95 = .ok (.iconst 5, 1) := by decide +kernel
theorem dX6_give_96 : decode cX6_give 96 = .ok (.iload_n 2, 1) := by decide +kernel
theorem dX6_give_97 : decode cX6_give 97 = .ok (.imul, 1) := by decide +kernel
theorem dX6_give_98 : decode cX6_give 98 = .ok (.iadd, 1) := by decide +kernel
theorem dX6_give_99 : decode cX6_give 99 = .ok (.iload_n 1, 1) := by decide +kernel
theorem dX6_give_100 : decode cX6_give 100 = .ok (.iadd, 1) := by decide +kernel
theorem dX6_give_101 : decode cX6_give 101 = .ok (.goto 4, 3) := by decide +kernel
theorem dX6_give_104 : decode cX6_give 104 = .ok (.iconst 0, 1) := by decide +kernel
theorem dX6_give_105 : decode cX6_give 105 = .ok (.istore 8, 2) := by decide +kernel
theorem dX6_give_107 : decode cX6_give 107 = .ok (.aload_n 0, 1) := by decide +kernel
theorem dX6_give_108 : decode cX6_give 108 = .ok (.iload 5, 2) := by decide +kernel
theorem dX6_give_110 : decode cX6_give 110 = .ok (.iload 6, 2) := by decide +kernel
theorem dX6_give_112 : decode cX6_give 112 = .ok (.aload_n 0, 1) := by decide +kernel
theorem dX6_give_113 : decode cX6_give 113 = .ok (.getfield 64, 3) := by decide +kernel
theorem dX6_give_116 : decode cX6_give 116 = .ok (.iload 8, 2) := by decide +kernel
theorem dX6_give_118 : decode cX6_give 118 = .ok (.iaload, 1) := by decide +kernel
theorem dX6_give_119 : decode cX6_give 119 = .ok (.iload 7, 2) := by decide +kernel
theorem dX6_give_121 : decode cX6_give 121 = .ok (.iadd, 1) := by decide +kernel
theorem dX6_give_122 : decode cX6_give 122 = .ok (.ldc 137, 2) := by decide +kernel
theorem dX6_give_124 : decode cX6_give 124 = .ok (.if_icmp .gt 7, 3) := by decide +kernel
theorem dX6_give_127 : decode cX6_give 127 = .ok (.iconst 1, 1) := by decide +kernel
theorem dX6_give_128 : decode cX6_give 128 = .ok (.goto 4, 3) := by decide +kernel
theorem dX6_give_131 : decode cX6_give 131 = .ok (.iconst 0, 1) := by decide +kernel
theorem dX6_give_132 : decode cX6_give 132 = .ok (.invokevirtual 109, 3) := by decide +kernel
theorem dX6_give_135 : decode cX6_give 135 = .ok (.ifCond .ne 5, 3) := by decide +kernel
theorem dX6_give_138 : decode cX6_give 138 = .ok (.iconst 0, 1) := by decide +kernel
theorem dX6_give_139 : decode cX6_give 139 = .ok (.ireturn, 1) := by decide +kernel
theorem dX6_give_140 : decode cX6_give 140 = .ok (.aload_n 0, 1) := by decide +kernel
theorem dX6_give_141 : decode cX6_give 141 = .ok (.getfield 64, 3) := by decide +kernel
theorem dX6_give_144 : decode cX6_give 144 = .ok (.iload 8, 2) := by decide +kernel
theorem dX6_give_146 : decode cX6_give 146 = .ok (.dup2, 1) := by decide +kernel
theorem dX6_give_147 : decode cX6_give 147 = .ok (.iaload, 1) := by decide +kernel
theorem dX6_give_148 : decode cX6_give 148 = .ok (.iload 7, 2) := by decide +kernel
theorem dX6_give_150 : decode cX6_give 150 = .ok (.iadd, 1) := by decide +kernel
theorem dX6_give_151 : decode cX6_give 151 = .ok (.iastore, 1) := by decide +kernel
theorem dX6_give_152 : decode cX6_give 152 = .ok (.aload_n 0, 1) := by decide +kernel
theorem dX6_give_153 : decode cX6_give 153 = .ok (.getfield 64, 3) := by decide +kernel
theorem dX6_give_156 : decode cX6_give 156 = .ok (.iload 8, 2) := by decide +kernel
theorem dX6_give_158 : decode cX6_give 158 = .ok (.iaload, 1) := by decide +kernel
theorem dX6_give_159 : decode cX6_give 159 = .ok (.ireturn, 1) := by decide +kernel
theorem dX6_owes_0 : decode cX6_owes 0 = .ok (.aload_n 0, 1) := by decide +kernel
theorem dX6_owes_1 : decode cX6_owes 1 = .ok (.iload_n 1, 1) := by decide +kernel
theorem dX6_owes_2 : decode cX6_owes 2 = .ok (.invokestatic 134, 3) := by decide +kernel
theorem dX6_owes_5 : decode cX6_owes 5 = .ok (.ifCond .eq 21, 3) := by decide +kernel
theorem dX6_owes_8 : decode cX6_owes 8 = .ok (.iload_n 2, 1) := by decide +kernel
theorem dX6_owes_9 : decode cX6_owes 9 = .ok (.invokestatic 134, 3) := by decide +kernel
theorem dX6_owes_12 : decode cX6_owes 12 = .ok (.ifCond .eq 14, 3) := by decide +kernel
theorem dX6_owes_15 : decode cX6_owes 15 = .ok (.iload_n 3, 1) := by decide +kernel
theorem dX6_owes_16 : decode cX6_owes 16 = .ok (.invokestatic 91, 3) := by decide +kernel
theorem dX6_owes_19 : decode cX6_owes 19 = .ok (.ifCond .eq 7, 3) := by decide +kernel
theorem dX6_owes_22 : decode cX6_owes 22 = .ok (.iconst 1, 1) := by decide +kernel
theorem dX6_owes_23 : decode cX6_owes 23 = .ok (.goto 4, 3) := by decide +kernel
theorem dX6_owes_26 : decode cX6_owes 26 = .ok (.iconst 0, 1) := by decide +kernel
theorem dX6_owes_27 : decode cX6_owes 27 = .ok (.invokevirtual 98, 3) := by decide +kernel
theorem dX6_owes_30 : decode cX6_owes 30 = .ok (.ifCond .eq 21, 3) := by decide +kernel
theorem dX6_owes_33 : decode cX6_owes 33 = .ok (.aload_n 0, 1) := by decide +kernel
theorem dX6_owes_34 : decode cX6_owes 34 = .ok (.getfield 64, 3) := by decide +kernel
theorem dX6_owes_37 : decode cX6_owes 37 = .ok (.bipush 25, 2) := by decide +kernel
theorem dX6_owes_39 : decode cX6_owes 39 = .ok (.iload_n 3, 1) := by decide +kernel
theorem dX6_owes_40 : decode cX6_owes 40 = .ok (.imul, 1) := by decide +kernel
theorem dX6_owes_41 : decode cX6_owes 41 = .ok (.iconst 5, 1) := by decide +kernel
theorem dX6_owes_42 : decode cX6_owes 42 = .ok (.iload_n 1, 1) := by decide +kernel
theorem dX6_owes_43 : decode cX6_owes 43 = .ok (.imul, 1) := by decide +kernel
theorem dX6_owes_44 : decode cX6_owes 44 = .ok (.iadd, 1) := by decide +kernel
theorem dX6_owes_45 : decode cX6_owes 45 = .ok (.iload_n 2, 1) := by decide +kernel
theorem dX6_owes_46 : decode cX6_owes 46 = .ok (.iadd, 1) := by decide +kernel
theorem dX6_owes_47 : decode cX6_owes 47 = .ok (.iaload, 1) := by decide +kernel
theorem dX6_owes_48 : decode cX6_owes 48 = .ok (.goto 4, 3) := by decide +kernel
theorem dX6_owes_51 : decode cX6_owes 51 = .ok (.iconst 0, 1) := by decide +kernel
theorem dX6_owes_52 : decode cX6_owes 52 = .ok (.ireturn, 1) := by decide +kernel
theorem dX6_positionOf_0 : decode cX6_positionOf 0 = .ok (.iconst 0, 1) := by decide +kernel
theorem dX6_positionOf_1 : decode cX6_positionOf 1 = .ok (.istore_n 3, 1) := by decide +kernel
theorem dX6_positionOf_2 : decode cX6_positionOf 2 = .ok (.iconst 0, 1) := by decide +kernel
theorem dX6_positionOf_3 : decode cX6_positionOf 3 = .ok (.istore 4, 2) := by decide +kernel
theorem dX6_positionOf_5 : decode cX6_positionOf 5 = .ok (.iload 4, 2) := by decide +kernel
theorem dX6_positionOf_7 : decode cX6_positionOf 7 = .ok (.iconst 5, 1) := by decide +kernel
theorem dX6_positionOf_8 : decode cX6_positionOf 8 = .ok (.if_icmp .ge 45, 3) := by decide +kernel
theorem dX6_positionOf_11 : decode cX6_positionOf 11 = .ok (.iload_n 3, 1) := by decide +kernel
theorem dX6_positionOf_12 : decode cX6_positionOf 12 = .ok (.aload_n 0, 1) := by decide +kernel
theorem dX6_positionOf_13 : decode cX6_positionOf 13 = .ok (.getfield 64, 3) := by decide +kernel
theorem dX6_positionOf_16 : decode cX6_positionOf 16 = .ok (.bipush 25, 2) := by decide +kernel
theorem dX6_positionOf_18 : decode cX6_positionOf 18 = .ok (.iload_n 2, 1) := by decide +kernel
theorem dX6_positionOf_19 : decode cX6_positionOf 19 = .ok (.imul, 1) := by decide +kernel
theorem dX6_positionOf_20 : decode cX6_positionOf 20 = .ok (.iconst 5, 1) := by decide +kernel
theorem dX6_positionOf_21 : decode cX6_positionOf 21 = .ok (.iload 4, 2) := by decide +kernel
theorem dX6_positionOf_23 : decode cX6_positionOf 23 = .ok (.imul, 1) := by decide +kernel
theorem dX6_positionOf_24 : decode cX6_positionOf 24 = .ok (.iadd, 1) := by decide +kernel
theorem dX6_positionOf_25 : decode cX6_positionOf 25 = .ok (.iload_n 1, 1) := by decide +kernel
theorem dX6_positionOf_26 : decode cX6_positionOf 26 = .ok (.iadd, 1) := by decide +kernel
theorem dX6_positionOf_27 : decode cX6_positionOf 27 = .ok (.iaload, 1) := by decide +kernel
theorem dX6_positionOf_28 : decode cX6_positionOf 28 = .ok (.aload_n 0, 1) := by decide +kernel
theorem dX6_positionOf_29 : decode cX6_positionOf 29 = .ok (.getfield 64, 3) := by decide +kernel
theorem dX6_positionOf_32 : decode cX6_positionOf 32 = .ok (.bipush 25, 2) := by decide +kernel
theorem dX6_positionOf_34 : decode cX6_positionOf 34 = .ok (.iload_n 2, 1) := by decide +kernel
theorem dX6_positionOf_35 : decode cX6_positionOf 35 = .ok (.imul, 1) := by decide +kernel
theorem dX6_positionOf_36 : decode cX6_positionOf 36 = .ok (.iconst 5, 1) := by decide +kernel
theorem dX6_positionOf_37 : decode cX6_positionOf 37 = .ok (.iload_n 1, 1) := by decide +kernel
theorem dX6_positionOf_38 : decode cX6_positionOf 38 = .ok (.imul, 1) := by decide +kernel
theorem dX6_positionOf_39 : decode cX6_positionOf 39 = .ok (.iadd, 1) := by decide +kernel
theorem dX6_positionOf_40 : decode cX6_positionOf 40 = .ok (.iload 4, 2) := by decide +kernel
theorem dX6_positionOf_42 : decode cX6_positionOf 42 = .ok (.iadd, 1) := by decide +kernel
theorem dX6_positionOf_43 : decode cX6_positionOf 43 = .ok (.iaload, 1) := by decide +kernel
theorem dX6_positionOf_44 : decode cX6_positionOf 44 = .ok (.isub, 1) := by decide +kernel
theorem dX6_positionOf_45 : decode cX6_positionOf 45 = .ok (.iadd, 1) := by decide +kernel
theorem dX6_positionOf_46 : decode cX6_positionOf 46 = .ok (.istore_n 3, 1) := by decide +kernel
theorem dX6_positionOf_47 : decode cX6_positionOf 47 = .ok (.iinc 4 1, 3) := by decide +kernel
theorem dX6_positionOf_50 : decode cX6_positionOf 50 = .ok (.goto (-45), 3) := by decide +kernel
theorem dX6_positionOf_53 : decode cX6_positionOf 53 = .ok (.iload_n 3, 1) := by decide +kernel
theorem dX6_positionOf_54 : decode cX6_positionOf 54 = .ok (.ireturn, 1) := by decide +kernel
theorem dX6_position_0 : decode cX6_position 0 = .ok (.aload_n 0, 1) := by decide +kernel
theorem dX6_position_1 : decode cX6_position 1 = .ok (.iload_n 1, 1) := by decide +kernel
theorem dX6_position_2 : decode cX6_position 2 = .ok (.invokestatic 134, 3) := by decide +kernel
theorem dX6_position_5 : decode cX6_position 5 = .ok (.ifCond .eq 14, 3) := by decide +kernel
theorem dX6_position_8 : decode cX6_position 8 = .ok (.iload_n 2, 1) := by decide +kernel
theorem dX6_position_9 : decode cX6_position 9 = .ok (.invokestatic 91, 3) := by decide +kernel
theorem dX6_position_12 : decode cX6_position 12 = .ok (.ifCond .eq 7, 3) := by decide +kernel
theorem dX6_position_15 : decode cX6_position 15 = .ok (.iconst 1, 1) := by decide +kernel
theorem dX6_position_16 : decode cX6_position 16 = .ok (.goto 4, 3) := by decide +kernel
theorem dX6_position_19 : decode cX6_position 19 = .ok (.iconst 0, 1) := by decide +kernel
theorem dX6_position_20 : decode cX6_position 20 = .ok (.invokevirtual 98, 3) := by decide +kernel
theorem dX6_position_23 : decode cX6_position 23 = .ok (.ifCond .eq 12, 3) := by decide +kernel
theorem dX6_position_26 : decode cX6_position 26 = .ok (.aload_n 0, 1) := by decide +kernel
theorem dX6_position_27 : decode cX6_position 27 = .ok (.iload_n 1, 1) := by decide +kernel
theorem dX6_position_28 : decode cX6_position 28 = .ok (.iload_n 2, 1) := by decide +kernel
theorem dX6_position_29 : decode cX6_position 29 = .ok (.invokevirtual 138, 3) := by decide +kernel
theorem dX6_position_32 : decode cX6_position 32 = .ok (.goto 4, 3) := by decide +kernel
theorem dX6_position_35 : decode cX6_position 35 = .ok (.iconst 0, 1) := by decide +kernel
theorem dX6_position_36 : decode cX6_position 36 = .ok (.ireturn, 1) := by decide +kernel
theorem dX6_net_0 : decode cX6_net 0 = .ok (.aload_n 0, 1) := by decide +kernel
theorem dX6_net_1 : decode cX6_net 1 = .ok (.iload_n 1, 1) := by decide +kernel
theorem dX6_net_2 : decode cX6_net 2 = .ok (.invokestatic 91, 3) := by decide +kernel
theorem dX6_net_5 : decode cX6_net 5 = .ok (.invokevirtual 98, 3) := by decide +kernel
theorem dX6_net_8 : decode cX6_net 8 = .ok (.ifCond .ne 5, 3) := by decide +kernel
theorem dX6_net_11 : decode cX6_net 11 = .ok (.iconst 0, 1) := by decide +kernel
theorem dX6_net_12 : decode cX6_net 12 = .ok (.ireturn, 1) := by decide +kernel
theorem dX6_net_13 : decode cX6_net 13 = .ok (.iconst 0, 1) := by decide +kernel
theorem dX6_net_14 : decode cX6_net 14 = .ok (.istore_n 2, 1) := by decide +kernel
theorem dX6_net_15 : decode cX6_net 15 = .ok (.iload_n 2, 1) := by decide +kernel
theorem dX6_net_16 : decode cX6_net 16 = .ok (.iconst 5, 1) := by decide +kernel
theorem dX6_net_17 : decode cX6_net 17 = .ok (.if_icmp .ge 21, 3) := by decide +kernel
theorem dX6_net_20 : decode cX6_net 20 = .ok (.aload_n 0, 1) := by decide +kernel
theorem dX6_net_21 : decode cX6_net 21 = .ok (.getfield 67, 3) := by decide +kernel
theorem dX6_net_24 : decode cX6_net 24 = .ok (.iload_n 2, 1) := by decide +kernel
theorem dX6_net_25 : decode cX6_net 25 = .ok (.aload_n 0, 1) := by decide +kernel
theorem dX6_net_26 : decode cX6_net 26 = .ok (.iload_n 2, 1) := by decide +kernel
theorem dX6_net_27 : decode cX6_net 27 = .ok (.iload_n 1, 1) := by decide +kernel
theorem dX6_net_28 : decode cX6_net 28 = .ok (.invokevirtual 138, 3) := by decide +kernel
theorem dX6_net_31 : decode cX6_net 31 = .ok (.iastore, 1) := by decide +kernel
theorem dX6_net_32 : decode cX6_net 32 = .ok (.iinc 2 1, 3) := by decide +kernel
theorem dX6_net_35 : decode cX6_net 35 = .ok (.goto (-20), 3) := by decide +kernel
theorem dX6_net_38 : decode cX6_net 38 = .ok (.iconst 0, 1) := by decide +kernel
theorem dX6_net_39 : decode cX6_net 39 = .ok (.istore_n 2, 1) := by decide +kernel
theorem dX6_net_40 : decode cX6_net 40 = .ok (.iload_n 2, 1) := by decide +kernel
theorem dX6_net_41 : decode cX6_net 41 = .ok (.bipush 25, 2) := by decide +kernel
theorem dX6_net_43 : decode cX6_net 43 = .ok (.if_icmp .ge 21, 3) := by decide +kernel
theorem dX6_net_46 : decode cX6_net 46 = .ok (.aload_n 0, 1) := by decide +kernel
theorem dX6_net_47 : decode cX6_net 47 = .ok (.getfield 64, 3) := by decide +kernel
theorem dX6_net_50 : decode cX6_net 50 = .ok (.bipush 25, 2) := by decide +kernel
theorem dX6_net_52 : decode cX6_net 52 = .ok (.iload_n 1, 1) := by decide +kernel
theorem dX6_net_53 : decode cX6_net 53 = .ok (.imul, 1) := by decide +kernel
theorem dX6_net_54 : decode cX6_net 54 = .ok (.iload_n 2, 1) := by decide +kernel
theorem dX6_net_55 : decode cX6_net 55 = .ok (.iadd, 1) := by decide +kernel
theorem dX6_net_56 : decode cX6_net 56 = .ok (.iconst 0, 1) := by decide +kernel
theorem dX6_net_57 : decode cX6_net 57 = .ok (.iastore, 1) := by decide +kernel
theorem dX6_net_58 : decode cX6_net 58 = .ok (.iinc 2 1, 3) := by decide +kernel
theorem dX6_net_61 : decode cX6_net 61 = .ok (.goto (-21), 3) := by decide +kernel
theorem dX6_net_64 : decode cX6_net 64 = .ok (.iconst 0, 1) := by decide +kernel
theorem dX6_net_65 : decode cX6_net 65 = .ok (.istore_n 2, 1) := by decide +kernel
theorem dX6_net_66 : decode cX6_net 66 = .ok (.iconst 0, 1) := by decide +kernel
theorem dX6_net_67 : decode cX6_net 67 = .ok (.istore_n 3, 1) := by decide +kernel
theorem dX6_net_68 : decode cX6_net 68 = .ok (.iconst 0, 1) := by decide +kernel
theorem dX6_net_69 : decode cX6_net 69 = .ok (.istore 4, 2) := by decide +kernel
theorem dX6_net_71 : decode cX6_net 71 = .ok (.iload_n 3, 1) := by decide +kernel
theorem dX6_net_72 : decode cX6_net 72 = .ok (.iconst 5, 1) := by decide +kernel
theorem dX6_net_73 : decode cX6_net 73 = .ok (.if_icmp .ge 123, 3) := by decide +kernel
theorem dX6_net_76 : decode cX6_net 76 = .ok (.iload 4, 2) := by decide +kernel
theorem dX6_net_78 : decode cX6_net 78 = .ok (.iconst 5, 1) := by decide +kernel
theorem dX6_net_79 : decode cX6_net 79 = .ok (.if_icmp .ge 117, 3) := by decide +kernel
theorem dX6_net_82 : decode cX6_net 82 = .ok (.aload_n 0, 1) := by decide +kernel
theorem dX6_net_83 : decode cX6_net 83 = .ok (.getfield 67, 3) := by decide +kernel
theorem dX6_net_86 : decode cX6_net 86 = .ok (.iload_n 3, 1) := by decide +kernel
theorem dX6_net_87 : decode cX6_net 87 = .ok (.iaload, 1) := by decide +kernel
theorem dX6_net_88 : decode cX6_net 88 = .ok (.ifCond .lt 9, 3) := by decide +kernel
theorem dX6_net_91 : decode cX6_net 91 = .ok (.iinc 3 1, 3) := by decide +kernel
theorem dX6_net_94 : decode cX6_net 94 = .ok (.goto (-23), 3) := by decide +kernel
theorem dX6_net_97 : decode cX6_net 97 = .ok (.aload_n 0, 1) := by decide +kernel
theorem dX6_net_98 : decode cX6_net 98 = .ok (.getfield 67, 3) := by decide +kernel
theorem dX6_net_101 : decode cX6_net 101 = .ok (.iload 4, 2) := by decide +kernel
theorem dX6_net_103 : decode cX6_net 103 = .ok (.iaload, 1) := by decide +kernel
theorem dX6_net_104 : decode cX6_net 104 = .ok (.ifCond .gt 9, 3) := by decide +kernel
theorem dX6_net_107 : decode cX6_net 107 = .ok (.iinc 4 1, 3) := by decide +kernel
theorem dX6_net_110 : decode cX6_net 110 = .ok (.goto (-39), 3) := by decide +kernel
theorem dX6_net_113 : decode cX6_net 113 = .ok (.aload_n 0, 1) := by decide +kernel
theorem dX6_net_114 : decode cX6_net 114 = .ok (.getfield 67, 3) := by decide +kernel
theorem dX6_net_117 : decode cX6_net 117 = .ok (.iload_n 3, 1) := by decide +kernel
theorem dX6_net_118 : decode cX6_net 118 = .ok (.iaload, 1) := by decide +kernel
theorem dX6_net_119 : decode cX6_net 119 = .ok (.ineg, 1) := by decide +kernel
theorem dX6_net_120 : decode cX6_net 120 = .ok (.aload_n 0, 1) := by decide +kernel
theorem dX6_net_121 : decode cX6_net 121 = .ok (.getfield 67, 3) := by decide +kernel
theorem dX6_net_124 : decode cX6_net 124 = .ok (.iload 4, 2) := by decide +kernel
theorem dX6_net_126 : decode cX6_net 126 = .ok (.iaload, 1) := by decide +kernel
theorem dX6_net_127 : decode cX6_net 127 = .ok (.if_icmp .ge 13, 3) := by decide +kernel
theorem dX6_net_130 : decode cX6_net 130 = .ok (.aload_n 0, 1) := by decide +kernel
theorem dX6_net_131 : decode cX6_net 131 = .ok (.getfield 67, 3) := by decide +kernel
theorem dX6_net_134 : decode cX6_net 134 = .ok (.iload_n 3, 1) := by decide +kernel
theorem dX6_net_135 : decode cX6_net 135 = .ok (.iaload, 1) := by decide +kernel
theorem dX6_net_136 : decode cX6_net 136 = .ok (.ineg, 1) := by decide +kernel
theorem dX6_net_137 : decode cX6_net 137 = .ok (.goto 10, 3) := by decide +kernel
theorem dX6_net_140 : decode cX6_net 140 = .ok (.aload_n 0, 1) := by decide +kernel
theorem dX6_net_141 : decode cX6_net 141 = .ok (.getfield 67, 3) := by decide +kernel
theorem dX6_net_144 : decode cX6_net 144 = .ok (.iload 4, 2) := by decide +kernel
theorem dX6_net_146 : decode cX6_net 146 = .ok (.iaload, 1) := by decide +kernel
theorem dX6_net_147 : decode cX6_net 147 = .ok (.istore 5, 2) := by decide +kernel
theorem dX6_net_149 : decode cX6_net 149 = .ok (.aload_n 0, 1) := by decide +kernel
theorem dX6_net_150 : decode cX6_net 150 = .ok (.getfield 64, 3) := by decide +kernel
theorem dX6_net_153 : decode cX6_net 153 = .ok (.bipush 25, 2) := by decide +kernel
theorem dX6_net_155 : decode cX6_net 155 = .ok (.iload_n 1, 1) := by decide +kernel
theorem dX6_net_156 : decode cX6_net 156 = .ok (.imul, 1) := by decide +kernel
theorem dX6_net_157 : decode cX6_net 157 = .ok (.iconst 5, 1) := by decide +kernel
theorem dX6_net_158 : decode cX6_net 158 = .ok (.iload_n 3, 1) := by decide +kernel
theorem dX6_net_159 : decode cX6_net 159 = .ok (.imul, 1) := by decide +kernel
theorem dX6_net_160 : decode cX6_net 160 = .ok (.iadd, 1) := by decide +kernel
theorem dX6_net_161 : decode cX6_net 161 = .ok (.iload 4, 2) := by decide +kernel
theorem dX6_net_163 : decode cX6_net 163 = .ok (.iadd, 1) := by decide +kernel
theorem dX6_net_164 : decode cX6_net 164 = .ok (.iload 5, 2) := by decide +kernel
theorem dX6_net_166 : decode cX6_net 166 = .ok (.iastore, 1) := by decide +kernel
theorem dX6_net_167 : decode cX6_net 167 = .ok (.aload_n 0, 1) := by decide +kernel
theorem dX6_net_168 : decode cX6_net 168 = .ok (.getfield 67, 3) := by decide +kernel
theorem dX6_net_171 : decode cX6_net 171 = .ok (.iload_n 3, 1) := by decide +kernel
theorem dX6_net_172 : decode cX6_net 172 = .ok (.dup2, 1) := by decide +kernel
theorem dX6_net_173 : decode cX6_net 173 = .ok (.iaload, 1) := by decide +kernel
theorem dX6_net_174 : decode cX6_net 174 = .ok (.iload 5, 2) := by decide +kernel
theorem dX6_net_176 : decode cX6_net 176 = .ok (.iadd, 1) := by decide +kernel
theorem dX6_net_177 : decode cX6_net 177 = .ok (.iastore, 1) := by decide +kernel
theorem dX6_net_178 : decode cX6_net 178 = .ok (.aload_n 0, 1) := by decide +kernel
theorem dX6_net_179 : decode cX6_net 179 = .ok (.getfield 67, 3) := by decide +kernel
theorem dX6_net_182 : decode cX6_net 182 = .ok (.iload 4, 2) := by decide +kernel
theorem dX6_net_184 : decode cX6_net 184 = .ok (.dup2, 1) := by decide +kernel
theorem dX6_net_185 : decode cX6_net 185 = .ok (.iaload, 1) := by decide +kernel
theorem dX6_net_186 : decode cX6_net 186 = .ok (.iload 5, 2) := by decide +kernel
theorem dX6_net_188 : decode cX6_net 188 = .ok (.isub, 1) := by decide +kernel
theorem dX6_net_189 : decode cX6_net 189 = .ok (.iastore, 1) := by decide +kernel
theorem dX6_net_190 : decode cX6_net 190 = .ok (.iinc 2 1, 3) := by decide +kernel
theorem dX6_net_193 : decode cX6_net 193 = .ok (.goto (-122), 3) := by decide +kernel
theorem dX6_net_196 : decode cX6_net 196 = .ok (.iload_n 2, 1) := by decide +kernel
theorem dX6_net_197 : decode cX6_net 197 = .ok (.ireturn, 1) := by decide +kernel
theorem dJ9_abs_0f7a4_0 : decode cJ9_abs_0f7a4 0 = .ok (.iload_n 0, 1) := by decide +kernel
theorem dJ9_abs_0f7a4_1 : decode cJ9_abs_0f7a4 1 = .ok (.ifCond .ge 8, 3) := by decide +kernel
theorem dJ9_abs_0f7a4_4 : decode cJ9_abs_0f7a4 4 = .ok (.iload_n 0, 1) := by decide +kernel
theorem dJ9_abs_0f7a4_5 : decode cJ9_abs_0f7a4 5 = .ok (.ineg, 1) := by decide +kernel
theorem dJ9_abs_0f7a4_6 : decode cJ9_abs_0f7a4 6 = .ok (.goto 4, 3) := by decide +kernel
theorem dJ9_abs_0f7a4_9 : decode cJ9_abs_0f7a4 9 = .ok (.iload_n 0, 1) := by decide +kernel
theorem dJ9_abs_0f7a4_10 : decode cJ9_abs_0f7a4 10 = .ok (.ireturn, 1) := by decide +kernel
theorem dJ9_max_7cf53_0 : decode cJ9_max_7cf53 0 = .ok (.iload_n 0, 1) := by decide +kernel
theorem dJ9_max_7cf53_1 : decode cJ9_max_7cf53 1 = .ok (.iload_n 1, 1) := by decide +kernel
theorem dJ9_max_7cf53_2 : decode cJ9_max_7cf53 2 = .ok (.if_icmp .lt 7, 3) := by decide +kernel
theorem dJ9_max_7cf53_5 : decode cJ9_max_7cf53 5 = .ok (.iload_n 0, 1) := by decide +kernel
theorem dJ9_max_7cf53_6 : decode cJ9_max_7cf53 6 = .ok (.goto 4, 3) := by decide +kernel
theorem dJ9_max_7cf53_9 : decode cJ9_max_7cf53 9 = .ok (.iload_n 1, 1) := by decide +kernel
theorem dJ9_max_7cf53_10 : decode cJ9_max_7cf53 10 = .ok (.ireturn, 1) := by decide +kernel
theorem dJ9_min_7cf53_0 : decode cJ9_min_7cf53 0 = .ok (.iload_n 0, 1) := by decide +kernel
theorem dJ9_min_7cf53_1 : decode cJ9_min_7cf53 1 = .ok (.iload_n 1, 1) := by decide +kernel
theorem dJ9_min_7cf53_2 : decode cJ9_min_7cf53 2 = .ok (.if_icmp .gt 7, 3) := by decide +kernel
theorem dJ9_min_7cf53_5 : decode cJ9_min_7cf53 5 = .ok (.iload_n 0, 1) := by decide +kernel
theorem dJ9_min_7cf53_6 : decode cJ9_min_7cf53 6 = .ok (.goto 4, 3) := by decide +kernel
theorem dJ9_min_7cf53_9 : decode cJ9_min_7cf53 9 = .ok (.iload_n 1, 1) := by decide +kernel
theorem dJ9_min_7cf53_10 : decode cJ9_min_7cf53 10 = .ok (.ireturn, 1) := by decide +kernel
theorem dJxa1e45_init_da8c8_0 : decode cJxa1e45_init_da8c8 0 = .ok (.aload_n 0, 1) := by decide +kernel
theorem dJxa1e45_init_da8c8_1 : decode cJxa1e45_init_da8c8 1 = .ok (.invokespecial 1, 3) := by decide +kernel
theorem dJxa1e45_init_da8c8_4 : decode cJxa1e45_init_da8c8 4 = .ok (.return_, 1) := by decide +kernel
theorem dJxc12de_init_da8c8_0 : decode cJxc12de_init_da8c8 0 = .ok (.aload_n 0, 1) := by decide +kernel
theorem dJxc12de_init_da8c8_1 : decode cJxc12de_init_da8c8 1 = .ok (.invokespecial 1, 3) := by decide +kernel
theorem dJxc12de_init_da8c8_4 : decode cJxc12de_init_da8c8 4 = .ok (.aload_n 0, 1) := by decide +kernel
theorem dJxc12de_init_da8c8_5 : decode cJxc12de_init_da8c8 5 = .ok (.iconst 0, 1) := by decide +kernel
theorem dJxc12de_init_da8c8_6 : decode cJxc12de_init_da8c8 6 = .ok (.putfield 7, 3) := by decide +kernel
theorem dJxc12de_init_da8c8_9 : decode cJxc12de_init_da8c8 9 = .ok (.return_, 1) := by decide +kernel
theorem dJx4a65c_init_da8c8_0 : decode cJx4a65c_init_da8c8 0 = .ok (.aload_n 0, 1) := by decide +kernel
theorem dJx4a65c_init_da8c8_1 : decode cJx4a65c_init_da8c8 1 = .ok (.invokespecial 1, 3) := by decide +kernel
theorem dJx4a65c_init_da8c8_4 : decode cJx4a65c_init_da8c8 4 = .ok (.aload_n 0, 1) := by decide +kernel
theorem dJx4a65c_init_da8c8_5 : decode cJx4a65c_init_da8c8 5 = .ok (.getstatic 39, 3) := by decide +kernel
theorem dJx4a65c_init_da8c8_8 : decode cJx4a65c_init_da8c8 8 = .ok (.putfield 9, 3) := by decide +kernel
theorem dJx4a65c_init_da8c8_11 : decode cJx4a65c_init_da8c8 11 = .ok (.return_, 1) := by decide +kernel
theorem dJx4a65c_grow_92f84_0 : decode cJx4a65c_grow_92f84 0 = .ok (.aload_n 0, 1) := by decide +kernel
theorem dJx4a65c_grow_92f84_1 : decode cJx4a65c_grow_92f84 1 = .ok (.getfield 9, 3) := by decide +kernel
theorem dJx4a65c_grow_92f84_4 : decode cJx4a65c_grow_92f84 4 = .ok (.arraylength, 1) := by decide +kernel
theorem dJx4a65c_grow_92f84_5 : decode cJx4a65c_grow_92f84 5 = .ok (.istore_n 2, 1) := by decide +kernel
theorem dJx4a65c_grow_92f84_6 : decode cJx4a65c_grow_92f84 6 = .ok (.iload_n 2, 1) := by decide +kernel
theorem dJx4a65c_grow_92f84_7 : decode cJx4a65c_grow_92f84 7 = .ok (.ifCond .gt 13, 3) := by decide +kernel
theorem dJx4a65c_grow_92f84_10 : decode cJx4a65c_grow_92f84 10 = .ok (.aload_n 0, 1) := by decide +kernel
theorem dJx4a65c_grow_92f84_11 : decode cJx4a65c_grow_92f84 11 = .ok (.getfield 9, 3) := by decide +kernel
theorem dJx4a65c_grow_92f84_14 : decode cJx4a65c_grow_92f84 14 = .ok (.getstatic 39, 3) := by decide +kernel
theorem dJx4a65c_grow_92f84_17 : decode cJx4a65c_grow_92f84 17 = .ok (.if_acmp .eq 28, 3) := by decide +kernel
theorem dJx4a65c_grow_92f84_20 : decode cJx4a65c_grow_92f84 20 = .ok (.iload_n 2, 1) := by decide +kernel
theorem dJx4a65c_grow_92f84_21 : decode cJx4a65c_grow_92f84 21 = .ok (.iload_n 1, 1) := by decide +kernel
theorem dJx4a65c_grow_92f84_22 : decode cJx4a65c_grow_92f84 22 = .ok (.iload_n 2, 1) := by decide +kernel
theorem dJx4a65c_grow_92f84_23 : decode cJx4a65c_grow_92f84 23 = .ok (.isub, 1) := by decide +kernel
theorem dJx4a65c_grow_92f84_24 : decode cJx4a65c_grow_92f84 24 = .ok (.iload_n 2, 1) := by decide +kernel
theorem dJx4a65c_grow_92f84_25 : decode cJx4a65c_grow_92f84 25 = .ok (.iconst 1, 1) := by decide +kernel
theorem dJx4a65c_grow_92f84_26 : decode cJx4a65c_grow_92f84 26 = .ok (.ishr, 1) := by decide +kernel
theorem dJx4a65c_grow_92f84_27 : decode cJx4a65c_grow_92f84 27 = .ok (.invokestatic 73, 3) := by decide +kernel
theorem dJx4a65c_grow_92f84_30 : decode cJx4a65c_grow_92f84 30 = .ok (.istore_n 3, 1) := by decide +kernel
theorem dJx4a65c_grow_92f84_31 : decode cJx4a65c_grow_92f84 31 = .ok (.aload_n 0, 1) := by decide +kernel
theorem dJx4a65c_grow_92f84_32 : decode cJx4a65c_grow_92f84 32 = .ok (.aload_n 0, 1) := by decide +kernel
theorem dJx4a65c_grow_92f84_33 : decode cJx4a65c_grow_92f84 33 = .ok (.getfield 9, 3) := by decide +kernel
theorem dJx4a65c_grow_92f84_36 : decode cJx4a65c_grow_92f84 36 = .ok (.iload_n 3, 1) := by decide +kernel
theorem dJx4a65c_grow_92f84_37 : decode cJx4a65c_grow_92f84 37 = .ok (.invokestatic 66, 3) := by decide +kernel
theorem dJx4a65c_grow_92f84_40 : decode cJx4a65c_grow_92f84 40 = .ok (.dup_x1, 1) := by decide +kernel
theorem dJx4a65c_grow_92f84_41 : decode cJx4a65c_grow_92f84 41 = .ok (.putfield 9, 3) := by decide +kernel
theorem dJx4a65c_grow_92f84_44 : decode cJx4a65c_grow_92f84 44 = .ok (.areturn, 1) := by decide +kernel
theorem dJx4a65c_grow_92f84_45 : decode cJx4a65c_grow_92f84 45 = .ok (.aload_n 0, 1) := by decide +kernel
theorem dJx4a65c_grow_92f84_46 : decode cJx4a65c_grow_92f84 46 = .ok (.bipush 10, 2) := by decide +kernel
theorem dJx4a65c_grow_92f84_48 : decode cJx4a65c_grow_92f84 48 = .ok (.iload_n 1, 1) := by decide +kernel
theorem dJx4a65c_grow_92f84_49 : decode cJx4a65c_grow_92f84 49 = .ok (.invokestatic 79, 3) := by decide +kernel
theorem dJx4a65c_grow_92f84_52 : decode cJx4a65c_grow_92f84 52 = .ok (.anewarray 7, 3) := by decide +kernel
theorem dJx4a65c_grow_92f84_55 : decode cJx4a65c_grow_92f84 55 = .ok (.dup_x1, 1) := by decide +kernel
theorem dJx4a65c_grow_92f84_56 : decode cJx4a65c_grow_92f84 56 = .ok (.putfield 9, 3) := by decide +kernel
theorem dJx4a65c_grow_92f84_59 : decode cJx4a65c_grow_92f84 59 = .ok (.areturn, 1) := by decide +kernel
theorem dJx4a65c_grow_d5877_0 : decode cJx4a65c_grow_d5877 0 = .ok (.aload_n 0, 1) := by decide +kernel
theorem dJx4a65c_grow_d5877_1 : decode cJx4a65c_grow_d5877 1 = .ok (.aload_n 0, 1) := by decide +kernel
theorem dJx4a65c_grow_d5877_2 : decode cJx4a65c_grow_d5877 2 = .ok (.getfield 48, 3) := by decide +kernel
theorem dJx4a65c_grow_d5877_5 : decode cJx4a65c_grow_d5877 5 = .ok (.iconst 1, 1) := by decide +kernel
theorem dJx4a65c_grow_d5877_6 : decode cJx4a65c_grow_d5877 6 = .ok (.iadd, 1) := by decide +kernel
theorem dJx4a65c_grow_d5877_7 : decode cJx4a65c_grow_d5877 7 = .ok (.invokevirtual 69, 3) := by decide +kernel
theorem dJx4a65c_grow_d5877_10 : decode cJx4a65c_grow_d5877 10 = .ok (.areturn, 1) := by decide +kernel
theorem dJx4a65c_size_8abf5_0 : decode cJx4a65c_size_8abf5 0 = .ok (.aload_n 0, 1) := by decide +kernel
theorem dJx4a65c_size_8abf5_1 : decode cJx4a65c_size_8abf5 1 = .ok (.getfield 48, 3) := by decide +kernel
theorem dJx4a65c_size_8abf5_4 : decode cJx4a65c_size_8abf5 4 = .ok (.ireturn, 1) := by decide +kernel
theorem dJx4a65c_elementData_915e3_0 : decode cJx4a65c_elementData_915e3 0 = .ok (.aload_n 0, 1) := by decide +kernel
theorem dJx4a65c_elementData_915e3_1 : decode cJx4a65c_elementData_915e3 1 = .ok (.getfield 9, 3) := by decide +kernel
theorem dJx4a65c_elementData_915e3_4 : decode cJx4a65c_elementData_915e3 4 = .ok (.iload_n 1, 1) := by decide +kernel
theorem dJx4a65c_elementData_915e3_5 : decode cJx4a65c_elementData_915e3 5 = .ok (.aaload, 1) := by decide +kernel
theorem dJx4a65c_elementData_915e3_6 : decode cJx4a65c_elementData_915e3 6 = .ok (.areturn, 1) := by decide +kernel
theorem dJx4a65c_get_915e3_0 : decode cJx4a65c_get_915e3 0 = .ok (.iload_n 1, 1) := by decide +kernel
theorem dJx4a65c_get_915e3_1 : decode cJx4a65c_get_915e3 1 = .ok (.aload_n 0, 1) := by decide +kernel
theorem dJx4a65c_get_915e3_2 : decode cJx4a65c_get_915e3 2 = .ok (.getfield 48, 3) := by decide +kernel
theorem dJx4a65c_get_915e3_5 : decode cJx4a65c_get_915e3 5 = .ok (.invokestatic 118, 3) := by decide +kernel
theorem dJx4a65c_get_915e3_8 : decode cJx4a65c_get_915e3 8 = .ok (.pop, 1) := by decide +kernel
theorem dJx4a65c_get_915e3_9 : decode cJx4a65c_get_915e3 9 = .ok (.aload_n 0, 1) := by decide +kernel
theorem dJx4a65c_get_915e3_10 : decode cJx4a65c_get_915e3 10 = .ok (.iload_n 1, 1) := by decide +kernel
theorem dJx4a65c_get_915e3_11 : decode cJx4a65c_get_915e3 11 = .ok (.invokevirtual 123, 3) := by decide +kernel
theorem dJx4a65c_get_915e3_14 : decode cJx4a65c_get_915e3 14 = .ok (.areturn, 1) := by decide +kernel
theorem dJx4a65c_add_72be8_0 : decode cJx4a65c_add_72be8 0 = .ok (.iload_n 3, 1) := by decide +kernel
theorem dJx4a65c_add_72be8_1 : decode cJx4a65c_add_72be8 1 = .ok (.aload_n 2, 1) := by decide +kernel
theorem dJx4a65c_add_72be8_2 : decode cJx4a65c_add_72be8 2 = .ok (.arraylength, 1) := by decide +kernel
theorem dJx4a65c_add_72be8_3 : decode cJx4a65c_add_72be8 3 = .ok (.if_icmp .ne 8, 3) := by decide +kernel
theorem dJx4a65c_add_72be8_6 : decode cJx4a65c_add_72be8 6 = .ok (.aload_n 0, 1) := by decide +kernel
theorem dJx4a65c_add_72be8_7 : decode cJx4a65c_add_72be8 7 = .ok (.invokevirtual 129, 3) := by decide +kernel
theorem dJx4a65c_add_72be8_10 : decode cJx4a65c_add_72be8 10 = .ok (.astore_n 2, 1) := by decide +kernel
theorem dJx4a65c_add_72be8_11 : decode cJx4a65c_add_72be8 11 = .ok (.aload_n 2, 1) := by decide +kernel
theorem dJx4a65c_add_72be8_12 : decode cJx4a65c_add_72be8 12 = .ok (.iload_n 3, 1) := by decide +kernel
theorem dJx4a65c_add_72be8_13 : decode cJx4a65c_add_72be8 13 = .ok (.aload_n 1, 1) := by decide +kernel
theorem dJx4a65c_add_72be8_14 : decode cJx4a65c_add_72be8 14 = .ok (.aastore, 1) := by decide +kernel
theorem dJx4a65c_add_72be8_15 : decode cJx4a65c_add_72be8 15 = .ok (.aload_n 0, 1) := by decide +kernel
theorem dJx4a65c_add_72be8_16 : decode cJx4a65c_add_72be8 16 = .ok (.iload_n 3, 1) := by decide +kernel
theorem dJx4a65c_add_72be8_17 : decode cJx4a65c_add_72be8 17 = .ok (.iconst 1, 1) := by decide +kernel
theorem dJx4a65c_add_72be8_18 : decode cJx4a65c_add_72be8 18 = .ok (.iadd, 1) := by decide +kernel
theorem dJx4a65c_add_72be8_19 : decode cJx4a65c_add_72be8 19 = .ok (.putfield 48, 3) := by decide +kernel
theorem dJx4a65c_add_72be8_22 : decode cJx4a65c_add_72be8 22 = .ok (.return_, 1) := by decide +kernel
theorem dJx4a65c_add_9ea2d_0 : decode cJx4a65c_add_9ea2d 0 = .ok (.aload_n 0, 1) := by decide +kernel
theorem dJx4a65c_add_9ea2d_1 : decode cJx4a65c_add_9ea2d 1 = .ok (.dup, 1) := by decide +kernel
theorem dJx4a65c_add_9ea2d_2 : decode cJx4a65c_add_9ea2d 2 = .ok (.getfield 63, 3) := by decide +kernel
theorem dJx4a65c_add_9ea2d_5 : decode cJx4a65c_add_9ea2d 5 = .ok (.iconst 1, 1) := by decide +kernel
theorem dJx4a65c_add_9ea2d_6 : decode cJx4a65c_add_9ea2d 6 = .ok (.iadd, 1) := by decide +kernel
theorem dJx4a65c_add_9ea2d_7 : decode cJx4a65c_add_9ea2d 7 = .ok (.putfield 63, 3) := by decide +kernel
theorem dJx4a65c_add_9ea2d_10 : decode cJx4a65c_add_9ea2d 10 = .ok (.aload_n 0, 1) := by decide +kernel
theorem dJx4a65c_add_9ea2d_11 : decode cJx4a65c_add_9ea2d 11 = .ok (.aload_n 1, 1) := by decide +kernel
theorem dJx4a65c_add_9ea2d_12 : decode cJx4a65c_add_9ea2d 12 = .ok (.aload_n 0, 1) := by decide +kernel
theorem dJx4a65c_add_9ea2d_13 : decode cJx4a65c_add_9ea2d 13 = .ok (.getfield 9, 3) := by decide +kernel
theorem dJx4a65c_add_9ea2d_16 : decode cJx4a65c_add_9ea2d 16 = .ok (.aload_n 0, 1) := by decide +kernel
theorem dJx4a65c_add_9ea2d_17 : decode cJx4a65c_add_9ea2d 17 = .ok (.getfield 48, 3) := by decide +kernel
theorem dJx4a65c_add_9ea2d_20 : decode cJx4a65c_add_9ea2d 20 = .ok (.invokevirtual 131, 3) := by decide +kernel
theorem dJx4a65c_add_9ea2d_23 : decode cJx4a65c_add_9ea2d 23 = .ok (.iconst 1, 1) := by decide +kernel
theorem dJx4a65c_add_9ea2d_24 : decode cJx4a65c_add_9ea2d 24 = .ok (.ireturn, 1) := by decide +kernel
theorem dJ7_fill_53178_0 : decode cJ7_fill_53178 0 = .ok (.iconst 0, 1) := by decide +kernel
theorem dJ7_fill_53178_1 : decode cJ7_fill_53178 1 = .ok (.istore_n 2, 1) := by decide +kernel
theorem dJ7_fill_53178_2 : decode cJ7_fill_53178 2 = .ok (.aload_n 0, 1) := by decide +kernel
theorem dJ7_fill_53178_3 : decode cJ7_fill_53178 3 = .ok (.arraylength, 1) := by decide +kernel
theorem dJ7_fill_53178_4 : decode cJ7_fill_53178 4 = .ok (.istore_n 3, 1) := by decide +kernel
theorem dJ7_fill_53178_5 : decode cJ7_fill_53178 5 = .ok (.iload_n 2, 1) := by decide +kernel
theorem dJ7_fill_53178_6 : decode cJ7_fill_53178 6 = .ok (.iload_n 3, 1) := by decide +kernel
theorem dJ7_fill_53178_7 : decode cJ7_fill_53178 7 = .ok (.if_icmp .ge 13, 3) := by decide +kernel
theorem dJ7_fill_53178_10 : decode cJ7_fill_53178 10 = .ok (.aload_n 0, 1) := by decide +kernel
theorem dJ7_fill_53178_11 : decode cJ7_fill_53178 11 = .ok (.iload_n 2, 1) := by decide +kernel
theorem dJ7_fill_53178_12 : decode cJ7_fill_53178 12 = .ok (.iload_n 1, 1) := by decide +kernel
theorem dJ7_fill_53178_13 : decode cJ7_fill_53178 13 = .ok (.iastore, 1) := by decide +kernel
theorem dJ7_fill_53178_14 : decode cJ7_fill_53178 14 = .ok (.iinc 2 1, 3) := by decide +kernel
theorem dJ7_fill_53178_17 : decode cJ7_fill_53178 17 = .ok (.goto (-12), 3) := by decide +kernel
theorem dJ7_fill_53178_20 : decode cJ7_fill_53178 20 = .ok (.return_, 1) := by decide +kernel
theorem dJ7_copyOf_1904c_0 : decode cJ7_copyOf_1904c 0 = .ok (.aload_n 0, 1) := by decide +kernel
theorem dJ7_copyOf_1904c_1 : decode cJ7_copyOf_1904c 1 = .ok (.iload_n 1, 1) := by decide +kernel
theorem dJ7_copyOf_1904c_2 : decode cJ7_copyOf_1904c 2 = .ok (.aload_n 0, 1) := by decide +kernel
theorem dJ7_copyOf_1904c_3 : decode cJ7_copyOf_1904c 3 = .ok (.invokevirtual 86, 3) := by decide +kernel
theorem dJ7_copyOf_1904c_6 : decode cJ7_copyOf_1904c 6 = .ok (.invokestatic 300, 3) := by decide +kernel
theorem dJ7_copyOf_1904c_9 : decode cJ7_copyOf_1904c 9 = .ok (.areturn, 1) := by decide +kernel
theorem dJ7_copyOf_6403c_0 : decode cJ7_copyOf_6403c 0 = .ok (.aload_n 2, 1) := by decide +kernel
theorem dJ7_copyOf_6403c_1 : decode cJ7_copyOf_6403c 1 = .ok (.ldc 110, 2) := by decide +kernel
theorem dJ7_copyOf_6403c_3 : decode cJ7_copyOf_6403c 3 = .ok (.if_acmp .ne 10, 3) := by decide +kernel
theorem dJ7_copyOf_6403c_6 : decode cJ7_copyOf_6403c 6 = .ok (.iload_n 1, 1) := by decide +kernel
theorem dJ7_copyOf_6403c_7 : decode cJ7_copyOf_6403c 7 = .ok (.anewarray 2, 3) := by decide +kernel
theorem dJ7_copyOf_6403c_10 : decode cJ7_copyOf_6403c 10 = .ok (.goto 14, 3) := by decide +kernel
theorem dJ7_copyOf_6403c_13 : decode cJ7_copyOf_6403c 13 = .ok (.aload_n 2, 1) := by decide +kernel
theorem dJ7_copyOf_6403c_14 : decode cJ7_copyOf_6403c 14 = .ok (.invokevirtual 90, 3) := by decide +kernel
theorem dJ7_copyOf_6403c_17 : decode cJ7_copyOf_6403c 17 = .ok (.iload_n 1, 1) := by decide +kernel
theorem dJ7_copyOf_6403c_18 : decode cJ7_copyOf_6403c 18 = .ok (.invokestatic 95, 3) := by decide +kernel
theorem dJ7_copyOf_6403c_21 : decode cJ7_copyOf_6403c 21 = .ok (.checkcast 110, 3) := by decide +kernel
theorem dJ7_copyOf_6403c_24 : decode cJ7_copyOf_6403c 24 = .ok (.astore_n 3, 1) := by decide +kernel
theorem dJ7_copyOf_6403c_25 : decode cJ7_copyOf_6403c 25 = .ok (.aload_n 0, 1) := by decide +kernel
theorem dJ7_copyOf_6403c_26 : decode cJ7_copyOf_6403c 26 = .ok (.iconst 0, 1) := by decide +kernel
theorem dJ7_copyOf_6403c_27 : decode cJ7_copyOf_6403c 27 = .ok (.aload_n 3, 1) := by decide +kernel
theorem dJ7_copyOf_6403c_28 : decode cJ7_copyOf_6403c 28 = .ok (.iconst 0, 1) := by decide +kernel
theorem dJ7_copyOf_6403c_29 : decode cJ7_copyOf_6403c 29 = .ok (.aload_n 0, 1) := by decide +kernel
theorem dJ7_copyOf_6403c_30 : decode cJ7_copyOf_6403c 30 = .ok (.arraylength, 1) := by decide +kernel
theorem dJ7_copyOf_6403c_31 : decode cJ7_copyOf_6403c 31 = .ok (.iload_n 1, 1) := by decide +kernel
theorem dJ7_copyOf_6403c_32 : decode cJ7_copyOf_6403c 32 = .ok (.invokestatic 304, 3) := by decide +kernel
theorem dJ7_copyOf_6403c_35 : decode cJ7_copyOf_6403c 35 = .ok (.invokestatic 150, 3) := by decide +kernel
theorem dJ7_copyOf_6403c_38 : decode cJ7_copyOf_6403c 38 = .ok (.aload_n 3, 1) := by decide +kernel
theorem dJ7_copyOf_6403c_39 : decode cJ7_copyOf_6403c 39 = .ok (.areturn, 1) := by decide +kernel
theorem dJ15_checkIndex_7cf53_0 : decode cJ15_checkIndex_7cf53 0 = .ok (.iload_n 0, 1) := by decide +kernel
theorem dJ15_checkIndex_7cf53_1 : decode cJ15_checkIndex_7cf53 1 = .ok (.iload_n 1, 1) := by decide +kernel
theorem dJ15_checkIndex_7cf53_2 : decode cJ15_checkIndex_7cf53 2 = .ok (.aconst_null, 1) := by decide +kernel
theorem dJ15_checkIndex_7cf53_3 : decode cJ15_checkIndex_7cf53 3 = .ok (.invokestatic 105, 3) := by decide +kernel
theorem dJ15_checkIndex_7cf53_6 : decode cJ15_checkIndex_7cf53 6 = .ok (.ireturn, 1) := by decide +kernel
theorem dJ8_newLength_cabcc_0 : decode cJ8_newLength_cabcc 0 = .ok (.iload_n 0, 1) := by decide +kernel
theorem dJ8_newLength_cabcc_1 : decode cJ8_newLength_cabcc 1 = .ok (.iload_n 1, 1) := by decide +kernel
theorem dJ8_newLength_cabcc_2 : decode cJ8_newLength_cabcc 2 = .ok (.iload_n 2, 1) := by decide +kernel
theorem dJ8_newLength_cabcc_3 : decode cJ8_newLength_cabcc 3 = .ok (.invokestatic 194, 3) := by decide +kernel
theorem dJ8_newLength_cabcc_6 : decode cJ8_newLength_cabcc 6 = .ok (.iadd, 1) := by decide +kernel
theorem dJ8_newLength_cabcc_7 : decode cJ8_newLength_cabcc 7 = .ok (.istore_n 3, 1) := by decide +kernel
theorem dJ8_newLength_cabcc_8 : decode cJ8_newLength_cabcc 8 = .ok (.iconst 0, 1) := by decide +kernel
theorem dJ8_newLength_cabcc_9 : decode cJ8_newLength_cabcc 9 = .ok (.iload_n 3, 1) := by decide +kernel
theorem dJ8_newLength_cabcc_10 : decode cJ8_newLength_cabcc 10 = .ok (.if_icmp .ge 11, 3) := by decide +kernel
theorem dJ8_newLength_cabcc_13 : decode cJ8_newLength_cabcc 13 = .ok (.iload_n 3, 1) := by decide +kernel
theorem dJ8_newLength_cabcc_14 : decode cJ8_newLength_cabcc 14 = .ok (.ldc 200, 2) := by decide +kernel
theorem dJ8_newLength_cabcc_16 : decode cJ8_newLength_cabcc 16 = .ok (.if_icmp .gt 5, 3) := by decide +kernel
theorem dJ8_newLength_cabcc_19 : decode cJ8_newLength_cabcc 19 = .ok (.iload_n 3, 1) := by decide +kernel
theorem dJ8_newLength_cabcc_20 : decode cJ8_newLength_cabcc 20 = .ok (.ireturn, 1) := by decide +kernel
theorem dJ8_newLength_cabcc_21 : decode cJ8_newLength_cabcc 21 = .ok (.iload_n 0, 1) := by decide +kernel
theorem dJ8_newLength_cabcc_22 : decode cJ8_newLength_cabcc 22 = .ok (.iload_n 1, 1) := by decide +kernel
theorem dJ8_newLength_cabcc_23 : decode cJ8_newLength_cabcc 23 = .ok (.invokestatic 201, 3) := by decide +kernel
theorem dJ8_newLength_cabcc_26 : decode cJ8_newLength_cabcc 26 = .ok (.ireturn, 1) := by decide +kernel
theorem dJ8_hugeLength_7cf53_0 : decode cJ8_hugeLength_7cf53 0 = .ok (.iload_n 0, 1) := by decide +kernel
theorem dJ8_hugeLength_7cf53_1 : decode cJ8_hugeLength_7cf53 1 = .ok (.iload_n 1, 1) := by decide +kernel
theorem dJ8_hugeLength_7cf53_2 : decode cJ8_hugeLength_7cf53 2 = .ok (.iadd, 1) := by decide +kernel
theorem dJ8_hugeLength_7cf53_3 : decode cJ8_hugeLength_7cf53 3 = .ok (.istore_n 2, 1) := by decide +kernel
theorem dJ8_hugeLength_7cf53_4 : decode cJ8_hugeLength_7cf53 4 = .ok (.iload_n 2, 1) := by decide +kernel
theorem dJ8_hugeLength_7cf53_5 : decode cJ8_hugeLength_7cf53 5 = .ok (.ifCond .ge 44, 3) := by decide +kernel
theorem dJ8_hugeLength_7cf53_8 : decode cJ8_hugeLength_7cf53 8 = .ok (.new 204, 3) := by decide +kernel
theorem dJ8_hugeLength_7cf53_11 : decode cJ8_hugeLength_7cf53 11 = .ok (.dup, 1) := by decide +kernel
theorem dJ8_hugeLength_7cf53_12 : decode cJ8_hugeLength_7cf53 12 = .ok (.new 89, 3) := by decide +kernel
theorem dJ8_hugeLength_7cf53_15 : decode cJ8_hugeLength_7cf53 15 = .ok (.dup, 1) := by decide +kernel
theorem dJ8_hugeLength_7cf53_16 : decode cJ8_hugeLength_7cf53 16 = .ok (.invokespecial 91, 3) := by decide +kernel
theorem dJ8_hugeLength_7cf53_19 : decode cJ8_hugeLength_7cf53 19 = .ok (.ldc 206, 2) := by decide +kernel
theorem dJ8_hugeLength_7cf53_21 : decode cJ8_hugeLength_7cf53 21 = .ok (.invokevirtual 94, 3) := by decide +kernel
theorem dJ8_hugeLength_7cf53_24 : decode cJ8_hugeLength_7cf53 24 = .ok (.iload_n 0, 1) := by decide +kernel
theorem dJ8_hugeLength_7cf53_25 : decode cJ8_hugeLength_7cf53 25 = .ok (.invokevirtual 98, 3) := by decide +kernel
theorem dJ8_hugeLength_7cf53_28 : decode cJ8_hugeLength_7cf53 28 = .ok (.ldc 208, 2) := by decide +kernel
theorem dJ8_hugeLength_7cf53_30 : decode cJ8_hugeLength_7cf53 30 = .ok (.invokevirtual 94, 3) := by decide +kernel
theorem dJ8_hugeLength_7cf53_33 : decode cJ8_hugeLength_7cf53 33 = .ok (.iload_n 1, 1) := by decide +kernel
theorem dJ8_hugeLength_7cf53_34 : decode cJ8_hugeLength_7cf53 34 = .ok (.invokevirtual 98, 3) := by decide +kernel
theorem dJ8_hugeLength_7cf53_37 : decode cJ8_hugeLength_7cf53 37 = .ok (.ldc 210, 2) := by decide +kernel
theorem dJ8_hugeLength_7cf53_39 : decode cJ8_hugeLength_7cf53 39 = .ok (.invokevirtual 94, 3) := by decide +kernel
theorem dJ8_hugeLength_7cf53_42 : decode cJ8_hugeLength_7cf53 42 = .ok (.invokevirtual 101, 3) := by decide +kernel
theorem dJ8_hugeLength_7cf53_45 : decode cJ8_hugeLength_7cf53 45 = .ok (.invokespecial 212, 3) := by decide +kernel
theorem dJ8_hugeLength_7cf53_48 : decode cJ8_hugeLength_7cf53 48 = .ok (.athrow, 1) := by decide +kernel
theorem dJ8_hugeLength_7cf53_49 : decode cJ8_hugeLength_7cf53 49 = .ok (.iload_n 2, 1) := by decide +kernel
theorem dJ8_hugeLength_7cf53_50 : decode cJ8_hugeLength_7cf53 50 = .ok (.ldc 200, 2) := by decide +kernel
theorem dJ8_hugeLength_7cf53_52 : decode cJ8_hugeLength_7cf53 52 = .ok (.if_icmp .gt 6, 3) := by decide +kernel
theorem dJ8_hugeLength_7cf53_55 : decode cJ8_hugeLength_7cf53 55 = .ok (.ldc 200, 2) := by decide +kernel
theorem dJ8_hugeLength_7cf53_57 : decode cJ8_hugeLength_7cf53 57 = .ok (.ireturn, 1) := by decide +kernel
theorem dJ8_hugeLength_7cf53_58 : decode cJ8_hugeLength_7cf53 58 = .ok (.iload_n 2, 1) := by decide +kernel
theorem dJ8_hugeLength_7cf53_59 : decode cJ8_hugeLength_7cf53 59 = .ok (.ireturn, 1) := by decide +kernel
theorem dJ3_checkIndex_8e157_0 : decode cJ3_checkIndex_8e157 0 = .ok (.iload_n 0, 1) := by decide +kernel
theorem dJ3_checkIndex_8e157_1 : decode cJ3_checkIndex_8e157 1 = .ok (.ifCond .lt 8, 3) := by decide +kernel
theorem dJ3_checkIndex_8e157_4 : decode cJ3_checkIndex_8e157 4 = .ok (.iload_n 0, 1) := by decide +kernel
theorem dJ3_checkIndex_8e157_5 : decode cJ3_checkIndex_8e157 5 = .ok (.iload_n 1, 1) := by decide +kernel
theorem dJ3_checkIndex_8e157_6 : decode cJ3_checkIndex_8e157 6 = .ok (.if_icmp .lt 10, 3) := by decide +kernel
theorem dJ3_checkIndex_8e157_9 : decode cJ3_checkIndex_8e157 9 = .ok (.aload_n 2, 1) := by decide +kernel
theorem dJ3_checkIndex_8e157_10 : decode cJ3_checkIndex_8e157 10 = .ok (.iload_n 0, 1) := by decide +kernel
theorem dJ3_checkIndex_8e157_11 : decode cJ3_checkIndex_8e157 11 = .ok (.iload_n 1, 1) := by decide +kernel
theorem dJ3_checkIndex_8e157_12 : decode cJ3_checkIndex_8e157 12 = .ok (.invokestatic 95, 3) := by decide +kernel
theorem dJ3_checkIndex_8e157_15 : decode cJ3_checkIndex_8e157 15 = .ok (.athrow, 1) := by decide +kernel
theorem dJ3_checkIndex_8e157_16 : decode cJ3_checkIndex_8e157 16 = .ok (.iload_n 0, 1) := by decide +kernel
theorem dJ3_checkIndex_8e157_17 : decode cJ3_checkIndex_8e157 17 = .ok (.ireturn, 1) := by decide +kernel
theorem dL_entry_0 : decode cL_entry 0 = .ok (.aload 4, 2) := by decide +kernel
theorem dL_entry_2 : decode cL_entry 2 = .ok (.iconst 0, 1) := by decide +kernel
theorem dL_entry_3 : decode cL_entry 3 = .ok (.aload_n 0, 1) := by decide +kernel
theorem dL_entry_4 : decode cL_entry 4 = .ok (.iload_n 1, 1) := by decide +kernel
theorem dL_entry_5 : decode cL_entry 5 = .ok (.iload_n 2, 1) := by decide +kernel
theorem dL_entry_6 : decode cL_entry 6 = .ok (.iload_n 3, 1) := by decide +kernel
theorem dL_entry_7 : decode cL_entry 7 = .ok (.invokevirtual 7, 3) := by decide +kernel
theorem dL_entry_10 : decode cL_entry 10 = .ok (.i2l, 1) := by decide +kernel
theorem dL_entry_11 : decode cL_entry 11 = .ok (.lastore, 1) := by decide +kernel
theorem dL_entry_12 : decode cL_entry 12 = .ok (.goto 11, 3) := by decide +kernel
theorem dL_entry_15 : decode cL_entry 15 = .ok (.astore 5, 2) := by decide +kernel
theorem dL_entry_17 : decode cL_entry 17 = .ok (.iconst 1, 1) := by decide +kernel
theorem dL_entry_18 : decode cL_entry 18 = .ok (.ireturn, 1) := by decide +kernel
theorem dL_entry_19 : decode cL_entry 19 = .ok (.astore 5, 2) := by decide +kernel
theorem dL_entry_21 : decode cL_entry 21 = .ok (.iconst 2, 1) := by decide +kernel
theorem dL_entry_22 : decode cL_entry 22 = .ok (.ireturn, 1) := by decide +kernel
theorem dL_entry_23 : decode cL_entry 23 = .ok (.iconst 0, 1) := by decide +kernel
theorem dL_entry_24 : decode cL_entry 24 = .ok (.ireturn, 1) := by decide +kernel
theorem dL_water_0 : decode cL_water 0 = .ok (.aload_n 3, 1) := by decide +kernel
theorem dL_water_1 : decode cL_water 1 = .ok (.iconst 0, 1) := by decide +kernel
theorem dL_water_2 : decode cL_water 2 = .ok (.aload_n 0, 1) := by decide +kernel
theorem dL_water_3 : decode cL_water 3 = .ok (.iload_n 1, 1) := by decide +kernel
theorem dL_water_4 : decode cL_water 4 = .ok (.iload_n 2, 1) := by decide +kernel
theorem dL_water_5 : decode cL_water 5 = .ok (.invokevirtual 17, 3) := by decide +kernel
theorem dL_water_8 : decode cL_water 8 = .ok (.i2l, 1) := by decide +kernel
theorem dL_water_9 : decode cL_water 9 = .ok (.lastore, 1) := by decide +kernel
theorem dL_water_10 : decode cL_water 10 = .ok (.goto 11, 3) := by decide +kernel
theorem dL_water_13 : decode cL_water 13 = .ok (.astore 4, 2) := by decide +kernel
theorem dL_water_15 : decode cL_water 15 = .ok (.iconst 1, 1) := by decide +kernel
theorem dL_water_16 : decode cL_water 16 = .ok (.ireturn, 1) := by decide +kernel
theorem dL_water_17 : decode cL_water 17 = .ok (.astore 4, 2) := by decide +kernel
theorem dL_water_19 : decode cL_water 19 = .ok (.iconst 2, 1) := by decide +kernel
theorem dL_water_20 : decode cL_water 20 = .ok (.ireturn, 1) := by decide +kernel
theorem dL_water_21 : decode cL_water 21 = .ok (.iconst 0, 1) := by decide +kernel
theorem dL_water_22 : decode cL_water 22 = .ok (.ireturn, 1) := by decide +kernel
theorem dL_yarn_0 : decode cL_yarn 0 = .ok (.aload 4, 2) := by decide +kernel
theorem dL_yarn_2 : decode cL_yarn 2 = .ok (.iconst 0, 1) := by decide +kernel
theorem dL_yarn_3 : decode cL_yarn 3 = .ok (.aload_n 0, 1) := by decide +kernel
theorem dL_yarn_4 : decode cL_yarn 4 = .ok (.iload_n 1, 1) := by decide +kernel
theorem dL_yarn_5 : decode cL_yarn 5 = .ok (.iload_n 2, 1) := by decide +kernel
theorem dL_yarn_6 : decode cL_yarn 6 = .ok (.iload_n 3, 1) := by decide +kernel
theorem dL_yarn_7 : decode cL_yarn 7 = .ok (.invokevirtual 23, 3) := by decide +kernel
theorem dL_yarn_10 : decode cL_yarn 10 = .ok (.i2l, 1) := by decide +kernel
theorem dL_yarn_11 : decode cL_yarn 11 = .ok (.lastore, 1) := by decide +kernel
theorem dL_yarn_12 : decode cL_yarn 12 = .ok (.goto 11, 3) := by decide +kernel
theorem dL_yarn_15 : decode cL_yarn 15 = .ok (.astore 5, 2) := by decide +kernel
theorem dL_yarn_17 : decode cL_yarn 17 = .ok (.iconst 1, 1) := by decide +kernel
theorem dL_yarn_18 : decode cL_yarn 18 = .ok (.ireturn, 1) := by decide +kernel
theorem dL_yarn_19 : decode cL_yarn 19 = .ok (.astore 5, 2) := by decide +kernel
theorem dL_yarn_21 : decode cL_yarn 21 = .ok (.iconst 2, 1) := by decide +kernel
theorem dL_yarn_22 : decode cL_yarn 22 = .ok (.ireturn, 1) := by decide +kernel
theorem dL_yarn_23 : decode cL_yarn 23 = .ok (.iconst 0, 1) := by decide +kernel
theorem dL_yarn_24 : decode cL_yarn 24 = .ok (.ireturn, 1) := by decide +kernel
theorem dL_apart_0 : decode cL_apart 0 = .ok (.aload_n 3, 1) := by decide +kernel
theorem dL_apart_1 : decode cL_apart 1 = .ok (.iconst 0, 1) := by decide +kernel
theorem dL_apart_2 : decode cL_apart 2 = .ok (.aload_n 0, 1) := by decide +kernel
theorem dL_apart_3 : decode cL_apart 3 = .ok (.iload_n 1, 1) := by decide +kernel
theorem dL_apart_4 : decode cL_apart 4 = .ok (.iload_n 2, 1) := by decide +kernel
theorem dL_apart_5 : decode cL_apart 5 = .ok (.invokevirtual 26, 3) := by decide +kernel
theorem dL_apart_8 : decode cL_apart 8 = .ok (.i2l, 1) := by decide +kernel
theorem dL_apart_9 : decode cL_apart 9 = .ok (.lastore, 1) := by decide +kernel
theorem dL_apart_10 : decode cL_apart 10 = .ok (.goto 7, 3) := by decide +kernel
theorem dL_apart_13 : decode cL_apart 13 = .ok (.astore 4, 2) := by decide +kernel
theorem dL_apart_15 : decode cL_apart 15 = .ok (.iconst 1, 1) := by decide +kernel
theorem dL_apart_16 : decode cL_apart 16 = .ok (.ireturn, 1) := by decide +kernel
theorem dL_apart_17 : decode cL_apart 17 = .ok (.iconst 0, 1) := by decide +kernel
theorem dL_apart_18 : decode cL_apart 18 = .ok (.ireturn, 1) := by decide +kernel
theorem dL_bath_0 : decode cL_bath 0 = .ok (.aload_n 3, 1) := by decide +kernel
theorem dL_bath_1 : decode cL_bath 1 = .ok (.iconst 0, 1) := by decide +kernel
theorem dL_bath_2 : decode cL_bath 2 = .ok (.aload_n 0, 1) := by decide +kernel
theorem dL_bath_3 : decode cL_bath 3 = .ok (.iload_n 1, 1) := by decide +kernel
theorem dL_bath_4 : decode cL_bath 4 = .ok (.iload_n 2, 1) := by decide +kernel
theorem dL_bath_5 : decode cL_bath 5 = .ok (.invokevirtual 29, 3) := by decide +kernel
theorem dL_bath_8 : decode cL_bath 8 = .ok (.i2l, 1) := by decide +kernel
theorem dL_bath_9 : decode cL_bath 9 = .ok (.lastore, 1) := by decide +kernel
theorem dL_bath_10 : decode cL_bath 10 = .ok (.goto 11, 3) := by decide +kernel
theorem dL_bath_13 : decode cL_bath 13 = .ok (.astore 4, 2) := by decide +kernel
theorem dL_bath_15 : decode cL_bath 15 = .ok (.iconst 1, 1) := by decide +kernel
theorem dL_bath_16 : decode cL_bath 16 = .ok (.ireturn, 1) := by decide +kernel
theorem dL_bath_17 : decode cL_bath 17 = .ok (.astore 4, 2) := by decide +kernel
theorem dL_bath_19 : decode cL_bath 19 = .ok (.iconst 2, 1) := by decide +kernel
theorem dL_bath_20 : decode cL_bath 20 = .ok (.ireturn, 1) := by decide +kernel
theorem dL_bath_21 : decode cL_bath 21 = .ok (.iconst 0, 1) := by decide +kernel
theorem dL_bath_22 : decode cL_bath 22 = .ok (.ireturn, 1) := by decide +kernel
theorem dL_freshen_0 : decode cL_freshen 0 = .ok (.aload_n 2, 1) := by decide +kernel
theorem dL_freshen_1 : decode cL_freshen 1 = .ok (.iconst 0, 1) := by decide +kernel
theorem dL_freshen_2 : decode cL_freshen 2 = .ok (.aload_n 0, 1) := by decide +kernel
theorem dL_freshen_3 : decode cL_freshen 3 = .ok (.iload_n 1, 1) := by decide +kernel
theorem dL_freshen_4 : decode cL_freshen 4 = .ok (.invokevirtual 32, 3) := by decide +kernel
theorem dL_freshen_7 : decode cL_freshen 7 = .ok (.i2l, 1) := by decide +kernel
theorem dL_freshen_8 : decode cL_freshen 8 = .ok (.lastore, 1) := by decide +kernel
theorem dL_freshen_9 : decode cL_freshen 9 = .ok (.goto 6, 3) := by decide +kernel
theorem dL_freshen_12 : decode cL_freshen 12 = .ok (.astore_n 3, 1) := by decide +kernel
theorem dL_freshen_13 : decode cL_freshen 13 = .ok (.iconst 1, 1) := by decide +kernel
theorem dL_freshen_14 : decode cL_freshen 14 = .ok (.ireturn, 1) := by decide +kernel
theorem dL_freshen_15 : decode cL_freshen 15 = .ok (.iconst 0, 1) := by decide +kernel
theorem dL_freshen_16 : decode cL_freshen 16 = .ok (.ireturn, 1) := by decide +kernel
theorem dL_strength_0 : decode cL_strength 0 = .ok (.aload_n 2, 1) := by decide +kernel
theorem dL_strength_1 : decode cL_strength 1 = .ok (.iconst 0, 1) := by decide +kernel
theorem dL_strength_2 : decode cL_strength 2 = .ok (.aload_n 0, 1) := by decide +kernel
theorem dL_strength_3 : decode cL_strength 3 = .ok (.iload_n 1, 1) := by decide +kernel
theorem dL_strength_4 : decode cL_strength 4 = .ok (.invokevirtual 36, 3) := by decide +kernel
theorem dL_strength_7 : decode cL_strength 7 = .ok (.i2l, 1) := by decide +kernel
theorem dL_strength_8 : decode cL_strength 8 = .ok (.lastore, 1) := by decide +kernel
theorem dL_strength_9 : decode cL_strength 9 = .ok (.goto 6, 3) := by decide +kernel
theorem dL_strength_12 : decode cL_strength 12 = .ok (.astore_n 3, 1) := by decide +kernel
theorem dL_strength_13 : decode cL_strength 13 = .ok (.iconst 1, 1) := by decide +kernel
theorem dL_strength_14 : decode cL_strength 14 = .ok (.ireturn, 1) := by decide +kernel
theorem dL_strength_15 : decode cL_strength 15 = .ok (.iconst 0, 1) := by decide +kernel
theorem dL_strength_16 : decode cL_strength 16 = .ok (.ireturn, 1) := by decide +kernel
theorem dL_order_0 : decode cL_order 0 = .ok (.aload 4, 2) := by decide +kernel
theorem dL_order_2 : decode cL_order 2 = .ok (.iconst 0, 1) := by decide +kernel
theorem dL_order_3 : decode cL_order 3 = .ok (.aload_n 0, 1) := by decide +kernel
theorem dL_order_4 : decode cL_order 4 = .ok (.iload_n 1, 1) := by decide +kernel
theorem dL_order_5 : decode cL_order 5 = .ok (.iload_n 2, 1) := by decide +kernel
theorem dL_order_6 : decode cL_order 6 = .ok (.iload_n 3, 1) := by decide +kernel
theorem dL_order_7 : decode cL_order 7 = .ok (.invokevirtual 39, 3) := by decide +kernel
theorem dL_order_10 : decode cL_order 10 = .ok (.i2l, 1) := by decide +kernel
theorem dL_order_11 : decode cL_order 11 = .ok (.lastore, 1) := by decide +kernel
theorem dL_order_12 : decode cL_order 12 = .ok (.goto 15, 3) := by decide +kernel
theorem dL_order_15 : decode cL_order 15 = .ok (.astore 5, 2) := by decide +kernel
theorem dL_order_17 : decode cL_order 17 = .ok (.iconst 1, 1) := by decide +kernel
theorem dL_order_18 : decode cL_order 18 = .ok (.ireturn, 1) := by decide +kernel
theorem dL_order_19 : decode cL_order 19 = .ok (.astore 5, 2) := by decide +kernel
theorem dL_order_21 : decode cL_order 21 = .ok (.iconst 2, 1) := by decide +kernel
theorem dL_order_22 : decode cL_order 22 = .ok (.ireturn, 1) := by decide +kernel
theorem dL_order_23 : decode cL_order 23 = .ok (.astore 5, 2) := by decide +kernel
theorem dL_order_25 : decode cL_order 25 = .ok (.iconst 3, 1) := by decide +kernel
theorem dL_order_26 : decode cL_order 26 = .ok (.ireturn, 1) := by decide +kernel
theorem dL_order_27 : decode cL_order 27 = .ok (.iconst 0, 1) := by decide +kernel
theorem dL_order_28 : decode cL_order 28 = .ok (.ireturn, 1) := by decide +kernel
theorem dL_place_0 : decode cL_place 0 = .ok (.aload_n 2, 1) := by decide +kernel
theorem dL_place_1 : decode cL_place 1 = .ok (.iconst 0, 1) := by decide +kernel
theorem dL_place_2 : decode cL_place 2 = .ok (.aload_n 0, 1) := by decide +kernel
theorem dL_place_3 : decode cL_place 3 = .ok (.iload_n 1, 1) := by decide +kernel
theorem dL_place_4 : decode cL_place 4 = .ok (.invokevirtual 42, 3) := by decide +kernel
theorem dL_place_7 : decode cL_place 7 = .ok (.i2l, 1) := by decide +kernel
theorem dL_place_8 : decode cL_place 8 = .ok (.lastore, 1) := by decide +kernel
theorem dL_place_9 : decode cL_place 9 = .ok (.goto 12, 3) := by decide +kernel
theorem dL_place_12 : decode cL_place 12 = .ok (.astore_n 3, 1) := by decide +kernel
theorem dL_place_13 : decode cL_place 13 = .ok (.iconst 1, 1) := by decide +kernel
theorem dL_place_14 : decode cL_place 14 = .ok (.ireturn, 1) := by decide +kernel
theorem dL_place_15 : decode cL_place 15 = .ok (.astore_n 3, 1) := by decide +kernel
theorem dL_place_16 : decode cL_place 16 = .ok (.iconst 2, 1) := by decide +kernel
theorem dL_place_17 : decode cL_place 17 = .ok (.ireturn, 1) := by decide +kernel
theorem dL_place_18 : decode cL_place 18 = .ok (.astore_n 3, 1) := by decide +kernel
theorem dL_place_19 : decode cL_place 19 = .ok (.iconst 3, 1) := by decide +kernel
theorem dL_place_20 : decode cL_place 20 = .ok (.ireturn, 1) := by decide +kernel
theorem dL_place_21 : decode cL_place 21 = .ok (.iconst 0, 1) := by decide +kernel
theorem dL_place_22 : decode cL_place 22 = .ok (.ireturn, 1) := by decide +kernel
theorem dL_dye_0 : decode cL_dye 0 = .ok (.aload_n 3, 1) := by decide +kernel
theorem dL_dye_1 : decode cL_dye 1 = .ok (.iconst 0, 1) := by decide +kernel
theorem dL_dye_2 : decode cL_dye 2 = .ok (.aload_n 0, 1) := by decide +kernel
theorem dL_dye_3 : decode cL_dye 3 = .ok (.iload_n 1, 1) := by decide +kernel
theorem dL_dye_4 : decode cL_dye 4 = .ok (.iload_n 2, 1) := by decide +kernel
theorem dL_dye_5 : decode cL_dye 5 = .ok (.invokevirtual 47, 3) := by decide +kernel
theorem dL_dye_8 : decode cL_dye 8 = .ok (.i2l, 1) := by decide +kernel
theorem dL_dye_9 : decode cL_dye 9 = .ok (.lastore, 1) := by decide +kernel
theorem dL_dye_10 : decode cL_dye 10 = .ok (.goto 15, 3) := by decide +kernel
theorem dL_dye_13 : decode cL_dye 13 = .ok (.astore 4, 2) := by decide +kernel
theorem dL_dye_15 : decode cL_dye 15 = .ok (.iconst 1, 1) := by decide +kernel
theorem dL_dye_16 : decode cL_dye 16 = .ok (.ireturn, 1) := by decide +kernel
theorem dL_dye_17 : decode cL_dye 17 = .ok (.astore 4, 2) := by decide +kernel
theorem dL_dye_19 : decode cL_dye 19 = .ok (.iconst 2, 1) := by decide +kernel
theorem dL_dye_20 : decode cL_dye 20 = .ok (.ireturn, 1) := by decide +kernel
theorem dL_dye_21 : decode cL_dye 21 = .ok (.astore 4, 2) := by decide +kernel
theorem dL_dye_23 : decode cL_dye 23 = .ok (.iconst 3, 1) := by decide +kernel
theorem dL_dye_24 : decode cL_dye 24 = .ok (.ireturn, 1) := by decide +kernel
theorem dL_dye_25 : decode cL_dye 25 = .ok (.iconst 0, 1) := by decide +kernel
theorem dL_dye_26 : decode cL_dye 26 = .ok (.ireturn, 1) := by decide +kernel
theorem dL_claim_0 : decode cL_claim 0 = .ok (.aload_n 2, 1) := by decide +kernel
theorem dL_claim_1 : decode cL_claim 1 = .ok (.iconst 0, 1) := by decide +kernel
theorem dL_claim_2 : decode cL_claim 2 = .ok (.aload_n 0, 1) := by decide +kernel
theorem dL_claim_3 : decode cL_claim 3 = .ok (.iload_n 1, 1) := by decide +kernel
theorem dL_claim_4 : decode cL_claim 4 = .ok (.invokevirtual 50, 3) := by decide +kernel
theorem dL_claim_7 : decode cL_claim 7 = .ok (.i2l, 1) := by decide +kernel
theorem dL_claim_8 : decode cL_claim 8 = .ok (.lastore, 1) := by decide +kernel
theorem dL_claim_9 : decode cL_claim 9 = .ok (.goto 9, 3) := by decide +kernel
theorem dL_claim_12 : decode cL_claim 12 = .ok (.astore_n 3, 1) := by decide +kernel
theorem dL_claim_13 : decode cL_claim 13 = .ok (.iconst 1, 1) := by decide +kernel
theorem dL_claim_14 : decode cL_claim 14 = .ok (.ireturn, 1) := by decide +kernel
theorem dL_claim_15 : decode cL_claim 15 = .ok (.astore_n 3, 1) := by decide +kernel
theorem dL_claim_16 : decode cL_claim 16 = .ok (.iconst 2, 1) := by decide +kernel
theorem dL_claim_17 : decode cL_claim 17 = .ok (.ireturn, 1) := by decide +kernel
theorem dL_claim_18 : decode cL_claim 18 = .ok (.iconst 0, 1) := by decide +kernel
theorem dL_claim_19 : decode cL_claim 19 = .ok (.ireturn, 1) := by decide +kernel
theorem dL_stateOf_0 : decode cL_stateOf 0 = .ok (.aload_n 2, 1) := by decide +kernel
theorem dL_stateOf_1 : decode cL_stateOf 1 = .ok (.iconst 0, 1) := by decide +kernel
theorem dL_stateOf_2 : decode cL_stateOf 2 = .ok (.aload_n 0, 1) := by decide +kernel
theorem dL_stateOf_3 : decode cL_stateOf 3 = .ok (.iload_n 1, 1) := by decide +kernel
theorem dL_stateOf_4 : decode cL_stateOf 4 = .ok (.invokevirtual 53, 3) := by decide +kernel
theorem dL_stateOf_7 : decode cL_stateOf 7 = .ok (.i2l, 1) := by decide +kernel
theorem dL_stateOf_8 : decode cL_stateOf 8 = .ok (.lastore, 1) := by decide +kernel
theorem dL_stateOf_9 : decode cL_stateOf 9 = .ok (.goto 6, 3) := by decide +kernel
theorem dL_stateOf_12 : decode cL_stateOf 12 = .ok (.astore_n 3, 1) := by decide +kernel
theorem dL_stateOf_13 : decode cL_stateOf 13 = .ok (.iconst 1, 1) := by decide +kernel
theorem dL_stateOf_14 : decode cL_stateOf 14 = .ok (.ireturn, 1) := by decide +kernel
theorem dL_stateOf_15 : decode cL_stateOf 15 = .ok (.iconst 0, 1) := by decide +kernel
theorem dL_stateOf_16 : decode cL_stateOf 16 = .ok (.ireturn, 1) := by decide +kernel
theorem dL_colour_0 : decode cL_colour 0 = .ok (.aload_n 3, 1) := by decide +kernel
theorem dL_colour_1 : decode cL_colour 1 = .ok (.iconst 0, 1) := by decide +kernel
theorem dL_colour_2 : decode cL_colour 2 = .ok (.aload_n 0, 1) := by decide +kernel
theorem dL_colour_3 : decode cL_colour 3 = .ok (.iload_n 1, 1) := by decide +kernel
theorem dL_colour_4 : decode cL_colour 4 = .ok (.iload_n 2, 1) := by decide +kernel
theorem dL_colour_5 : decode cL_colour 5 = .ok (.invokevirtual 56, 3) := by decide +kernel
theorem dL_colour_8 : decode cL_colour 8 = .ok (.i2l, 1) := by decide +kernel
theorem dL_colour_9 : decode cL_colour 9 = .ok (.lastore, 1) := by decide +kernel
theorem dL_colour_10 : decode cL_colour 10 = .ok (.goto 11, 3) := by decide +kernel
theorem dL_colour_13 : decode cL_colour 13 = .ok (.astore 4, 2) := by decide +kernel
theorem dL_colour_15 : decode cL_colour 15 = .ok (.iconst 1, 1) := by decide +kernel
theorem dL_colour_16 : decode cL_colour 16 = .ok (.ireturn, 1) := by decide +kernel
theorem dL_colour_17 : decode cL_colour 17 = .ok (.astore 4, 2) := by decide +kernel
theorem dL_colour_19 : decode cL_colour 19 = .ok (.iconst 2, 1) := by decide +kernel
theorem dL_colour_20 : decode cL_colour 20 = .ok (.ireturn, 1) := by decide +kernel
theorem dL_colour_21 : decode cL_colour 21 = .ok (.iconst 0, 1) := by decide +kernel
theorem dL_colour_22 : decode cL_colour 22 = .ok (.ireturn, 1) := by decide +kernel
theorem dL_colourByBath_0 : decode cL_colourByBath 0 = .ok (.aload_n 3, 1) := by decide +kernel
theorem dL_colourByBath_1 : decode cL_colourByBath 1 = .ok (.iconst 0, 1) := by decide +kernel
theorem dL_colourByBath_2 : decode cL_colourByBath 2 = .ok (.aload_n 0, 1) := by decide +kernel
theorem dL_colourByBath_3 : decode cL_colourByBath 3 = .ok (.iload_n 1, 1) := by decide +kernel
theorem dL_colourByBath_4 : decode cL_colourByBath 4 = .ok (.iload_n 2, 1) := by decide +kernel
theorem dL_colourByBath_5 : decode cL_colourByBath 5 = .ok (.invokevirtual 59, 3) := by decide +kernel
theorem dL_colourByBath_8 : decode cL_colourByBath 8 = .ok (.i2l, 1) := by decide +kernel
theorem dL_colourByBath_9 : decode cL_colourByBath 9 = .ok (.lastore, 1) := by decide +kernel
theorem dL_colourByBath_10 : decode cL_colourByBath 10 = .ok (.goto 11, 3) := by decide +kernel
theorem dL_colourByBath_13 : decode cL_colourByBath 13 = .ok (.astore 4, 2) := by decide +kernel
theorem dL_colourByBath_15 : decode cL_colourByBath 15 = .ok (.iconst 1, 1) := by decide +kernel
theorem dL_colourByBath_16 : decode cL_colourByBath 16 = .ok (.ireturn, 1) := by decide +kernel
theorem dL_colourByBath_17 : decode cL_colourByBath 17 = .ok (.astore 4, 2) := by decide +kernel
theorem dL_colourByBath_19 : decode cL_colourByBath 19 = .ok (.iconst 2, 1) := by decide +kernel
theorem dL_colourByBath_20 : decode cL_colourByBath 20 = .ok (.ireturn, 1) := by decide +kernel
theorem dL_colourByBath_21 : decode cL_colourByBath 21 = .ok (.iconst 0, 1) := by decide +kernel
theorem dL_colourByBath_22 : decode cL_colourByBath 22 = .ok (.ireturn, 1) := by decide +kernel
theorem dL_blamed_0 : decode cL_blamed 0 = .ok (.aload_n 3, 1) := by decide +kernel
theorem dL_blamed_1 : decode cL_blamed 1 = .ok (.iconst 0, 1) := by decide +kernel
theorem dL_blamed_2 : decode cL_blamed 2 = .ok (.aload_n 0, 1) := by decide +kernel
theorem dL_blamed_3 : decode cL_blamed 3 = .ok (.iload_n 1, 1) := by decide +kernel
theorem dL_blamed_4 : decode cL_blamed 4 = .ok (.iload_n 2, 1) := by decide +kernel
theorem dL_blamed_5 : decode cL_blamed 5 = .ok (.invokevirtual 62, 3) := by decide +kernel
theorem dL_blamed_8 : decode cL_blamed 8 = .ok (.i2l, 1) := by decide +kernel
theorem dL_blamed_9 : decode cL_blamed 9 = .ok (.lastore, 1) := by decide +kernel
theorem dL_blamed_10 : decode cL_blamed 10 = .ok (.goto 11, 3) := by decide +kernel
theorem dL_blamed_13 : decode cL_blamed 13 = .ok (.astore 4, 2) := by decide +kernel
theorem dL_blamed_15 : decode cL_blamed 15 = .ok (.iconst 1, 1) := by decide +kernel
theorem dL_blamed_16 : decode cL_blamed 16 = .ok (.ireturn, 1) := by decide +kernel
theorem dL_blamed_17 : decode cL_blamed 17 = .ok (.astore 4, 2) := by decide +kernel
theorem dL_blamed_19 : decode cL_blamed 19 = .ok (.iconst 2, 1) := by decide +kernel
theorem dL_blamed_20 : decode cL_blamed 20 = .ok (.ireturn, 1) := by decide +kernel
theorem dL_blamed_21 : decode cL_blamed 21 = .ok (.iconst 0, 1) := by decide +kernel
theorem dL_blamed_22 : decode cL_blamed 22 = .ok (.ireturn, 1) := by decide +kernel
theorem dL_shrinks_0 : decode cL_shrinks 0 = .ok (.aload_n 3, 1) := by decide +kernel
theorem dL_shrinks_1 : decode cL_shrinks 1 = .ok (.iconst 0, 1) := by decide +kernel
theorem dL_shrinks_2 : decode cL_shrinks 2 = .ok (.aload_n 0, 1) := by decide +kernel
theorem dL_shrinks_3 : decode cL_shrinks 3 = .ok (.iload_n 1, 1) := by decide +kernel
theorem dL_shrinks_4 : decode cL_shrinks 4 = .ok (.iload_n 2, 1) := by decide +kernel
theorem dL_shrinks_5 : decode cL_shrinks 5 = .ok (.invokevirtual 65, 3) := by decide +kernel
theorem dL_shrinks_8 : decode cL_shrinks 8 = .ok (.i2l, 1) := by decide +kernel
theorem dL_shrinks_9 : decode cL_shrinks 9 = .ok (.lastore, 1) := by decide +kernel
theorem dL_shrinks_10 : decode cL_shrinks 10 = .ok (.goto 11, 3) := by decide +kernel
theorem dL_shrinks_13 : decode cL_shrinks 13 = .ok (.astore 4, 2) := by decide +kernel
theorem dL_shrinks_15 : decode cL_shrinks 15 = .ok (.iconst 1, 1) := by decide +kernel
theorem dL_shrinks_16 : decode cL_shrinks 16 = .ok (.ireturn, 1) := by decide +kernel
theorem dL_shrinks_17 : decode cL_shrinks 17 = .ok (.astore 4, 2) := by decide +kernel
theorem dL_shrinks_19 : decode cL_shrinks 19 = .ok (.iconst 2, 1) := by decide +kernel
theorem dL_shrinks_20 : decode cL_shrinks 20 = .ok (.ireturn, 1) := by decide +kernel
theorem dL_shrinks_21 : decode cL_shrinks 21 = .ok (.iconst 0, 1) := by decide +kernel
theorem dL_shrinks_22 : decode cL_shrinks 22 = .ok (.ireturn, 1) := by decide +kernel
theorem dL_give_0 : decode cL_give 0 = .ok (.aload 5, 2) := by decide +kernel
theorem dL_give_2 : decode cL_give 2 = .ok (.iconst 0, 1) := by decide +kernel
theorem dL_give_3 : decode cL_give 3 = .ok (.aload_n 0, 1) := by decide +kernel
theorem dL_give_4 : decode cL_give 4 = .ok (.iload_n 1, 1) := by decide +kernel
theorem dL_give_5 : decode cL_give 5 = .ok (.iload_n 2, 1) := by decide +kernel
theorem dL_give_6 : decode cL_give 6 = .ok (.iload_n 3, 1) := by decide +kernel
theorem dL_give_7 : decode cL_give 7 = .ok (.iload 4, 2) := by decide +kernel
theorem dL_give_9 : decode cL_give 9 = .ok (.invokevirtual 68, 3) := by decide +kernel
theorem dL_give_12 : decode cL_give 12 = .ok (.i2l, 1) := by decide +kernel
theorem dL_give_13 : decode cL_give 13 = .ok (.lastore, 1) := by decide +kernel
theorem dL_give_14 : decode cL_give 14 = .ok (.goto 15, 3) := by decide +kernel
theorem dL_give_17 : decode cL_give 17 = .ok (.astore 6, 2) := by decide +kernel
theorem dL_give_19 : decode cL_give 19 = .ok (.iconst 1, 1) := by decide +kernel
theorem dL_give_20 : decode cL_give 20 = .ok (.ireturn, 1) := by decide +kernel
theorem dL_give_21 : decode cL_give 21 = .ok (.astore 6, 2) := by decide +kernel
theorem dL_give_23 : decode cL_give 23 = .ok (.iconst 2, 1) := by decide +kernel
theorem dL_give_24 : decode cL_give 24 = .ok (.ireturn, 1) := by decide +kernel
theorem dL_give_25 : decode cL_give 25 = .ok (.astore 6, 2) := by decide +kernel
theorem dL_give_27 : decode cL_give 27 = .ok (.iconst 3, 1) := by decide +kernel
theorem dL_give_28 : decode cL_give 28 = .ok (.ireturn, 1) := by decide +kernel
theorem dL_give_29 : decode cL_give 29 = .ok (.iconst 0, 1) := by decide +kernel
theorem dL_give_30 : decode cL_give 30 = .ok (.ireturn, 1) := by decide +kernel
theorem dL_owes_0 : decode cL_owes 0 = .ok (.aload 4, 2) := by decide +kernel
theorem dL_owes_2 : decode cL_owes 2 = .ok (.iconst 0, 1) := by decide +kernel
theorem dL_owes_3 : decode cL_owes 3 = .ok (.aload_n 0, 1) := by decide +kernel
theorem dL_owes_4 : decode cL_owes 4 = .ok (.iload_n 1, 1) := by decide +kernel
theorem dL_owes_5 : decode cL_owes 5 = .ok (.iload_n 2, 1) := by decide +kernel
theorem dL_owes_6 : decode cL_owes 6 = .ok (.iload_n 3, 1) := by decide +kernel
theorem dL_owes_7 : decode cL_owes 7 = .ok (.invokevirtual 72, 3) := by decide +kernel
theorem dL_owes_10 : decode cL_owes 10 = .ok (.i2l, 1) := by decide +kernel
theorem dL_owes_11 : decode cL_owes 11 = .ok (.lastore, 1) := by decide +kernel
theorem dL_owes_12 : decode cL_owes 12 = .ok (.goto 7, 3) := by decide +kernel
theorem dL_owes_15 : decode cL_owes 15 = .ok (.astore 5, 2) := by decide +kernel
theorem dL_owes_17 : decode cL_owes 17 = .ok (.iconst 1, 1) := by decide +kernel
theorem dL_owes_18 : decode cL_owes 18 = .ok (.ireturn, 1) := by decide +kernel
theorem dL_owes_19 : decode cL_owes 19 = .ok (.iconst 0, 1) := by decide +kernel
theorem dL_owes_20 : decode cL_owes 20 = .ok (.ireturn, 1) := by decide +kernel
theorem dL_position_0 : decode cL_position 0 = .ok (.aload_n 3, 1) := by decide +kernel
theorem dL_position_1 : decode cL_position 1 = .ok (.iconst 0, 1) := by decide +kernel
theorem dL_position_2 : decode cL_position 2 = .ok (.aload_n 0, 1) := by decide +kernel
theorem dL_position_3 : decode cL_position 3 = .ok (.iload_n 1, 1) := by decide +kernel
theorem dL_position_4 : decode cL_position 4 = .ok (.iload_n 2, 1) := by decide +kernel
theorem dL_position_5 : decode cL_position 5 = .ok (.invokevirtual 75, 3) := by decide +kernel
theorem dL_position_8 : decode cL_position 8 = .ok (.i2l, 1) := by decide +kernel
theorem dL_position_9 : decode cL_position 9 = .ok (.lastore, 1) := by decide +kernel
theorem dL_position_10 : decode cL_position 10 = .ok (.goto 7, 3) := by decide +kernel
theorem dL_position_13 : decode cL_position 13 = .ok (.astore 4, 2) := by decide +kernel
theorem dL_position_15 : decode cL_position 15 = .ok (.iconst 1, 1) := by decide +kernel
theorem dL_position_16 : decode cL_position 16 = .ok (.ireturn, 1) := by decide +kernel
theorem dL_position_17 : decode cL_position 17 = .ok (.iconst 0, 1) := by decide +kernel
theorem dL_position_18 : decode cL_position 18 = .ok (.ireturn, 1) := by decide +kernel
theorem dL_net_0 : decode cL_net 0 = .ok (.aload_n 2, 1) := by decide +kernel
theorem dL_net_1 : decode cL_net 1 = .ok (.iconst 0, 1) := by decide +kernel
theorem dL_net_2 : decode cL_net 2 = .ok (.aload_n 0, 1) := by decide +kernel
theorem dL_net_3 : decode cL_net 3 = .ok (.iload_n 1, 1) := by decide +kernel
theorem dL_net_4 : decode cL_net 4 = .ok (.invokevirtual 78, 3) := by decide +kernel
theorem dL_net_7 : decode cL_net 7 = .ok (.i2l, 1) := by decide +kernel
theorem dL_net_8 : decode cL_net 8 = .ok (.lastore, 1) := by decide +kernel
theorem dL_net_9 : decode cL_net 9 = .ok (.goto 6, 3) := by decide +kernel
theorem dL_net_12 : decode cL_net 12 = .ok (.astore_n 3, 1) := by decide +kernel
theorem dL_net_13 : decode cL_net 13 = .ok (.iconst 1, 1) := by decide +kernel
theorem dL_net_14 : decode cL_net 14 = .ok (.ireturn, 1) := by decide +kernel
theorem dL_net_15 : decode cL_net 15 = .ok (.iconst 0, 1) := by decide +kernel
theorem dL_net_16 : decode cL_net 16 = .ok (.ireturn, 1) := by decide +kernel
theorem dL_law_0 : decode cL_law 0 = .ok (.new 8, 3) := by decide +kernel
theorem dL_law_3 : decode cL_law 3 = .ok (.dup, 1) := by decide +kernel
theorem dL_law_4 : decode cL_law 4 = .ok (.invokespecial 81, 3) := by decide +kernel
theorem dL_law_7 : decode cL_law 7 = .ok (.astore_n 1, 1) := by decide +kernel
theorem dL_law_8 : decode cL_law 8 = .ok (.new 82, 3) := by decide +kernel
theorem dL_law_11 : decode cL_law 11 = .ok (.dup, 1) := by decide +kernel
theorem dL_law_12 : decode cL_law 12 = .ok (.invokespecial 84, 3) := by decide +kernel
theorem dL_law_15 : decode cL_law 15 = .ok (.astore_n 2, 1) := by decide +kernel
theorem dL_law_16 : decode cL_law 16 = .ok (.iconst 1, 1) := by decide +kernel
theorem dL_law_17 : decode cL_law 17 = .ok (.newarray .long, 2) := by decide +kernel
theorem dL_law_19 : decode cL_law 19 = .ok (.astore_n 3, 1) := by decide +kernel
theorem dL_law_20 : decode cL_law 20 = .ok (.iconst 0, 1) := by decide +kernel
theorem dL_law_21 : decode cL_law 21 = .ok (.istore 4, 2) := by decide +kernel
theorem dL_law_23 : decode cL_law 23 = .ok (.iload 4, 2) := by decide +kernel
theorem dL_law_25 : decode cL_law 25 = .ok (.aload_n 0, 1) := by decide +kernel
theorem dL_law_26 : decode cL_law 26 = .ok (.arraylength, 1) := by decide +kernel
theorem dL_law_27 : decode cL_law 27 = .ok (.iconst 5, 1) := by decide +kernel
theorem dL_law_28 : decode cL_law 28 = .ok (.isub, 1) := by decide +kernel
theorem dL_law_29 : decode cL_law 29 = .ok (.if_icmp .gt 1469, 3) := by decide +kernel
theorem dL_law_32 : decode cL_law 32 = .ok (.aload_n 0, 1) := by decide +kernel
theorem dL_law_33 : decode cL_law 33 = .ok (.iload 4, 2) := by decide +kernel
theorem dL_law_35 : decode cL_law 35 = .ok (.iaload, 1) := by decide +kernel
theorem dL_law_36 : decode cL_law 36 = .ok (.bipush 31, 2) := by decide +kernel
theorem dL_law_38 : decode cL_law 38 = .ok (.iand, 1) := by decide +kernel
theorem dL_law_39 : decode cL_law 39 = .ok (.tableswitch 1453 0 19 #[93, 173, 241, 321, 389, 457, 513, 569, 649, 705, 773, 829, 885, 953, 1021, 1089, 1157, 1249, 1329, 1397], 93) := by decide +kernel
theorem dL_law_132 : decode cL_law 132 = .ok (.aload_n 1, 1) := by decide +kernel
theorem dL_law_133 : decode cL_law 133 = .ok (.aload_n 0, 1) := by decide +kernel
theorem dL_law_134 : decode cL_law 134 = .ok (.iload 4, 2) := by decide +kernel
theorem dL_law_136 : decode cL_law 136 = .ok (.iconst 1, 1) := by decide +kernel
theorem dL_law_137 : decode cL_law 137 = .ok (.iadd, 1) := by decide +kernel
theorem dL_law_138 : decode cL_law 138 = .ok (.iaload, 1) := by decide +kernel
theorem dL_law_139 : decode cL_law 139 = .ok (.aload_n 0, 1) := by decide +kernel
theorem dL_law_140 : decode cL_law 140 = .ok (.iload 4, 2) := by decide +kernel
theorem dL_law_142 : decode cL_law 142 = .ok (.iconst 2, 1) := by decide +kernel
theorem dL_law_143 : decode cL_law 143 = .ok (.iadd, 1) := by decide +kernel
theorem dL_law_144 : decode cL_law 144 = .ok (.iaload, 1) := by decide +kernel
theorem dL_law_145 : decode cL_law 145 = .ok (.aload_n 0, 1) := by decide +kernel
theorem dL_law_146 : decode cL_law 146 = .ok (.iload 4, 2) := by decide +kernel
theorem dL_law_148 : decode cL_law 148 = .ok (.iconst 3, 1) := by decide +kernel
theorem dL_law_149 : decode cL_law 149 = .ok (.iadd, 1) := by decide +kernel
theorem dL_law_150 : decode cL_law 150 = .ok (.iaload, 1) := by decide +kernel
theorem dL_law_151 : decode cL_law 151 = .ok (.aload_n 3, 1) := by decide +kernel
theorem dL_law_152 : decode cL_law 152 = .ok (.invokestatic 85, 3) := by decide +kernel
theorem dL_law_155 : decode cL_law 155 = .ok (.istore 5, 2) := by decide +kernel
theorem dL_law_157 : decode cL_law 157 = .ok (.aload_n 2, 1) := by decide +kernel
theorem dL_law_158 : decode cL_law 158 = .ok (.aload_n 0, 1) := by decide +kernel
theorem dL_law_159 : decode cL_law 159 = .ok (.iload 4, 2) := by decide +kernel
theorem dL_law_161 : decode cL_law 161 = .ok (.iconst 1, 1) := by decide +kernel
theorem dL_law_162 : decode cL_law 162 = .ok (.iadd, 1) := by decide +kernel
theorem dL_law_163 : decode cL_law 163 = .ok (.iaload, 1) := by decide +kernel
theorem dL_law_164 : decode cL_law 164 = .ok (.aload_n 0, 1) := by decide +kernel
theorem dL_law_165 : decode cL_law 165 = .ok (.iload 4, 2) := by decide +kernel
theorem dL_law_167 : decode cL_law 167 = .ok (.iconst 2, 1) := by decide +kernel
theorem dL_law_168 : decode cL_law 168 = .ok (.iadd, 1) := by decide +kernel
theorem dL_law_169 : decode cL_law 169 = .ok (.iaload, 1) := by decide +kernel
theorem dL_law_170 : decode cL_law 170 = .ok (.aload_n 0, 1) := by decide +kernel
theorem dL_law_171 : decode cL_law 171 = .ok (.iload 4, 2) := by decide +kernel
theorem dL_law_173 : decode cL_law 173 = .ok (.iconst 3, 1) := by decide +kernel
theorem dL_law_174 : decode cL_law 174 = .ok (.iadd, 1) := by decide +kernel
theorem dL_law_175 : decode cL_law 175 = .ok (.iaload, 1) := by decide +kernel
theorem dL_law_176 : decode cL_law 176 = .ok (.invokevirtual 90, 3) := by decide +kernel
theorem dL_law_179 : decode cL_law 179 = .ok (.istore 6, 2) := by decide +kernel
theorem dL_law_181 : decode cL_law 181 = .ok (.aload_n 2, 1) := by decide +kernel
theorem dL_law_182 : decode cL_law 182 = .ok (.invokevirtual 91, 3) := by decide +kernel
theorem dL_law_185 : decode cL_law 185 = .ok (.iload 5, 2) := by decide +kernel
theorem dL_law_187 : decode cL_law 187 = .ok (.if_icmp .eq 5, 3) := by decide +kernel
theorem dL_law_190 : decode cL_law 190 = .ok (.iconst 0, 1) := by decide +kernel
theorem dL_law_191 : decode cL_law 191 = .ok (.ireturn, 1) := by decide +kernel
theorem dL_law_192 : decode cL_law 192 = .ok (.iload 5, 2) := by decide +kernel
theorem dL_law_194 : decode cL_law 194 = .ok (.ifCond .ne 15, 3) := by decide +kernel
theorem dL_law_197 : decode cL_law 197 = .ok (.aload_n 3, 1) := by decide +kernel
theorem dL_law_198 : decode cL_law 198 = .ok (.iconst 0, 1) := by decide +kernel
theorem dL_law_199 : decode cL_law 199 = .ok (.laload, 1) := by decide +kernel
theorem dL_law_200 : decode cL_law 200 = .ok (.iload 6, 2) := by decide +kernel
theorem dL_law_202 : decode cL_law 202 = .ok (.i2l, 1) := by decide +kernel
theorem dL_law_203 : decode cL_law 203 = .ok (.lcmp, 1) := by decide +kernel
theorem dL_law_204 : decode cL_law 204 = .ok (.ifCond .eq 5, 3) := by decide +kernel
theorem dL_law_207 : decode cL_law 207 = .ok (.iconst 0, 1) := by decide +kernel
theorem dL_law_208 : decode cL_law 208 = .ok (.ireturn, 1) := by decide +kernel
theorem dL_law_209 : decode cL_law 209 = .ok (.goto 1283, 3) := by decide +kernel
theorem dL_law_212 : decode cL_law 212 = .ok (.aload_n 1, 1) := by decide +kernel
theorem dL_law_213 : decode cL_law 213 = .ok (.aload_n 0, 1) := by decide +kernel
theorem dL_law_214 : decode cL_law 214 = .ok (.iload 4, 2) := by decide +kernel
theorem dL_law_216 : decode cL_law 216 = .ok (.iconst 1, 1) := by decide +kernel
theorem dL_law_217 : decode cL_law 217 = .ok (.iadd, 1) := by decide +kernel
theorem dL_law_218 : decode cL_law 218 = .ok (.iaload, 1) := by decide +kernel
theorem dL_law_219 : decode cL_law 219 = .ok (.aload_n 0, 1) := by decide +kernel
theorem dL_law_220 : decode cL_law 220 = .ok (.iload 4, 2) := by decide +kernel
theorem dL_law_222 : decode cL_law 222 = .ok (.iconst 2, 1) := by decide +kernel
theorem dL_law_223 : decode cL_law 223 = .ok (.iadd, 1) := by decide +kernel
theorem dL_law_224 : decode cL_law 224 = .ok (.iaload, 1) := by decide +kernel
theorem dL_law_225 : decode cL_law 225 = .ok (.aload_n 3, 1) := by decide +kernel
theorem dL_law_226 : decode cL_law 226 = .ok (.invokestatic 95, 3) := by decide +kernel
theorem dL_law_229 : decode cL_law 229 = .ok (.istore 5, 2) := by decide +kernel
theorem dL_law_231 : decode cL_law 231 = .ok (.aload_n 2, 1) := by decide +kernel
theorem dL_law_232 : decode cL_law 232 = .ok (.aload_n 0, 1) := by decide +kernel
theorem dL_law_233 : decode cL_law 233 = .ok (.iload 4, 2) := by decide +kernel
theorem dL_law_235 : decode cL_law 235 = .ok (.iconst 1, 1) := by decide +kernel
theorem dL_law_236 : decode cL_law 236 = .ok (.iadd, 1) := by decide +kernel
theorem dL_law_237 : decode cL_law 237 = .ok (.iaload, 1) := by decide +kernel
theorem dL_law_238 : decode cL_law 238 = .ok (.aload_n 0, 1) := by decide +kernel
theorem dL_law_239 : decode cL_law 239 = .ok (.iload 4, 2) := by decide +kernel
theorem dL_law_241 : decode cL_law 241 = .ok (.iconst 2, 1) := by decide +kernel
theorem dL_law_242 : decode cL_law 242 = .ok (.iadd, 1) := by decide +kernel
theorem dL_law_243 : decode cL_law 243 = .ok (.iaload, 1) := by decide +kernel
theorem dL_law_244 : decode cL_law 244 = .ok (.invokevirtual 98, 3) := by decide +kernel
theorem dL_law_247 : decode cL_law 247 = .ok (.istore 6, 2) := by decide +kernel
theorem dL_law_249 : decode cL_law 249 = .ok (.aload_n 2, 1) := by decide +kernel
theorem dL_law_250 : decode cL_law 250 = .ok (.invokevirtual 91, 3) := by decide +kernel
theorem dL_law_253 : decode cL_law 253 = .ok (.iload 5, 2) := by decide +kernel
theorem dL_law_255 : decode cL_law 255 = .ok (.if_icmp .eq 5, 3) := by decide +kernel
theorem dL_law_258 : decode cL_law 258 = .ok (.iconst 0, 1) := by decide +kernel
theorem dL_law_259 : decode cL_law 259 = .ok (.ireturn, 1) := by decide +kernel
theorem dL_law_260 : decode cL_law 260 = .ok (.iload 5, 2) := by decide +kernel
theorem dL_law_262 : decode cL_law 262 = .ok (.ifCond .ne 15, 3) := by decide +kernel
theorem dL_law_265 : decode cL_law 265 = .ok (.aload_n 3, 1) := by decide +kernel
theorem dL_law_266 : decode cL_law 266 = .ok (.iconst 0, 1) := by decide +kernel
theorem dL_law_267 : decode cL_law 267 = .ok (.laload, 1) := by decide +kernel
theorem dL_law_268 : decode cL_law 268 = .ok (.iload 6, 2) := by decide +kernel
theorem dL_law_270 : decode cL_law 270 = .ok (.i2l, 1) := by decide +kernel
theorem dL_law_271 : decode cL_law 271 = .ok (.lcmp, 1) := by decide +kernel
theorem dL_law_272 : decode cL_law 272 = .ok (.ifCond .eq 5, 3) := by decide +kernel
theorem dL_law_275 : decode cL_law 275 = .ok (.iconst 0, 1) := by decide +kernel
theorem dL_law_276 : decode cL_law 276 = .ok (.ireturn, 1) := by decide +kernel
theorem dL_law_277 : decode cL_law 277 = .ok (.goto 1215, 3) := by decide +kernel
theorem dL_law_280 : decode cL_law 280 = .ok (.aload_n 1, 1) := by decide +kernel
theorem dL_law_281 : decode cL_law 281 = .ok (.aload_n 0, 1) := by decide +kernel
theorem dL_law_282 : decode cL_law 282 = .ok (.iload 4, 2) := by decide +kernel
theorem dL_law_284 : decode cL_law 284 = .ok (.iconst 1, 1) := by decide +kernel
theorem dL_law_285 : decode cL_law 285 = .ok (.iadd, 1) := by decide +kernel
theorem dL_law_286 : decode cL_law 286 = .ok (.iaload, 1) := by decide +kernel
theorem dL_law_287 : decode cL_law 287 = .ok (.aload_n 0, 1) := by decide +kernel
theorem dL_law_288 : decode cL_law 288 = .ok (.iload 4, 2) := by decide +kernel
theorem dL_law_290 : decode cL_law 290 = .ok (.iconst 2, 1) := by decide +kernel
theorem dL_law_291 : decode cL_law 291 = .ok (.iadd, 1) := by decide +kernel
theorem dL_law_292 : decode cL_law 292 = .ok (.iaload, 1) := by decide +kernel
theorem dL_law_293 : decode cL_law 293 = .ok (.aload_n 0, 1) := by decide +kernel
theorem dL_law_294 : decode cL_law 294 = .ok (.iload 4, 2) := by decide +kernel
theorem dL_law_296 : decode cL_law 296 = .ok (.iconst 3, 1) := by decide +kernel
theorem dL_law_297 : decode cL_law 297 = .ok (.iadd, 1) := by decide +kernel
theorem dL_law_298 : decode cL_law 298 = .ok (.iaload, 1) := by decide +kernel
theorem dL_law_299 : decode cL_law 299 = .ok (.aload_n 3, 1) := by decide +kernel
theorem dL_law_300 : decode cL_law 300 = .ok (.invokestatic 99, 3) := by decide +kernel
theorem dL_law_303 : decode cL_law 303 = .ok (.istore 5, 2) := by decide +kernel
theorem dL_law_305 : decode cL_law 305 = .ok (.aload_n 2, 1) := by decide +kernel
theorem dL_law_306 : decode cL_law 306 = .ok (.aload_n 0, 1) := by decide +kernel
theorem dL_law_307 : decode cL_law 307 = .ok (.iload 4, 2) := by decide +kernel
theorem dL_law_309 : decode cL_law 309 = .ok (.iconst 1, 1) := by decide +kernel
theorem dL_law_310 : decode cL_law 310 = .ok (.iadd, 1) := by decide +kernel
theorem dL_law_311 : decode cL_law 311 = .ok (.iaload, 1) := by decide +kernel
theorem dL_law_312 : decode cL_law 312 = .ok (.aload_n 0, 1) := by decide +kernel
theorem dL_law_313 : decode cL_law 313 = .ok (.iload 4, 2) := by decide +kernel
theorem dL_law_315 : decode cL_law 315 = .ok (.iconst 2, 1) := by decide +kernel
theorem dL_law_316 : decode cL_law 316 = .ok (.iadd, 1) := by decide +kernel
theorem dL_law_317 : decode cL_law 317 = .ok (.iaload, 1) := by decide +kernel
theorem dL_law_318 : decode cL_law 318 = .ok (.aload_n 0, 1) := by decide +kernel
theorem dL_law_319 : decode cL_law 319 = .ok (.iload 4, 2) := by decide +kernel
theorem dL_law_321 : decode cL_law 321 = .ok (.iconst 3, 1) := by decide +kernel
theorem dL_law_322 : decode cL_law 322 = .ok (.iadd, 1) := by decide +kernel
theorem dL_law_323 : decode cL_law 323 = .ok (.iaload, 1) := by decide +kernel
theorem dL_law_324 : decode cL_law 324 = .ok (.invokevirtual 101, 3) := by decide +kernel
theorem dL_law_327 : decode cL_law 327 = .ok (.istore 6, 2) := by decide +kernel
theorem dL_law_329 : decode cL_law 329 = .ok (.aload_n 2, 1) := by decide +kernel
theorem dL_law_330 : decode cL_law 330 = .ok (.invokevirtual 91, 3) := by decide +kernel
theorem dL_law_333 : decode cL_law 333 = .ok (.iload 5, 2) := by decide +kernel
theorem dL_law_335 : decode cL_law 335 = .ok (.if_icmp .eq 5, 3) := by decide +kernel
theorem dL_law_338 : decode cL_law 338 = .ok (.iconst 0, 1) := by decide +kernel
theorem dL_law_339 : decode cL_law 339 = .ok (.ireturn, 1) := by decide +kernel
theorem dL_law_340 : decode cL_law 340 = .ok (.iload 5, 2) := by decide +kernel
theorem dL_law_342 : decode cL_law 342 = .ok (.ifCond .ne 15, 3) := by decide +kernel
theorem dL_law_345 : decode cL_law 345 = .ok (.aload_n 3, 1) := by decide +kernel
theorem dL_law_346 : decode cL_law 346 = .ok (.iconst 0, 1) := by decide +kernel
theorem dL_law_347 : decode cL_law 347 = .ok (.laload, 1) := by decide +kernel
theorem dL_law_348 : decode cL_law 348 = .ok (.iload 6, 2) := by decide +kernel
theorem dL_law_350 : decode cL_law 350 = .ok (.i2l, 1) := by decide +kernel
theorem dL_law_351 : decode cL_law 351 = .ok (.lcmp, 1) := by decide +kernel
theorem dL_law_352 : decode cL_law 352 = .ok (.ifCond .eq 5, 3) := by decide +kernel
theorem dL_law_355 : decode cL_law 355 = .ok (.iconst 0, 1) := by decide +kernel
theorem dL_law_356 : decode cL_law 356 = .ok (.ireturn, 1) := by decide +kernel
theorem dL_law_357 : decode cL_law 357 = .ok (.goto 1135, 3) := by decide +kernel
theorem dL_law_360 : decode cL_law 360 = .ok (.aload_n 1, 1) := by decide +kernel
theorem dL_law_361 : decode cL_law 361 = .ok (.aload_n 0, 1) := by decide +kernel
theorem dL_law_362 : decode cL_law 362 = .ok (.iload 4, 2) := by decide +kernel
theorem dL_law_364 : decode cL_law 364 = .ok (.iconst 1, 1) := by decide +kernel
theorem dL_law_365 : decode cL_law 365 = .ok (.iadd, 1) := by decide +kernel
theorem dL_law_366 : decode cL_law 366 = .ok (.iaload, 1) := by decide +kernel
theorem dL_law_367 : decode cL_law 367 = .ok (.aload_n 0, 1) := by decide +kernel
theorem dL_law_368 : decode cL_law 368 = .ok (.iload 4, 2) := by decide +kernel
theorem dL_law_370 : decode cL_law 370 = .ok (.iconst 2, 1) := by decide +kernel
theorem dL_law_371 : decode cL_law 371 = .ok (.iadd, 1) := by decide +kernel
theorem dL_law_372 : decode cL_law 372 = .ok (.iaload, 1) := by decide +kernel
theorem dL_law_373 : decode cL_law 373 = .ok (.aload_n 3, 1) := by decide +kernel
theorem dL_law_374 : decode cL_law 374 = .ok (.invokestatic 102, 3) := by decide +kernel
theorem dL_law_377 : decode cL_law 377 = .ok (.istore 5, 2) := by decide +kernel
theorem dL_law_379 : decode cL_law 379 = .ok (.aload_n 2, 1) := by decide +kernel
theorem dL_law_380 : decode cL_law 380 = .ok (.aload_n 0, 1) := by decide +kernel
theorem dL_law_381 : decode cL_law 381 = .ok (.iload 4, 2) := by decide +kernel
theorem dL_law_383 : decode cL_law 383 = .ok (.iconst 1, 1) := by decide +kernel
theorem dL_law_384 : decode cL_law 384 = .ok (.iadd, 1) := by decide +kernel
theorem dL_law_385 : decode cL_law 385 = .ok (.iaload, 1) := by decide +kernel
theorem dL_law_386 : decode cL_law 386 = .ok (.aload_n 0, 1) := by decide +kernel
theorem dL_law_387 : decode cL_law 387 = .ok (.iload 4, 2) := by decide +kernel
theorem dL_law_389 : decode cL_law 389 = .ok (.iconst 2, 1) := by decide +kernel
theorem dL_law_390 : decode cL_law 390 = .ok (.iadd, 1) := by decide +kernel
theorem dL_law_391 : decode cL_law 391 = .ok (.iaload, 1) := by decide +kernel
theorem dL_law_392 : decode cL_law 392 = .ok (.invokevirtual 104, 3) := by decide +kernel
theorem dL_law_395 : decode cL_law 395 = .ok (.istore 6, 2) := by decide +kernel
theorem dL_law_397 : decode cL_law 397 = .ok (.aload_n 2, 1) := by decide +kernel
theorem dL_law_398 : decode cL_law 398 = .ok (.invokevirtual 91, 3) := by decide +kernel
theorem dL_law_401 : decode cL_law 401 = .ok (.iload 5, 2) := by decide +kernel
theorem dL_law_403 : decode cL_law 403 = .ok (.if_icmp .eq 5, 3) := by decide +kernel
theorem dL_law_406 : decode cL_law 406 = .ok (.iconst 0, 1) := by decide +kernel
theorem dL_law_407 : decode cL_law 407 = .ok (.ireturn, 1) := by decide +kernel
theorem dL_law_408 : decode cL_law 408 = .ok (.iload 5, 2) := by decide +kernel
theorem dL_law_410 : decode cL_law 410 = .ok (.ifCond .ne 15, 3) := by decide +kernel
theorem dL_law_413 : decode cL_law 413 = .ok (.aload_n 3, 1) := by decide +kernel
theorem dL_law_414 : decode cL_law 414 = .ok (.iconst 0, 1) := by decide +kernel
theorem dL_law_415 : decode cL_law 415 = .ok (.laload, 1) := by decide +kernel
theorem dL_law_416 : decode cL_law 416 = .ok (.iload 6, 2) := by decide +kernel
theorem dL_law_418 : decode cL_law 418 = .ok (.i2l, 1) := by decide +kernel
theorem dL_law_419 : decode cL_law 419 = .ok (.lcmp, 1) := by decide +kernel
theorem dL_law_420 : decode cL_law 420 = .ok (.ifCond .eq 5, 3) := by decide +kernel
theorem dL_law_423 : decode cL_law 423 = .ok (.iconst 0, 1) := by decide +kernel
theorem dL_law_424 : decode cL_law 424 = .ok (.ireturn, 1) := by decide +kernel
theorem dL_law_425 : decode cL_law 425 = .ok (.goto 1067, 3) := by decide +kernel
theorem dL_law_428 : decode cL_law 428 = .ok (.aload_n 1, 1) := by decide +kernel
theorem dL_law_429 : decode cL_law 429 = .ok (.aload_n 0, 1) := by decide +kernel
theorem dL_law_430 : decode cL_law 430 = .ok (.iload 4, 2) := by decide +kernel
theorem dL_law_432 : decode cL_law 432 = .ok (.iconst 1, 1) := by decide +kernel
theorem dL_law_433 : decode cL_law 433 = .ok (.iadd, 1) := by decide +kernel
theorem dL_law_434 : decode cL_law 434 = .ok (.iaload, 1) := by decide +kernel
theorem dL_law_435 : decode cL_law 435 = .ok (.aload_n 0, 1) := by decide +kernel
theorem dL_law_436 : decode cL_law 436 = .ok (.iload 4, 2) := by decide +kernel
theorem dL_law_438 : decode cL_law 438 = .ok (.iconst 2, 1) := by decide +kernel
theorem dL_law_439 : decode cL_law 439 = .ok (.iadd, 1) := by decide +kernel
theorem dL_law_440 : decode cL_law 440 = .ok (.iaload, 1) := by decide +kernel
theorem dL_law_441 : decode cL_law 441 = .ok (.aload_n 3, 1) := by decide +kernel
theorem dL_law_442 : decode cL_law 442 = .ok (.invokestatic 105, 3) := by decide +kernel
theorem dL_law_445 : decode cL_law 445 = .ok (.istore 5, 2) := by decide +kernel
theorem dL_law_447 : decode cL_law 447 = .ok (.aload_n 2, 1) := by decide +kernel
theorem dL_law_448 : decode cL_law 448 = .ok (.aload_n 0, 1) := by decide +kernel
theorem dL_law_449 : decode cL_law 449 = .ok (.iload 4, 2) := by decide +kernel
theorem dL_law_451 : decode cL_law 451 = .ok (.iconst 1, 1) := by decide +kernel
theorem dL_law_452 : decode cL_law 452 = .ok (.iadd, 1) := by decide +kernel
theorem dL_law_453 : decode cL_law 453 = .ok (.iaload, 1) := by decide +kernel
theorem dL_law_454 : decode cL_law 454 = .ok (.aload_n 0, 1) := by decide +kernel
theorem dL_law_455 : decode cL_law 455 = .ok (.iload 4, 2) := by decide +kernel
theorem dL_law_457 : decode cL_law 457 = .ok (.iconst 2, 1) := by decide +kernel
theorem dL_law_458 : decode cL_law 458 = .ok (.iadd, 1) := by decide +kernel
theorem dL_law_459 : decode cL_law 459 = .ok (.iaload, 1) := by decide +kernel
theorem dL_law_460 : decode cL_law 460 = .ok (.invokevirtual 107, 3) := by decide +kernel
theorem dL_law_463 : decode cL_law 463 = .ok (.istore 6, 2) := by decide +kernel
theorem dL_law_465 : decode cL_law 465 = .ok (.aload_n 2, 1) := by decide +kernel
theorem dL_law_466 : decode cL_law 466 = .ok (.invokevirtual 91, 3) := by decide +kernel
theorem dL_law_469 : decode cL_law 469 = .ok (.iload 5, 2) := by decide +kernel
theorem dL_law_471 : decode cL_law 471 = .ok (.if_icmp .eq 5, 3) := by decide +kernel
theorem dL_law_474 : decode cL_law 474 = .ok (.iconst 0, 1) := by decide +kernel
theorem dL_law_475 : decode cL_law 475 = .ok (.ireturn, 1) := by decide +kernel
theorem dL_law_476 : decode cL_law 476 = .ok (.iload 5, 2) := by decide +kernel
theorem dL_law_478 : decode cL_law 478 = .ok (.ifCond .ne 15, 3) := by decide +kernel
theorem dL_law_481 : decode cL_law 481 = .ok (.aload_n 3, 1) := by decide +kernel
theorem dL_law_482 : decode cL_law 482 = .ok (.iconst 0, 1) := by decide +kernel
theorem dL_law_483 : decode cL_law 483 = .ok (.laload, 1) := by decide +kernel
theorem dL_law_484 : decode cL_law 484 = .ok (.iload 6, 2) := by decide +kernel
theorem dL_law_486 : decode cL_law 486 = .ok (.i2l, 1) := by decide +kernel
theorem dL_law_487 : decode cL_law 487 = .ok (.lcmp, 1) := by decide +kernel
theorem dL_law_488 : decode cL_law 488 = .ok (.ifCond .eq 5, 3) := by decide +kernel
theorem dL_law_491 : decode cL_law 491 = .ok (.iconst 0, 1) := by decide +kernel
theorem dL_law_492 : decode cL_law 492 = .ok (.ireturn, 1) := by decide +kernel
theorem dL_law_493 : decode cL_law 493 = .ok (.goto 999, 3) := by decide +kernel
theorem dL_law_496 : decode cL_law 496 = .ok (.aload_n 1, 1) := by decide +kernel
theorem dL_law_497 : decode cL_law 497 = .ok (.aload_n 0, 1) := by decide +kernel
theorem dL_law_498 : decode cL_law 498 = .ok (.iload 4, 2) := by decide +kernel
theorem dL_law_500 : decode cL_law 500 = .ok (.iconst 1, 1) := by decide +kernel
theorem dL_law_501 : decode cL_law 501 = .ok (.iadd, 1) := by decide +kernel
theorem dL_law_502 : decode cL_law 502 = .ok (.iaload, 1) := by decide +kernel
theorem dL_law_503 : decode cL_law 503 = .ok (.aload_n 3, 1) := by decide +kernel
theorem dL_law_504 : decode cL_law 504 = .ok (.invokestatic 108, 3) := by decide +kernel
theorem dL_law_507 : decode cL_law 507 = .ok (.istore 5, 2) := by decide +kernel
theorem dL_law_509 : decode cL_law 509 = .ok (.aload_n 2, 1) := by decide +kernel
theorem dL_law_510 : decode cL_law 510 = .ok (.aload_n 0, 1) := by decide +kernel
theorem dL_law_511 : decode cL_law 511 = .ok (.iload 4, 2) := by decide +kernel
theorem dL_law_513 : decode cL_law 513 = .ok (.iconst 1, 1) := by decide +kernel
theorem dL_law_514 : decode cL_law 514 = .ok (.iadd, 1) := by decide +kernel
theorem dL_law_515 : decode cL_law 515 = .ok (.iaload, 1) := by decide +kernel
theorem dL_law_516 : decode cL_law 516 = .ok (.invokevirtual 111, 3) := by decide +kernel
theorem dL_law_519 : decode cL_law 519 = .ok (.istore 6, 2) := by decide +kernel
theorem dL_law_521 : decode cL_law 521 = .ok (.aload_n 2, 1) := by decide +kernel
theorem dL_law_522 : decode cL_law 522 = .ok (.invokevirtual 91, 3) := by decide +kernel
theorem dL_law_525 : decode cL_law 525 = .ok (.iload 5, 2) := by decide +kernel
theorem dL_law_527 : decode cL_law 527 = .ok (.if_icmp .eq 5, 3) := by decide +kernel
theorem dL_law_530 : decode cL_law 530 = .ok (.iconst 0, 1) := by decide +kernel
theorem dL_law_531 : decode cL_law 531 = .ok (.ireturn, 1) := by decide +kernel
theorem dL_law_532 : decode cL_law 532 = .ok (.iload 5, 2) := by decide +kernel
theorem dL_law_534 : decode cL_law 534 = .ok (.ifCond .ne 15, 3) := by decide +kernel
theorem dL_law_537 : decode cL_law 537 = .ok (.aload_n 3, 1) := by decide +kernel
theorem dL_law_538 : decode cL_law 538 = .ok (.iconst 0, 1) := by decide +kernel
theorem dL_law_539 : decode cL_law 539 = .ok (.laload, 1) := by decide +kernel
theorem dL_law_540 : decode cL_law 540 = .ok (.iload 6, 2) := by decide +kernel
theorem dL_law_542 : decode cL_law 542 = .ok (.i2l, 1) := by decide +kernel
theorem dL_law_543 : decode cL_law 543 = .ok (.lcmp, 1) := by decide +kernel
theorem dL_law_544 : decode cL_law 544 = .ok (.ifCond .eq 5, 3) := by decide +kernel
theorem dL_law_547 : decode cL_law 547 = .ok (.iconst 0, 1) := by decide +kernel
theorem dL_law_548 : decode cL_law 548 = .ok (.ireturn, 1) := by decide +kernel
theorem dL_law_549 : decode cL_law 549 = .ok (.goto 943, 3) := by decide +kernel
theorem dL_law_552 : decode cL_law 552 = .ok (.aload_n 1, 1) := by decide +kernel
theorem dL_law_553 : decode cL_law 553 = .ok (.aload_n 0, 1) := by decide +kernel
theorem dL_law_554 : decode cL_law 554 = .ok (.iload 4, 2) := by decide +kernel
theorem dL_law_556 : decode cL_law 556 = .ok (.iconst 1, 1) := by decide +kernel
theorem dL_law_557 : decode cL_law 557 = .ok (.iadd, 1) := by decide +kernel
theorem dL_law_558 : decode cL_law 558 = .ok (.iaload, 1) := by decide +kernel
theorem dL_law_559 : decode cL_law 559 = .ok (.aload_n 3, 1) := by decide +kernel
theorem dL_law_560 : decode cL_law 560 = .ok (.invokestatic 112, 3) := by decide +kernel
theorem dL_law_563 : decode cL_law 563 = .ok (.istore 5, 2) := by decide +kernel
theorem dL_law_565 : decode cL_law 565 = .ok (.aload_n 2, 1) := by decide +kernel
theorem dL_law_566 : decode cL_law 566 = .ok (.aload_n 0, 1) := by decide +kernel
theorem dL_law_567 : decode cL_law 567 = .ok (.iload 4, 2) := by decide +kernel
theorem dL_law_569 : decode cL_law 569 = .ok (.iconst 1, 1) := by decide +kernel
theorem dL_law_570 : decode cL_law 570 = .ok (.iadd, 1) := by decide +kernel
theorem dL_law_571 : decode cL_law 571 = .ok (.iaload, 1) := by decide +kernel
theorem dL_law_572 : decode cL_law 572 = .ok (.invokevirtual 114, 3) := by decide +kernel
theorem dL_law_575 : decode cL_law 575 = .ok (.istore 6, 2) := by decide +kernel
theorem dL_law_577 : decode cL_law 577 = .ok (.aload_n 2, 1) := by decide +kernel
theorem dL_law_578 : decode cL_law 578 = .ok (.invokevirtual 91, 3) := by decide +kernel
theorem dL_law_581 : decode cL_law 581 = .ok (.iload 5, 2) := by decide +kernel
theorem dL_law_583 : decode cL_law 583 = .ok (.if_icmp .eq 5, 3) := by decide +kernel
theorem dL_law_586 : decode cL_law 586 = .ok (.iconst 0, 1) := by decide +kernel
theorem dL_law_587 : decode cL_law 587 = .ok (.ireturn, 1) := by decide +kernel
theorem dL_law_588 : decode cL_law 588 = .ok (.iload 5, 2) := by decide +kernel
theorem dL_law_590 : decode cL_law 590 = .ok (.ifCond .ne 15, 3) := by decide +kernel
theorem dL_law_593 : decode cL_law 593 = .ok (.aload_n 3, 1) := by decide +kernel
theorem dL_law_594 : decode cL_law 594 = .ok (.iconst 0, 1) := by decide +kernel
theorem dL_law_595 : decode cL_law 595 = .ok (.laload, 1) := by decide +kernel
theorem dL_law_596 : decode cL_law 596 = .ok (.iload 6, 2) := by decide +kernel
theorem dL_law_598 : decode cL_law 598 = .ok (.i2l, 1) := by decide +kernel
theorem dL_law_599 : decode cL_law 599 = .ok (.lcmp, 1) := by decide +kernel
theorem dL_law_600 : decode cL_law 600 = .ok (.ifCond .eq 5, 3) := by decide +kernel
theorem dL_law_603 : decode cL_law 603 = .ok (.iconst 0, 1) := by decide +kernel
theorem dL_law_604 : decode cL_law 604 = .ok (.ireturn, 1) := by decide +kernel
theorem dL_law_605 : decode cL_law 605 = .ok (.goto 887, 3) := by decide +kernel
theorem dL_law_608 : decode cL_law 608 = .ok (.aload_n 1, 1) := by decide +kernel
theorem dL_law_609 : decode cL_law 609 = .ok (.aload_n 0, 1) := by decide +kernel
theorem dL_law_610 : decode cL_law 610 = .ok (.iload 4, 2) := by decide +kernel
theorem dL_law_612 : decode cL_law 612 = .ok (.iconst 1, 1) := by decide +kernel
theorem dL_law_613 : decode cL_law 613 = .ok (.iadd, 1) := by decide +kernel
theorem dL_law_614 : decode cL_law 614 = .ok (.iaload, 1) := by decide +kernel
theorem dL_law_615 : decode cL_law 615 = .ok (.aload_n 0, 1) := by decide +kernel
theorem dL_law_616 : decode cL_law 616 = .ok (.iload 4, 2) := by decide +kernel
theorem dL_law_618 : decode cL_law 618 = .ok (.iconst 2, 1) := by decide +kernel
theorem dL_law_619 : decode cL_law 619 = .ok (.iadd, 1) := by decide +kernel
theorem dL_law_620 : decode cL_law 620 = .ok (.iaload, 1) := by decide +kernel
theorem dL_law_621 : decode cL_law 621 = .ok (.aload_n 0, 1) := by decide +kernel
theorem dL_law_622 : decode cL_law 622 = .ok (.iload 4, 2) := by decide +kernel
theorem dL_law_624 : decode cL_law 624 = .ok (.iconst 3, 1) := by decide +kernel
theorem dL_law_625 : decode cL_law 625 = .ok (.iadd, 1) := by decide +kernel
theorem dL_law_626 : decode cL_law 626 = .ok (.iaload, 1) := by decide +kernel
theorem dL_law_627 : decode cL_law 627 = .ok (.aload_n 3, 1) := by decide +kernel
theorem dL_law_628 : decode cL_law 628 = .ok (.invokestatic 115, 3) := by decide +kernel
theorem dL_law_631 : decode cL_law 631 = .ok (.istore 5, 2) := by decide +kernel
theorem dL_law_633 : decode cL_law 633 = .ok (.aload_n 2, 1) := by decide +kernel
theorem dL_law_634 : decode cL_law 634 = .ok (.aload_n 0, 1) := by decide +kernel
theorem dL_law_635 : decode cL_law 635 = .ok (.iload 4, 2) := by decide +kernel
theorem dL_law_637 : decode cL_law 637 = .ok (.iconst 1, 1) := by decide +kernel
theorem dL_law_638 : decode cL_law 638 = .ok (.iadd, 1) := by decide +kernel
theorem dL_law_639 : decode cL_law 639 = .ok (.iaload, 1) := by decide +kernel
theorem dL_law_640 : decode cL_law 640 = .ok (.aload_n 0, 1) := by decide +kernel
theorem dL_law_641 : decode cL_law 641 = .ok (.iload 4, 2) := by decide +kernel
theorem dL_law_643 : decode cL_law 643 = .ok (.iconst 2, 1) := by decide +kernel
theorem dL_law_644 : decode cL_law 644 = .ok (.iadd, 1) := by decide +kernel
theorem dL_law_645 : decode cL_law 645 = .ok (.iaload, 1) := by decide +kernel
theorem dL_law_646 : decode cL_law 646 = .ok (.aload_n 0, 1) := by decide +kernel
theorem dL_law_647 : decode cL_law 647 = .ok (.iload 4, 2) := by decide +kernel
theorem dL_law_649 : decode cL_law 649 = .ok (.iconst 3, 1) := by decide +kernel
theorem dL_law_650 : decode cL_law 650 = .ok (.iadd, 1) := by decide +kernel
theorem dL_law_651 : decode cL_law 651 = .ok (.iaload, 1) := by decide +kernel
theorem dL_law_652 : decode cL_law 652 = .ok (.invokevirtual 117, 3) := by decide +kernel
theorem dL_law_655 : decode cL_law 655 = .ok (.istore 6, 2) := by decide +kernel
theorem dL_law_657 : decode cL_law 657 = .ok (.aload_n 2, 1) := by decide +kernel
theorem dL_law_658 : decode cL_law 658 = .ok (.invokevirtual 91, 3) := by decide +kernel
theorem dL_law_661 : decode cL_law 661 = .ok (.iload 5, 2) := by decide +kernel
theorem dL_law_663 : decode cL_law 663 = .ok (.if_icmp .eq 5, 3) := by decide +kernel
theorem dL_law_666 : decode cL_law 666 = .ok (.iconst 0, 1) := by decide +kernel
theorem dL_law_667 : decode cL_law 667 = .ok (.ireturn, 1) := by decide +kernel
theorem dL_law_668 : decode cL_law 668 = .ok (.iload 5, 2) := by decide +kernel
theorem dL_law_670 : decode cL_law 670 = .ok (.ifCond .ne 15, 3) := by decide +kernel
theorem dL_law_673 : decode cL_law 673 = .ok (.aload_n 3, 1) := by decide +kernel
theorem dL_law_674 : decode cL_law 674 = .ok (.iconst 0, 1) := by decide +kernel
theorem dL_law_675 : decode cL_law 675 = .ok (.laload, 1) := by decide +kernel
theorem dL_law_676 : decode cL_law 676 = .ok (.iload 6, 2) := by decide +kernel
theorem dL_law_678 : decode cL_law 678 = .ok (.i2l, 1) := by decide +kernel
theorem dL_law_679 : decode cL_law 679 = .ok (.lcmp, 1) := by decide +kernel
theorem dL_law_680 : decode cL_law 680 = .ok (.ifCond .eq 5, 3) := by decide +kernel
theorem dL_law_683 : decode cL_law 683 = .ok (.iconst 0, 1) := by decide +kernel
theorem dL_law_684 : decode cL_law 684 = .ok (.ireturn, 1) := by decide +kernel
theorem dL_law_685 : decode cL_law 685 = .ok (.goto 807, 3) := by decide +kernel
theorem dL_law_688 : decode cL_law 688 = .ok (.aload_n 1, 1) := by decide +kernel
theorem dL_law_689 : decode cL_law 689 = .ok (.aload_n 0, 1) := by decide +kernel
theorem dL_law_690 : decode cL_law 690 = .ok (.iload 4, 2) := by decide +kernel
theorem dL_law_692 : decode cL_law 692 = .ok (.iconst 1, 1) := by decide +kernel
theorem dL_law_693 : decode cL_law 693 = .ok (.iadd, 1) := by decide +kernel
theorem dL_law_694 : decode cL_law 694 = .ok (.iaload, 1) := by decide +kernel
theorem dL_law_695 : decode cL_law 695 = .ok (.aload_n 3, 1) := by decide +kernel
theorem dL_law_696 : decode cL_law 696 = .ok (.invokestatic 118, 3) := by decide +kernel
theorem dL_law_699 : decode cL_law 699 = .ok (.istore 5, 2) := by decide +kernel
theorem dL_law_701 : decode cL_law 701 = .ok (.aload_n 2, 1) := by decide +kernel
theorem dL_law_702 : decode cL_law 702 = .ok (.aload_n 0, 1) := by decide +kernel
theorem dL_law_703 : decode cL_law 703 = .ok (.iload 4, 2) := by decide +kernel
theorem dL_law_705 : decode cL_law 705 = .ok (.iconst 1, 1) := by decide +kernel
theorem dL_law_706 : decode cL_law 706 = .ok (.iadd, 1) := by decide +kernel
theorem dL_law_707 : decode cL_law 707 = .ok (.iaload, 1) := by decide +kernel
theorem dL_law_708 : decode cL_law 708 = .ok (.invokevirtual 120, 3) := by decide +kernel
theorem dL_law_711 : decode cL_law 711 = .ok (.istore 6, 2) := by decide +kernel
theorem dL_law_713 : decode cL_law 713 = .ok (.aload_n 2, 1) := by decide +kernel
theorem dL_law_714 : decode cL_law 714 = .ok (.invokevirtual 91, 3) := by decide +kernel
theorem dL_law_717 : decode cL_law 717 = .ok (.iload 5, 2) := by decide +kernel
theorem dL_law_719 : decode cL_law 719 = .ok (.if_icmp .eq 5, 3) := by decide +kernel
theorem dL_law_722 : decode cL_law 722 = .ok (.iconst 0, 1) := by decide +kernel
theorem dL_law_723 : decode cL_law 723 = .ok (.ireturn, 1) := by decide +kernel
theorem dL_law_724 : decode cL_law 724 = .ok (.iload 5, 2) := by decide +kernel
theorem dL_law_726 : decode cL_law 726 = .ok (.ifCond .ne 15, 3) := by decide +kernel
theorem dL_law_729 : decode cL_law 729 = .ok (.aload_n 3, 1) := by decide +kernel
theorem dL_law_730 : decode cL_law 730 = .ok (.iconst 0, 1) := by decide +kernel
theorem dL_law_731 : decode cL_law 731 = .ok (.laload, 1) := by decide +kernel
theorem dL_law_732 : decode cL_law 732 = .ok (.iload 6, 2) := by decide +kernel
theorem dL_law_734 : decode cL_law 734 = .ok (.i2l, 1) := by decide +kernel
theorem dL_law_735 : decode cL_law 735 = .ok (.lcmp, 1) := by decide +kernel
theorem dL_law_736 : decode cL_law 736 = .ok (.ifCond .eq 5, 3) := by decide +kernel
theorem dL_law_739 : decode cL_law 739 = .ok (.iconst 0, 1) := by decide +kernel
theorem dL_law_740 : decode cL_law 740 = .ok (.ireturn, 1) := by decide +kernel
theorem dL_law_741 : decode cL_law 741 = .ok (.goto 751, 3) := by decide +kernel
theorem dL_law_744 : decode cL_law 744 = .ok (.aload_n 1, 1) := by decide +kernel
theorem dL_law_745 : decode cL_law 745 = .ok (.aload_n 0, 1) := by decide +kernel
theorem dL_law_746 : decode cL_law 746 = .ok (.iload 4, 2) := by decide +kernel
theorem dL_law_748 : decode cL_law 748 = .ok (.iconst 1, 1) := by decide +kernel
theorem dL_law_749 : decode cL_law 749 = .ok (.iadd, 1) := by decide +kernel
theorem dL_law_750 : decode cL_law 750 = .ok (.iaload, 1) := by decide +kernel
theorem dL_law_751 : decode cL_law 751 = .ok (.aload_n 0, 1) := by decide +kernel
theorem dL_law_752 : decode cL_law 752 = .ok (.iload 4, 2) := by decide +kernel
theorem dL_law_754 : decode cL_law 754 = .ok (.iconst 2, 1) := by decide +kernel
theorem dL_law_755 : decode cL_law 755 = .ok (.iadd, 1) := by decide +kernel
theorem dL_law_756 : decode cL_law 756 = .ok (.iaload, 1) := by decide +kernel
theorem dL_law_757 : decode cL_law 757 = .ok (.aload_n 3, 1) := by decide +kernel
theorem dL_law_758 : decode cL_law 758 = .ok (.invokestatic 121, 3) := by decide +kernel
theorem dL_law_761 : decode cL_law 761 = .ok (.istore 5, 2) := by decide +kernel
theorem dL_law_763 : decode cL_law 763 = .ok (.aload_n 2, 1) := by decide +kernel
theorem dL_law_764 : decode cL_law 764 = .ok (.aload_n 0, 1) := by decide +kernel
theorem dL_law_765 : decode cL_law 765 = .ok (.iload 4, 2) := by decide +kernel
theorem dL_law_767 : decode cL_law 767 = .ok (.iconst 1, 1) := by decide +kernel
theorem dL_law_768 : decode cL_law 768 = .ok (.iadd, 1) := by decide +kernel
theorem dL_law_769 : decode cL_law 769 = .ok (.iaload, 1) := by decide +kernel
theorem dL_law_770 : decode cL_law 770 = .ok (.aload_n 0, 1) := by decide +kernel
theorem dL_law_771 : decode cL_law 771 = .ok (.iload 4, 2) := by decide +kernel
theorem dL_law_773 : decode cL_law 773 = .ok (.iconst 2, 1) := by decide +kernel
theorem dL_law_774 : decode cL_law 774 = .ok (.iadd, 1) := by decide +kernel
theorem dL_law_775 : decode cL_law 775 = .ok (.iaload, 1) := by decide +kernel
theorem dL_law_776 : decode cL_law 776 = .ok (.invokevirtual 123, 3) := by decide +kernel
theorem dL_law_779 : decode cL_law 779 = .ok (.istore 6, 2) := by decide +kernel
theorem dL_law_781 : decode cL_law 781 = .ok (.aload_n 2, 1) := by decide +kernel
theorem dL_law_782 : decode cL_law 782 = .ok (.invokevirtual 91, 3) := by decide +kernel
theorem dL_law_785 : decode cL_law 785 = .ok (.iload 5, 2) := by decide +kernel
theorem dL_law_787 : decode cL_law 787 = .ok (.if_icmp .eq 5, 3) := by decide +kernel
theorem dL_law_790 : decode cL_law 790 = .ok (.iconst 0, 1) := by decide +kernel
theorem dL_law_791 : decode cL_law 791 = .ok (.ireturn, 1) := by decide +kernel
theorem dL_law_792 : decode cL_law 792 = .ok (.iload 5, 2) := by decide +kernel
theorem dL_law_794 : decode cL_law 794 = .ok (.ifCond .ne 15, 3) := by decide +kernel
theorem dL_law_797 : decode cL_law 797 = .ok (.aload_n 3, 1) := by decide +kernel
theorem dL_law_798 : decode cL_law 798 = .ok (.iconst 0, 1) := by decide +kernel
theorem dL_law_799 : decode cL_law 799 = .ok (.laload, 1) := by decide +kernel
theorem dL_law_800 : decode cL_law 800 = .ok (.iload 6, 2) := by decide +kernel
theorem dL_law_802 : decode cL_law 802 = .ok (.i2l, 1) := by decide +kernel
theorem dL_law_803 : decode cL_law 803 = .ok (.lcmp, 1) := by decide +kernel
theorem dL_law_804 : decode cL_law 804 = .ok (.ifCond .eq 5, 3) := by decide +kernel
theorem dL_law_807 : decode cL_law 807 = .ok (.iconst 0, 1) := by decide +kernel
theorem dL_law_808 : decode cL_law 808 = .ok (.ireturn, 1) := by decide +kernel
theorem dL_law_809 : decode cL_law 809 = .ok (.goto 683, 3) := by decide +kernel
theorem dL_law_812 : decode cL_law 812 = .ok (.aload_n 1, 1) := by decide +kernel
theorem dL_law_813 : decode cL_law 813 = .ok (.aload_n 0, 1) := by decide +kernel
theorem dL_law_814 : decode cL_law 814 = .ok (.iload 4, 2) := by decide +kernel
theorem dL_law_816 : decode cL_law 816 = .ok (.iconst 1, 1) := by decide +kernel
theorem dL_law_817 : decode cL_law 817 = .ok (.iadd, 1) := by decide +kernel
theorem dL_law_818 : decode cL_law 818 = .ok (.iaload, 1) := by decide +kernel
theorem dL_law_819 : decode cL_law 819 = .ok (.aload_n 3, 1) := by decide +kernel
theorem dL_law_820 : decode cL_law 820 = .ok (.invokestatic 124, 3) := by decide +kernel
theorem dL_law_823 : decode cL_law 823 = .ok (.istore 5, 2) := by decide +kernel
theorem dL_law_825 : decode cL_law 825 = .ok (.aload_n 2, 1) := by decide +kernel
theorem dL_law_826 : decode cL_law 826 = .ok (.aload_n 0, 1) := by decide +kernel
theorem dL_law_827 : decode cL_law 827 = .ok (.iload 4, 2) := by decide +kernel
theorem dL_law_829 : decode cL_law 829 = .ok (.iconst 1, 1) := by decide +kernel
theorem dL_law_830 : decode cL_law 830 = .ok (.iadd, 1) := by decide +kernel
theorem dL_law_831 : decode cL_law 831 = .ok (.iaload, 1) := by decide +kernel
theorem dL_law_832 : decode cL_law 832 = .ok (.invokevirtual 126, 3) := by decide +kernel
theorem dL_law_835 : decode cL_law 835 = .ok (.istore 6, 2) := by decide +kernel
theorem dL_law_837 : decode cL_law 837 = .ok (.aload_n 2, 1) := by decide +kernel
theorem dL_law_838 : decode cL_law 838 = .ok (.invokevirtual 91, 3) := by decide +kernel
theorem dL_law_841 : decode cL_law 841 = .ok (.iload 5, 2) := by decide +kernel
theorem dL_law_843 : decode cL_law 843 = .ok (.if_icmp .eq 5, 3) := by decide +kernel
theorem dL_law_846 : decode cL_law 846 = .ok (.iconst 0, 1) := by decide +kernel
theorem dL_law_847 : decode cL_law 847 = .ok (.ireturn, 1) := by decide +kernel
theorem dL_law_848 : decode cL_law 848 = .ok (.iload 5, 2) := by decide +kernel
theorem dL_law_850 : decode cL_law 850 = .ok (.ifCond .ne 15, 3) := by decide +kernel
theorem dL_law_853 : decode cL_law 853 = .ok (.aload_n 3, 1) := by decide +kernel
theorem dL_law_854 : decode cL_law 854 = .ok (.iconst 0, 1) := by decide +kernel
theorem dL_law_855 : decode cL_law 855 = .ok (.laload, 1) := by decide +kernel
theorem dL_law_856 : decode cL_law 856 = .ok (.iload 6, 2) := by decide +kernel
theorem dL_law_858 : decode cL_law 858 = .ok (.i2l, 1) := by decide +kernel
theorem dL_law_859 : decode cL_law 859 = .ok (.lcmp, 1) := by decide +kernel
theorem dL_law_860 : decode cL_law 860 = .ok (.ifCond .eq 5, 3) := by decide +kernel
theorem dL_law_863 : decode cL_law 863 = .ok (.iconst 0, 1) := by decide +kernel
theorem dL_law_864 : decode cL_law 864 = .ok (.ireturn, 1) := by decide +kernel
theorem dL_law_865 : decode cL_law 865 = .ok (.goto 627, 3) := by decide +kernel
theorem dL_law_868 : decode cL_law 868 = .ok (.aload_n 1, 1) := by decide +kernel
theorem dL_law_869 : decode cL_law 869 = .ok (.aload_n 0, 1) := by decide +kernel
theorem dL_law_870 : decode cL_law 870 = .ok (.iload 4, 2) := by decide +kernel
theorem dL_law_872 : decode cL_law 872 = .ok (.iconst 1, 1) := by decide +kernel
theorem dL_law_873 : decode cL_law 873 = .ok (.iadd, 1) := by decide +kernel
theorem dL_law_874 : decode cL_law 874 = .ok (.iaload, 1) := by decide +kernel
theorem dL_law_875 : decode cL_law 875 = .ok (.aload_n 3, 1) := by decide +kernel
theorem dL_law_876 : decode cL_law 876 = .ok (.invokestatic 127, 3) := by decide +kernel
theorem dL_law_879 : decode cL_law 879 = .ok (.istore 5, 2) := by decide +kernel
theorem dL_law_881 : decode cL_law 881 = .ok (.aload_n 2, 1) := by decide +kernel
theorem dL_law_882 : decode cL_law 882 = .ok (.aload_n 0, 1) := by decide +kernel
theorem dL_law_883 : decode cL_law 883 = .ok (.iload 4, 2) := by decide +kernel
theorem dL_law_885 : decode cL_law 885 = .ok (.iconst 1, 1) := by decide +kernel
theorem dL_law_886 : decode cL_law 886 = .ok (.iadd, 1) := by decide +kernel
theorem dL_law_887 : decode cL_law 887 = .ok (.iaload, 1) := by decide +kernel
theorem dL_law_888 : decode cL_law 888 = .ok (.invokevirtual 129, 3) := by decide +kernel
theorem dL_law_891 : decode cL_law 891 = .ok (.istore 6, 2) := by decide +kernel
theorem dL_law_893 : decode cL_law 893 = .ok (.aload_n 2, 1) := by decide +kernel
theorem dL_law_894 : decode cL_law 894 = .ok (.invokevirtual 91, 3) := by decide +kernel
theorem dL_law_897 : decode cL_law 897 = .ok (.iload 5, 2) := by decide +kernel
theorem dL_law_899 : decode cL_law 899 = .ok (.if_icmp .eq 5, 3) := by decide +kernel
theorem dL_law_902 : decode cL_law 902 = .ok (.iconst 0, 1) := by decide +kernel
theorem dL_law_903 : decode cL_law 903 = .ok (.ireturn, 1) := by decide +kernel
theorem dL_law_904 : decode cL_law 904 = .ok (.iload 5, 2) := by decide +kernel
theorem dL_law_906 : decode cL_law 906 = .ok (.ifCond .ne 15, 3) := by decide +kernel
theorem dL_law_909 : decode cL_law 909 = .ok (.aload_n 3, 1) := by decide +kernel
theorem dL_law_910 : decode cL_law 910 = .ok (.iconst 0, 1) := by decide +kernel
theorem dL_law_911 : decode cL_law 911 = .ok (.laload, 1) := by decide +kernel
theorem dL_law_912 : decode cL_law 912 = .ok (.iload 6, 2) := by decide +kernel
theorem dL_law_914 : decode cL_law 914 = .ok (.i2l, 1) := by decide +kernel
theorem dL_law_915 : decode cL_law 915 = .ok (.lcmp, 1) := by decide +kernel
theorem dL_law_916 : decode cL_law 916 = .ok (.ifCond .eq 5, 3) := by decide +kernel
theorem dL_law_919 : decode cL_law 919 = .ok (.iconst 0, 1) := by decide +kernel
theorem dL_law_920 : decode cL_law 920 = .ok (.ireturn, 1) := by decide +kernel
theorem dL_law_921 : decode cL_law 921 = .ok (.goto 571, 3) := by decide +kernel
theorem dL_law_924 : decode cL_law 924 = .ok (.aload_n 1, 1) := by decide +kernel
theorem dL_law_925 : decode cL_law 925 = .ok (.aload_n 0, 1) := by decide +kernel
theorem dL_law_926 : decode cL_law 926 = .ok (.iload 4, 2) := by decide +kernel
theorem dL_law_928 : decode cL_law 928 = .ok (.iconst 1, 1) := by decide +kernel
theorem dL_law_929 : decode cL_law 929 = .ok (.iadd, 1) := by decide +kernel
theorem dL_law_930 : decode cL_law 930 = .ok (.iaload, 1) := by decide +kernel
theorem dL_law_931 : decode cL_law 931 = .ok (.aload_n 0, 1) := by decide +kernel
theorem dL_law_932 : decode cL_law 932 = .ok (.iload 4, 2) := by decide +kernel
theorem dL_law_934 : decode cL_law 934 = .ok (.iconst 2, 1) := by decide +kernel
theorem dL_law_935 : decode cL_law 935 = .ok (.iadd, 1) := by decide +kernel
theorem dL_law_936 : decode cL_law 936 = .ok (.iaload, 1) := by decide +kernel
theorem dL_law_937 : decode cL_law 937 = .ok (.aload_n 3, 1) := by decide +kernel
theorem dL_law_938 : decode cL_law 938 = .ok (.invokestatic 130, 3) := by decide +kernel
theorem dL_law_941 : decode cL_law 941 = .ok (.istore 5, 2) := by decide +kernel
theorem dL_law_943 : decode cL_law 943 = .ok (.aload_n 2, 1) := by decide +kernel
theorem dL_law_944 : decode cL_law 944 = .ok (.aload_n 0, 1) := by decide +kernel
theorem dL_law_945 : decode cL_law 945 = .ok (.iload 4, 2) := by decide +kernel
theorem dL_law_947 : decode cL_law 947 = .ok (.iconst 1, 1) := by decide +kernel
theorem dL_law_948 : decode cL_law 948 = .ok (.iadd, 1) := by decide +kernel
theorem dL_law_949 : decode cL_law 949 = .ok (.iaload, 1) := by decide +kernel
theorem dL_law_950 : decode cL_law 950 = .ok (.aload_n 0, 1) := by decide +kernel
theorem dL_law_951 : decode cL_law 951 = .ok (.iload 4, 2) := by decide +kernel
theorem dL_law_953 : decode cL_law 953 = .ok (.iconst 2, 1) := by decide +kernel
theorem dL_law_954 : decode cL_law 954 = .ok (.iadd, 1) := by decide +kernel
theorem dL_law_955 : decode cL_law 955 = .ok (.iaload, 1) := by decide +kernel
theorem dL_law_956 : decode cL_law 956 = .ok (.invokevirtual 132, 3) := by decide +kernel
theorem dL_law_959 : decode cL_law 959 = .ok (.istore 6, 2) := by decide +kernel
theorem dL_law_961 : decode cL_law 961 = .ok (.aload_n 2, 1) := by decide +kernel
theorem dL_law_962 : decode cL_law 962 = .ok (.invokevirtual 91, 3) := by decide +kernel
theorem dL_law_965 : decode cL_law 965 = .ok (.iload 5, 2) := by decide +kernel
theorem dL_law_967 : decode cL_law 967 = .ok (.if_icmp .eq 5, 3) := by decide +kernel
theorem dL_law_970 : decode cL_law 970 = .ok (.iconst 0, 1) := by decide +kernel
theorem dL_law_971 : decode cL_law 971 = .ok (.ireturn, 1) := by decide +kernel
theorem dL_law_972 : decode cL_law 972 = .ok (.iload 5, 2) := by decide +kernel
theorem dL_law_974 : decode cL_law 974 = .ok (.ifCond .ne 15, 3) := by decide +kernel
theorem dL_law_977 : decode cL_law 977 = .ok (.aload_n 3, 1) := by decide +kernel
theorem dL_law_978 : decode cL_law 978 = .ok (.iconst 0, 1) := by decide +kernel
theorem dL_law_979 : decode cL_law 979 = .ok (.laload, 1) := by decide +kernel
theorem dL_law_980 : decode cL_law 980 = .ok (.iload 6, 2) := by decide +kernel
theorem dL_law_982 : decode cL_law 982 = .ok (.i2l, 1) := by decide +kernel
theorem dL_law_983 : decode cL_law 983 = .ok (.lcmp, 1) := by decide +kernel
theorem dL_law_984 : decode cL_law 984 = .ok (.ifCond .eq 5, 3) := by decide +kernel
theorem dL_law_987 : decode cL_law 987 = .ok (.iconst 0, 1) := by decide +kernel
theorem dL_law_988 : decode cL_law 988 = .ok (.ireturn, 1) := by decide +kernel
theorem dL_law_989 : decode cL_law 989 = .ok (.goto 503, 3) := by decide +kernel
theorem dL_law_992 : decode cL_law 992 = .ok (.aload_n 1, 1) := by decide +kernel
theorem dL_law_993 : decode cL_law 993 = .ok (.aload_n 0, 1) := by decide +kernel
theorem dL_law_994 : decode cL_law 994 = .ok (.iload 4, 2) := by decide +kernel
theorem dL_law_996 : decode cL_law 996 = .ok (.iconst 1, 1) := by decide +kernel
theorem dL_law_997 : decode cL_law 997 = .ok (.iadd, 1) := by decide +kernel
theorem dL_law_998 : decode cL_law 998 = .ok (.iaload, 1) := by decide +kernel
theorem dL_law_999 : decode cL_law 999 = .ok (.aload_n 0, 1) := by decide +kernel
theorem dL_law_1000 : decode cL_law 1000 = .ok (.iload 4, 2) := by decide +kernel
theorem dL_law_1002 : decode cL_law 1002 = .ok (.iconst 2, 1) := by decide +kernel
theorem dL_law_1003 : decode cL_law 1003 = .ok (.iadd, 1) := by decide +kernel
theorem dL_law_1004 : decode cL_law 1004 = .ok (.iaload, 1) := by decide +kernel
theorem dL_law_1005 : decode cL_law 1005 = .ok (.aload_n 3, 1) := by decide +kernel
theorem dL_law_1006 : decode cL_law 1006 = .ok (.invokestatic 133, 3) := by decide +kernel
theorem dL_law_1009 : decode cL_law 1009 = .ok (.istore 5, 2) := by decide +kernel
theorem dL_law_1011 : decode cL_law 1011 = .ok (.aload_n 2, 1) := by decide +kernel
theorem dL_law_1012 : decode cL_law 1012 = .ok (.aload_n 0, 1) := by decide +kernel
theorem dL_law_1013 : decode cL_law 1013 = .ok (.iload 4, 2) := by decide +kernel
theorem dL_law_1015 : decode cL_law 1015 = .ok (.iconst 1, 1) := by decide +kernel
theorem dL_law_1016 : decode cL_law 1016 = .ok (.iadd, 1) := by decide +kernel
theorem dL_law_1017 : decode cL_law 1017 = .ok (.iaload, 1) := by decide +kernel
theorem dL_law_1018 : decode cL_law 1018 = .ok (.aload_n 0, 1) := by decide +kernel
theorem dL_law_1019 : decode cL_law 1019 = .ok (.iload 4, 2) := by decide +kernel
theorem dL_law_1021 : decode cL_law 1021 = .ok (.iconst 2, 1) := by decide +kernel
theorem dL_law_1022 : decode cL_law 1022 = .ok (.iadd, 1) := by decide +kernel
theorem dL_law_1023 : decode cL_law 1023 = .ok (.iaload, 1) := by decide +kernel
theorem dL_law_1024 : decode cL_law 1024 = .ok (.invokevirtual 135, 3) := by decide +kernel
theorem dL_law_1027 : decode cL_law 1027 = .ok (.istore 6, 2) := by decide +kernel
theorem dL_law_1029 : decode cL_law 1029 = .ok (.aload_n 2, 1) := by decide +kernel
theorem dL_law_1030 : decode cL_law 1030 = .ok (.invokevirtual 91, 3) := by decide +kernel
theorem dL_law_1033 : decode cL_law 1033 = .ok (.iload 5, 2) := by decide +kernel
theorem dL_law_1035 : decode cL_law 1035 = .ok (.if_icmp .eq 5, 3) := by decide +kernel
theorem dL_law_1038 : decode cL_law 1038 = .ok (.iconst 0, 1) := by decide +kernel
theorem dL_law_1039 : decode cL_law 1039 = .ok (.ireturn, 1) := by decide +kernel
theorem dL_law_1040 : decode cL_law 1040 = .ok (.iload 5, 2) := by decide +kernel
theorem dL_law_1042 : decode cL_law 1042 = .ok (.ifCond .ne 15, 3) := by decide +kernel
theorem dL_law_1045 : decode cL_law 1045 = .ok (.aload_n 3, 1) := by decide +kernel
theorem dL_law_1046 : decode cL_law 1046 = .ok (.iconst 0, 1) := by decide +kernel
theorem dL_law_1047 : decode cL_law 1047 = .ok (.laload, 1) := by decide +kernel
theorem dL_law_1048 : decode cL_law 1048 = .ok (.iload 6, 2) := by decide +kernel
theorem dL_law_1050 : decode cL_law 1050 = .ok (.i2l, 1) := by decide +kernel
theorem dL_law_1051 : decode cL_law 1051 = .ok (.lcmp, 1) := by decide +kernel
theorem dL_law_1052 : decode cL_law 1052 = .ok (.ifCond .eq 5, 3) := by decide +kernel
theorem dL_law_1055 : decode cL_law 1055 = .ok (.iconst 0, 1) := by decide +kernel
theorem dL_law_1056 : decode cL_law 1056 = .ok (.ireturn, 1) := by decide +kernel
theorem dL_law_1057 : decode cL_law 1057 = .ok (.goto 435, 3) := by decide +kernel
theorem dL_law_1060 : decode cL_law 1060 = .ok (.aload_n 1, 1) := by decide +kernel
theorem dL_law_1061 : decode cL_law 1061 = .ok (.aload_n 0, 1) := by decide +kernel
theorem dL_law_1062 : decode cL_law 1062 = .ok (.iload 4, 2) := by decide +kernel
theorem dL_law_1064 : decode cL_law 1064 = .ok (.iconst 1, 1) := by decide +kernel
theorem dL_law_1065 : decode cL_law 1065 = .ok (.iadd, 1) := by decide +kernel
theorem dL_law_1066 : decode cL_law 1066 = .ok (.iaload, 1) := by decide +kernel
theorem dL_law_1067 : decode cL_law 1067 = .ok (.aload_n 0, 1) := by decide +kernel
theorem dL_law_1068 : decode cL_law 1068 = .ok (.iload 4, 2) := by decide +kernel
theorem dL_law_1070 : decode cL_law 1070 = .ok (.iconst 2, 1) := by decide +kernel
theorem dL_law_1071 : decode cL_law 1071 = .ok (.iadd, 1) := by decide +kernel
theorem dL_law_1072 : decode cL_law 1072 = .ok (.iaload, 1) := by decide +kernel
theorem dL_law_1073 : decode cL_law 1073 = .ok (.aload_n 3, 1) := by decide +kernel
theorem dL_law_1074 : decode cL_law 1074 = .ok (.invokestatic 136, 3) := by decide +kernel
theorem dL_law_1077 : decode cL_law 1077 = .ok (.istore 5, 2) := by decide +kernel
theorem dL_law_1079 : decode cL_law 1079 = .ok (.aload_n 2, 1) := by decide +kernel
theorem dL_law_1080 : decode cL_law 1080 = .ok (.aload_n 0, 1) := by decide +kernel
theorem dL_law_1081 : decode cL_law 1081 = .ok (.iload 4, 2) := by decide +kernel
theorem dL_law_1083 : decode cL_law 1083 = .ok (.iconst 1, 1) := by decide +kernel
theorem dL_law_1084 : decode cL_law 1084 = .ok (.iadd, 1) := by decide +kernel
theorem dL_law_1085 : decode cL_law 1085 = .ok (.iaload, 1) := by decide +kernel
theorem dL_law_1086 : decode cL_law 1086 = .ok (.aload_n 0, 1) := by decide +kernel
theorem dL_law_1087 : decode cL_law 1087 = .ok (.iload 4, 2) := by decide +kernel
theorem dL_law_1089 : decode cL_law 1089 = .ok (.iconst 2, 1) := by decide +kernel
theorem dL_law_1090 : decode cL_law 1090 = .ok (.iadd, 1) := by decide +kernel
theorem dL_law_1091 : decode cL_law 1091 = .ok (.iaload, 1) := by decide +kernel
theorem dL_law_1092 : decode cL_law 1092 = .ok (.invokevirtual 138, 3) := by decide +kernel
theorem dL_law_1095 : decode cL_law 1095 = .ok (.istore 6, 2) := by decide +kernel
theorem dL_law_1097 : decode cL_law 1097 = .ok (.aload_n 2, 1) := by decide +kernel
theorem dL_law_1098 : decode cL_law 1098 = .ok (.invokevirtual 91, 3) := by decide +kernel
theorem dL_law_1101 : decode cL_law 1101 = .ok (.iload 5, 2) := by decide +kernel
theorem dL_law_1103 : decode cL_law 1103 = .ok (.if_icmp .eq 5, 3) := by decide +kernel
theorem dL_law_1106 : decode cL_law 1106 = .ok (.iconst 0, 1) := by decide +kernel
theorem dL_law_1107 : decode cL_law 1107 = .ok (.ireturn, 1) := by decide +kernel
theorem dL_law_1108 : decode cL_law 1108 = .ok (.iload 5, 2) := by decide +kernel
theorem dL_law_1110 : decode cL_law 1110 = .ok (.ifCond .ne 15, 3) := by decide +kernel
theorem dL_law_1113 : decode cL_law 1113 = .ok (.aload_n 3, 1) := by decide +kernel
theorem dL_law_1114 : decode cL_law 1114 = .ok (.iconst 0, 1) := by decide +kernel
theorem dL_law_1115 : decode cL_law 1115 = .ok (.laload, 1) := by decide +kernel
theorem dL_law_1116 : decode cL_law 1116 = .ok (.iload 6, 2) := by decide +kernel
theorem dL_law_1118 : decode cL_law 1118 = .ok (.i2l, 1) := by decide +kernel
theorem dL_law_1119 : decode cL_law 1119 = .ok (.lcmp, 1) := by decide +kernel
theorem dL_law_1120 : decode cL_law 1120 = .ok (.ifCond .eq 5, 3) := by decide +kernel
theorem dL_law_1123 : decode cL_law 1123 = .ok (.iconst 0, 1) := by decide +kernel
theorem dL_law_1124 : decode cL_law 1124 = .ok (.ireturn, 1) := by decide +kernel
theorem dL_law_1125 : decode cL_law 1125 = .ok (.goto 367, 3) := by decide +kernel
theorem dL_law_1128 : decode cL_law 1128 = .ok (.aload_n 1, 1) := by decide +kernel
theorem dL_law_1129 : decode cL_law 1129 = .ok (.aload_n 0, 1) := by decide +kernel
theorem dL_law_1130 : decode cL_law 1130 = .ok (.iload 4, 2) := by decide +kernel
theorem dL_law_1132 : decode cL_law 1132 = .ok (.iconst 1, 1) := by decide +kernel
theorem dL_law_1133 : decode cL_law 1133 = .ok (.iadd, 1) := by decide +kernel
theorem dL_law_1134 : decode cL_law 1134 = .ok (.iaload, 1) := by decide +kernel
theorem dL_law_1135 : decode cL_law 1135 = .ok (.aload_n 0, 1) := by decide +kernel
theorem dL_law_1136 : decode cL_law 1136 = .ok (.iload 4, 2) := by decide +kernel
theorem dL_law_1138 : decode cL_law 1138 = .ok (.iconst 2, 1) := by decide +kernel
theorem dL_law_1139 : decode cL_law 1139 = .ok (.iadd, 1) := by decide +kernel
theorem dL_law_1140 : decode cL_law 1140 = .ok (.iaload, 1) := by decide +kernel
theorem dL_law_1141 : decode cL_law 1141 = .ok (.aload_n 3, 1) := by decide +kernel
theorem dL_law_1142 : decode cL_law 1142 = .ok (.invokestatic 139, 3) := by decide +kernel
theorem dL_law_1145 : decode cL_law 1145 = .ok (.istore 5, 2) := by decide +kernel
theorem dL_law_1147 : decode cL_law 1147 = .ok (.aload_n 2, 1) := by decide +kernel
theorem dL_law_1148 : decode cL_law 1148 = .ok (.aload_n 0, 1) := by decide +kernel
theorem dL_law_1149 : decode cL_law 1149 = .ok (.iload 4, 2) := by decide +kernel
theorem dL_law_1151 : decode cL_law 1151 = .ok (.iconst 1, 1) := by decide +kernel
theorem dL_law_1152 : decode cL_law 1152 = .ok (.iadd, 1) := by decide +kernel
theorem dL_law_1153 : decode cL_law 1153 = .ok (.iaload, 1) := by decide +kernel
theorem dL_law_1154 : decode cL_law 1154 = .ok (.aload_n 0, 1) := by decide +kernel
theorem dL_law_1155 : decode cL_law 1155 = .ok (.iload 4, 2) := by decide +kernel
theorem dL_law_1157 : decode cL_law 1157 = .ok (.iconst 2, 1) := by decide +kernel
theorem dL_law_1158 : decode cL_law 1158 = .ok (.iadd, 1) := by decide +kernel
theorem dL_law_1159 : decode cL_law 1159 = .ok (.iaload, 1) := by decide +kernel
theorem dL_law_1160 : decode cL_law 1160 = .ok (.invokevirtual 141, 3) := by decide +kernel
theorem dL_law_1163 : decode cL_law 1163 = .ok (.istore 6, 2) := by decide +kernel
theorem dL_law_1165 : decode cL_law 1165 = .ok (.aload_n 2, 1) := by decide +kernel
theorem dL_law_1166 : decode cL_law 1166 = .ok (.invokevirtual 91, 3) := by decide +kernel
theorem dL_law_1169 : decode cL_law 1169 = .ok (.iload 5, 2) := by decide +kernel
theorem dL_law_1171 : decode cL_law 1171 = .ok (.if_icmp .eq 5, 3) := by decide +kernel
theorem dL_law_1174 : decode cL_law 1174 = .ok (.iconst 0, 1) := by decide +kernel
theorem dL_law_1175 : decode cL_law 1175 = .ok (.ireturn, 1) := by decide +kernel
theorem dL_law_1176 : decode cL_law 1176 = .ok (.iload 5, 2) := by decide +kernel
theorem dL_law_1178 : decode cL_law 1178 = .ok (.ifCond .ne 15, 3) := by decide +kernel
theorem dL_law_1181 : decode cL_law 1181 = .ok (.aload_n 3, 1) := by decide +kernel
theorem dL_law_1182 : decode cL_law 1182 = .ok (.iconst 0, 1) := by decide +kernel
theorem dL_law_1183 : decode cL_law 1183 = .ok (.laload, 1) := by decide +kernel
theorem dL_law_1184 : decode cL_law 1184 = .ok (.iload 6, 2) := by decide +kernel
theorem dL_law_1186 : decode cL_law 1186 = .ok (.i2l, 1) := by decide +kernel
theorem dL_law_1187 : decode cL_law 1187 = .ok (.lcmp, 1) := by decide +kernel
theorem dL_law_1188 : decode cL_law 1188 = .ok (.ifCond .eq 5, 3) := by decide +kernel
theorem dL_law_1191 : decode cL_law 1191 = .ok (.iconst 0, 1) := by decide +kernel
theorem dL_law_1192 : decode cL_law 1192 = .ok (.ireturn, 1) := by decide +kernel
theorem dL_law_1193 : decode cL_law 1193 = .ok (.goto 299, 3) := by decide +kernel
theorem dL_law_1196 : decode cL_law 1196 = .ok (.aload_n 1, 1) := by decide +kernel
theorem dL_law_1197 : decode cL_law 1197 = .ok (.aload_n 0, 1) := by decide +kernel
theorem dL_law_1198 : decode cL_law 1198 = .ok (.iload 4, 2) := by decide +kernel
theorem dL_law_1200 : decode cL_law 1200 = .ok (.iconst 1, 1) := by decide +kernel
theorem dL_law_1201 : decode cL_law 1201 = .ok (.iadd, 1) := by decide +kernel
theorem dL_law_1202 : decode cL_law 1202 = .ok (.iaload, 1) := by decide +kernel
theorem dL_law_1203 : decode cL_law 1203 = .ok (.aload_n 0, 1) := by decide +kernel
theorem dL_law_1204 : decode cL_law 1204 = .ok (.iload 4, 2) := by decide +kernel
theorem dL_law_1206 : decode cL_law 1206 = .ok (.iconst 2, 1) := by decide +kernel
theorem dL_law_1207 : decode cL_law 1207 = .ok (.iadd, 1) := by decide +kernel
theorem dL_law_1208 : decode cL_law 1208 = .ok (.iaload, 1) := by decide +kernel
theorem dL_law_1209 : decode cL_law 1209 = .ok (.aload_n 0, 1) := by decide +kernel
theorem dL_law_1210 : decode cL_law 1210 = .ok (.iload 4, 2) := by decide +kernel
theorem dL_law_1212 : decode cL_law 1212 = .ok (.iconst 3, 1) := by decide +kernel
theorem dL_law_1213 : decode cL_law 1213 = .ok (.iadd, 1) := by decide +kernel
theorem dL_law_1214 : decode cL_law 1214 = .ok (.iaload, 1) := by decide +kernel
theorem dL_law_1215 : decode cL_law 1215 = .ok (.aload_n 0, 1) := by decide +kernel
theorem dL_law_1216 : decode cL_law 1216 = .ok (.iload 4, 2) := by decide +kernel
theorem dL_law_1218 : decode cL_law 1218 = .ok (.iconst 4, 1) := by decide +kernel
theorem dL_law_1219 : decode cL_law 1219 = .ok (.iadd, 1) := by decide +kernel
theorem dL_law_1220 : decode cL_law 1220 = .ok (.iaload, 1) := by decide +kernel
theorem dL_law_1221 : decode cL_law 1221 = .ok (.aload_n 3, 1) := by decide +kernel
theorem dL_law_1222 : decode cL_law 1222 = .ok (.invokestatic 142, 3) := by decide +kernel
theorem dL_law_1225 : decode cL_law 1225 = .ok (.istore 5, 2) := by decide +kernel
theorem dL_law_1227 : decode cL_law 1227 = .ok (.aload_n 2, 1) := by decide +kernel
theorem dL_law_1228 : decode cL_law 1228 = .ok (.aload_n 0, 1) := by decide +kernel
theorem dL_law_1229 : decode cL_law 1229 = .ok (.iload 4, 2) := by decide +kernel
theorem dL_law_1231 : decode cL_law 1231 = .ok (.iconst 1, 1) := by decide +kernel
theorem dL_law_1232 : decode cL_law 1232 = .ok (.iadd, 1) := by decide +kernel
theorem dL_law_1233 : decode cL_law 1233 = .ok (.iaload, 1) := by decide +kernel
theorem dL_law_1234 : decode cL_law 1234 = .ok (.aload_n 0, 1) := by decide +kernel
theorem dL_law_1235 : decode cL_law 1235 = .ok (.iload 4, 2) := by decide +kernel
theorem dL_law_1237 : decode cL_law 1237 = .ok (.iconst 2, 1) := by decide +kernel
theorem dL_law_1238 : decode cL_law 1238 = .ok (.iadd, 1) := by decide +kernel
theorem dL_law_1239 : decode cL_law 1239 = .ok (.iaload, 1) := by decide +kernel
theorem dL_law_1240 : decode cL_law 1240 = .ok (.aload_n 0, 1) := by decide +kernel
theorem dL_law_1241 : decode cL_law 1241 = .ok (.iload 4, 2) := by decide +kernel
theorem dL_law_1243 : decode cL_law 1243 = .ok (.iconst 3, 1) := by decide +kernel
theorem dL_law_1244 : decode cL_law 1244 = .ok (.iadd, 1) := by decide +kernel
theorem dL_law_1245 : decode cL_law 1245 = .ok (.iaload, 1) := by decide +kernel
theorem dL_law_1246 : decode cL_law 1246 = .ok (.aload_n 0, 1) := by decide +kernel
theorem dL_law_1247 : decode cL_law 1247 = .ok (.iload 4, 2) := by decide +kernel
theorem dL_law_1249 : decode cL_law 1249 = .ok (.iconst 4, 1) := by decide +kernel
theorem dL_law_1250 : decode cL_law 1250 = .ok (.iadd, 1) := by decide +kernel
theorem dL_law_1251 : decode cL_law 1251 = .ok (.iaload, 1) := by decide +kernel
theorem dL_law_1252 : decode cL_law 1252 = .ok (.invokevirtual 145, 3) := by decide +kernel
theorem dL_law_1255 : decode cL_law 1255 = .ok (.istore 6, 2) := by decide +kernel
theorem dL_law_1257 : decode cL_law 1257 = .ok (.aload_n 2, 1) := by decide +kernel
theorem dL_law_1258 : decode cL_law 1258 = .ok (.invokevirtual 91, 3) := by decide +kernel
theorem dL_law_1261 : decode cL_law 1261 = .ok (.iload 5, 2) := by decide +kernel
theorem dL_law_1263 : decode cL_law 1263 = .ok (.if_icmp .eq 5, 3) := by decide +kernel
theorem dL_law_1266 : decode cL_law 1266 = .ok (.iconst 0, 1) := by decide +kernel
theorem dL_law_1267 : decode cL_law 1267 = .ok (.ireturn, 1) := by decide +kernel
theorem dL_law_1268 : decode cL_law 1268 = .ok (.iload 5, 2) := by decide +kernel
theorem dL_law_1270 : decode cL_law 1270 = .ok (.ifCond .ne 15, 3) := by decide +kernel
theorem dL_law_1273 : decode cL_law 1273 = .ok (.aload_n 3, 1) := by decide +kernel
theorem dL_law_1274 : decode cL_law 1274 = .ok (.iconst 0, 1) := by decide +kernel
theorem dL_law_1275 : decode cL_law 1275 = .ok (.laload, 1) := by decide +kernel
theorem dL_law_1276 : decode cL_law 1276 = .ok (.iload 6, 2) := by decide +kernel
theorem dL_law_1278 : decode cL_law 1278 = .ok (.i2l, 1) := by decide +kernel
theorem dL_law_1279 : decode cL_law 1279 = .ok (.lcmp, 1) := by decide +kernel
theorem dL_law_1280 : decode cL_law 1280 = .ok (.ifCond .eq 5, 3) := by decide +kernel
theorem dL_law_1283 : decode cL_law 1283 = .ok (.iconst 0, 1) := by decide +kernel
theorem dL_law_1284 : decode cL_law 1284 = .ok (.ireturn, 1) := by decide +kernel
theorem dL_law_1285 : decode cL_law 1285 = .ok (.goto 207, 3) := by decide +kernel
theorem dL_law_1288 : decode cL_law 1288 = .ok (.aload_n 1, 1) := by decide +kernel
theorem dL_law_1289 : decode cL_law 1289 = .ok (.aload_n 0, 1) := by decide +kernel
theorem dL_law_1290 : decode cL_law 1290 = .ok (.iload 4, 2) := by decide +kernel
theorem dL_law_1292 : decode cL_law 1292 = .ok (.iconst 1, 1) := by decide +kernel
theorem dL_law_1293 : decode cL_law 1293 = .ok (.iadd, 1) := by decide +kernel
theorem dL_law_1294 : decode cL_law 1294 = .ok (.iaload, 1) := by decide +kernel
theorem dL_law_1295 : decode cL_law 1295 = .ok (.aload_n 0, 1) := by decide +kernel
theorem dL_law_1296 : decode cL_law 1296 = .ok (.iload 4, 2) := by decide +kernel
theorem dL_law_1298 : decode cL_law 1298 = .ok (.iconst 2, 1) := by decide +kernel
theorem dL_law_1299 : decode cL_law 1299 = .ok (.iadd, 1) := by decide +kernel
theorem dL_law_1300 : decode cL_law 1300 = .ok (.iaload, 1) := by decide +kernel
theorem dL_law_1301 : decode cL_law 1301 = .ok (.aload_n 0, 1) := by decide +kernel
theorem dL_law_1302 : decode cL_law 1302 = .ok (.iload 4, 2) := by decide +kernel
theorem dL_law_1304 : decode cL_law 1304 = .ok (.iconst 3, 1) := by decide +kernel
theorem dL_law_1305 : decode cL_law 1305 = .ok (.iadd, 1) := by decide +kernel
theorem dL_law_1306 : decode cL_law 1306 = .ok (.iaload, 1) := by decide +kernel
theorem dL_law_1307 : decode cL_law 1307 = .ok (.aload_n 3, 1) := by decide +kernel
theorem dL_law_1308 : decode cL_law 1308 = .ok (.invokestatic 146, 3) := by decide +kernel
theorem dL_law_1311 : decode cL_law 1311 = .ok (.istore 5, 2) := by decide +kernel
theorem dL_law_1313 : decode cL_law 1313 = .ok (.aload_n 2, 1) := by decide +kernel
theorem dL_law_1314 : decode cL_law 1314 = .ok (.aload_n 0, 1) := by decide +kernel
theorem dL_law_1315 : decode cL_law 1315 = .ok (.iload 4, 2) := by decide +kernel
theorem dL_law_1317 : decode cL_law 1317 = .ok (.iconst 1, 1) := by decide +kernel
theorem dL_law_1318 : decode cL_law 1318 = .ok (.iadd, 1) := by decide +kernel
theorem dL_law_1319 : decode cL_law 1319 = .ok (.iaload, 1) := by decide +kernel
theorem dL_law_1320 : decode cL_law 1320 = .ok (.aload_n 0, 1) := by decide +kernel
theorem dL_law_1321 : decode cL_law 1321 = .ok (.iload 4, 2) := by decide +kernel
theorem dL_law_1323 : decode cL_law 1323 = .ok (.iconst 2, 1) := by decide +kernel
theorem dL_law_1324 : decode cL_law 1324 = .ok (.iadd, 1) := by decide +kernel
theorem dL_law_1325 : decode cL_law 1325 = .ok (.iaload, 1) := by decide +kernel
theorem dL_law_1326 : decode cL_law 1326 = .ok (.aload_n 0, 1) := by decide +kernel
theorem dL_law_1327 : decode cL_law 1327 = .ok (.iload 4, 2) := by decide +kernel
theorem dL_law_1329 : decode cL_law 1329 = .ok (.iconst 3, 1) := by decide +kernel
theorem dL_law_1330 : decode cL_law 1330 = .ok (.iadd, 1) := by decide +kernel
theorem dL_law_1331 : decode cL_law 1331 = .ok (.iaload, 1) := by decide +kernel
theorem dL_law_1332 : decode cL_law 1332 = .ok (.invokevirtual 148, 3) := by decide +kernel
theorem dL_law_1335 : decode cL_law 1335 = .ok (.istore 6, 2) := by decide +kernel
theorem dL_law_1337 : decode cL_law 1337 = .ok (.aload_n 2, 1) := by decide +kernel
theorem dL_law_1338 : decode cL_law 1338 = .ok (.invokevirtual 91, 3) := by decide +kernel
theorem dL_law_1341 : decode cL_law 1341 = .ok (.iload 5, 2) := by decide +kernel
theorem dL_law_1343 : decode cL_law 1343 = .ok (.if_icmp .eq 5, 3) := by decide +kernel
theorem dL_law_1346 : decode cL_law 1346 = .ok (.iconst 0, 1) := by decide +kernel
theorem dL_law_1347 : decode cL_law 1347 = .ok (.ireturn, 1) := by decide +kernel
theorem dL_law_1348 : decode cL_law 1348 = .ok (.iload 5, 2) := by decide +kernel
theorem dL_law_1350 : decode cL_law 1350 = .ok (.ifCond .ne 15, 3) := by decide +kernel
theorem dL_law_1353 : decode cL_law 1353 = .ok (.aload_n 3, 1) := by decide +kernel
theorem dL_law_1354 : decode cL_law 1354 = .ok (.iconst 0, 1) := by decide +kernel
theorem dL_law_1355 : decode cL_law 1355 = .ok (.laload, 1) := by decide +kernel
theorem dL_law_1356 : decode cL_law 1356 = .ok (.iload 6, 2) := by decide +kernel
theorem dL_law_1358 : decode cL_law 1358 = .ok (.i2l, 1) := by decide +kernel
theorem dL_law_1359 : decode cL_law 1359 = .ok (.lcmp, 1) := by decide +kernel
theorem dL_law_1360 : decode cL_law 1360 = .ok (.ifCond .eq 5, 3) := by decide +kernel
theorem dL_law_1363 : decode cL_law 1363 = .ok (.iconst 0, 1) := by decide +kernel
theorem dL_law_1364 : decode cL_law 1364 = .ok (.ireturn, 1) := by decide +kernel
theorem dL_law_1365 : decode cL_law 1365 = .ok (.goto 127, 3) := by decide +kernel
theorem dL_law_1368 : decode cL_law 1368 = .ok (.aload_n 1, 1) := by decide +kernel
theorem dL_law_1369 : decode cL_law 1369 = .ok (.aload_n 0, 1) := by decide +kernel
theorem dL_law_1370 : decode cL_law 1370 = .ok (.iload 4, 2) := by decide +kernel
theorem dL_law_1372 : decode cL_law 1372 = .ok (.iconst 1, 1) := by decide +kernel
theorem dL_law_1373 : decode cL_law 1373 = .ok (.iadd, 1) := by decide +kernel
theorem dL_law_1374 : decode cL_law 1374 = .ok (.iaload, 1) := by decide +kernel
theorem dL_law_1375 : decode cL_law 1375 = .ok (.aload_n 0, 1) := by decide +kernel
theorem dL_law_1376 : decode cL_law 1376 = .ok (.iload 4, 2) := by decide +kernel
theorem dL_law_1378 : decode cL_law 1378 = .ok (.iconst 2, 1) := by decide +kernel
theorem dL_law_1379 : decode cL_law 1379 = .ok (.iadd, 1) := by decide +kernel
theorem dL_law_1380 : decode cL_law 1380 = .ok (.iaload, 1) := by decide +kernel
theorem dL_law_1381 : decode cL_law 1381 = .ok (.aload_n 3, 1) := by decide +kernel
theorem dL_law_1382 : decode cL_law 1382 = .ok (.invokestatic 149, 3) := by decide +kernel
theorem dL_law_1385 : decode cL_law 1385 = .ok (.istore 5, 2) := by decide +kernel
theorem dL_law_1387 : decode cL_law 1387 = .ok (.aload_n 2, 1) := by decide +kernel
theorem dL_law_1388 : decode cL_law 1388 = .ok (.aload_n 0, 1) := by decide +kernel
theorem dL_law_1389 : decode cL_law 1389 = .ok (.iload 4, 2) := by decide +kernel
theorem dL_law_1391 : decode cL_law 1391 = .ok (.iconst 1, 1) := by decide +kernel
theorem dL_law_1392 : decode cL_law 1392 = .ok (.iadd, 1) := by decide +kernel
theorem dL_law_1393 : decode cL_law 1393 = .ok (.iaload, 1) := by decide +kernel
theorem dL_law_1394 : decode cL_law 1394 = .ok (.aload_n 0, 1) := by decide +kernel
theorem dL_law_1395 : decode cL_law 1395 = .ok (.iload 4, 2) := by decide +kernel
theorem dL_law_1397 : decode cL_law 1397 = .ok (.iconst 2, 1) := by decide +kernel
theorem dL_law_1398 : decode cL_law 1398 = .ok (.iadd, 1) := by decide +kernel
theorem dL_law_1399 : decode cL_law 1399 = .ok (.iaload, 1) := by decide +kernel
theorem dL_law_1400 : decode cL_law 1400 = .ok (.invokevirtual 151, 3) := by decide +kernel
theorem dL_law_1403 : decode cL_law 1403 = .ok (.istore 6, 2) := by decide +kernel
theorem dL_law_1405 : decode cL_law 1405 = .ok (.aload_n 2, 1) := by decide +kernel
theorem dL_law_1406 : decode cL_law 1406 = .ok (.invokevirtual 91, 3) := by decide +kernel
theorem dL_law_1409 : decode cL_law 1409 = .ok (.iload 5, 2) := by decide +kernel
theorem dL_law_1411 : decode cL_law 1411 = .ok (.if_icmp .eq 5, 3) := by decide +kernel
theorem dL_law_1414 : decode cL_law 1414 = .ok (.iconst 0, 1) := by decide +kernel
theorem dL_law_1415 : decode cL_law 1415 = .ok (.ireturn, 1) := by decide +kernel
theorem dL_law_1416 : decode cL_law 1416 = .ok (.iload 5, 2) := by decide +kernel
theorem dL_law_1418 : decode cL_law 1418 = .ok (.ifCond .ne 15, 3) := by decide +kernel
theorem dL_law_1421 : decode cL_law 1421 = .ok (.aload_n 3, 1) := by decide +kernel
theorem dL_law_1422 : decode cL_law 1422 = .ok (.iconst 0, 1) := by decide +kernel
theorem dL_law_1423 : decode cL_law 1423 = .ok (.laload, 1) := by decide +kernel
theorem dL_law_1424 : decode cL_law 1424 = .ok (.iload 6, 2) := by decide +kernel
theorem dL_law_1426 : decode cL_law 1426 = .ok (.i2l, 1) := by decide +kernel
theorem dL_law_1427 : decode cL_law 1427 = .ok (.lcmp, 1) := by decide +kernel
theorem dL_law_1428 : decode cL_law 1428 = .ok (.ifCond .eq 5, 3) := by decide +kernel
theorem dL_law_1431 : decode cL_law 1431 = .ok (.iconst 0, 1) := by decide +kernel
theorem dL_law_1432 : decode cL_law 1432 = .ok (.ireturn, 1) := by decide +kernel
theorem dL_law_1433 : decode cL_law 1433 = .ok (.goto 59, 3) := by decide +kernel
theorem dL_law_1436 : decode cL_law 1436 = .ok (.aload_n 1, 1) := by decide +kernel
theorem dL_law_1437 : decode cL_law 1437 = .ok (.aload_n 0, 1) := by decide +kernel
theorem dL_law_1438 : decode cL_law 1438 = .ok (.iload 4, 2) := by decide +kernel
theorem dL_law_1440 : decode cL_law 1440 = .ok (.iconst 1, 1) := by decide +kernel
theorem dL_law_1441 : decode cL_law 1441 = .ok (.iadd, 1) := by decide +kernel
theorem dL_law_1442 : decode cL_law 1442 = .ok (.iaload, 1) := by decide +kernel
theorem dL_law_1443 : decode cL_law 1443 = .ok (.aload_n 3, 1) := by decide +kernel
theorem dL_law_1444 : decode cL_law 1444 = .ok (.invokestatic 152, 3) := by decide +kernel
theorem dL_law_1447 : decode cL_law 1447 = .ok (.istore 5, 2) := by decide +kernel
theorem dL_law_1449 : decode cL_law 1449 = .ok (.aload_n 2, 1) := by decide +kernel
theorem dL_law_1450 : decode cL_law 1450 = .ok (.aload_n 0, 1) := by decide +kernel
theorem dL_law_1451 : decode cL_law 1451 = .ok (.iload 4, 2) := by decide +kernel
theorem dL_law_1453 : decode cL_law 1453 = .ok (.iconst 1, 1) := by decide +kernel
theorem dL_law_1454 : decode cL_law 1454 = .ok (.iadd, 1) := by decide +kernel
theorem dL_law_1455 : decode cL_law 1455 = .ok (.iaload, 1) := by decide +kernel
theorem dL_law_1456 : decode cL_law 1456 = .ok (.invokevirtual 154, 3) := by decide +kernel
theorem dL_law_1459 : decode cL_law 1459 = .ok (.istore 6, 2) := by decide +kernel
theorem dL_law_1461 : decode cL_law 1461 = .ok (.aload_n 2, 1) := by decide +kernel
theorem dL_law_1462 : decode cL_law 1462 = .ok (.invokevirtual 91, 3) := by decide +kernel
theorem dL_law_1465 : decode cL_law 1465 = .ok (.iload 5, 2) := by decide +kernel
theorem dL_law_1467 : decode cL_law 1467 = .ok (.if_icmp .eq 5, 3) := by decide +kernel
theorem dL_law_1470 : decode cL_law 1470 = .ok (.iconst 0, 1) := by decide +kernel
theorem dL_law_1471 : decode cL_law 1471 = .ok (.ireturn, 1) := by decide +kernel
theorem dL_law_1472 : decode cL_law 1472 = .ok (.iload 5, 2) := by decide +kernel
theorem dL_law_1474 : decode cL_law 1474 = .ok (.ifCond .ne 15, 3) := by decide +kernel
theorem dL_law_1477 : decode cL_law 1477 = .ok (.aload_n 3, 1) := by decide +kernel
theorem dL_law_1478 : decode cL_law 1478 = .ok (.iconst 0, 1) := by decide +kernel
theorem dL_law_1479 : decode cL_law 1479 = .ok (.laload, 1) := by decide +kernel
theorem dL_law_1480 : decode cL_law 1480 = .ok (.iload 6, 2) := by decide +kernel
theorem dL_law_1482 : decode cL_law 1482 = .ok (.i2l, 1) := by decide +kernel
theorem dL_law_1483 : decode cL_law 1483 = .ok (.lcmp, 1) := by decide +kernel
theorem dL_law_1484 : decode cL_law 1484 = .ok (.ifCond .eq 5, 3) := by decide +kernel
theorem dL_law_1487 : decode cL_law 1487 = .ok (.iconst 0, 1) := by decide +kernel
theorem dL_law_1488 : decode cL_law 1488 = .ok (.ireturn, 1) := by decide +kernel
theorem dL_law_1489 : decode cL_law 1489 = .ok (.goto 3, 3) := by decide +kernel
theorem dL_law_1492 : decode cL_law 1492 = .ok (.iinc 4 5, 3) := by decide +kernel
theorem dL_law_1495 : decode cL_law 1495 = .ok (.goto (-1472), 3) := by decide +kernel
theorem dL_law_1498 : decode cL_law 1498 = .ok (.iconst 1, 1) := by decide +kernel
theorem dL_law_1499 : decode cL_law 1499 = .ok (.ireturn, 1) := by decide +kernel
abbrev vwCl : List vw_C := [(RJx4a65c, TJx4a65c, 3), (RX0, TX0, 5), (RX1, TX1, 3), (RX2, TX2, 4), (RX3, TX3, 6), (RX4, TX4, 9), (RX5, TX5, 8), (RX6, TX6, 24)]
end
section
/-! the tables' words, one by one -/
def WA : List Cond := lw_tbl.filter goodWord
theorem wa_of {w : Cond} (k : Nat) (h : lw_tbl[k]? = some w) (hg : goodWord w = true) : w ∈ WA := List.mem_filter.mpr ⟨List.mem_of_getElem? h, hg⟩
theorem wm_0 : (Jvm.Cond.selects "java/lang/Throwable" ⟨"java/lang/Throwable", "fillInStackTrace", "(I)Ljava/lang/Throwable;"⟩ ⟨"java/lang/Throwable", "fillInStackTrace", "(I)Ljava/lang/Throwable;"⟩) ∈ WA := wa_of 0 (by decide +kernel) (by decide +kernel)
theorem wm_1 : (Jvm.Cond.selects "java/util/ArrayList" ⟨"java/util/ArrayList", "add", "(Ljava/lang/Object;[Ljava/lang/Object;I)V"⟩ ⟨"java/util/ArrayList", "add", "(Ljava/lang/Object;[Ljava/lang/Object;I)V"⟩) ∈ WA := wa_of 1 (by decide +kernel) (by decide +kernel)
theorem wm_2 : (Jvm.Cond.selects "java/util/ArrayList" ⟨"java/util/ArrayList", "grow", "()[Ljava/lang/Object;"⟩ ⟨"java/util/ArrayList", "grow", "()[Ljava/lang/Object;"⟩) ∈ WA := wa_of 2 (by decide +kernel) (by decide +kernel)
theorem wm_3 : (Jvm.Cond.selects "java/util/ArrayList" ⟨"java/util/ArrayList", "grow", "(I)[Ljava/lang/Object;"⟩ ⟨"java/util/ArrayList", "grow", "(I)[Ljava/lang/Object;"⟩) ∈ WA := wa_of 3 (by decide +kernel) (by decide +kernel)
theorem wm_4 : (Jvm.Cond.selects "DyeRing" ⟨"DyeRing", "findEntry", "(I)LDyeRing$Entry;"⟩ ⟨"DyeRing", "findEntry", "(I)LDyeRing$Entry;"⟩) ∈ WA := wa_of 4 (by decide +kernel) (by decide +kernel)
theorem wm_5 : (Jvm.Cond.selects "DyeRing" ⟨"DyeRing", "findBath", "(I)LDyeRing$Bath;"⟩ ⟨"DyeRing", "findBath", "(I)LDyeRing$Bath;"⟩) ∈ WA := wa_of 5 (by decide +kernel) (by decide +kernel)
theorem wm_6 : (Jvm.Cond.selects "DyeRing" ⟨"DyeRing", "findOrder", "(I)LDyeRing$Order;"⟩ ⟨"DyeRing", "findOrder", "(I)LDyeRing$Order;"⟩) ∈ WA := wa_of 6 (by decide +kernel) (by decide +kernel)
theorem wm_7 : (Jvm.Cond.selects "DyeRing" ⟨"DyeRing", "weakestRightBath", "(LDyeRing$Order;)I"⟩ ⟨"DyeRing", "weakestRightBath", "(LDyeRing$Order;)I"⟩) ∈ WA := wa_of 7 (by decide +kernel) (by decide +kernel)
theorem wm_8 : (Jvm.Cond.selects "DyeRing" ⟨"DyeRing", "isRight", "(LDyeRing$Bath;LDyeRing$Order;)Z"⟩ ⟨"DyeRing", "isRight", "(LDyeRing$Bath;LDyeRing$Order;)Z"⟩) ∈ WA := wa_of 8 (by decide +kernel) (by decide +kernel)
theorem wm_9 : (Jvm.Cond.selects "DyeRing" ⟨"DyeRing", "dyeIn", "(LDyeRing$Order;LDyeRing$Bath;)LDyeRing$Piece;"⟩ ⟨"DyeRing", "dyeIn", "(LDyeRing$Order;LDyeRing$Bath;)LDyeRing$Piece;"⟩) ∈ WA := wa_of 9 (by decide +kernel) (by decide +kernel)
theorem wm_10 : (Jvm.Cond.selects "DyeRing$Cloth" ⟨"DyeRing$Cloth", "settleLowest", "()Z"⟩ ⟨"DyeRing$Cloth", "settleLowest", "()Z"⟩) ∈ WA := wa_of 10 (by decide +kernel) (by decide +kernel)
theorem wm_11 : (Jvm.Cond.selects "DyeRing$Cloth" ⟨"DyeRing$Cloth", "lowest", "(I)I"⟩ ⟨"DyeRing$Cloth", "lowest", "(I)I"⟩) ∈ WA := wa_of 11 (by decide +kernel) (by decide +kernel)
theorem wm_12 : (Jvm.Cond.selects "DyeRingModel" ⟨"DyeRingModel", "mayBoth", "(ZZ)Z"⟩ ⟨"DyeRingModel", "mayBoth", "(ZZ)Z"⟩) ∈ WA := wa_of 12 (by decide +kernel) (by decide +kernel)
theorem wm_13 : (Jvm.Cond.selects "DyeRingModel" ⟨"DyeRingModel", "isEntry", "(I)Z"⟩ ⟨"DyeRingModel", "isEntry", "(I)Z"⟩) ∈ WA := wa_of 13 (by decide +kernel) (by decide +kernel)
theorem wm_14 : (Jvm.Cond.selects "DyeRingModel" ⟨"DyeRingModel", "may", "(Z)Z"⟩ ⟨"DyeRingModel", "may", "(Z)Z"⟩) ∈ WA := wa_of 14 (by decide +kernel) (by decide +kernel)
theorem wm_15 : (Jvm.Cond.selects "DyeRingModel" ⟨"DyeRingModel", "isBath", "(I)Z"⟩ ⟨"DyeRingModel", "isBath", "(I)Z"⟩) ∈ WA := wa_of 15 (by decide +kernel) (by decide +kernel)
theorem wm_16 : (Jvm.Cond.selects "DyeRingModel" ⟨"DyeRingModel", "mayAll", "(ZZZ)Z"⟩ ⟨"DyeRingModel", "mayAll", "(ZZZ)Z"⟩) ∈ WA := wa_of 16 (by decide +kernel) (by decide +kernel)
theorem wm_17 : (Jvm.Cond.selects "DyeRingModel" ⟨"DyeRingModel", "isOrder", "(I)Z"⟩ ⟨"DyeRingModel", "isOrder", "(I)Z"⟩) ∈ WA := wa_of 17 (by decide +kernel) (by decide +kernel)
theorem wm_18 : (Jvm.Cond.selects "DyeRingModel" ⟨"DyeRingModel", "offBy", "(II)I"⟩ ⟨"DyeRingModel", "offBy", "(II)I"⟩) ∈ WA := wa_of 18 (by decide +kernel) (by decide +kernel)
theorem wm_19 : (Jvm.Cond.selects "DyeRingModel" ⟨"DyeRingModel", "off", "(IIII)I"⟩ ⟨"DyeRingModel", "off", "(IIII)I"⟩) ∈ WA := wa_of 19 (by decide +kernel) (by decide +kernel)
theorem wm_20 : (Jvm.Cond.selects "DyeRingModel" ⟨"DyeRingModel", "dyeIn", "(II)V"⟩ ⟨"DyeRingModel", "dyeIn", "(II)V"⟩) ∈ WA := wa_of 20 (by decide +kernel) (by decide +kernel)
theorem wm_21 : (Jvm.Cond.selects "DyeRingModel" ⟨"DyeRingModel", "offOf", "(I)I"⟩ ⟨"DyeRingModel", "offOf", "(I)I"⟩) ∈ WA := wa_of 21 (by decide +kernel) (by decide +kernel)
theorem wm_22 : (Jvm.Cond.selects "DyeRingModel" ⟨"DyeRingModel", "positionOf", "(II)I"⟩ ⟨"DyeRingModel", "positionOf", "(II)I"⟩) ∈ WA := wa_of 22 (by decide +kernel) (by decide +kernel)
theorem wm_23 : (Jvm.Cond.initialized "DyeRingLaw") ∈ WA := wa_of 23 (by decide +kernel) (by decide +kernel)
theorem wm_24 : (Jvm.Cond.initialized "DyeRing") ∈ WA := wa_of 24 (by decide +kernel) (by decide +kernel)
theorem wm_25 : (Jvm.Cond.initialized "java/util/AbstractCollection") ∈ WA := wa_of 25 (by decide +kernel) (by decide +kernel)
theorem wm_26 : (Jvm.Cond.initialized "java/util/AbstractList") ∈ WA := wa_of 26 (by decide +kernel) (by decide +kernel)
theorem wm_27 : (Jvm.Cond.initialized "java/util/ArrayList") ∈ WA := wa_of 27 (by decide +kernel) (by decide +kernel)
theorem wm_28 : (Jvm.Cond.initialized "DyeRing$Cloth") ∈ WA := wa_of 28 (by decide +kernel) (by decide +kernel)
theorem wm_29 : (Jvm.Cond.initialized "DyeRingModel") ∈ WA := wa_of 29 (by decide +kernel) (by decide +kernel)
theorem wm_30 : (Jvm.Cond.initialized "java/lang/Throwable") ∈ WA := wa_of 30 (by decide +kernel) (by decide +kernel)
theorem wm_31 : (Jvm.Cond.initialized "java/lang/Exception") ∈ WA := wa_of 31 (by decide +kernel) (by decide +kernel)
theorem wm_32 : (Jvm.Cond.initialized "java/lang/RuntimeException") ∈ WA := wa_of 32 (by decide +kernel) (by decide +kernel)
theorem wm_33 : (Jvm.Cond.initialized "java/lang/IllegalArgumentException") ∈ WA := wa_of 33 (by decide +kernel) (by decide +kernel)
theorem wm_34 : (Jvm.Cond.initialized "java/lang/IllegalStateException") ∈ WA := wa_of 34 (by decide +kernel) (by decide +kernel)
theorem wm_35 : (Jvm.Cond.initialized "DyeRing$Entry") ∈ WA := wa_of 35 (by decide +kernel) (by decide +kernel)
theorem wm_36 : (Jvm.Cond.initialized "jdk/internal/util/ArraysSupport") ∈ WA := wa_of 36 (by decide +kernel) (by decide +kernel)
theorem wm_37 : (Jvm.Cond.initialized "java/lang/Math") ∈ WA := wa_of 37 (by decide +kernel) (by decide +kernel)
theorem wm_38 : (Jvm.Cond.initialized "java/util/Arrays") ∈ WA := wa_of 38 (by decide +kernel) (by decide +kernel)
theorem wm_39 : (Jvm.Cond.initialized "java/lang/System") ∈ WA := wa_of 39 (by decide +kernel) (by decide +kernel)
theorem wm_40 : (Jvm.Cond.initialized "java/lang/IndexOutOfBoundsException") ∈ WA := wa_of 40 (by decide +kernel) (by decide +kernel)
theorem wm_41 : (Jvm.Cond.initialized "java/util/Objects") ∈ WA := wa_of 41 (by decide +kernel) (by decide +kernel)
theorem wm_42 : (Jvm.Cond.initialized "jdk/internal/util/Preconditions") ∈ WA := wa_of 42 (by decide +kernel) (by decide +kernel)
theorem wm_43 : (Jvm.Cond.initialized "DyeRing$Bath") ∈ WA := wa_of 43 (by decide +kernel) (by decide +kernel)
theorem wm_44 : (Jvm.Cond.initialized "DyeRing$Order") ∈ WA := wa_of 44 (by decide +kernel) (by decide +kernel)
theorem wm_45 : (Jvm.Cond.initialized "java/util/NoSuchElementException") ∈ WA := wa_of 45 (by decide +kernel) (by decide +kernel)
theorem wm_46 : (Jvm.Cond.initialized "DyeRing$Piece") ∈ WA := wa_of 46 (by decide +kernel) (by decide +kernel)
theorem wm_47 : (Jvm.Cond.classLink "DyeRingLaw" (8 : Nat) "DyeRing") ∈ WA := wa_of 47 (by decide +kernel) (by decide +kernel)
theorem wm_48 : (Jvm.Cond.instantiable "DyeRing" (8 : Nat)) ∈ WA := wa_of 48 (by decide +kernel) (by decide +kernel)
theorem wm_49 : (Jvm.Cond.methodLink "DyeRingLaw" (81 : Nat) ({ cls := "DyeRing", name := "<init>", desc := "()V" } : Jvm.MethodName)) ∈ WA := wa_of 49 (by decide +kernel) (by decide +kernel)
theorem wm_50 : (Jvm.Cond.instanceMethod ({ cls := "DyeRing", name := "<init>", desc := "()V" } : Jvm.MethodName)) ∈ WA := wa_of 50 (by decide +kernel) (by decide +kernel)
theorem wm_51 : (Jvm.Cond.code ({ cls := "DyeRing", name := "<init>", desc := "()V" } : Jvm.MethodName) prog_1_method_1_code (2 : Nat) (Option.none : Option Jvm.ClassFile.FieldType)) ∈ WA := wa_of 51 (by decide +kernel) (by decide +kernel)
theorem wm_52 : (Jvm.Cond.methodLink "DyeRing" (1 : Nat) ({ cls := "java/lang/Object", name := "<init>", desc := "()V" } : Jvm.MethodName)) ∈ WA := wa_of 52 (by decide +kernel) (by decide +kernel)
theorem wm_53 : (Jvm.Cond.instanceMethod ({ cls := "java/lang/Object", name := "<init>", desc := "()V" } : Jvm.MethodName)) ∈ WA := wa_of 53 (by decide +kernel) (by decide +kernel)
theorem wm_54 : (Jvm.Cond.code ({ cls := "java/lang/Object", name := "<init>", desc := "()V" } : Jvm.MethodName) object_method_1_code (1 : Nat) (Option.none : Option Jvm.ClassFile.FieldType)) ∈ WA := wa_of 54 (by decide +kernel) (by decide +kernel)
theorem wm_55 : (Jvm.Cond.classLink "DyeRing" (7 : Nat) "java/util/ArrayList") ∈ WA := wa_of 55 (by decide +kernel) (by decide +kernel)
theorem wm_56 : (Jvm.Cond.instantiable "java/util/ArrayList" (3 : Nat)) ∈ WA := wa_of 56 (by decide +kernel) (by decide +kernel)
theorem wm_57 : (Jvm.Cond.methodLink "DyeRing" (9 : Nat) ({ cls := "java/util/ArrayList", name := "<init>", desc := "()V" } : Jvm.MethodName)) ∈ WA := wa_of 57 (by decide +kernel) (by decide +kernel)
theorem wm_58 : (Jvm.Cond.instanceMethod ({ cls := "java/util/ArrayList", name := "<init>", desc := "()V" } : Jvm.MethodName)) ∈ WA := wa_of 58 (by decide +kernel) (by decide +kernel)
theorem wm_59 : (Jvm.Cond.code ({ cls := "java/util/ArrayList", name := "<init>", desc := "()V" } : Jvm.MethodName) prog_23_method_2_code (1 : Nat) (Option.none : Option Jvm.ClassFile.FieldType)) ∈ WA := wa_of 59 (by decide +kernel) (by decide +kernel)
theorem wm_60 : (Jvm.Cond.methodLink "java/util/ArrayList" (1 : Nat) ({ cls := "java/util/AbstractList", name := "<init>", desc := "()V" } : Jvm.MethodName)) ∈ WA := wa_of 60 (by decide +kernel) (by decide +kernel)
theorem wm_61 : (Jvm.Cond.instanceMethod ({ cls := "java/util/AbstractList", name := "<init>", desc := "()V" } : Jvm.MethodName)) ∈ WA := wa_of 61 (by decide +kernel) (by decide +kernel)
theorem wm_62 : (Jvm.Cond.code ({ cls := "java/util/AbstractList", name := "<init>", desc := "()V" } : Jvm.MethodName) prog_22_method_1_code (1 : Nat) (Option.none : Option Jvm.ClassFile.FieldType)) ∈ WA := wa_of 62 (by decide +kernel) (by decide +kernel)
theorem wm_63 : (Jvm.Cond.methodLink "java/util/AbstractList" (1 : Nat) ({ cls := "java/util/AbstractCollection", name := "<init>", desc := "()V" } : Jvm.MethodName)) ∈ WA := wa_of 63 (by decide +kernel) (by decide +kernel)
theorem wm_64 : (Jvm.Cond.instanceMethod ({ cls := "java/util/AbstractCollection", name := "<init>", desc := "()V" } : Jvm.MethodName)) ∈ WA := wa_of 64 (by decide +kernel) (by decide +kernel)
theorem wm_65 : (Jvm.Cond.code ({ cls := "java/util/AbstractCollection", name := "<init>", desc := "()V" } : Jvm.MethodName) prog_21_method_1_code (1 : Nat) (Option.none : Option Jvm.ClassFile.FieldType)) ∈ WA := wa_of 65 (by decide +kernel) (by decide +kernel)
theorem wm_66 : (Jvm.Cond.methodLink "java/util/AbstractCollection" (1 : Nat) ({ cls := "java/lang/Object", name := "<init>", desc := "()V" } : Jvm.MethodName)) ∈ WA := wa_of 66 (by decide +kernel) (by decide +kernel)
theorem wm_67 : (Jvm.Cond.fieldLink "java/util/ArrayList" (39 : Nat) "java/util/ArrayList" "DEFAULTCAPACITY_EMPTY_ELEMENTDATA" "[Ljava/lang/Object;") ∈ WA := wa_of 67 (by decide +kernel) (by decide +kernel)
theorem wm_69 : (Jvm.Cond.fieldLink "java/util/ArrayList" (9 : Nat) "java/util/ArrayList" "elementData" "[Ljava/lang/Object;") ∈ WA := wa_of 69 (by decide +kernel) (by decide +kernel)
theorem wm_70 : (Jvm.Cond.fieldLink "java/util/ArrayList" (48 : Nat) "java/util/ArrayList" "size" "I") ∈ WA := wa_of 70 (by decide +kernel) (by decide +kernel)
theorem wm_71 : (Jvm.Cond.fieldLink "java/util/AbstractList" (7 : Nat) "java/util/AbstractList" "modCount" "I") ∈ WA := wa_of 71 (by decide +kernel) (by decide +kernel)
theorem wm_72 : (Jvm.Cond.fieldLink "java/util/ArrayList" (63 : Nat) "java/util/ArrayList" "modCount" "I") ∈ WA := wa_of 72 (by decide +kernel) (by decide +kernel)
theorem wm_73 : (Jvm.Cond.sameField "java/util/ArrayList" "java/util/AbstractList" "modCount" "I") ∈ WA := wa_of 73 (by decide +kernel) (by decide +kernel)
theorem wm_74 : (Jvm.Cond.lays "java/util/ArrayList" "java/util/ArrayList" "elementData" "[Ljava/lang/Object;") ∈ WA := wa_of 74 (by decide +kernel) (by decide +kernel)
theorem wm_76 : (Jvm.Cond.lays "java/util/ArrayList" "java/util/ArrayList" "size" "I") ∈ WA := wa_of 76 (by decide +kernel) (by decide +kernel)
theorem wm_78 : (Jvm.Cond.lays "java/util/ArrayList" "java/util/AbstractList" "modCount" "I") ∈ WA := wa_of 78 (by decide +kernel) (by decide +kernel)
theorem wm_80 : (Jvm.Cond.superclass "java/util/ArrayList" "java/util/AbstractList") ∈ WA := wa_of 80 (by decide +kernel) (by decide +kernel)
theorem wm_81 : (Jvm.Cond.classLink "DyeRing" (32 : Nat) "[[I") ∈ WA := wa_of 81 (by decide +kernel) (by decide +kernel)
theorem wm_83 : (Jvm.Cond.classLink "DyeRing" (37 : Nat) "DyeRing$Cloth") ∈ WA := wa_of 83 (by decide +kernel) (by decide +kernel)
theorem wm_85 : (Jvm.Cond.instantiable "DyeRing$Cloth" (3 : Nat)) ∈ WA := wa_of 85 (by decide +kernel) (by decide +kernel)
theorem wm_87 : (Jvm.Cond.instanceMethod ({ cls := "DyeRing$Cloth", name := "<init>", desc := "()V" } : Jvm.MethodName)) ∈ WA := wa_of 87 (by decide +kernel) (by decide +kernel)
theorem wm_88 : (Jvm.Cond.code ({ cls := "DyeRing$Cloth", name := "<init>", desc := "()V" } : Jvm.MethodName) prog_3_method_1_code (1 : Nat) (Option.none : Option Jvm.ClassFile.FieldType)) ∈ WA := wa_of 88 (by decide +kernel) (by decide +kernel)
theorem wm_89 : (Jvm.Cond.methodLink "DyeRing$Cloth" (3 : Nat) ({ cls := "java/lang/Object", name := "<init>", desc := "()V" } : Jvm.MethodName)) ∈ WA := wa_of 89 (by decide +kernel) (by decide +kernel)
theorem wm_90 : (Jvm.Cond.classLink "DyeRing$Cloth" (9 : Nat) "[[I") ∈ WA := wa_of 90 (by decide +kernel) (by decide +kernel)
theorem wm_91 : (Jvm.Cond.fieldLink "DyeRing$Cloth" (20 : Nat) "DyeRing$Cloth" "shrinkage" "I") ∈ WA := wa_of 91 (by decide +kernel) (by decide +kernel)
theorem wm_92 : (Jvm.Cond.fieldLink "DyeRing" (185 : Nat) "DyeRing$Cloth" "shrinkage" "I") ∈ WA := wa_of 92 (by decide +kernel) (by decide +kernel)
theorem wm_93 : (Jvm.Cond.fieldLink "DyeRing$Cloth" (11 : Nat) "DyeRing$Cloth" "debts" "[[I") ∈ WA := wa_of 93 (by decide +kernel) (by decide +kernel)
theorem wm_94 : (Jvm.Cond.fieldLink "DyeRing" (190 : Nat) "DyeRing$Cloth" "debts" "[[I") ∈ WA := wa_of 94 (by decide +kernel) (by decide +kernel)
theorem wm_95 : (Jvm.Cond.fieldLink "DyeRing$Cloth" (16 : Nat) "DyeRing$Cloth" "unsettled" "[I") ∈ WA := wa_of 95 (by decide +kernel) (by decide +kernel)
theorem wm_96 : (Jvm.Cond.lays "DyeRing$Cloth" "DyeRing$Cloth" "shrinkage" "I") ∈ WA := wa_of 96 (by decide +kernel) (by decide +kernel)
theorem wm_98 : (Jvm.Cond.laysFinal "DyeRing$Cloth" "DyeRing$Cloth" "debts" "[[I") ∈ WA := wa_of 98 (by decide +kernel) (by decide +kernel)
theorem wm_100 : (Jvm.Cond.laysFinal "DyeRing$Cloth" "DyeRing$Cloth" "unsettled" "[I") ∈ WA := wa_of 100 (by decide +kernel) (by decide +kernel)
theorem wm_102 : (Jvm.Cond.superclass "DyeRing$Cloth" "java/lang/Object") ∈ WA := wa_of 102 (by decide +kernel) (by decide +kernel)
theorem wm_103 : (Jvm.Cond.arrayClass Jvm.ClassFile.FieldType.int) ∈ WA := wa_of 103 (by decide +kernel) (by decide +kernel)
theorem wm_104 : (Jvm.Cond.fieldLink "DyeRing" (10 : Nat) "DyeRing" "entries" "Ljava/util/ArrayList;") ∈ WA := wa_of 104 (by decide +kernel) (by decide +kernel)
theorem wm_105 : (Jvm.Cond.fieldLink "DyeRing" (16 : Nat) "DyeRing" "baths" "Ljava/util/ArrayList;") ∈ WA := wa_of 105 (by decide +kernel) (by decide +kernel)
theorem wm_106 : (Jvm.Cond.fieldLink "DyeRing" (19 : Nat) "DyeRing" "orders" "Ljava/util/ArrayList;") ∈ WA := wa_of 106 (by decide +kernel) (by decide +kernel)
theorem wm_107 : (Jvm.Cond.fieldLink "DyeRing" (22 : Nat) "DyeRing" "waters" "[I") ∈ WA := wa_of 107 (by decide +kernel) (by decide +kernel)
theorem wm_108 : (Jvm.Cond.fieldLink "DyeRing" (26 : Nat) "DyeRing" "yarnFirsts" "[I") ∈ WA := wa_of 108 (by decide +kernel) (by decide +kernel)
theorem wm_109 : (Jvm.Cond.fieldLink "DyeRing" (29 : Nat) "DyeRing" "yarnSeconds" "[I") ∈ WA := wa_of 109 (by decide +kernel) (by decide +kernel)
theorem wm_110 : (Jvm.Cond.fieldLink "DyeRing" (34 : Nat) "DyeRing" "blames" "[[I") ∈ WA := wa_of 110 (by decide +kernel) (by decide +kernel)
theorem wm_111 : (Jvm.Cond.fieldLink "DyeRing" (39 : Nat) "DyeRing" "cloths" "[LDyeRing$Cloth;") ∈ WA := wa_of 111 (by decide +kernel) (by decide +kernel)
theorem wm_112 : (Jvm.Cond.laysFinal "DyeRing" "DyeRing" "entries" "Ljava/util/ArrayList;") ∈ WA := wa_of 112 (by decide +kernel) (by decide +kernel)
theorem wm_114 : (Jvm.Cond.laysFinal "DyeRing" "DyeRing" "baths" "Ljava/util/ArrayList;") ∈ WA := wa_of 114 (by decide +kernel) (by decide +kernel)
theorem wm_116 : (Jvm.Cond.laysFinal "DyeRing" "DyeRing" "orders" "Ljava/util/ArrayList;") ∈ WA := wa_of 116 (by decide +kernel) (by decide +kernel)
theorem wm_118 : (Jvm.Cond.laysFinal "DyeRing" "DyeRing" "waters" "[I") ∈ WA := wa_of 118 (by decide +kernel) (by decide +kernel)
theorem wm_120 : (Jvm.Cond.laysFinal "DyeRing" "DyeRing" "yarnFirsts" "[I") ∈ WA := wa_of 120 (by decide +kernel) (by decide +kernel)
theorem wm_122 : (Jvm.Cond.laysFinal "DyeRing" "DyeRing" "yarnSeconds" "[I") ∈ WA := wa_of 122 (by decide +kernel) (by decide +kernel)
theorem wm_124 : (Jvm.Cond.laysFinal "DyeRing" "DyeRing" "blames" "[[I") ∈ WA := wa_of 124 (by decide +kernel) (by decide +kernel)
theorem wm_126 : (Jvm.Cond.laysFinal "DyeRing" "DyeRing" "cloths" "[LDyeRing$Cloth;") ∈ WA := wa_of 126 (by decide +kernel) (by decide +kernel)
theorem wm_128 : (Jvm.Cond.superclass "DyeRing" "java/lang/Object") ∈ WA := wa_of 128 (by decide +kernel) (by decide +kernel)
theorem wm_129 : (Jvm.Cond.methodLink "DyeRingLaw" (85 : Nat) ({ cls := "DyeRingLaw", name := "entry", desc := "(LDyeRing;III[J)I" } : Jvm.MethodName)) ∈ WA := wa_of 129 (by decide +kernel) (by decide +kernel)
theorem wm_130 : (Jvm.Cond.static ({ cls := "DyeRingLaw", name := "entry", desc := "(LDyeRing;III[J)I" } : Jvm.MethodName)) ∈ WA := wa_of 130 (by decide +kernel) (by decide +kernel)
theorem wm_131 : (Jvm.Cond.codeWith ({ cls := "DyeRingLaw", name := "entry", desc := "(LDyeRing;III[J)I" } : Jvm.MethodName) method_3_code (6 : Nat) (Option.some Jvm.ClassFile.FieldType.int) [((0 : Nat), (12 : Nat), (15 : Nat), (13 : Nat)), ((0 : Nat), (12 : Nat), (19 : Nat), (15 : Nat))]) ∈ WA := wa_of 131 (by decide +kernel) (by decide +kernel)
theorem wm_132 : (Jvm.Cond.classLink "DyeRingLaw" (13 : Nat) "java/lang/IllegalArgumentException") ∈ WA := wa_of 132 (by decide +kernel) (by decide +kernel)
theorem wm_133 : (Jvm.Cond.classLink "DyeRingLaw" (15 : Nat) "java/lang/IllegalStateException") ∈ WA := wa_of 133 (by decide +kernel) (by decide +kernel)
theorem wm_134 : (Jvm.Cond.methodLink "DyeRingLaw" (7 : Nat) ({ cls := "DyeRing", name := "entry", desc := "(III)I" } : Jvm.MethodName)) ∈ WA := wa_of 134 (by decide +kernel) (by decide +kernel)
theorem wm_135 : (Jvm.Cond.instanceMethod ({ cls := "DyeRing", name := "entry", desc := "(III)I" } : Jvm.MethodName)) ∈ WA := wa_of 135 (by decide +kernel) (by decide +kernel)
theorem wm_136 : (Jvm.Cond.selects "DyeRing" ({ cls := "DyeRing", name := "entry", desc := "(III)I" } : Jvm.MethodName) ({ cls := "DyeRing", name := "entry", desc := "(III)I" } : Jvm.MethodName)) ∈ WA := wa_of 136 (by decide +kernel) (by decide +kernel)
theorem wm_137 : (Jvm.Cond.code ({ cls := "DyeRing", name := "entry", desc := "(III)I" } : Jvm.MethodName) prog_1_method_2_code (5 : Nat) (Option.some Jvm.ClassFile.FieldType.int)) ∈ WA := wa_of 137 (by decide +kernel) (by decide +kernel)
theorem wm_138 : (Jvm.Cond.methodLink "DyeRing" (44 : Nat) ({ cls := "DyeRing", name := "requireRange", desc := "(III)V" } : Jvm.MethodName)) ∈ WA := wa_of 138 (by decide +kernel) (by decide +kernel)
theorem wm_139 : (Jvm.Cond.static ({ cls := "DyeRing", name := "requireRange", desc := "(III)V" } : Jvm.MethodName)) ∈ WA := wa_of 139 (by decide +kernel) (by decide +kernel)
theorem wm_140 : (Jvm.Cond.code ({ cls := "DyeRing", name := "requireRange", desc := "(III)V" } : Jvm.MethodName) prog_1_method_23_code (3 : Nat) (Option.none : Option Jvm.ClassFile.FieldType)) ∈ WA := wa_of 140 (by decide +kernel) (by decide +kernel)
theorem wm_141 : (Jvm.Cond.classLink "DyeRing" (134 : Nat) "java/lang/IllegalArgumentException") ∈ WA := wa_of 141 (by decide +kernel) (by decide +kernel)
theorem wm_142 : (Jvm.Cond.instantiable "java/lang/IllegalArgumentException" (6 : Nat)) ∈ WA := wa_of 142 (by decide +kernel) (by decide +kernel)
theorem wm_150 : (Jvm.Cond.selects "java/lang/IllegalArgumentException" ({ cls := "java/lang/Throwable", name := "fillInStackTrace", desc := "(I)Ljava/lang/Throwable;" } : Jvm.MethodName) ({ cls := "java/lang/Throwable", name := "fillInStackTrace", desc := "(I)Ljava/lang/Throwable;" } : Jvm.MethodName)) ∈ WA := wa_of 150 (by decide +kernel) (by decide +kernel)
theorem wm_151 : (Jvm.Cond.selects "java/lang/IllegalArgumentException" ({ cls := "java/lang/Throwable", name := "fillInStackTrace", desc := "()Ljava/lang/Throwable;" } : Jvm.MethodName) ({ cls := "java/lang/Throwable", name := "fillInStackTrace", desc := "()Ljava/lang/Throwable;" } : Jvm.MethodName)) ∈ WA := wa_of 151 (by decide +kernel) (by decide +kernel)
theorem wm_152 : (Jvm.Cond.lays "java/lang/IllegalArgumentException" "java/lang/Throwable" "cause" "Ljava/lang/Throwable;") ∈ WA := wa_of 152 (by decide +kernel) (by decide +kernel)
theorem wm_153 : (Jvm.Cond.lays "java/lang/Throwable" "java/lang/Throwable" "cause" "Ljava/lang/Throwable;") ∈ WA := wa_of 153 (by decide +kernel) (by decide +kernel)
theorem wm_154 : (Jvm.Cond.lays "java/lang/IllegalArgumentException" "java/lang/Throwable" "stackTrace" "[Ljava/lang/StackTraceElement;") ∈ WA := wa_of 154 (by decide +kernel) (by decide +kernel)
theorem wm_155 : (Jvm.Cond.lays "java/lang/Throwable" "java/lang/Throwable" "stackTrace" "[Ljava/lang/StackTraceElement;") ∈ WA := wa_of 155 (by decide +kernel) (by decide +kernel)
theorem wm_156 : (Jvm.Cond.lays "java/lang/IllegalArgumentException" "java/lang/Throwable" "suppressedExceptions" "Ljava/util/List;") ∈ WA := wa_of 156 (by decide +kernel) (by decide +kernel)
theorem wm_157 : (Jvm.Cond.lays "java/lang/Throwable" "java/lang/Throwable" "suppressedExceptions" "Ljava/util/List;") ∈ WA := wa_of 157 (by decide +kernel) (by decide +kernel)
theorem wm_158 : (Jvm.Cond.lays "java/lang/IllegalArgumentException" "java/lang/Throwable" "detailMessage" "Ljava/lang/String;") ∈ WA := wa_of 158 (by decide +kernel) (by decide +kernel)
theorem wm_159 : (Jvm.Cond.lays "java/lang/Throwable" "java/lang/Throwable" "detailMessage" "Ljava/lang/String;") ∈ WA := wa_of 159 (by decide +kernel) (by decide +kernel)
theorem wm_160 : (Jvm.Cond.lays "java/lang/IllegalArgumentException" "java/lang/Throwable" "backtrace" "Ljava/lang/Object;") ∈ WA := wa_of 160 (by decide +kernel) (by decide +kernel)
theorem wm_161 : (Jvm.Cond.lays "java/lang/Throwable" "java/lang/Throwable" "backtrace" "Ljava/lang/Object;") ∈ WA := wa_of 161 (by decide +kernel) (by decide +kernel)
theorem wm_162 : (Jvm.Cond.fieldLink "java/lang/Throwable" (198 : Nat) "java/lang/Throwable" "backtrace" "Ljava/lang/Object;") ∈ WA := wa_of 162 (by decide +kernel) (by decide +kernel)
theorem wm_163 : (Jvm.Cond.superclass "java/lang/Throwable" "java/lang/Object") ∈ WA := wa_of 163 (by decide +kernel) (by decide +kernel)
theorem wm_164 : (Jvm.Cond.instanceMethod ({ cls := "java/lang/Throwable", name := "<init>", desc := "()V" } : Jvm.MethodName)) ∈ WA := wa_of 164 (by decide +kernel) (by decide +kernel)
theorem wm_165 : (Jvm.Cond.code ({ cls := "java/lang/Throwable", name := "<init>", desc := "()V" } : Jvm.MethodName) prog_20_method_1_code (1 : Nat) (Option.none : Option Jvm.ClassFile.FieldType)) ∈ WA := wa_of 165 (by decide +kernel) (by decide +kernel)
theorem wm_166 : (Jvm.Cond.methodLink "java/lang/Throwable" (1 : Nat) ({ cls := "java/lang/Object", name := "<init>", desc := "()V" } : Jvm.MethodName)) ∈ WA := wa_of 166 (by decide +kernel) (by decide +kernel)
theorem wm_167 : (Jvm.Cond.fieldLink "java/lang/Throwable" (13 : Nat) "java/lang/Throwable" "UNASSIGNED_STACK" "[Ljava/lang/StackTraceElement;") ∈ WA := wa_of 167 (by decide +kernel) (by decide +kernel)
theorem wm_169 : (Jvm.Cond.fieldLink "java/lang/Throwable" (20 : Nat) "java/lang/Throwable" "SUPPRESSED_SENTINEL" "Ljava/util/List;") ∈ WA := wa_of 169 (by decide +kernel) (by decide +kernel)
theorem wm_171 : (Jvm.Cond.methodLink "java/lang/Throwable" (27 : Nat) ({ cls := "java/lang/Throwable", name := "fillInStackTrace", desc := "()Ljava/lang/Throwable;" } : Jvm.MethodName)) ∈ WA := wa_of 171 (by decide +kernel) (by decide +kernel)
theorem wm_172 : (Jvm.Cond.instanceMethod ({ cls := "java/lang/Throwable", name := "fillInStackTrace", desc := "()Ljava/lang/Throwable;" } : Jvm.MethodName)) ∈ WA := wa_of 172 (by decide +kernel) (by decide +kernel)
theorem wm_173 : (Jvm.Cond.sameMethod "java/lang/Throwable" "java/lang/Throwable" "fillInStackTrace" "()Ljava/lang/Throwable;") ∈ WA := wa_of 173 (by decide +kernel) (by decide +kernel)
theorem wm_174 : (Jvm.Cond.selects "java/lang/IllegalStateException" ({ cls := "java/lang/Throwable", name := "fillInStackTrace", desc := "()Ljava/lang/Throwable;" } : Jvm.MethodName) ({ cls := "java/lang/Throwable", name := "fillInStackTrace", desc := "()Ljava/lang/Throwable;" } : Jvm.MethodName)) ∈ WA := wa_of 174 (by decide +kernel) (by decide +kernel)
theorem wm_175 : (Jvm.Cond.selects "java/lang/IndexOutOfBoundsException" ({ cls := "java/lang/Throwable", name := "fillInStackTrace", desc := "()Ljava/lang/Throwable;" } : Jvm.MethodName) ({ cls := "java/lang/Throwable", name := "fillInStackTrace", desc := "()Ljava/lang/Throwable;" } : Jvm.MethodName)) ∈ WA := wa_of 175 (by decide +kernel) (by decide +kernel)
theorem wm_176 : (Jvm.Cond.selects "java/util/NoSuchElementException" ({ cls := "java/lang/Throwable", name := "fillInStackTrace", desc := "()Ljava/lang/Throwable;" } : Jvm.MethodName) ({ cls := "java/lang/Throwable", name := "fillInStackTrace", desc := "()Ljava/lang/Throwable;" } : Jvm.MethodName)) ∈ WA := wa_of 176 (by decide +kernel) (by decide +kernel)
theorem wm_177 : (Jvm.Cond.codeSync ({ cls := "java/lang/Throwable", name := "fillInStackTrace", desc := "()Ljava/lang/Throwable;" } : Jvm.MethodName) prog_20_method_18_code (1 : Nat) (Option.some (Jvm.ClassFile.FieldType.object "java/lang/Throwable"))) ∈ WA := wa_of 177 (by decide +kernel) (by decide +kernel)
theorem wm_178 : (Jvm.Cond.methodLink "java/lang/Throwable" (202 : Nat) ({ cls := "java/lang/Throwable", name := "fillInStackTrace", desc := "(I)Ljava/lang/Throwable;" } : Jvm.MethodName)) ∈ WA := wa_of 178 (by decide +kernel) (by decide +kernel)
theorem wm_180 : (Jvm.Cond.instanceMethod ({ cls := "java/lang/Throwable", name := "fillInStackTrace", desc := "(I)Ljava/lang/Throwable;" } : Jvm.MethodName)) ∈ WA := wa_of 180 (by decide +kernel) (by decide +kernel)
theorem wm_181 : (Jvm.Cond.instantiable "java/lang/Throwable" (6 : Nat)) ∈ WA := wa_of 181 (by decide +kernel) (by decide +kernel)
theorem wm_182 : (Jvm.Cond.native ({ cls := "java/lang/Throwable", name := "fillInStackTrace", desc := "(I)Ljava/lang/Throwable;" } : Jvm.MethodName)) ∈ WA := wa_of 182 (by decide +kernel) (by decide +kernel)
theorem wm_184 : (Jvm.Cond.methodLink "DyeRing" (138 : Nat) ({ cls := "java/lang/IllegalArgumentException", name := "<init>", desc := "(Ljava/lang/String;)V" } : Jvm.MethodName)) ∈ WA := wa_of 184 (by decide +kernel) (by decide +kernel)
theorem wm_185 : (Jvm.Cond.instanceMethod ({ cls := "java/lang/IllegalArgumentException", name := "<init>", desc := "(Ljava/lang/String;)V" } : Jvm.MethodName)) ∈ WA := wa_of 185 (by decide +kernel) (by decide +kernel)
theorem wm_186 : (Jvm.Cond.code ({ cls := "java/lang/IllegalArgumentException", name := "<init>", desc := "(Ljava/lang/String;)V" } : Jvm.MethodName) prog_12_method_2_code (2 : Nat) (Option.none : Option Jvm.ClassFile.FieldType)) ∈ WA := wa_of 186 (by decide +kernel) (by decide +kernel)
theorem wm_187 : (Jvm.Cond.methodLink "java/lang/IllegalArgumentException" (7 : Nat) ({ cls := "java/lang/RuntimeException", name := "<init>", desc := "(Ljava/lang/String;)V" } : Jvm.MethodName)) ∈ WA := wa_of 187 (by decide +kernel) (by decide +kernel)
theorem wm_188 : (Jvm.Cond.instanceMethod ({ cls := "java/lang/RuntimeException", name := "<init>", desc := "(Ljava/lang/String;)V" } : Jvm.MethodName)) ∈ WA := wa_of 188 (by decide +kernel) (by decide +kernel)
theorem wm_189 : (Jvm.Cond.code ({ cls := "java/lang/RuntimeException", name := "<init>", desc := "(Ljava/lang/String;)V" } : Jvm.MethodName) prog_17_method_2_code (2 : Nat) (Option.none : Option Jvm.ClassFile.FieldType)) ∈ WA := wa_of 189 (by decide +kernel) (by decide +kernel)
theorem wm_190 : (Jvm.Cond.methodLink "java/lang/RuntimeException" (7 : Nat) ({ cls := "java/lang/Exception", name := "<init>", desc := "(Ljava/lang/String;)V" } : Jvm.MethodName)) ∈ WA := wa_of 190 (by decide +kernel) (by decide +kernel)
theorem wm_191 : (Jvm.Cond.instanceMethod ({ cls := "java/lang/Exception", name := "<init>", desc := "(Ljava/lang/String;)V" } : Jvm.MethodName)) ∈ WA := wa_of 191 (by decide +kernel) (by decide +kernel)
theorem wm_192 : (Jvm.Cond.code ({ cls := "java/lang/Exception", name := "<init>", desc := "(Ljava/lang/String;)V" } : Jvm.MethodName) prog_11_method_2_code (2 : Nat) (Option.none : Option Jvm.ClassFile.FieldType)) ∈ WA := wa_of 192 (by decide +kernel) (by decide +kernel)
theorem wm_193 : (Jvm.Cond.methodLink "java/lang/Exception" (7 : Nat) ({ cls := "java/lang/Throwable", name := "<init>", desc := "(Ljava/lang/String;)V" } : Jvm.MethodName)) ∈ WA := wa_of 193 (by decide +kernel) (by decide +kernel)
theorem wm_194 : (Jvm.Cond.instanceMethod ({ cls := "java/lang/Throwable", name := "<init>", desc := "(Ljava/lang/String;)V" } : Jvm.MethodName)) ∈ WA := wa_of 194 (by decide +kernel) (by decide +kernel)
theorem wm_195 : (Jvm.Cond.code ({ cls := "java/lang/Throwable", name := "<init>", desc := "(Ljava/lang/String;)V" } : Jvm.MethodName) prog_20_method_2_code (2 : Nat) (Option.none : Option Jvm.ClassFile.FieldType)) ∈ WA := wa_of 195 (by decide +kernel) (by decide +kernel)
theorem wm_196 : (Jvm.Cond.fieldLink "java/lang/Throwable" (198 : Nat) "java/lang/Throwable" "backtrace" "Ljava/lang/Object;") ∈ WA := wa_of 196 (by decide +kernel) (by decide +kernel)
theorem wm_197 : (Jvm.Cond.fieldLink "java/lang/Throwable" (31 : Nat) "java/lang/Throwable" "detailMessage" "Ljava/lang/String;") ∈ WA := wa_of 197 (by decide +kernel) (by decide +kernel)
theorem wm_198 : (Jvm.Cond.fieldLink "java/lang/Throwable" (7 : Nat) "java/lang/Throwable" "cause" "Ljava/lang/Throwable;") ∈ WA := wa_of 198 (by decide +kernel) (by decide +kernel)
theorem wm_199 : (Jvm.Cond.fieldLink "java/lang/Throwable" (17 : Nat) "java/lang/Throwable" "stackTrace" "[Ljava/lang/StackTraceElement;") ∈ WA := wa_of 199 (by decide +kernel) (by decide +kernel)
theorem wm_200 : (Jvm.Cond.fieldLink "java/lang/Throwable" (24 : Nat) "java/lang/Throwable" "suppressedExceptions" "Ljava/util/List;") ∈ WA := wa_of 200 (by decide +kernel) (by decide +kernel)
theorem wm_205 : (Jvm.Cond.lays "java/lang/IllegalArgumentException" "java/lang/Throwable" "depth" "I") ∈ WA := wa_of 205 (by decide +kernel) (by decide +kernel)
theorem wm_208 : (Jvm.Cond.superclass "java/lang/IllegalArgumentException" "java/lang/RuntimeException") ∈ WA := wa_of 208 (by decide +kernel) (by decide +kernel)
theorem wm_209 : (Jvm.Cond.arrayClass Jvm.ClassFile.FieldType.byte) ∈ WA := wa_of 209 (by decide +kernel) (by decide +kernel)
theorem wm_210 : (Jvm.Cond.methodLink "DyeRing" (48 : Nat) ({ cls := "java/util/ArrayList", name := "size", desc := "()I" } : Jvm.MethodName)) ∈ WA := wa_of 210 (by decide +kernel) (by decide +kernel)
theorem wm_211 : (Jvm.Cond.instanceMethod ({ cls := "java/util/ArrayList", name := "size", desc := "()I" } : Jvm.MethodName)) ∈ WA := wa_of 211 (by decide +kernel) (by decide +kernel)
theorem wm_212 : (Jvm.Cond.selects "java/util/ArrayList" ({ cls := "java/util/ArrayList", name := "size", desc := "()I" } : Jvm.MethodName) ({ cls := "java/util/ArrayList", name := "size", desc := "()I" } : Jvm.MethodName)) ∈ WA := wa_of 212 (by decide +kernel) (by decide +kernel)
theorem wm_213 : (Jvm.Cond.code ({ cls := "java/util/ArrayList", name := "size", desc := "()I" } : Jvm.MethodName) prog_23_method_8_code (1 : Nat) (Option.some Jvm.ClassFile.FieldType.int)) ∈ WA := wa_of 213 (by decide +kernel) (by decide +kernel)
theorem wm_214 : (Jvm.Cond.methodLink "DyeRing" (52 : Nat) ({ cls := "DyeRing", name := "requireRoom", desc := "(II)V" } : Jvm.MethodName)) ∈ WA := wa_of 214 (by decide +kernel) (by decide +kernel)
theorem wm_215 : (Jvm.Cond.static ({ cls := "DyeRing", name := "requireRoom", desc := "(II)V" } : Jvm.MethodName)) ∈ WA := wa_of 215 (by decide +kernel) (by decide +kernel)
theorem wm_216 : (Jvm.Cond.code ({ cls := "DyeRing", name := "requireRoom", desc := "(II)V" } : Jvm.MethodName) prog_1_method_24_code (2 : Nat) (Option.none : Option Jvm.ClassFile.FieldType)) ∈ WA := wa_of 216 (by decide +kernel) (by decide +kernel)
theorem wm_217 : (Jvm.Cond.classLink "DyeRing" (156 : Nat) "java/lang/IllegalStateException") ∈ WA := wa_of 217 (by decide +kernel) (by decide +kernel)
theorem wm_218 : (Jvm.Cond.instantiable "java/lang/IllegalStateException" (6 : Nat)) ∈ WA := wa_of 218 (by decide +kernel) (by decide +kernel)
theorem wm_220 : (Jvm.Cond.selects "java/lang/IllegalStateException" ({ cls := "java/lang/Throwable", name := "fillInStackTrace", desc := "(I)Ljava/lang/Throwable;" } : Jvm.MethodName) ({ cls := "java/lang/Throwable", name := "fillInStackTrace", desc := "(I)Ljava/lang/Throwable;" } : Jvm.MethodName)) ∈ WA := wa_of 220 (by decide +kernel) (by decide +kernel)
theorem wm_221 : (Jvm.Cond.lays "java/lang/IllegalStateException" "java/lang/Throwable" "cause" "Ljava/lang/Throwable;") ∈ WA := wa_of 221 (by decide +kernel) (by decide +kernel)
theorem wm_222 : (Jvm.Cond.lays "java/lang/IllegalStateException" "java/lang/Throwable" "stackTrace" "[Ljava/lang/StackTraceElement;") ∈ WA := wa_of 222 (by decide +kernel) (by decide +kernel)
theorem wm_223 : (Jvm.Cond.lays "java/lang/IllegalStateException" "java/lang/Throwable" "suppressedExceptions" "Ljava/util/List;") ∈ WA := wa_of 223 (by decide +kernel) (by decide +kernel)
theorem wm_224 : (Jvm.Cond.lays "java/lang/IllegalStateException" "java/lang/Throwable" "detailMessage" "Ljava/lang/String;") ∈ WA := wa_of 224 (by decide +kernel) (by decide +kernel)
theorem wm_225 : (Jvm.Cond.lays "java/lang/IllegalStateException" "java/lang/Throwable" "backtrace" "Ljava/lang/Object;") ∈ WA := wa_of 225 (by decide +kernel) (by decide +kernel)
theorem wm_227 : (Jvm.Cond.methodLink "DyeRing" (160 : Nat) ({ cls := "java/lang/IllegalStateException", name := "<init>", desc := "(Ljava/lang/String;)V" } : Jvm.MethodName)) ∈ WA := wa_of 227 (by decide +kernel) (by decide +kernel)
theorem wm_228 : (Jvm.Cond.instanceMethod ({ cls := "java/lang/IllegalStateException", name := "<init>", desc := "(Ljava/lang/String;)V" } : Jvm.MethodName)) ∈ WA := wa_of 228 (by decide +kernel) (by decide +kernel)
theorem wm_229 : (Jvm.Cond.code ({ cls := "java/lang/IllegalStateException", name := "<init>", desc := "(Ljava/lang/String;)V" } : Jvm.MethodName) prog_13_method_2_code (2 : Nat) (Option.none : Option Jvm.ClassFile.FieldType)) ∈ WA := wa_of 229 (by decide +kernel) (by decide +kernel)
theorem wm_230 : (Jvm.Cond.methodLink "java/lang/IllegalStateException" (7 : Nat) ({ cls := "java/lang/RuntimeException", name := "<init>", desc := "(Ljava/lang/String;)V" } : Jvm.MethodName)) ∈ WA := wa_of 230 (by decide +kernel) (by decide +kernel)
theorem wm_231 : (Jvm.Cond.lays "java/lang/IllegalStateException" "java/lang/Throwable" "depth" "I") ∈ WA := wa_of 231 (by decide +kernel) (by decide +kernel)
theorem wm_232 : (Jvm.Cond.superclass "java/lang/IllegalStateException" "java/lang/RuntimeException") ∈ WA := wa_of 232 (by decide +kernel) (by decide +kernel)
theorem wm_233 : (Jvm.Cond.classLink "DyeRing" (56 : Nat) "DyeRing$Entry") ∈ WA := wa_of 233 (by decide +kernel) (by decide +kernel)
theorem wm_234 : (Jvm.Cond.instantiable "DyeRing$Entry" (4 : Nat)) ∈ WA := wa_of 234 (by decide +kernel) (by decide +kernel)
theorem wm_235 : (Jvm.Cond.methodLink "DyeRing" (58 : Nat) ({ cls := "DyeRing$Entry", name := "<init>", desc := "(IIII)V" } : Jvm.MethodName)) ∈ WA := wa_of 235 (by decide +kernel) (by decide +kernel)
theorem wm_236 : (Jvm.Cond.instanceMethod ({ cls := "DyeRing$Entry", name := "<init>", desc := "(IIII)V" } : Jvm.MethodName)) ∈ WA := wa_of 236 (by decide +kernel) (by decide +kernel)
theorem wm_237 : (Jvm.Cond.code ({ cls := "DyeRing$Entry", name := "<init>", desc := "(IIII)V" } : Jvm.MethodName) prog_4_method_1_code (5 : Nat) (Option.none : Option Jvm.ClassFile.FieldType)) ∈ WA := wa_of 237 (by decide +kernel) (by decide +kernel)
theorem wm_238 : (Jvm.Cond.methodLink "DyeRing$Entry" (3 : Nat) ({ cls := "java/lang/Object", name := "<init>", desc := "()V" } : Jvm.MethodName)) ∈ WA := wa_of 238 (by decide +kernel) (by decide +kernel)
theorem wm_239 : (Jvm.Cond.fieldLink "DyeRing$Entry" (9 : Nat) "DyeRing$Entry" "number" "I") ∈ WA := wa_of 239 (by decide +kernel) (by decide +kernel)
theorem wm_240 : (Jvm.Cond.fieldLink "DyeRing$Bath" (29 : Nat) "DyeRing$Entry" "number" "I") ∈ WA := wa_of 240 (by decide +kernel) (by decide +kernel)
theorem wm_241 : (Jvm.Cond.fieldLink "DyeRing$Entry" (15 : Nat) "DyeRing$Entry" "first" "I") ∈ WA := wa_of 241 (by decide +kernel) (by decide +kernel)
theorem wm_242 : (Jvm.Cond.fieldLink "DyeRing" (72 : Nat) "DyeRing$Entry" "first" "I") ∈ WA := wa_of 242 (by decide +kernel) (by decide +kernel)
theorem wm_243 : (Jvm.Cond.fieldLink "DyeRing$Entry" (18 : Nat) "DyeRing$Entry" "second" "I") ∈ WA := wa_of 243 (by decide +kernel) (by decide +kernel)
theorem wm_244 : (Jvm.Cond.fieldLink "DyeRing" (76 : Nat) "DyeRing$Entry" "second" "I") ∈ WA := wa_of 244 (by decide +kernel) (by decide +kernel)
theorem wm_245 : (Jvm.Cond.fieldLink "DyeRing$Entry" (21 : Nat) "DyeRing$Entry" "tolerance" "I") ∈ WA := wa_of 245 (by decide +kernel) (by decide +kernel)
theorem wm_246 : (Jvm.Cond.fieldLink "DyeRing$Piece" (75 : Nat) "DyeRing$Entry" "tolerance" "I") ∈ WA := wa_of 246 (by decide +kernel) (by decide +kernel)
theorem wm_247 : (Jvm.Cond.fieldLink "DyeRing" (234 : Nat) "DyeRing$Entry" "tolerance" "I") ∈ WA := wa_of 247 (by decide +kernel) (by decide +kernel)
theorem wm_248 : (Jvm.Cond.laysFinal "DyeRing$Entry" "DyeRing$Entry" "number" "I") ∈ WA := wa_of 248 (by decide +kernel) (by decide +kernel)
theorem wm_250 : (Jvm.Cond.laysFinal "DyeRing$Entry" "DyeRing$Entry" "first" "I") ∈ WA := wa_of 250 (by decide +kernel) (by decide +kernel)
theorem wm_252 : (Jvm.Cond.laysFinal "DyeRing$Entry" "DyeRing$Entry" "second" "I") ∈ WA := wa_of 252 (by decide +kernel) (by decide +kernel)
theorem wm_254 : (Jvm.Cond.laysFinal "DyeRing$Entry" "DyeRing$Entry" "tolerance" "I") ∈ WA := wa_of 254 (by decide +kernel) (by decide +kernel)
theorem wm_256 : (Jvm.Cond.superclass "DyeRing$Entry" "java/lang/Object") ∈ WA := wa_of 256 (by decide +kernel) (by decide +kernel)
theorem wm_257 : (Jvm.Cond.methodLink "DyeRing" (61 : Nat) ({ cls := "java/util/ArrayList", name := "add", desc := "(Ljava/lang/Object;)Z" } : Jvm.MethodName)) ∈ WA := wa_of 257 (by decide +kernel) (by decide +kernel)
theorem wm_258 : (Jvm.Cond.instanceMethod ({ cls := "java/util/ArrayList", name := "add", desc := "(Ljava/lang/Object;)Z" } : Jvm.MethodName)) ∈ WA := wa_of 258 (by decide +kernel) (by decide +kernel)
theorem wm_259 : (Jvm.Cond.selects "java/util/ArrayList" ({ cls := "java/util/ArrayList", name := "add", desc := "(Ljava/lang/Object;)Z" } : Jvm.MethodName) ({ cls := "java/util/ArrayList", name := "add", desc := "(Ljava/lang/Object;)Z" } : Jvm.MethodName)) ∈ WA := wa_of 259 (by decide +kernel) (by decide +kernel)
theorem wm_260 : (Jvm.Cond.code ({ cls := "java/util/ArrayList", name := "add", desc := "(Ljava/lang/Object;)Z" } : Jvm.MethodName) prog_23_method_25_code (2 : Nat) (Option.some Jvm.ClassFile.FieldType.boolean)) ∈ WA := wa_of 260 (by decide +kernel) (by decide +kernel)
theorem wm_261 : (Jvm.Cond.methodLink "java/util/ArrayList" (131 : Nat) ({ cls := "java/util/ArrayList", name := "add", desc := "(Ljava/lang/Object;[Ljava/lang/Object;I)V" } : Jvm.MethodName)) ∈ WA := wa_of 261 (by decide +kernel) (by decide +kernel)
theorem wm_263 : (Jvm.Cond.instanceMethod ({ cls := "java/util/ArrayList", name := "add", desc := "(Ljava/lang/Object;[Ljava/lang/Object;I)V" } : Jvm.MethodName)) ∈ WA := wa_of 263 (by decide +kernel) (by decide +kernel)
theorem wm_264 : (Jvm.Cond.code ({ cls := "java/util/ArrayList", name := "add", desc := "(Ljava/lang/Object;[Ljava/lang/Object;I)V" } : Jvm.MethodName) prog_23_method_24_code (4 : Nat) (Option.none : Option Jvm.ClassFile.FieldType)) ∈ WA := wa_of 264 (by decide +kernel) (by decide +kernel)
theorem wm_265 : (Jvm.Cond.methodLink "java/util/ArrayList" (129 : Nat) ({ cls := "java/util/ArrayList", name := "grow", desc := "()[Ljava/lang/Object;" } : Jvm.MethodName)) ∈ WA := wa_of 265 (by decide +kernel) (by decide +kernel)
theorem wm_267 : (Jvm.Cond.instanceMethod ({ cls := "java/util/ArrayList", name := "grow", desc := "()[Ljava/lang/Object;" } : Jvm.MethodName)) ∈ WA := wa_of 267 (by decide +kernel) (by decide +kernel)
theorem wm_268 : (Jvm.Cond.code ({ cls := "java/util/ArrayList", name := "grow", desc := "()[Ljava/lang/Object;" } : Jvm.MethodName) prog_23_method_7_code (1 : Nat) (Option.some (Jvm.ClassFile.FieldType.array (Jvm.ClassFile.FieldType.object "java/lang/Object")))) ∈ WA := wa_of 268 (by decide +kernel) (by decide +kernel)
theorem wm_269 : (Jvm.Cond.methodLink "java/util/ArrayList" (69 : Nat) ({ cls := "java/util/ArrayList", name := "grow", desc := "(I)[Ljava/lang/Object;" } : Jvm.MethodName)) ∈ WA := wa_of 269 (by decide +kernel) (by decide +kernel)
theorem wm_271 : (Jvm.Cond.instanceMethod ({ cls := "java/util/ArrayList", name := "grow", desc := "(I)[Ljava/lang/Object;" } : Jvm.MethodName)) ∈ WA := wa_of 271 (by decide +kernel) (by decide +kernel)
theorem wm_272 : (Jvm.Cond.code ({ cls := "java/util/ArrayList", name := "grow", desc := "(I)[Ljava/lang/Object;" } : Jvm.MethodName) prog_23_method_6_code (4 : Nat) (Option.some (Jvm.ClassFile.FieldType.array (Jvm.ClassFile.FieldType.object "java/lang/Object")))) ∈ WA := wa_of 272 (by decide +kernel) (by decide +kernel)
theorem wm_273 : (Jvm.Cond.methodLink "java/util/ArrayList" (73 : Nat) ({ cls := "jdk/internal/util/ArraysSupport", name := "newLength", desc := "(III)I" } : Jvm.MethodName)) ∈ WA := wa_of 273 (by decide +kernel) (by decide +kernel)
theorem wm_274 : (Jvm.Cond.static ({ cls := "jdk/internal/util/ArraysSupport", name := "newLength", desc := "(III)I" } : Jvm.MethodName)) ∈ WA := wa_of 274 (by decide +kernel) (by decide +kernel)
theorem wm_275 : (Jvm.Cond.code ({ cls := "jdk/internal/util/ArraysSupport", name := "newLength", desc := "(III)I" } : Jvm.MethodName) prog_31_method_27_code (4 : Nat) (Option.some Jvm.ClassFile.FieldType.int)) ∈ WA := wa_of 275 (by decide +kernel) (by decide +kernel)
theorem wm_276 : (Jvm.Cond.methodLink "jdk/internal/util/ArraysSupport" (194 : Nat) ({ cls := "java/lang/Math", name := "max", desc := "(II)I" } : Jvm.MethodName)) ∈ WA := wa_of 276 (by decide +kernel) (by decide +kernel)
theorem wm_277 : (Jvm.Cond.static ({ cls := "java/lang/Math", name := "max", desc := "(II)I" } : Jvm.MethodName)) ∈ WA := wa_of 277 (by decide +kernel) (by decide +kernel)
theorem wm_278 : (Jvm.Cond.code ({ cls := "java/lang/Math", name := "max", desc := "(II)I" } : Jvm.MethodName) prog_16_method_65_code (2 : Nat) (Option.some Jvm.ClassFile.FieldType.int)) ∈ WA := wa_of 278 (by decide +kernel) (by decide +kernel)
theorem wm_279 : (Jvm.Cond.constant "jdk/internal/util/ArraysSupport" (200 : Nat) (2147483639 : Int32)) ∈ WA := wa_of 279 (by decide +kernel) (by decide +kernel)
theorem wm_280 : (Jvm.Cond.methodLink "jdk/internal/util/ArraysSupport" (201 : Nat) ({ cls := "jdk/internal/util/ArraysSupport", name := "hugeLength", desc := "(II)I" } : Jvm.MethodName)) ∈ WA := wa_of 280 (by decide +kernel) (by decide +kernel)
theorem wm_281 : (Jvm.Cond.static ({ cls := "jdk/internal/util/ArraysSupport", name := "hugeLength", desc := "(II)I" } : Jvm.MethodName)) ∈ WA := wa_of 281 (by decide +kernel) (by decide +kernel)
theorem wm_282 : (Jvm.Cond.code ({ cls := "jdk/internal/util/ArraysSupport", name := "hugeLength", desc := "(II)I" } : Jvm.MethodName) prog_31_method_28_code (3 : Nat) (Option.some Jvm.ClassFile.FieldType.int)) ∈ WA := wa_of 282 (by decide +kernel) (by decide +kernel)
theorem wm_283 : (Jvm.Cond.methodLink "java/util/ArrayList" (66 : Nat) ({ cls := "java/util/Arrays", name := "copyOf", desc := "([Ljava/lang/Object;I)[Ljava/lang/Object;" } : Jvm.MethodName)) ∈ WA := wa_of 283 (by decide +kernel) (by decide +kernel)
theorem wm_284 : (Jvm.Cond.static ({ cls := "java/util/Arrays", name := "copyOf", desc := "([Ljava/lang/Object;I)[Ljava/lang/Object;" } : Jvm.MethodName)) ∈ WA := wa_of 284 (by decide +kernel) (by decide +kernel)
theorem wm_285 : (Jvm.Cond.code ({ cls := "java/util/Arrays", name := "copyOf", desc := "([Ljava/lang/Object;I)[Ljava/lang/Object;" } : Jvm.MethodName) prog_24_method_119_code (2 : Nat) (Option.some (Jvm.ClassFile.FieldType.array (Jvm.ClassFile.FieldType.object "java/lang/Object")))) ∈ WA := wa_of 285 (by decide +kernel) (by decide +kernel)
theorem wm_286 : (Jvm.Cond.methodLink "java/util/Arrays" (86 : Nat) ({ cls := "java/lang/Object", name := "getClass", desc := "()Ljava/lang/Class;" } : Jvm.MethodName)) ∈ WA := wa_of 286 (by decide +kernel) (by decide +kernel)
theorem wm_287 : (Jvm.Cond.instanceMethod ({ cls := "java/lang/Object", name := "getClass", desc := "()Ljava/lang/Class;" } : Jvm.MethodName)) ∈ WA := wa_of 287 (by decide +kernel) (by decide +kernel)
theorem wm_288 : (Jvm.Cond.sameMethod "java/lang/Object" "java/lang/Object" "getClass" "()Ljava/lang/Class;") ∈ WA := wa_of 288 (by decide +kernel) (by decide +kernel)
theorem wm_289 : (Jvm.Cond.selects "DyeRing" ({ cls := "java/lang/Object", name := "getClass", desc := "()Ljava/lang/Class;" } : Jvm.MethodName) ({ cls := "java/lang/Object", name := "getClass", desc := "()Ljava/lang/Class;" } : Jvm.MethodName)) ∈ WA := wa_of 289 (by decide +kernel) (by decide +kernel)
theorem wm_290 : (Jvm.Cond.selects "DyeRing$Bath" ({ cls := "java/lang/Object", name := "getClass", desc := "()Ljava/lang/Class;" } : Jvm.MethodName) ({ cls := "java/lang/Object", name := "getClass", desc := "()Ljava/lang/Class;" } : Jvm.MethodName)) ∈ WA := wa_of 290 (by decide +kernel) (by decide +kernel)
theorem wm_291 : (Jvm.Cond.selects "DyeRing$Cloth" ({ cls := "java/lang/Object", name := "getClass", desc := "()Ljava/lang/Class;" } : Jvm.MethodName) ({ cls := "java/lang/Object", name := "getClass", desc := "()Ljava/lang/Class;" } : Jvm.MethodName)) ∈ WA := wa_of 291 (by decide +kernel) (by decide +kernel)
theorem wm_292 : (Jvm.Cond.selects "DyeRing$Entry" ({ cls := "java/lang/Object", name := "getClass", desc := "()Ljava/lang/Class;" } : Jvm.MethodName) ({ cls := "java/lang/Object", name := "getClass", desc := "()Ljava/lang/Class;" } : Jvm.MethodName)) ∈ WA := wa_of 292 (by decide +kernel) (by decide +kernel)
theorem wm_293 : (Jvm.Cond.selects "DyeRing$Order" ({ cls := "java/lang/Object", name := "getClass", desc := "()Ljava/lang/Class;" } : Jvm.MethodName) ({ cls := "java/lang/Object", name := "getClass", desc := "()Ljava/lang/Class;" } : Jvm.MethodName)) ∈ WA := wa_of 293 (by decide +kernel) (by decide +kernel)
theorem wm_294 : (Jvm.Cond.selects "DyeRing$Piece" ({ cls := "java/lang/Object", name := "getClass", desc := "()Ljava/lang/Class;" } : Jvm.MethodName) ({ cls := "java/lang/Object", name := "getClass", desc := "()Ljava/lang/Class;" } : Jvm.MethodName)) ∈ WA := wa_of 294 (by decide +kernel) (by decide +kernel)
theorem wm_295 : (Jvm.Cond.selects "DyeRingModel" ({ cls := "java/lang/Object", name := "getClass", desc := "()Ljava/lang/Class;" } : Jvm.MethodName) ({ cls := "java/lang/Object", name := "getClass", desc := "()Ljava/lang/Class;" } : Jvm.MethodName)) ∈ WA := wa_of 295 (by decide +kernel) (by decide +kernel)
theorem wm_296 : (Jvm.Cond.selects "java/lang/IllegalArgumentException" ({ cls := "java/lang/Object", name := "getClass", desc := "()Ljava/lang/Class;" } : Jvm.MethodName) ({ cls := "java/lang/Object", name := "getClass", desc := "()Ljava/lang/Class;" } : Jvm.MethodName)) ∈ WA := wa_of 296 (by decide +kernel) (by decide +kernel)
theorem wm_297 : (Jvm.Cond.selects "java/lang/IllegalStateException" ({ cls := "java/lang/Object", name := "getClass", desc := "()Ljava/lang/Class;" } : Jvm.MethodName) ({ cls := "java/lang/Object", name := "getClass", desc := "()Ljava/lang/Class;" } : Jvm.MethodName)) ∈ WA := wa_of 297 (by decide +kernel) (by decide +kernel)
theorem wm_298 : (Jvm.Cond.selects "java/lang/IndexOutOfBoundsException" ({ cls := "java/lang/Object", name := "getClass", desc := "()Ljava/lang/Class;" } : Jvm.MethodName) ({ cls := "java/lang/Object", name := "getClass", desc := "()Ljava/lang/Class;" } : Jvm.MethodName)) ∈ WA := wa_of 298 (by decide +kernel) (by decide +kernel)
theorem wm_299 : (Jvm.Cond.selects "java/util/ArrayList" ({ cls := "java/lang/Object", name := "getClass", desc := "()Ljava/lang/Class;" } : Jvm.MethodName) ({ cls := "java/lang/Object", name := "getClass", desc := "()Ljava/lang/Class;" } : Jvm.MethodName)) ∈ WA := wa_of 299 (by decide +kernel) (by decide +kernel)
theorem wm_300 : (Jvm.Cond.selects "java/util/NoSuchElementException" ({ cls := "java/lang/Object", name := "getClass", desc := "()Ljava/lang/Class;" } : Jvm.MethodName) ({ cls := "java/lang/Object", name := "getClass", desc := "()Ljava/lang/Class;" } : Jvm.MethodName)) ∈ WA := wa_of 300 (by decide +kernel) (by decide +kernel)
theorem wm_301 : (Jvm.Cond.native ({ cls := "java/lang/Object", name := "getClass", desc := "()Ljava/lang/Class;" } : Jvm.MethodName)) ∈ WA := wa_of 301 (by decide +kernel) (by decide +kernel)
theorem wm_302 : (Jvm.Cond.methodLink "java/util/Arrays" (300 : Nat) ({ cls := "java/util/Arrays", name := "copyOf", desc := "([Ljava/lang/Object;ILjava/lang/Class;)[Ljava/lang/Object;" } : Jvm.MethodName)) ∈ WA := wa_of 302 (by decide +kernel) (by decide +kernel)
theorem wm_303 : (Jvm.Cond.static ({ cls := "java/util/Arrays", name := "copyOf", desc := "([Ljava/lang/Object;ILjava/lang/Class;)[Ljava/lang/Object;" } : Jvm.MethodName)) ∈ WA := wa_of 303 (by decide +kernel) (by decide +kernel)
theorem wm_304 : (Jvm.Cond.code ({ cls := "java/util/Arrays", name := "copyOf", desc := "([Ljava/lang/Object;ILjava/lang/Class;)[Ljava/lang/Object;" } : Jvm.MethodName) prog_24_method_120_code (4 : Nat) (Option.some (Jvm.ClassFile.FieldType.array (Jvm.ClassFile.FieldType.object "java/lang/Object")))) ∈ WA := wa_of 304 (by decide +kernel) (by decide +kernel)
theorem wm_305 : (Jvm.Cond.classLink "java/util/Arrays" (110 : Nat) "[Ljava/lang/Object;") ∈ WA := wa_of 305 (by decide +kernel) (by decide +kernel)
theorem wm_307 : (Jvm.Cond.classLink "java/util/Arrays" (2 : Nat) "java/lang/Object") ∈ WA := wa_of 307 (by decide +kernel) (by decide +kernel)
theorem wm_308 : (Jvm.Cond.methodLink "java/util/Arrays" (304 : Nat) ({ cls := "java/lang/Math", name := "min", desc := "(II)I" } : Jvm.MethodName)) ∈ WA := wa_of 308 (by decide +kernel) (by decide +kernel)
theorem wm_309 : (Jvm.Cond.static ({ cls := "java/lang/Math", name := "min", desc := "(II)I" } : Jvm.MethodName)) ∈ WA := wa_of 309 (by decide +kernel) (by decide +kernel)
theorem wm_310 : (Jvm.Cond.code ({ cls := "java/lang/Math", name := "min", desc := "(II)I" } : Jvm.MethodName) prog_16_method_69_code (2 : Nat) (Option.some Jvm.ClassFile.FieldType.int)) ∈ WA := wa_of 310 (by decide +kernel) (by decide +kernel)
theorem wm_311 : (Jvm.Cond.methodLink "java/util/Arrays" (150 : Nat) ({ cls := "java/lang/System", name := "arraycopy", desc := "(Ljava/lang/Object;ILjava/lang/Object;II)V" } : Jvm.MethodName)) ∈ WA := wa_of 311 (by decide +kernel) (by decide +kernel)
theorem wm_312 : (Jvm.Cond.static ({ cls := "java/lang/System", name := "arraycopy", desc := "(Ljava/lang/Object;ILjava/lang/Object;II)V" } : Jvm.MethodName)) ∈ WA := wa_of 312 (by decide +kernel) (by decide +kernel)
theorem wm_313 : (Jvm.Cond.native ({ cls := "java/lang/System", name := "arraycopy", desc := "(Ljava/lang/Object;ILjava/lang/Object;II)V" } : Jvm.MethodName)) ∈ WA := wa_of 313 (by decide +kernel) (by decide +kernel)
theorem wm_314 : (Jvm.Cond.methodLink "java/util/ArrayList" (79 : Nat) ({ cls := "java/lang/Math", name := "max", desc := "(II)I" } : Jvm.MethodName)) ∈ WA := wa_of 314 (by decide +kernel) (by decide +kernel)
theorem wm_315 : (Jvm.Cond.classLink "java/util/ArrayList" (7 : Nat) "java/lang/Object") ∈ WA := wa_of 315 (by decide +kernel) (by decide +kernel)
theorem wm_316 : (Jvm.Cond.methodLink "DyeRingLaw" (95 : Nat) ({ cls := "DyeRingLaw", name := "water", desc := "(LDyeRing;II[J)I" } : Jvm.MethodName)) ∈ WA := wa_of 316 (by decide +kernel) (by decide +kernel)
theorem wm_317 : (Jvm.Cond.static ({ cls := "DyeRingLaw", name := "water", desc := "(LDyeRing;II[J)I" } : Jvm.MethodName)) ∈ WA := wa_of 317 (by decide +kernel) (by decide +kernel)
theorem wm_318 : (Jvm.Cond.codeWith ({ cls := "DyeRingLaw", name := "water", desc := "(LDyeRing;II[J)I" } : Jvm.MethodName) method_4_code (5 : Nat) (Option.some Jvm.ClassFile.FieldType.int) [((0 : Nat), (10 : Nat), (13 : Nat), (21 : Nat)), ((0 : Nat), (10 : Nat), (17 : Nat), (13 : Nat))]) ∈ WA := wa_of 318 (by decide +kernel) (by decide +kernel)
theorem wm_319 : (Jvm.Cond.classLink "DyeRingLaw" (21 : Nat) "java/lang/IndexOutOfBoundsException") ∈ WA := wa_of 319 (by decide +kernel) (by decide +kernel)
theorem wm_320 : (Jvm.Cond.methodLink "DyeRingLaw" (17 : Nat) ({ cls := "DyeRing", name := "water", desc := "(II)I" } : Jvm.MethodName)) ∈ WA := wa_of 320 (by decide +kernel) (by decide +kernel)
theorem wm_321 : (Jvm.Cond.instanceMethod ({ cls := "DyeRing", name := "water", desc := "(II)I" } : Jvm.MethodName)) ∈ WA := wa_of 321 (by decide +kernel) (by decide +kernel)
theorem wm_322 : (Jvm.Cond.selects "DyeRing" ({ cls := "DyeRing", name := "water", desc := "(II)I" } : Jvm.MethodName) ({ cls := "DyeRing", name := "water", desc := "(II)I" } : Jvm.MethodName)) ∈ WA := wa_of 322 (by decide +kernel) (by decide +kernel)
theorem wm_323 : (Jvm.Cond.code ({ cls := "DyeRing", name := "water", desc := "(II)I" } : Jvm.MethodName) prog_1_method_3_code (4 : Nat) (Option.some Jvm.ClassFile.FieldType.int)) ∈ WA := wa_of 323 (by decide +kernel) (by decide +kernel)
theorem wm_324 : (Jvm.Cond.methodLink "DyeRing" (65 : Nat) ({ cls := "DyeRing", name := "requireIndex", desc := "(II)V" } : Jvm.MethodName)) ∈ WA := wa_of 324 (by decide +kernel) (by decide +kernel)
theorem wm_325 : (Jvm.Cond.static ({ cls := "DyeRing", name := "requireIndex", desc := "(II)V" } : Jvm.MethodName)) ∈ WA := wa_of 325 (by decide +kernel) (by decide +kernel)
theorem wm_326 : (Jvm.Cond.code ({ cls := "DyeRing", name := "requireIndex", desc := "(II)V" } : Jvm.MethodName) prog_1_method_22_code (2 : Nat) (Option.none : Option Jvm.ClassFile.FieldType)) ∈ WA := wa_of 326 (by decide +kernel) (by decide +kernel)
theorem wm_327 : (Jvm.Cond.classLink "DyeRing" (205 : Nat) "java/lang/IndexOutOfBoundsException") ∈ WA := wa_of 327 (by decide +kernel) (by decide +kernel)
theorem wm_328 : (Jvm.Cond.instantiable "java/lang/IndexOutOfBoundsException" (6 : Nat)) ∈ WA := wa_of 328 (by decide +kernel) (by decide +kernel)
theorem wm_330 : (Jvm.Cond.selects "java/lang/IndexOutOfBoundsException" ({ cls := "java/lang/Throwable", name := "fillInStackTrace", desc := "(I)Ljava/lang/Throwable;" } : Jvm.MethodName) ({ cls := "java/lang/Throwable", name := "fillInStackTrace", desc := "(I)Ljava/lang/Throwable;" } : Jvm.MethodName)) ∈ WA := wa_of 330 (by decide +kernel) (by decide +kernel)
theorem wm_331 : (Jvm.Cond.lays "java/lang/IndexOutOfBoundsException" "java/lang/Throwable" "cause" "Ljava/lang/Throwable;") ∈ WA := wa_of 331 (by decide +kernel) (by decide +kernel)
theorem wm_332 : (Jvm.Cond.lays "java/lang/IndexOutOfBoundsException" "java/lang/Throwable" "stackTrace" "[Ljava/lang/StackTraceElement;") ∈ WA := wa_of 332 (by decide +kernel) (by decide +kernel)
theorem wm_333 : (Jvm.Cond.lays "java/lang/IndexOutOfBoundsException" "java/lang/Throwable" "suppressedExceptions" "Ljava/util/List;") ∈ WA := wa_of 333 (by decide +kernel) (by decide +kernel)
theorem wm_334 : (Jvm.Cond.lays "java/lang/IndexOutOfBoundsException" "java/lang/Throwable" "detailMessage" "Ljava/lang/String;") ∈ WA := wa_of 334 (by decide +kernel) (by decide +kernel)
theorem wm_335 : (Jvm.Cond.lays "java/lang/IndexOutOfBoundsException" "java/lang/Throwable" "backtrace" "Ljava/lang/Object;") ∈ WA := wa_of 335 (by decide +kernel) (by decide +kernel)
theorem wm_337 : (Jvm.Cond.methodLink "DyeRing" (209 : Nat) ({ cls := "java/lang/IndexOutOfBoundsException", name := "<init>", desc := "(Ljava/lang/String;)V" } : Jvm.MethodName)) ∈ WA := wa_of 337 (by decide +kernel) (by decide +kernel)
theorem wm_338 : (Jvm.Cond.instanceMethod ({ cls := "java/lang/IndexOutOfBoundsException", name := "<init>", desc := "(Ljava/lang/String;)V" } : Jvm.MethodName)) ∈ WA := wa_of 338 (by decide +kernel) (by decide +kernel)
theorem wm_339 : (Jvm.Cond.code ({ cls := "java/lang/IndexOutOfBoundsException", name := "<init>", desc := "(Ljava/lang/String;)V" } : Jvm.MethodName) prog_14_method_2_code (2 : Nat) (Option.none : Option Jvm.ClassFile.FieldType)) ∈ WA := wa_of 339 (by decide +kernel) (by decide +kernel)
theorem wm_340 : (Jvm.Cond.methodLink "java/lang/IndexOutOfBoundsException" (7 : Nat) ({ cls := "java/lang/RuntimeException", name := "<init>", desc := "(Ljava/lang/String;)V" } : Jvm.MethodName)) ∈ WA := wa_of 340 (by decide +kernel) (by decide +kernel)
theorem wm_341 : (Jvm.Cond.lays "java/lang/IndexOutOfBoundsException" "java/lang/Throwable" "depth" "I") ∈ WA := wa_of 341 (by decide +kernel) (by decide +kernel)
theorem wm_342 : (Jvm.Cond.superclass "java/lang/IndexOutOfBoundsException" "java/lang/RuntimeException") ∈ WA := wa_of 342 (by decide +kernel) (by decide +kernel)
theorem wm_343 : (Jvm.Cond.methodLink "DyeRingLaw" (99 : Nat) ({ cls := "DyeRingLaw", name := "yarn", desc := "(LDyeRing;III[J)I" } : Jvm.MethodName)) ∈ WA := wa_of 343 (by decide +kernel) (by decide +kernel)
theorem wm_344 : (Jvm.Cond.static ({ cls := "DyeRingLaw", name := "yarn", desc := "(LDyeRing;III[J)I" } : Jvm.MethodName)) ∈ WA := wa_of 344 (by decide +kernel) (by decide +kernel)
theorem wm_345 : (Jvm.Cond.codeWith ({ cls := "DyeRingLaw", name := "yarn", desc := "(LDyeRing;III[J)I" } : Jvm.MethodName) method_5_code (6 : Nat) (Option.some Jvm.ClassFile.FieldType.int) [((0 : Nat), (12 : Nat), (15 : Nat), (21 : Nat)), ((0 : Nat), (12 : Nat), (19 : Nat), (13 : Nat))]) ∈ WA := wa_of 345 (by decide +kernel) (by decide +kernel)
theorem wm_346 : (Jvm.Cond.methodLink "DyeRingLaw" (23 : Nat) ({ cls := "DyeRing", name := "yarn", desc := "(III)I" } : Jvm.MethodName)) ∈ WA := wa_of 346 (by decide +kernel) (by decide +kernel)
theorem wm_347 : (Jvm.Cond.instanceMethod ({ cls := "DyeRing", name := "yarn", desc := "(III)I" } : Jvm.MethodName)) ∈ WA := wa_of 347 (by decide +kernel) (by decide +kernel)
theorem wm_348 : (Jvm.Cond.selects "DyeRing" ({ cls := "DyeRing", name := "yarn", desc := "(III)I" } : Jvm.MethodName) ({ cls := "DyeRing", name := "yarn", desc := "(III)I" } : Jvm.MethodName)) ∈ WA := wa_of 348 (by decide +kernel) (by decide +kernel)
theorem wm_349 : (Jvm.Cond.code ({ cls := "DyeRing", name := "yarn", desc := "(III)I" } : Jvm.MethodName) prog_1_method_4_code (5 : Nat) (Option.some Jvm.ClassFile.FieldType.int)) ∈ WA := wa_of 349 (by decide +kernel) (by decide +kernel)
theorem wm_350 : (Jvm.Cond.methodLink "DyeRingLaw" (102 : Nat) ({ cls := "DyeRingLaw", name := "apart", desc := "(LDyeRing;II[J)I" } : Jvm.MethodName)) ∈ WA := wa_of 350 (by decide +kernel) (by decide +kernel)
theorem wm_351 : (Jvm.Cond.static ({ cls := "DyeRingLaw", name := "apart", desc := "(LDyeRing;II[J)I" } : Jvm.MethodName)) ∈ WA := wa_of 351 (by decide +kernel) (by decide +kernel)
theorem wm_352 : (Jvm.Cond.codeWith ({ cls := "DyeRingLaw", name := "apart", desc := "(LDyeRing;II[J)I" } : Jvm.MethodName) method_6_code (5 : Nat) (Option.some Jvm.ClassFile.FieldType.int) [((0 : Nat), (10 : Nat), (13 : Nat), (21 : Nat))]) ∈ WA := wa_of 352 (by decide +kernel) (by decide +kernel)
theorem wm_353 : (Jvm.Cond.methodLink "DyeRingLaw" (26 : Nat) ({ cls := "DyeRing", name := "apart", desc := "(II)I" } : Jvm.MethodName)) ∈ WA := wa_of 353 (by decide +kernel) (by decide +kernel)
theorem wm_354 : (Jvm.Cond.instanceMethod ({ cls := "DyeRing", name := "apart", desc := "(II)I" } : Jvm.MethodName)) ∈ WA := wa_of 354 (by decide +kernel) (by decide +kernel)
theorem wm_355 : (Jvm.Cond.selects "DyeRing" ({ cls := "DyeRing", name := "apart", desc := "(II)I" } : Jvm.MethodName) ({ cls := "DyeRing", name := "apart", desc := "(II)I" } : Jvm.MethodName)) ∈ WA := wa_of 355 (by decide +kernel) (by decide +kernel)
theorem wm_356 : (Jvm.Cond.code ({ cls := "DyeRing", name := "apart", desc := "(II)I" } : Jvm.MethodName) prog_1_method_5_code (5 : Nat) (Option.some Jvm.ClassFile.FieldType.int)) ∈ WA := wa_of 356 (by decide +kernel) (by decide +kernel)
theorem wm_357 : (Jvm.Cond.methodLink "DyeRing" (68 : Nat) ({ cls := "DyeRing", name := "findEntry", desc := "(I)LDyeRing$Entry;" } : Jvm.MethodName)) ∈ WA := wa_of 357 (by decide +kernel) (by decide +kernel)
theorem wm_359 : (Jvm.Cond.instanceMethod ({ cls := "DyeRing", name := "findEntry", desc := "(I)LDyeRing$Entry;" } : Jvm.MethodName)) ∈ WA := wa_of 359 (by decide +kernel) (by decide +kernel)
theorem wm_360 : (Jvm.Cond.code ({ cls := "DyeRing", name := "findEntry", desc := "(I)LDyeRing$Entry;" } : Jvm.MethodName) prog_1_method_27_code (2 : Nat) (Option.some (Jvm.ClassFile.FieldType.object "DyeRing$Entry"))) ∈ WA := wa_of 360 (by decide +kernel) (by decide +kernel)
theorem wm_361 : (Jvm.Cond.methodLink "DyeRing" (218 : Nat) ({ cls := "java/util/ArrayList", name := "get", desc := "(I)Ljava/lang/Object;" } : Jvm.MethodName)) ∈ WA := wa_of 361 (by decide +kernel) (by decide +kernel)
theorem wm_362 : (Jvm.Cond.instanceMethod ({ cls := "java/util/ArrayList", name := "get", desc := "(I)Ljava/lang/Object;" } : Jvm.MethodName)) ∈ WA := wa_of 362 (by decide +kernel) (by decide +kernel)
theorem wm_363 : (Jvm.Cond.selects "java/util/ArrayList" ({ cls := "java/util/ArrayList", name := "get", desc := "(I)Ljava/lang/Object;" } : Jvm.MethodName) ({ cls := "java/util/ArrayList", name := "get", desc := "(I)Ljava/lang/Object;" } : Jvm.MethodName)) ∈ WA := wa_of 363 (by decide +kernel) (by decide +kernel)
theorem wm_364 : (Jvm.Cond.code ({ cls := "java/util/ArrayList", name := "get", desc := "(I)Ljava/lang/Object;" } : Jvm.MethodName) prog_23_method_20_code (2 : Nat) (Option.some (Jvm.ClassFile.FieldType.object "java/lang/Object"))) ∈ WA := wa_of 364 (by decide +kernel) (by decide +kernel)
theorem wm_365 : (Jvm.Cond.methodLink "java/util/ArrayList" (118 : Nat) ({ cls := "java/util/Objects", name := "checkIndex", desc := "(II)I" } : Jvm.MethodName)) ∈ WA := wa_of 365 (by decide +kernel) (by decide +kernel)
theorem wm_366 : (Jvm.Cond.static ({ cls := "java/util/Objects", name := "checkIndex", desc := "(II)I" } : Jvm.MethodName)) ∈ WA := wa_of 366 (by decide +kernel) (by decide +kernel)
theorem wm_367 : (Jvm.Cond.code ({ cls := "java/util/Objects", name := "checkIndex", desc := "(II)I" } : Jvm.MethodName) prog_28_method_17_code (2 : Nat) (Option.some Jvm.ClassFile.FieldType.int)) ∈ WA := wa_of 367 (by decide +kernel) (by decide +kernel)
theorem wm_368 : (Jvm.Cond.methodLink "java/util/Objects" (105 : Nat) ({ cls := "jdk/internal/util/Preconditions", name := "checkIndex", desc := "(IILjava/util/function/BiFunction;)I" } : Jvm.MethodName)) ∈ WA := wa_of 368 (by decide +kernel) (by decide +kernel)
theorem wm_369 : (Jvm.Cond.static ({ cls := "jdk/internal/util/Preconditions", name := "checkIndex", desc := "(IILjava/util/function/BiFunction;)I" } : Jvm.MethodName)) ∈ WA := wa_of 369 (by decide +kernel) (by decide +kernel)
theorem wm_370 : (Jvm.Cond.code ({ cls := "jdk/internal/util/Preconditions", name := "checkIndex", desc := "(IILjava/util/function/BiFunction;)I" } : Jvm.MethodName) prog_32_method_11_code (3 : Nat) (Option.some Jvm.ClassFile.FieldType.int)) ∈ WA := wa_of 370 (by decide +kernel) (by decide +kernel)
theorem wm_371 : (Jvm.Cond.methodLink "java/util/ArrayList" (123 : Nat) ({ cls := "java/util/ArrayList", name := "elementData", desc := "(I)Ljava/lang/Object;" } : Jvm.MethodName)) ∈ WA := wa_of 371 (by decide +kernel) (by decide +kernel)
theorem wm_372 : (Jvm.Cond.instanceMethod ({ cls := "java/util/ArrayList", name := "elementData", desc := "(I)Ljava/lang/Object;" } : Jvm.MethodName)) ∈ WA := wa_of 372 (by decide +kernel) (by decide +kernel)
theorem wm_373 : (Jvm.Cond.selects "java/util/ArrayList" ({ cls := "java/util/ArrayList", name := "elementData", desc := "(I)Ljava/lang/Object;" } : Jvm.MethodName) ({ cls := "java/util/ArrayList", name := "elementData", desc := "(I)Ljava/lang/Object;" } : Jvm.MethodName)) ∈ WA := wa_of 373 (by decide +kernel) (by decide +kernel)
theorem wm_374 : (Jvm.Cond.code ({ cls := "java/util/ArrayList", name := "elementData", desc := "(I)Ljava/lang/Object;" } : Jvm.MethodName) prog_23_method_18_code (2 : Nat) (Option.some (Jvm.ClassFile.FieldType.object "java/lang/Object"))) ∈ WA := wa_of 374 (by decide +kernel) (by decide +kernel)
theorem wm_375 : (Jvm.Cond.methodLink "DyeRing" (79 : Nat) ({ cls := "DyeRing$Entry", name := "distanceTo", desc := "(II)I" } : Jvm.MethodName)) ∈ WA := wa_of 375 (by decide +kernel) (by decide +kernel)
theorem wm_376 : (Jvm.Cond.instanceMethod ({ cls := "DyeRing$Entry", name := "distanceTo", desc := "(II)I" } : Jvm.MethodName)) ∈ WA := wa_of 376 (by decide +kernel) (by decide +kernel)
theorem wm_377 : (Jvm.Cond.selects "DyeRing$Entry" ({ cls := "DyeRing$Entry", name := "distanceTo", desc := "(II)I" } : Jvm.MethodName) ({ cls := "DyeRing$Entry", name := "distanceTo", desc := "(II)I" } : Jvm.MethodName)) ∈ WA := wa_of 377 (by decide +kernel) (by decide +kernel)
theorem wm_378 : (Jvm.Cond.code ({ cls := "DyeRing$Entry", name := "distanceTo", desc := "(II)I" } : Jvm.MethodName) prog_4_method_2_code (3 : Nat) (Option.some Jvm.ClassFile.FieldType.int)) ∈ WA := wa_of 378 (by decide +kernel) (by decide +kernel)
theorem wm_379 : (Jvm.Cond.methodLink "DyeRing$Entry" (24 : Nat) ({ cls := "java/lang/Math", name := "abs", desc := "(I)I" } : Jvm.MethodName)) ∈ WA := wa_of 379 (by decide +kernel) (by decide +kernel)
theorem wm_380 : (Jvm.Cond.static ({ cls := "java/lang/Math", name := "abs", desc := "(I)I" } : Jvm.MethodName)) ∈ WA := wa_of 380 (by decide +kernel) (by decide +kernel)
theorem wm_381 : (Jvm.Cond.code ({ cls := "java/lang/Math", name := "abs", desc := "(I)I" } : Jvm.MethodName) prog_16_method_59_code (1 : Nat) (Option.some Jvm.ClassFile.FieldType.int)) ∈ WA := wa_of 381 (by decide +kernel) (by decide +kernel)
theorem wm_382 : (Jvm.Cond.methodLink "DyeRingLaw" (105 : Nat) ({ cls := "DyeRingLaw", name := "bath", desc := "(LDyeRing;II[J)I" } : Jvm.MethodName)) ∈ WA := wa_of 382 (by decide +kernel) (by decide +kernel)
theorem wm_383 : (Jvm.Cond.static ({ cls := "DyeRingLaw", name := "bath", desc := "(LDyeRing;II[J)I" } : Jvm.MethodName)) ∈ WA := wa_of 383 (by decide +kernel) (by decide +kernel)
theorem wm_384 : (Jvm.Cond.codeWith ({ cls := "DyeRingLaw", name := "bath", desc := "(LDyeRing;II[J)I" } : Jvm.MethodName) method_7_code (5 : Nat) (Option.some Jvm.ClassFile.FieldType.int) [((0 : Nat), (10 : Nat), (13 : Nat), (21 : Nat)), ((0 : Nat), (10 : Nat), (17 : Nat), (15 : Nat))]) ∈ WA := wa_of 384 (by decide +kernel) (by decide +kernel)
theorem wm_385 : (Jvm.Cond.methodLink "DyeRingLaw" (29 : Nat) ({ cls := "DyeRing", name := "bath", desc := "(II)I" } : Jvm.MethodName)) ∈ WA := wa_of 385 (by decide +kernel) (by decide +kernel)
theorem wm_386 : (Jvm.Cond.instanceMethod ({ cls := "DyeRing", name := "bath", desc := "(II)I" } : Jvm.MethodName)) ∈ WA := wa_of 386 (by decide +kernel) (by decide +kernel)
theorem wm_387 : (Jvm.Cond.selects "DyeRing" ({ cls := "DyeRing", name := "bath", desc := "(II)I" } : Jvm.MethodName) ({ cls := "DyeRing", name := "bath", desc := "(II)I" } : Jvm.MethodName)) ∈ WA := wa_of 387 (by decide +kernel) (by decide +kernel)
theorem wm_388 : (Jvm.Cond.code ({ cls := "DyeRing", name := "bath", desc := "(II)I" } : Jvm.MethodName) prog_1_method_6_code (5 : Nat) (Option.some Jvm.ClassFile.FieldType.int)) ∈ WA := wa_of 388 (by decide +kernel) (by decide +kernel)
theorem wm_389 : (Jvm.Cond.classLink "DyeRing" (83 : Nat) "DyeRing$Bath") ∈ WA := wa_of 389 (by decide +kernel) (by decide +kernel)
theorem wm_390 : (Jvm.Cond.instantiable "DyeRing$Bath" (5 : Nat)) ∈ WA := wa_of 390 (by decide +kernel) (by decide +kernel)
theorem wm_391 : (Jvm.Cond.methodLink "DyeRing" (85 : Nat) ({ cls := "DyeRing$Bath", name := "<init>", desc := "(ILDyeRing$Entry;)V" } : Jvm.MethodName)) ∈ WA := wa_of 391 (by decide +kernel) (by decide +kernel)
theorem wm_392 : (Jvm.Cond.instanceMethod ({ cls := "DyeRing$Bath", name := "<init>", desc := "(ILDyeRing$Entry;)V" } : Jvm.MethodName)) ∈ WA := wa_of 392 (by decide +kernel) (by decide +kernel)
theorem wm_393 : (Jvm.Cond.code ({ cls := "DyeRing$Bath", name := "<init>", desc := "(ILDyeRing$Entry;)V" } : Jvm.MethodName) prog_2_method_1_code (3 : Nat) (Option.none : Option Jvm.ClassFile.FieldType)) ∈ WA := wa_of 393 (by decide +kernel) (by decide +kernel)
theorem wm_394 : (Jvm.Cond.methodLink "DyeRing$Bath" (3 : Nat) ({ cls := "java/lang/Object", name := "<init>", desc := "()V" } : Jvm.MethodName)) ∈ WA := wa_of 394 (by decide +kernel) (by decide +kernel)
theorem wm_395 : (Jvm.Cond.classLink "DyeRing$Bath" (15 : Nat) "java/util/ArrayList") ∈ WA := wa_of 395 (by decide +kernel) (by decide +kernel)
theorem wm_396 : (Jvm.Cond.methodLink "DyeRing$Bath" (17 : Nat) ({ cls := "java/util/ArrayList", name := "<init>", desc := "()V" } : Jvm.MethodName)) ∈ WA := wa_of 396 (by decide +kernel) (by decide +kernel)
theorem wm_397 : (Jvm.Cond.fieldLink "DyeRing$Bath" (22 : Nat) "DyeRing$Bath" "dyer" "I") ∈ WA := wa_of 397 (by decide +kernel) (by decide +kernel)
theorem wm_398 : (Jvm.Cond.fieldLink "DyeRing" (168 : Nat) "DyeRing$Bath" "dyer" "I") ∈ WA := wa_of 398 (by decide +kernel) (by decide +kernel)
theorem wm_399 : (Jvm.Cond.fieldLink "DyeRing$Bath" (25 : Nat) "DyeRing$Bath" "entry" "LDyeRing$Entry;") ∈ WA := wa_of 399 (by decide +kernel) (by decide +kernel)
theorem wm_400 : (Jvm.Cond.fieldLink "DyeRing" (226 : Nat) "DyeRing$Bath" "entry" "LDyeRing$Entry;") ∈ WA := wa_of 400 (by decide +kernel) (by decide +kernel)
theorem wm_401 : (Jvm.Cond.fieldLink "DyeRing$Bath" (9 : Nat) "DyeRing$Bath" "strengthNow" "I") ∈ WA := wa_of 401 (by decide +kernel) (by decide +kernel)
theorem wm_402 : (Jvm.Cond.fieldLink "DyeRing$Piece" (42 : Nat) "DyeRing$Bath" "strengthNow" "I") ∈ WA := wa_of 402 (by decide +kernel) (by decide +kernel)
theorem wm_403 : (Jvm.Cond.fieldLink "DyeRing" (95 : Nat) "DyeRing$Bath" "strengthNow" "I") ∈ WA := wa_of 403 (by decide +kernel) (by decide +kernel)
theorem wm_404 : (Jvm.Cond.fieldLink "DyeRing$Piece" (33 : Nat) "DyeRing$Bath" "renewedSincePiece" "Z") ∈ WA := wa_of 404 (by decide +kernel) (by decide +kernel)
theorem wm_405 : (Jvm.Cond.fieldLink "DyeRing$Bath" (34 : Nat) "DyeRing$Bath" "renewedSincePiece" "Z") ∈ WA := wa_of 405 (by decide +kernel) (by decide +kernel)
theorem wm_406 : (Jvm.Cond.fieldLink "DyeRing$Bath" (18 : Nat) "DyeRing$Bath" "pieces" "Ljava/util/ArrayList;") ∈ WA := wa_of 406 (by decide +kernel) (by decide +kernel)
theorem wm_407 : (Jvm.Cond.laysFinal "DyeRing$Bath" "DyeRing$Bath" "dyer" "I") ∈ WA := wa_of 407 (by decide +kernel) (by decide +kernel)
theorem wm_409 : (Jvm.Cond.laysFinal "DyeRing$Bath" "DyeRing$Bath" "entry" "LDyeRing$Entry;") ∈ WA := wa_of 409 (by decide +kernel) (by decide +kernel)
theorem wm_411 : (Jvm.Cond.lays "DyeRing$Bath" "DyeRing$Bath" "strengthNow" "I") ∈ WA := wa_of 411 (by decide +kernel) (by decide +kernel)
theorem wm_413 : (Jvm.Cond.lays "DyeRing$Bath" "DyeRing$Bath" "renewedSincePiece" "Z") ∈ WA := wa_of 413 (by decide +kernel) (by decide +kernel)
theorem wm_415 : (Jvm.Cond.laysFinal "DyeRing$Bath" "DyeRing$Bath" "pieces" "Ljava/util/ArrayList;") ∈ WA := wa_of 415 (by decide +kernel) (by decide +kernel)
theorem wm_417 : (Jvm.Cond.superclass "DyeRing$Bath" "java/lang/Object") ∈ WA := wa_of 417 (by decide +kernel) (by decide +kernel)
theorem wm_418 : (Jvm.Cond.methodLink "DyeRingLaw" (108 : Nat) ({ cls := "DyeRingLaw", name := "freshen", desc := "(LDyeRing;I[J)I" } : Jvm.MethodName)) ∈ WA := wa_of 418 (by decide +kernel) (by decide +kernel)
theorem wm_419 : (Jvm.Cond.static ({ cls := "DyeRingLaw", name := "freshen", desc := "(LDyeRing;I[J)I" } : Jvm.MethodName)) ∈ WA := wa_of 419 (by decide +kernel) (by decide +kernel)
theorem wm_420 : (Jvm.Cond.codeWith ({ cls := "DyeRingLaw", name := "freshen", desc := "(LDyeRing;I[J)I" } : Jvm.MethodName) method_8_code (4 : Nat) (Option.some Jvm.ClassFile.FieldType.int) [((0 : Nat), (9 : Nat), (12 : Nat), (21 : Nat))]) ∈ WA := wa_of 420 (by decide +kernel) (by decide +kernel)
theorem wm_421 : (Jvm.Cond.methodLink "DyeRingLaw" (32 : Nat) ({ cls := "DyeRing", name := "freshen", desc := "(I)I" } : Jvm.MethodName)) ∈ WA := wa_of 421 (by decide +kernel) (by decide +kernel)
theorem wm_422 : (Jvm.Cond.instanceMethod ({ cls := "DyeRing", name := "freshen", desc := "(I)I" } : Jvm.MethodName)) ∈ WA := wa_of 422 (by decide +kernel) (by decide +kernel)
theorem wm_423 : (Jvm.Cond.selects "DyeRing" ({ cls := "DyeRing", name := "freshen", desc := "(I)I" } : Jvm.MethodName) ({ cls := "DyeRing", name := "freshen", desc := "(I)I" } : Jvm.MethodName)) ∈ WA := wa_of 423 (by decide +kernel) (by decide +kernel)
theorem wm_424 : (Jvm.Cond.code ({ cls := "DyeRing", name := "freshen", desc := "(I)I" } : Jvm.MethodName) prog_1_method_7_code (2 : Nat) (Option.some Jvm.ClassFile.FieldType.int)) ∈ WA := wa_of 424 (by decide +kernel) (by decide +kernel)
theorem wm_425 : (Jvm.Cond.methodLink "DyeRing" (88 : Nat) ({ cls := "DyeRing", name := "findBath", desc := "(I)LDyeRing$Bath;" } : Jvm.MethodName)) ∈ WA := wa_of 425 (by decide +kernel) (by decide +kernel)
theorem wm_427 : (Jvm.Cond.instanceMethod ({ cls := "DyeRing", name := "findBath", desc := "(I)LDyeRing$Bath;" } : Jvm.MethodName)) ∈ WA := wa_of 427 (by decide +kernel) (by decide +kernel)
theorem wm_428 : (Jvm.Cond.code ({ cls := "DyeRing", name := "findBath", desc := "(I)LDyeRing$Bath;" } : Jvm.MethodName) prog_1_method_28_code (2 : Nat) (Option.some (Jvm.ClassFile.FieldType.object "DyeRing$Bath"))) ∈ WA := wa_of 428 (by decide +kernel) (by decide +kernel)
theorem wm_429 : (Jvm.Cond.methodLink "DyeRing" (92 : Nat) ({ cls := "DyeRing$Bath", name := "renew", desc := "()I" } : Jvm.MethodName)) ∈ WA := wa_of 429 (by decide +kernel) (by decide +kernel)
theorem wm_430 : (Jvm.Cond.instanceMethod ({ cls := "DyeRing$Bath", name := "renew", desc := "()I" } : Jvm.MethodName)) ∈ WA := wa_of 430 (by decide +kernel) (by decide +kernel)
theorem wm_431 : (Jvm.Cond.selects "DyeRing$Bath" ({ cls := "DyeRing$Bath", name := "renew", desc := "()I" } : Jvm.MethodName) ({ cls := "DyeRing$Bath", name := "renew", desc := "()I" } : Jvm.MethodName)) ∈ WA := wa_of 431 (by decide +kernel) (by decide +kernel)
theorem wm_432 : (Jvm.Cond.code ({ cls := "DyeRing$Bath", name := "renew", desc := "()I" } : Jvm.MethodName) prog_2_method_3_code (2 : Nat) (Option.some Jvm.ClassFile.FieldType.int)) ∈ WA := wa_of 432 (by decide +kernel) (by decide +kernel)
theorem wm_433 : (Jvm.Cond.methodLink "DyeRingLaw" (112 : Nat) ({ cls := "DyeRingLaw", name := "strength", desc := "(LDyeRing;I[J)I" } : Jvm.MethodName)) ∈ WA := wa_of 433 (by decide +kernel) (by decide +kernel)
theorem wm_434 : (Jvm.Cond.static ({ cls := "DyeRingLaw", name := "strength", desc := "(LDyeRing;I[J)I" } : Jvm.MethodName)) ∈ WA := wa_of 434 (by decide +kernel) (by decide +kernel)
theorem wm_435 : (Jvm.Cond.codeWith ({ cls := "DyeRingLaw", name := "strength", desc := "(LDyeRing;I[J)I" } : Jvm.MethodName) method_9_code (4 : Nat) (Option.some Jvm.ClassFile.FieldType.int) [((0 : Nat), (9 : Nat), (12 : Nat), (21 : Nat))]) ∈ WA := wa_of 435 (by decide +kernel) (by decide +kernel)
theorem wm_436 : (Jvm.Cond.methodLink "DyeRingLaw" (36 : Nat) ({ cls := "DyeRing", name := "strength", desc := "(I)I" } : Jvm.MethodName)) ∈ WA := wa_of 436 (by decide +kernel) (by decide +kernel)
theorem wm_437 : (Jvm.Cond.instanceMethod ({ cls := "DyeRing", name := "strength", desc := "(I)I" } : Jvm.MethodName)) ∈ WA := wa_of 437 (by decide +kernel) (by decide +kernel)
theorem wm_438 : (Jvm.Cond.selects "DyeRing" ({ cls := "DyeRing", name := "strength", desc := "(I)I" } : Jvm.MethodName) ({ cls := "DyeRing", name := "strength", desc := "(I)I" } : Jvm.MethodName)) ∈ WA := wa_of 438 (by decide +kernel) (by decide +kernel)
theorem wm_439 : (Jvm.Cond.code ({ cls := "DyeRing", name := "strength", desc := "(I)I" } : Jvm.MethodName) prog_1_method_8_code (2 : Nat) (Option.some Jvm.ClassFile.FieldType.int)) ∈ WA := wa_of 439 (by decide +kernel) (by decide +kernel)
theorem wm_440 : (Jvm.Cond.methodLink "DyeRingLaw" (115 : Nat) ({ cls := "DyeRingLaw", name := "order", desc := "(LDyeRing;III[J)I" } : Jvm.MethodName)) ∈ WA := wa_of 440 (by decide +kernel) (by decide +kernel)
theorem wm_441 : (Jvm.Cond.static ({ cls := "DyeRingLaw", name := "order", desc := "(LDyeRing;III[J)I" } : Jvm.MethodName)) ∈ WA := wa_of 441 (by decide +kernel) (by decide +kernel)
theorem wm_442 : (Jvm.Cond.codeWith ({ cls := "DyeRingLaw", name := "order", desc := "(LDyeRing;III[J)I" } : Jvm.MethodName) method_10_code (6 : Nat) (Option.some Jvm.ClassFile.FieldType.int) [((0 : Nat), (12 : Nat), (15 : Nat), (21 : Nat)), ((0 : Nat), (12 : Nat), (19 : Nat), (13 : Nat)), ((0 : Nat), (12 : Nat), (23 : Nat), (15 : Nat))]) ∈ WA := wa_of 442 (by decide +kernel) (by decide +kernel)
theorem wm_443 : (Jvm.Cond.methodLink "DyeRingLaw" (39 : Nat) ({ cls := "DyeRing", name := "order", desc := "(III)I" } : Jvm.MethodName)) ∈ WA := wa_of 443 (by decide +kernel) (by decide +kernel)
theorem wm_444 : (Jvm.Cond.instanceMethod ({ cls := "DyeRing", name := "order", desc := "(III)I" } : Jvm.MethodName)) ∈ WA := wa_of 444 (by decide +kernel) (by decide +kernel)
theorem wm_445 : (Jvm.Cond.selects "DyeRing" ({ cls := "DyeRing", name := "order", desc := "(III)I" } : Jvm.MethodName) ({ cls := "DyeRing", name := "order", desc := "(III)I" } : Jvm.MethodName)) ∈ WA := wa_of 445 (by decide +kernel) (by decide +kernel)
theorem wm_446 : (Jvm.Cond.code ({ cls := "DyeRing", name := "order", desc := "(III)I" } : Jvm.MethodName) prog_1_method_9_code (6 : Nat) (Option.some Jvm.ClassFile.FieldType.int)) ∈ WA := wa_of 446 (by decide +kernel) (by decide +kernel)
theorem wm_447 : (Jvm.Cond.classLink "DyeRing" (98 : Nat) "DyeRing$Order") ∈ WA := wa_of 447 (by decide +kernel) (by decide +kernel)
theorem wm_448 : (Jvm.Cond.instantiable "DyeRing$Order" (6 : Nat)) ∈ WA := wa_of 448 (by decide +kernel) (by decide +kernel)
theorem wm_449 : (Jvm.Cond.methodLink "DyeRing" (100 : Nat) ({ cls := "DyeRing$Order", name := "<init>", desc := "(ILDyeRing$Entry;II)V" } : Jvm.MethodName)) ∈ WA := wa_of 449 (by decide +kernel) (by decide +kernel)
theorem wm_450 : (Jvm.Cond.instanceMethod ({ cls := "DyeRing$Order", name := "<init>", desc := "(ILDyeRing$Entry;II)V" } : Jvm.MethodName)) ∈ WA := wa_of 450 (by decide +kernel) (by decide +kernel)
theorem wm_451 : (Jvm.Cond.code ({ cls := "DyeRing$Order", name := "<init>", desc := "(ILDyeRing$Entry;II)V" } : Jvm.MethodName) prog_5_method_1_code (5 : Nat) (Option.none : Option Jvm.ClassFile.FieldType)) ∈ WA := wa_of 451 (by decide +kernel) (by decide +kernel)
theorem wm_452 : (Jvm.Cond.methodLink "DyeRing$Order" (1 : Nat) ({ cls := "java/lang/Object", name := "<init>", desc := "()V" } : Jvm.MethodName)) ∈ WA := wa_of 452 (by decide +kernel) (by decide +kernel)
theorem wm_453 : (Jvm.Cond.fieldLink "DyeRing$Order" (7 : Nat) "DyeRing$Order" "number" "I") ∈ WA := wa_of 453 (by decide +kernel) (by decide +kernel)
theorem wm_454 : (Jvm.Cond.fieldLink "DyeRing$Piece" (9 : Nat) "DyeRing$Order" "number" "I") ∈ WA := wa_of 454 (by decide +kernel) (by decide +kernel)
theorem wm_455 : (Jvm.Cond.fieldLink "DyeRing$Order" (13 : Nat) "DyeRing$Order" "entry" "LDyeRing$Entry;") ∈ WA := wa_of 455 (by decide +kernel) (by decide +kernel)
theorem wm_456 : (Jvm.Cond.fieldLink "DyeRing$Piece" (20 : Nat) "DyeRing$Order" "entry" "LDyeRing$Entry;") ∈ WA := wa_of 456 (by decide +kernel) (by decide +kernel)
theorem wm_457 : (Jvm.Cond.fieldLink "DyeRing" (126 : Nat) "DyeRing$Order" "entry" "LDyeRing$Entry;") ∈ WA := wa_of 457 (by decide +kernel) (by decide +kernel)
theorem wm_458 : (Jvm.Cond.fieldLink "DyeRing$Order" (17 : Nat) "DyeRing$Order" "weight" "I") ∈ WA := wa_of 458 (by decide +kernel) (by decide +kernel)
theorem wm_459 : (Jvm.Cond.fieldLink "DyeRing$Piece" (25 : Nat) "DyeRing$Order" "weight" "I") ∈ WA := wa_of 459 (by decide +kernel) (by decide +kernel)
theorem wm_460 : (Jvm.Cond.fieldLink "DyeRing$Order" (20 : Nat) "DyeRing$Order" "yarn" "I") ∈ WA := wa_of 460 (by decide +kernel) (by decide +kernel)
theorem wm_461 : (Jvm.Cond.fieldLink "DyeRing" (227 : Nat) "DyeRing$Order" "yarn" "I") ∈ WA := wa_of 461 (by decide +kernel) (by decide +kernel)
theorem wm_462 : (Jvm.Cond.fieldLink "DyeRing" (171 : Nat) "DyeRing$Order" "piece" "LDyeRing$Piece;") ∈ WA := wa_of 462 (by decide +kernel) (by decide +kernel)
theorem wm_463 : (Jvm.Cond.fieldLink "DyeRing" (148 : Nat) "DyeRing$Order" "claimed" "Z") ∈ WA := wa_of 463 (by decide +kernel) (by decide +kernel)
theorem wm_464 : (Jvm.Cond.laysFinal "DyeRing$Order" "DyeRing$Order" "number" "I") ∈ WA := wa_of 464 (by decide +kernel) (by decide +kernel)
theorem wm_466 : (Jvm.Cond.laysFinal "DyeRing$Order" "DyeRing$Order" "entry" "LDyeRing$Entry;") ∈ WA := wa_of 466 (by decide +kernel) (by decide +kernel)
theorem wm_468 : (Jvm.Cond.laysFinal "DyeRing$Order" "DyeRing$Order" "weight" "I") ∈ WA := wa_of 468 (by decide +kernel) (by decide +kernel)
theorem wm_470 : (Jvm.Cond.laysFinal "DyeRing$Order" "DyeRing$Order" "yarn" "I") ∈ WA := wa_of 470 (by decide +kernel) (by decide +kernel)
theorem wm_472 : (Jvm.Cond.lays "DyeRing$Order" "DyeRing$Order" "piece" "LDyeRing$Piece;") ∈ WA := wa_of 472 (by decide +kernel) (by decide +kernel)
theorem wm_474 : (Jvm.Cond.lays "DyeRing$Order" "DyeRing$Order" "claimed" "Z") ∈ WA := wa_of 474 (by decide +kernel) (by decide +kernel)
theorem wm_476 : (Jvm.Cond.superclass "DyeRing$Order" "java/lang/Object") ∈ WA := wa_of 476 (by decide +kernel) (by decide +kernel)
theorem wm_477 : (Jvm.Cond.methodLink "DyeRingLaw" (118 : Nat) ({ cls := "DyeRingLaw", name := "place", desc := "(LDyeRing;I[J)I" } : Jvm.MethodName)) ∈ WA := wa_of 477 (by decide +kernel) (by decide +kernel)
theorem wm_478 : (Jvm.Cond.static ({ cls := "DyeRingLaw", name := "place", desc := "(LDyeRing;I[J)I" } : Jvm.MethodName)) ∈ WA := wa_of 478 (by decide +kernel) (by decide +kernel)
theorem wm_479 : (Jvm.Cond.codeWith ({ cls := "DyeRingLaw", name := "place", desc := "(LDyeRing;I[J)I" } : Jvm.MethodName) method_11_code (4 : Nat) (Option.some Jvm.ClassFile.FieldType.int) [((0 : Nat), (9 : Nat), (12 : Nat), (21 : Nat)), ((0 : Nat), (9 : Nat), (15 : Nat), (15 : Nat)), ((0 : Nat), (9 : Nat), (18 : Nat), (45 : Nat))]) ∈ WA := wa_of 479 (by decide +kernel) (by decide +kernel)
theorem wm_480 : (Jvm.Cond.classLink "DyeRingLaw" (45 : Nat) "java/util/NoSuchElementException") ∈ WA := wa_of 480 (by decide +kernel) (by decide +kernel)
theorem wm_481 : (Jvm.Cond.methodLink "DyeRingLaw" (42 : Nat) ({ cls := "DyeRing", name := "place", desc := "(I)I" } : Jvm.MethodName)) ∈ WA := wa_of 481 (by decide +kernel) (by decide +kernel)
theorem wm_482 : (Jvm.Cond.instanceMethod ({ cls := "DyeRing", name := "place", desc := "(I)I" } : Jvm.MethodName)) ∈ WA := wa_of 482 (by decide +kernel) (by decide +kernel)
theorem wm_483 : (Jvm.Cond.selects "DyeRing" ({ cls := "DyeRing", name := "place", desc := "(I)I" } : Jvm.MethodName) ({ cls := "DyeRing", name := "place", desc := "(I)I" } : Jvm.MethodName)) ∈ WA := wa_of 483 (by decide +kernel) (by decide +kernel)
theorem wm_484 : (Jvm.Cond.code ({ cls := "DyeRing", name := "place", desc := "(I)I" } : Jvm.MethodName) prog_1_method_10_code (4 : Nat) (Option.some Jvm.ClassFile.FieldType.int)) ∈ WA := wa_of 484 (by decide +kernel) (by decide +kernel)
theorem wm_485 : (Jvm.Cond.methodLink "DyeRing" (103 : Nat) ({ cls := "DyeRing", name := "findOrder", desc := "(I)LDyeRing$Order;" } : Jvm.MethodName)) ∈ WA := wa_of 485 (by decide +kernel) (by decide +kernel)
theorem wm_487 : (Jvm.Cond.instanceMethod ({ cls := "DyeRing", name := "findOrder", desc := "(I)LDyeRing$Order;" } : Jvm.MethodName)) ∈ WA := wa_of 487 (by decide +kernel) (by decide +kernel)
theorem wm_488 : (Jvm.Cond.code ({ cls := "DyeRing", name := "findOrder", desc := "(I)LDyeRing$Order;" } : Jvm.MethodName) prog_1_method_29_code (2 : Nat) (Option.some (Jvm.ClassFile.FieldType.object "DyeRing$Order"))) ∈ WA := wa_of 488 (by decide +kernel) (by decide +kernel)
theorem wm_489 : (Jvm.Cond.methodLink "DyeRing" (107 : Nat) ({ cls := "DyeRing", name := "requireWaiting", desc := "(LDyeRing$Order;)V" } : Jvm.MethodName)) ∈ WA := wa_of 489 (by decide +kernel) (by decide +kernel)
theorem wm_490 : (Jvm.Cond.static ({ cls := "DyeRing", name := "requireWaiting", desc := "(LDyeRing$Order;)V" } : Jvm.MethodName)) ∈ WA := wa_of 490 (by decide +kernel) (by decide +kernel)
theorem wm_491 : (Jvm.Cond.code ({ cls := "DyeRing", name := "requireWaiting", desc := "(LDyeRing$Order;)V" } : Jvm.MethodName) prog_1_method_25_code (1 : Nat) (Option.none : Option Jvm.ClassFile.FieldType)) ∈ WA := wa_of 491 (by decide +kernel) (by decide +kernel)
theorem wm_493 : (Jvm.Cond.methodLink "DyeRing" (111 : Nat) ({ cls := "DyeRing", name := "weakestRightBath", desc := "(LDyeRing$Order;)I" } : Jvm.MethodName)) ∈ WA := wa_of 493 (by decide +kernel) (by decide +kernel)
theorem wm_495 : (Jvm.Cond.instanceMethod ({ cls := "DyeRing", name := "weakestRightBath", desc := "(LDyeRing$Order;)I" } : Jvm.MethodName)) ∈ WA := wa_of 495 (by decide +kernel) (by decide +kernel)
theorem wm_496 : (Jvm.Cond.code ({ cls := "DyeRing", name := "weakestRightBath", desc := "(LDyeRing$Order;)I" } : Jvm.MethodName) prog_1_method_30_code (6 : Nat) (Option.some Jvm.ClassFile.FieldType.int)) ∈ WA := wa_of 496 (by decide +kernel) (by decide +kernel)
theorem wm_497 : (Jvm.Cond.methodLink "DyeRing" (222 : Nat) ({ cls := "DyeRing", name := "isRight", desc := "(LDyeRing$Bath;LDyeRing$Order;)Z" } : Jvm.MethodName)) ∈ WA := wa_of 497 (by decide +kernel) (by decide +kernel)
theorem wm_499 : (Jvm.Cond.instanceMethod ({ cls := "DyeRing", name := "isRight", desc := "(LDyeRing$Bath;LDyeRing$Order;)Z" } : Jvm.MethodName)) ∈ WA := wa_of 499 (by decide +kernel) (by decide +kernel)
theorem wm_500 : (Jvm.Cond.code ({ cls := "DyeRing", name := "isRight", desc := "(LDyeRing$Bath;LDyeRing$Order;)Z" } : Jvm.MethodName) prog_1_method_31_code (4 : Nat) (Option.some Jvm.ClassFile.FieldType.boolean)) ∈ WA := wa_of 500 (by decide +kernel) (by decide +kernel)
theorem wm_501 : (Jvm.Cond.methodLink "DyeRing" (130 : Nat) ({ cls := "DyeRing$Bath", name := "isFor", desc := "(LDyeRing$Entry;)Z" } : Jvm.MethodName)) ∈ WA := wa_of 501 (by decide +kernel) (by decide +kernel)
theorem wm_502 : (Jvm.Cond.instanceMethod ({ cls := "DyeRing$Bath", name := "isFor", desc := "(LDyeRing$Entry;)Z" } : Jvm.MethodName)) ∈ WA := wa_of 502 (by decide +kernel) (by decide +kernel)
theorem wm_503 : (Jvm.Cond.selects "DyeRing$Bath" ({ cls := "DyeRing$Bath", name := "isFor", desc := "(LDyeRing$Entry;)Z" } : Jvm.MethodName) ({ cls := "DyeRing$Bath", name := "isFor", desc := "(LDyeRing$Entry;)Z" } : Jvm.MethodName)) ∈ WA := wa_of 503 (by decide +kernel) (by decide +kernel)
theorem wm_504 : (Jvm.Cond.code ({ cls := "DyeRing$Bath", name := "isFor", desc := "(LDyeRing$Entry;)Z" } : Jvm.MethodName) prog_2_method_2_code (2 : Nat) (Option.some Jvm.ClassFile.FieldType.boolean)) ∈ WA := wa_of 504 (by decide +kernel) (by decide +kernel)
theorem wm_505 : (Jvm.Cond.methodLink "DyeRing" (230 : Nat) ({ cls := "DyeRing$Entry", name := "distanceOfDyed", desc := "(IIII)I" } : Jvm.MethodName)) ∈ WA := wa_of 505 (by decide +kernel) (by decide +kernel)
theorem wm_506 : (Jvm.Cond.instanceMethod ({ cls := "DyeRing$Entry", name := "distanceOfDyed", desc := "(IIII)I" } : Jvm.MethodName)) ∈ WA := wa_of 506 (by decide +kernel) (by decide +kernel)
theorem wm_507 : (Jvm.Cond.selects "DyeRing$Entry" ({ cls := "DyeRing$Entry", name := "distanceOfDyed", desc := "(IIII)I" } : Jvm.MethodName) ({ cls := "DyeRing$Entry", name := "distanceOfDyed", desc := "(IIII)I" } : Jvm.MethodName)) ∈ WA := wa_of 507 (by decide +kernel) (by decide +kernel)
theorem wm_508 : (Jvm.Cond.code ({ cls := "DyeRing$Entry", name := "distanceOfDyed", desc := "(IIII)I" } : Jvm.MethodName) prog_4_method_5_code (5 : Nat) (Option.some Jvm.ClassFile.FieldType.int)) ∈ WA := wa_of 508 (by decide +kernel) (by decide +kernel)
theorem wm_509 : (Jvm.Cond.methodLink "DyeRing$Entry" (30 : Nat) ({ cls := "DyeRing$Entry", name := "dyedFirst", desc := "(III)I" } : Jvm.MethodName)) ∈ WA := wa_of 509 (by decide +kernel) (by decide +kernel)
theorem wm_510 : (Jvm.Cond.instanceMethod ({ cls := "DyeRing$Entry", name := "dyedFirst", desc := "(III)I" } : Jvm.MethodName)) ∈ WA := wa_of 510 (by decide +kernel) (by decide +kernel)
theorem wm_511 : (Jvm.Cond.selects "DyeRing$Entry" ({ cls := "DyeRing$Entry", name := "dyedFirst", desc := "(III)I" } : Jvm.MethodName) ({ cls := "DyeRing$Entry", name := "dyedFirst", desc := "(III)I" } : Jvm.MethodName)) ∈ WA := wa_of 511 (by decide +kernel) (by decide +kernel)
theorem wm_512 : (Jvm.Cond.code ({ cls := "DyeRing$Entry", name := "dyedFirst", desc := "(III)I" } : Jvm.MethodName) prog_4_method_3_code (4 : Nat) (Option.some Jvm.ClassFile.FieldType.int)) ∈ WA := wa_of 512 (by decide +kernel) (by decide +kernel)
theorem wm_513 : (Jvm.Cond.methodLink "DyeRing$Entry" (34 : Nat) ({ cls := "DyeRing$Entry", name := "dyedSecond", desc := "(II)I" } : Jvm.MethodName)) ∈ WA := wa_of 513 (by decide +kernel) (by decide +kernel)
theorem wm_514 : (Jvm.Cond.instanceMethod ({ cls := "DyeRing$Entry", name := "dyedSecond", desc := "(II)I" } : Jvm.MethodName)) ∈ WA := wa_of 514 (by decide +kernel) (by decide +kernel)
theorem wm_515 : (Jvm.Cond.selects "DyeRing$Entry" ({ cls := "DyeRing$Entry", name := "dyedSecond", desc := "(II)I" } : Jvm.MethodName) ({ cls := "DyeRing$Entry", name := "dyedSecond", desc := "(II)I" } : Jvm.MethodName)) ∈ WA := wa_of 515 (by decide +kernel) (by decide +kernel)
theorem wm_516 : (Jvm.Cond.code ({ cls := "DyeRing$Entry", name := "dyedSecond", desc := "(II)I" } : Jvm.MethodName) prog_4_method_4_code (3 : Nat) (Option.some Jvm.ClassFile.FieldType.int)) ∈ WA := wa_of 516 (by decide +kernel) (by decide +kernel)
theorem wm_517 : (Jvm.Cond.methodLink "DyeRing$Entry" (38 : Nat) ({ cls := "DyeRing$Entry", name := "distanceTo", desc := "(II)I" } : Jvm.MethodName)) ∈ WA := wa_of 517 (by decide +kernel) (by decide +kernel)
theorem wm_518 : (Jvm.Cond.classLink "DyeRing" (115 : Nat) "java/util/NoSuchElementException") ∈ WA := wa_of 518 (by decide +kernel) (by decide +kernel)
theorem wm_519 : (Jvm.Cond.instantiable "java/util/NoSuchElementException" (6 : Nat)) ∈ WA := wa_of 519 (by decide +kernel) (by decide +kernel)
theorem wm_521 : (Jvm.Cond.selects "java/util/NoSuchElementException" ({ cls := "java/lang/Throwable", name := "fillInStackTrace", desc := "(I)Ljava/lang/Throwable;" } : Jvm.MethodName) ({ cls := "java/lang/Throwable", name := "fillInStackTrace", desc := "(I)Ljava/lang/Throwable;" } : Jvm.MethodName)) ∈ WA := wa_of 521 (by decide +kernel) (by decide +kernel)
theorem wm_522 : (Jvm.Cond.lays "java/util/NoSuchElementException" "java/lang/Throwable" "cause" "Ljava/lang/Throwable;") ∈ WA := wa_of 522 (by decide +kernel) (by decide +kernel)
theorem wm_523 : (Jvm.Cond.lays "java/util/NoSuchElementException" "java/lang/Throwable" "stackTrace" "[Ljava/lang/StackTraceElement;") ∈ WA := wa_of 523 (by decide +kernel) (by decide +kernel)
theorem wm_524 : (Jvm.Cond.lays "java/util/NoSuchElementException" "java/lang/Throwable" "suppressedExceptions" "Ljava/util/List;") ∈ WA := wa_of 524 (by decide +kernel) (by decide +kernel)
theorem wm_525 : (Jvm.Cond.lays "java/util/NoSuchElementException" "java/lang/Throwable" "detailMessage" "Ljava/lang/String;") ∈ WA := wa_of 525 (by decide +kernel) (by decide +kernel)
theorem wm_526 : (Jvm.Cond.lays "java/util/NoSuchElementException" "java/lang/Throwable" "backtrace" "Ljava/lang/Object;") ∈ WA := wa_of 526 (by decide +kernel) (by decide +kernel)
theorem wm_528 : (Jvm.Cond.methodLink "DyeRing" (119 : Nat) ({ cls := "java/util/NoSuchElementException", name := "<init>", desc := "(Ljava/lang/String;)V" } : Jvm.MethodName)) ∈ WA := wa_of 528 (by decide +kernel) (by decide +kernel)
theorem wm_529 : (Jvm.Cond.instanceMethod ({ cls := "java/util/NoSuchElementException", name := "<init>", desc := "(Ljava/lang/String;)V" } : Jvm.MethodName)) ∈ WA := wa_of 529 (by decide +kernel) (by decide +kernel)
theorem wm_530 : (Jvm.Cond.code ({ cls := "java/util/NoSuchElementException", name := "<init>", desc := "(Ljava/lang/String;)V" } : Jvm.MethodName) prog_27_method_4_code (2 : Nat) (Option.none : Option Jvm.ClassFile.FieldType)) ∈ WA := wa_of 530 (by decide +kernel) (by decide +kernel)
theorem wm_531 : (Jvm.Cond.methodLink "java/util/NoSuchElementException" (13 : Nat) ({ cls := "java/lang/RuntimeException", name := "<init>", desc := "(Ljava/lang/String;)V" } : Jvm.MethodName)) ∈ WA := wa_of 531 (by decide +kernel) (by decide +kernel)
theorem wm_532 : (Jvm.Cond.lays "java/util/NoSuchElementException" "java/lang/Throwable" "depth" "I") ∈ WA := wa_of 532 (by decide +kernel) (by decide +kernel)
theorem wm_533 : (Jvm.Cond.superclass "java/util/NoSuchElementException" "java/lang/RuntimeException") ∈ WA := wa_of 533 (by decide +kernel) (by decide +kernel)
theorem wm_534 : (Jvm.Cond.methodLink "DyeRing" (122 : Nat) ({ cls := "DyeRing", name := "dyeIn", desc := "(LDyeRing$Order;LDyeRing$Bath;)LDyeRing$Piece;" } : Jvm.MethodName)) ∈ WA := wa_of 534 (by decide +kernel) (by decide +kernel)
theorem wm_536 : (Jvm.Cond.instanceMethod ({ cls := "DyeRing", name := "dyeIn", desc := "(LDyeRing$Order;LDyeRing$Bath;)LDyeRing$Piece;" } : Jvm.MethodName)) ∈ WA := wa_of 536 (by decide +kernel) (by decide +kernel)
theorem wm_537 : (Jvm.Cond.code ({ cls := "DyeRing", name := "dyeIn", desc := "(LDyeRing$Order;LDyeRing$Bath;)LDyeRing$Piece;" } : Jvm.MethodName) prog_1_method_32_code (4 : Nat) (Option.some (Jvm.ClassFile.FieldType.object "DyeRing$Piece"))) ∈ WA := wa_of 537 (by decide +kernel) (by decide +kernel)
theorem wm_538 : (Jvm.Cond.classLink "DyeRing" (140 : Nat) "DyeRing$Piece") ∈ WA := wa_of 538 (by decide +kernel) (by decide +kernel)
theorem wm_539 : (Jvm.Cond.instantiable "DyeRing$Piece" (9 : Nat)) ∈ WA := wa_of 539 (by decide +kernel) (by decide +kernel)
theorem wm_540 : (Jvm.Cond.methodLink "DyeRing" (237 : Nat) ({ cls := "DyeRing$Piece", name := "<init>", desc := "(LDyeRing$Order;LDyeRing$Bath;III)V" } : Jvm.MethodName)) ∈ WA := wa_of 540 (by decide +kernel) (by decide +kernel)
theorem wm_541 : (Jvm.Cond.instanceMethod ({ cls := "DyeRing$Piece", name := "<init>", desc := "(LDyeRing$Order;LDyeRing$Bath;III)V" } : Jvm.MethodName)) ∈ WA := wa_of 541 (by decide +kernel) (by decide +kernel)
theorem wm_542 : (Jvm.Cond.code ({ cls := "DyeRing$Piece", name := "<init>", desc := "(LDyeRing$Order;LDyeRing$Bath;III)V" } : Jvm.MethodName) prog_6_method_1_code (6 : Nat) (Option.none : Option Jvm.ClassFile.FieldType)) ∈ WA := wa_of 542 (by decide +kernel) (by decide +kernel)
theorem wm_543 : (Jvm.Cond.methodLink "DyeRing$Piece" (3 : Nat) ({ cls := "java/lang/Object", name := "<init>", desc := "()V" } : Jvm.MethodName)) ∈ WA := wa_of 543 (by decide +kernel) (by decide +kernel)
theorem wm_544 : (Jvm.Cond.fieldLink "DyeRing$Piece" (15 : Nat) "DyeRing$Piece" "orderNumber" "I") ∈ WA := wa_of 544 (by decide +kernel) (by decide +kernel)
theorem wm_545 : (Jvm.Cond.fieldLink "DyeRing$Bath" (62 : Nat) "DyeRing$Piece" "orderNumber" "I") ∈ WA := wa_of 545 (by decide +kernel) (by decide +kernel)
theorem wm_546 : (Jvm.Cond.fieldLink "DyeRing$Piece" (24 : Nat) "DyeRing$Piece" "entry" "LDyeRing$Entry;") ∈ WA := wa_of 546 (by decide +kernel) (by decide +kernel)
theorem wm_547 : (Jvm.Cond.fieldLink "DyeRing$Piece" (28 : Nat) "DyeRing$Piece" "weight" "I") ∈ WA := wa_of 547 (by decide +kernel) (by decide +kernel)
theorem wm_548 : (Jvm.Cond.fieldLink "DyeRing$Bath" (42 : Nat) "DyeRing$Piece" "weight" "I") ∈ WA := wa_of 548 (by decide +kernel) (by decide +kernel)
theorem wm_549 : (Jvm.Cond.fieldLink "DyeRing$Piece" (29 : Nat) "DyeRing$Piece" "bath" "LDyeRing$Bath;") ∈ WA := wa_of 549 (by decide +kernel) (by decide +kernel)
theorem wm_550 : (Jvm.Cond.fieldLink "DyeRing" (164 : Nat) "DyeRing$Piece" "bath" "LDyeRing$Bath;") ∈ WA := wa_of 550 (by decide +kernel) (by decide +kernel)
theorem wm_551 : (Jvm.Cond.fieldLink "DyeRing$Piece" (39 : Nat) "DyeRing$Piece" "afterRenewal" "Z") ∈ WA := wa_of 551 (by decide +kernel) (by decide +kernel)
theorem wm_552 : (Jvm.Cond.fieldLink "DyeRing$Bath" (59 : Nat) "DyeRing$Piece" "afterRenewal" "Z") ∈ WA := wa_of 552 (by decide +kernel) (by decide +kernel)
theorem wm_553 : (Jvm.Cond.fieldLink "DyeRing$Piece" (45 : Nat) "DyeRing$Piece" "strengthThen" "I") ∈ WA := wa_of 553 (by decide +kernel) (by decide +kernel)
theorem wm_554 : (Jvm.Cond.fieldLink "DyeRing" (175 : Nat) "DyeRing$Piece" "strengthThen" "I") ∈ WA := wa_of 554 (by decide +kernel) (by decide +kernel)
theorem wm_555 : (Jvm.Cond.fieldLink "DyeRing$Piece" (48 : Nat) "DyeRing$Piece" "waterThen" "I") ∈ WA := wa_of 555 (by decide +kernel) (by decide +kernel)
theorem wm_556 : (Jvm.Cond.fieldLink "DyeRing$Piece" (51 : Nat) "DyeRing$Piece" "yarnFirstThen" "I") ∈ WA := wa_of 556 (by decide +kernel) (by decide +kernel)
theorem wm_557 : (Jvm.Cond.fieldLink "DyeRing$Piece" (54 : Nat) "DyeRing$Piece" "yarnSecondThen" "I") ∈ WA := wa_of 557 (by decide +kernel) (by decide +kernel)
theorem wm_558 : (Jvm.Cond.laysFinal "DyeRing$Piece" "DyeRing$Piece" "orderNumber" "I") ∈ WA := wa_of 558 (by decide +kernel) (by decide +kernel)
theorem wm_560 : (Jvm.Cond.laysFinal "DyeRing$Piece" "DyeRing$Piece" "entry" "LDyeRing$Entry;") ∈ WA := wa_of 560 (by decide +kernel) (by decide +kernel)
theorem wm_562 : (Jvm.Cond.laysFinal "DyeRing$Piece" "DyeRing$Piece" "weight" "I") ∈ WA := wa_of 562 (by decide +kernel) (by decide +kernel)
theorem wm_564 : (Jvm.Cond.laysFinal "DyeRing$Piece" "DyeRing$Piece" "bath" "LDyeRing$Bath;") ∈ WA := wa_of 564 (by decide +kernel) (by decide +kernel)
theorem wm_566 : (Jvm.Cond.laysFinal "DyeRing$Piece" "DyeRing$Piece" "afterRenewal" "Z") ∈ WA := wa_of 566 (by decide +kernel) (by decide +kernel)
theorem wm_568 : (Jvm.Cond.laysFinal "DyeRing$Piece" "DyeRing$Piece" "strengthThen" "I") ∈ WA := wa_of 568 (by decide +kernel) (by decide +kernel)
theorem wm_570 : (Jvm.Cond.laysFinal "DyeRing$Piece" "DyeRing$Piece" "waterThen" "I") ∈ WA := wa_of 570 (by decide +kernel) (by decide +kernel)
theorem wm_572 : (Jvm.Cond.laysFinal "DyeRing$Piece" "DyeRing$Piece" "yarnFirstThen" "I") ∈ WA := wa_of 572 (by decide +kernel) (by decide +kernel)
theorem wm_574 : (Jvm.Cond.laysFinal "DyeRing$Piece" "DyeRing$Piece" "yarnSecondThen" "I") ∈ WA := wa_of 574 (by decide +kernel) (by decide +kernel)
theorem wm_576 : (Jvm.Cond.superclass "DyeRing$Piece" "java/lang/Object") ∈ WA := wa_of 576 (by decide +kernel) (by decide +kernel)
theorem wm_577 : (Jvm.Cond.methodLink "DyeRing" (240 : Nat) ({ cls := "DyeRing$Bath", name := "take", desc := "(LDyeRing$Piece;)V" } : Jvm.MethodName)) ∈ WA := wa_of 577 (by decide +kernel) (by decide +kernel)
theorem wm_578 : (Jvm.Cond.instanceMethod ({ cls := "DyeRing$Bath", name := "take", desc := "(LDyeRing$Piece;)V" } : Jvm.MethodName)) ∈ WA := wa_of 578 (by decide +kernel) (by decide +kernel)
theorem wm_579 : (Jvm.Cond.selects "DyeRing$Bath" ({ cls := "DyeRing$Bath", name := "take", desc := "(LDyeRing$Piece;)V" } : Jvm.MethodName) ({ cls := "DyeRing$Bath", name := "take", desc := "(LDyeRing$Piece;)V" } : Jvm.MethodName)) ∈ WA := wa_of 579 (by decide +kernel) (by decide +kernel)
theorem wm_580 : (Jvm.Cond.code ({ cls := "DyeRing$Bath", name := "take", desc := "(LDyeRing$Piece;)V" } : Jvm.MethodName) prog_2_method_4_code (2 : Nat) (Option.none : Option Jvm.ClassFile.FieldType)) ∈ WA := wa_of 580 (by decide +kernel) (by decide +kernel)
theorem wm_581 : (Jvm.Cond.methodLink "DyeRing$Bath" (38 : Nat) ({ cls := "java/util/ArrayList", name := "add", desc := "(Ljava/lang/Object;)Z" } : Jvm.MethodName)) ∈ WA := wa_of 581 (by decide +kernel) (by decide +kernel)
theorem wm_583 : (Jvm.Cond.static ({ cls := "DyeRing", name := "weakened", desc := "(II)I" } : Jvm.MethodName)) ∈ WA := wa_of 583 (by decide +kernel) (by decide +kernel)
theorem wm_584 : (Jvm.Cond.code ({ cls := "DyeRing", name := "weakened", desc := "(II)I" } : Jvm.MethodName) prog_1_method_33_code (2 : Nat) (Option.some Jvm.ClassFile.FieldType.int)) ∈ WA := wa_of 584 (by decide +kernel) (by decide +kernel)
theorem wm_585 : (Jvm.Cond.methodLink "DyeRing" (244 : Nat) ({ cls := "java/lang/Math", name := "max", desc := "(II)I" } : Jvm.MethodName)) ∈ WA := wa_of 585 (by decide +kernel) (by decide +kernel)
theorem wm_586 : (Jvm.Cond.methodLink "DyeRingLaw" (121 : Nat) ({ cls := "DyeRingLaw", name := "dye", desc := "(LDyeRing;II[J)I" } : Jvm.MethodName)) ∈ WA := wa_of 586 (by decide +kernel) (by decide +kernel)
theorem wm_587 : (Jvm.Cond.static ({ cls := "DyeRingLaw", name := "dye", desc := "(LDyeRing;II[J)I" } : Jvm.MethodName)) ∈ WA := wa_of 587 (by decide +kernel) (by decide +kernel)
theorem wm_588 : (Jvm.Cond.codeWith ({ cls := "DyeRingLaw", name := "dye", desc := "(LDyeRing;II[J)I" } : Jvm.MethodName) method_12_code (5 : Nat) (Option.some Jvm.ClassFile.FieldType.int) [((0 : Nat), (10 : Nat), (13 : Nat), (21 : Nat)), ((0 : Nat), (10 : Nat), (17 : Nat), (13 : Nat)), ((0 : Nat), (10 : Nat), (21 : Nat), (15 : Nat))]) ∈ WA := wa_of 588 (by decide +kernel) (by decide +kernel)
theorem wm_589 : (Jvm.Cond.methodLink "DyeRingLaw" (47 : Nat) ({ cls := "DyeRing", name := "dye", desc := "(II)I" } : Jvm.MethodName)) ∈ WA := wa_of 589 (by decide +kernel) (by decide +kernel)
theorem wm_590 : (Jvm.Cond.instanceMethod ({ cls := "DyeRing", name := "dye", desc := "(II)I" } : Jvm.MethodName)) ∈ WA := wa_of 590 (by decide +kernel) (by decide +kernel)
theorem wm_591 : (Jvm.Cond.selects "DyeRing" ({ cls := "DyeRing", name := "dye", desc := "(II)I" } : Jvm.MethodName) ({ cls := "DyeRing", name := "dye", desc := "(II)I" } : Jvm.MethodName)) ∈ WA := wa_of 591 (by decide +kernel) (by decide +kernel)
theorem wm_592 : (Jvm.Cond.code ({ cls := "DyeRing", name := "dye", desc := "(II)I" } : Jvm.MethodName) prog_1_method_11_code (5 : Nat) (Option.some Jvm.ClassFile.FieldType.int)) ∈ WA := wa_of 592 (by decide +kernel) (by decide +kernel)
theorem wm_594 : (Jvm.Cond.methodLink "DyeRing" (139 : Nat) ({ cls := "DyeRing$Piece", name := "distance", desc := "()I" } : Jvm.MethodName)) ∈ WA := wa_of 594 (by decide +kernel) (by decide +kernel)
theorem wm_595 : (Jvm.Cond.instanceMethod ({ cls := "DyeRing$Piece", name := "distance", desc := "()I" } : Jvm.MethodName)) ∈ WA := wa_of 595 (by decide +kernel) (by decide +kernel)
theorem wm_596 : (Jvm.Cond.selects "DyeRing$Piece" ({ cls := "DyeRing$Piece", name := "distance", desc := "()I" } : Jvm.MethodName) ({ cls := "DyeRing$Piece", name := "distance", desc := "()I" } : Jvm.MethodName)) ∈ WA := wa_of 596 (by decide +kernel) (by decide +kernel)
theorem wm_597 : (Jvm.Cond.code ({ cls := "DyeRing$Piece", name := "distance", desc := "()I" } : Jvm.MethodName) prog_6_method_3_code (1 : Nat) (Option.some Jvm.ClassFile.FieldType.int)) ∈ WA := wa_of 597 (by decide +kernel) (by decide +kernel)
theorem wm_598 : (Jvm.Cond.methodLink "DyeRing$Piece" (67 : Nat) ({ cls := "DyeRing$Entry", name := "distanceOfDyed", desc := "(IIII)I" } : Jvm.MethodName)) ∈ WA := wa_of 598 (by decide +kernel) (by decide +kernel)
theorem wm_599 : (Jvm.Cond.methodLink "DyeRingLaw" (124 : Nat) ({ cls := "DyeRingLaw", name := "claim", desc := "(LDyeRing;I[J)I" } : Jvm.MethodName)) ∈ WA := wa_of 599 (by decide +kernel) (by decide +kernel)
theorem wm_600 : (Jvm.Cond.static ({ cls := "DyeRingLaw", name := "claim", desc := "(LDyeRing;I[J)I" } : Jvm.MethodName)) ∈ WA := wa_of 600 (by decide +kernel) (by decide +kernel)
theorem wm_601 : (Jvm.Cond.codeWith ({ cls := "DyeRingLaw", name := "claim", desc := "(LDyeRing;I[J)I" } : Jvm.MethodName) method_13_code (4 : Nat) (Option.some Jvm.ClassFile.FieldType.int) [((0 : Nat), (9 : Nat), (12 : Nat), (21 : Nat)), ((0 : Nat), (9 : Nat), (15 : Nat), (15 : Nat))]) ∈ WA := wa_of 601 (by decide +kernel) (by decide +kernel)
theorem wm_602 : (Jvm.Cond.methodLink "DyeRingLaw" (50 : Nat) ({ cls := "DyeRing", name := "claim", desc := "(I)I" } : Jvm.MethodName)) ∈ WA := wa_of 602 (by decide +kernel) (by decide +kernel)
theorem wm_603 : (Jvm.Cond.instanceMethod ({ cls := "DyeRing", name := "claim", desc := "(I)I" } : Jvm.MethodName)) ∈ WA := wa_of 603 (by decide +kernel) (by decide +kernel)
theorem wm_604 : (Jvm.Cond.selects "DyeRing" ({ cls := "DyeRing", name := "claim", desc := "(I)I" } : Jvm.MethodName) ({ cls := "DyeRing", name := "claim", desc := "(I)I" } : Jvm.MethodName)) ∈ WA := wa_of 604 (by decide +kernel) (by decide +kernel)
theorem wm_605 : (Jvm.Cond.code ({ cls := "DyeRing", name := "claim", desc := "(I)I" } : Jvm.MethodName) prog_1_method_12_code (5 : Nat) (Option.some Jvm.ClassFile.FieldType.int)) ∈ WA := wa_of 605 (by decide +kernel) (by decide +kernel)
theorem wm_606 : (Jvm.Cond.methodLink "DyeRing" (144 : Nat) ({ cls := "DyeRing", name := "pieceOf", desc := "(LDyeRing$Order;)LDyeRing$Piece;" } : Jvm.MethodName)) ∈ WA := wa_of 606 (by decide +kernel) (by decide +kernel)
theorem wm_607 : (Jvm.Cond.static ({ cls := "DyeRing", name := "pieceOf", desc := "(LDyeRing$Order;)LDyeRing$Piece;" } : Jvm.MethodName)) ∈ WA := wa_of 607 (by decide +kernel) (by decide +kernel)
theorem wm_608 : (Jvm.Cond.code ({ cls := "DyeRing", name := "pieceOf", desc := "(LDyeRing$Order;)LDyeRing$Piece;" } : Jvm.MethodName) prog_1_method_26_code (2 : Nat) (Option.some (Jvm.ClassFile.FieldType.object "DyeRing$Piece"))) ∈ WA := wa_of 608 (by decide +kernel) (by decide +kernel)
theorem wm_610 : (Jvm.Cond.methodLink "DyeRing" (152 : Nat) ({ cls := "DyeRing$Piece", name := "isOff", desc := "()Z" } : Jvm.MethodName)) ∈ WA := wa_of 610 (by decide +kernel) (by decide +kernel)
theorem wm_611 : (Jvm.Cond.instanceMethod ({ cls := "DyeRing$Piece", name := "isOff", desc := "()Z" } : Jvm.MethodName)) ∈ WA := wa_of 611 (by decide +kernel) (by decide +kernel)
theorem wm_612 : (Jvm.Cond.selects "DyeRing$Piece" ({ cls := "DyeRing$Piece", name := "isOff", desc := "()Z" } : Jvm.MethodName) ({ cls := "DyeRing$Piece", name := "isOff", desc := "()Z" } : Jvm.MethodName)) ∈ WA := wa_of 612 (by decide +kernel) (by decide +kernel)
theorem wm_613 : (Jvm.Cond.code ({ cls := "DyeRing$Piece", name := "isOff", desc := "()Z" } : Jvm.MethodName) prog_6_method_4_code (1 : Nat) (Option.some Jvm.ClassFile.FieldType.boolean)) ∈ WA := wa_of 613 (by decide +kernel) (by decide +kernel)
theorem wm_614 : (Jvm.Cond.methodLink "DyeRing$Piece" (71 : Nat) ({ cls := "DyeRing$Piece", name := "distance", desc := "()I" } : Jvm.MethodName)) ∈ WA := wa_of 614 (by decide +kernel) (by decide +kernel)
theorem wm_616 : (Jvm.Cond.methodLink "DyeRing" (161 : Nat) ({ cls := "DyeRing$Piece", name := "toBlame", desc := "()I" } : Jvm.MethodName)) ∈ WA := wa_of 616 (by decide +kernel) (by decide +kernel)
theorem wm_617 : (Jvm.Cond.instanceMethod ({ cls := "DyeRing$Piece", name := "toBlame", desc := "()I" } : Jvm.MethodName)) ∈ WA := wa_of 617 (by decide +kernel) (by decide +kernel)
theorem wm_618 : (Jvm.Cond.selects "DyeRing$Piece" ({ cls := "DyeRing$Piece", name := "toBlame", desc := "()I" } : Jvm.MethodName) ({ cls := "DyeRing$Piece", name := "toBlame", desc := "()I" } : Jvm.MethodName)) ∈ WA := wa_of 618 (by decide +kernel) (by decide +kernel)
theorem wm_619 : (Jvm.Cond.code ({ cls := "DyeRing$Piece", name := "toBlame", desc := "()I" } : Jvm.MethodName) prog_6_method_5_code (4 : Nat) (Option.some Jvm.ClassFile.FieldType.int)) ∈ WA := wa_of 619 (by decide +kernel) (by decide +kernel)
theorem wm_620 : (Jvm.Cond.methodLink "DyeRingLaw" (127 : Nat) ({ cls := "DyeRingLaw", name := "stateOf", desc := "(LDyeRing;I[J)I" } : Jvm.MethodName)) ∈ WA := wa_of 620 (by decide +kernel) (by decide +kernel)
theorem wm_621 : (Jvm.Cond.static ({ cls := "DyeRingLaw", name := "stateOf", desc := "(LDyeRing;I[J)I" } : Jvm.MethodName)) ∈ WA := wa_of 621 (by decide +kernel) (by decide +kernel)
theorem wm_622 : (Jvm.Cond.codeWith ({ cls := "DyeRingLaw", name := "stateOf", desc := "(LDyeRing;I[J)I" } : Jvm.MethodName) method_14_code (4 : Nat) (Option.some Jvm.ClassFile.FieldType.int) [((0 : Nat), (9 : Nat), (12 : Nat), (21 : Nat))]) ∈ WA := wa_of 622 (by decide +kernel) (by decide +kernel)
theorem wm_623 : (Jvm.Cond.methodLink "DyeRingLaw" (53 : Nat) ({ cls := "DyeRing", name := "stateOf", desc := "(I)I" } : Jvm.MethodName)) ∈ WA := wa_of 623 (by decide +kernel) (by decide +kernel)
theorem wm_624 : (Jvm.Cond.instanceMethod ({ cls := "DyeRing", name := "stateOf", desc := "(I)I" } : Jvm.MethodName)) ∈ WA := wa_of 624 (by decide +kernel) (by decide +kernel)
theorem wm_625 : (Jvm.Cond.selects "DyeRing" ({ cls := "DyeRing", name := "stateOf", desc := "(I)I" } : Jvm.MethodName) ({ cls := "DyeRing", name := "stateOf", desc := "(I)I" } : Jvm.MethodName)) ∈ WA := wa_of 625 (by decide +kernel) (by decide +kernel)
theorem wm_626 : (Jvm.Cond.code ({ cls := "DyeRing", name := "stateOf", desc := "(I)I" } : Jvm.MethodName) prog_1_method_13_code (3 : Nat) (Option.some Jvm.ClassFile.FieldType.int)) ∈ WA := wa_of 626 (by decide +kernel) (by decide +kernel)
theorem wm_627 : (Jvm.Cond.methodLink "DyeRingLaw" (130 : Nat) ({ cls := "DyeRingLaw", name := "colour", desc := "(LDyeRing;II[J)I" } : Jvm.MethodName)) ∈ WA := wa_of 627 (by decide +kernel) (by decide +kernel)
theorem wm_628 : (Jvm.Cond.static ({ cls := "DyeRingLaw", name := "colour", desc := "(LDyeRing;II[J)I" } : Jvm.MethodName)) ∈ WA := wa_of 628 (by decide +kernel) (by decide +kernel)
theorem wm_629 : (Jvm.Cond.codeWith ({ cls := "DyeRingLaw", name := "colour", desc := "(LDyeRing;II[J)I" } : Jvm.MethodName) method_15_code (5 : Nat) (Option.some Jvm.ClassFile.FieldType.int) [((0 : Nat), (10 : Nat), (13 : Nat), (21 : Nat)), ((0 : Nat), (10 : Nat), (17 : Nat), (15 : Nat))]) ∈ WA := wa_of 629 (by decide +kernel) (by decide +kernel)
theorem wm_630 : (Jvm.Cond.methodLink "DyeRingLaw" (56 : Nat) ({ cls := "DyeRing", name := "colour", desc := "(II)I" } : Jvm.MethodName)) ∈ WA := wa_of 630 (by decide +kernel) (by decide +kernel)
theorem wm_631 : (Jvm.Cond.instanceMethod ({ cls := "DyeRing", name := "colour", desc := "(II)I" } : Jvm.MethodName)) ∈ WA := wa_of 631 (by decide +kernel) (by decide +kernel)
theorem wm_632 : (Jvm.Cond.selects "DyeRing" ({ cls := "DyeRing", name := "colour", desc := "(II)I" } : Jvm.MethodName) ({ cls := "DyeRing", name := "colour", desc := "(II)I" } : Jvm.MethodName)) ∈ WA := wa_of 632 (by decide +kernel) (by decide +kernel)
theorem wm_633 : (Jvm.Cond.code ({ cls := "DyeRing", name := "colour", desc := "(II)I" } : Jvm.MethodName) prog_1_method_14_code (5 : Nat) (Option.some Jvm.ClassFile.FieldType.int)) ∈ WA := wa_of 633 (by decide +kernel) (by decide +kernel)
theorem wm_634 : (Jvm.Cond.methodLink "DyeRing" (178 : Nat) ({ cls := "DyeRing$Piece", name := "colourAt", desc := "(II)I" } : Jvm.MethodName)) ∈ WA := wa_of 634 (by decide +kernel) (by decide +kernel)
theorem wm_635 : (Jvm.Cond.instanceMethod ({ cls := "DyeRing$Piece", name := "colourAt", desc := "(II)I" } : Jvm.MethodName)) ∈ WA := wa_of 635 (by decide +kernel) (by decide +kernel)
theorem wm_636 : (Jvm.Cond.selects "DyeRing$Piece" ({ cls := "DyeRing$Piece", name := "colourAt", desc := "(II)I" } : Jvm.MethodName) ({ cls := "DyeRing$Piece", name := "colourAt", desc := "(II)I" } : Jvm.MethodName)) ∈ WA := wa_of 636 (by decide +kernel) (by decide +kernel)
theorem wm_637 : (Jvm.Cond.code ({ cls := "DyeRing$Piece", name := "colourAt", desc := "(II)I" } : Jvm.MethodName) prog_6_method_2_code (3 : Nat) (Option.some Jvm.ClassFile.FieldType.int)) ∈ WA := wa_of 637 (by decide +kernel) (by decide +kernel)
theorem wm_638 : (Jvm.Cond.methodLink "DyeRing$Piece" (57 : Nat) ({ cls := "DyeRing$Entry", name := "dyedFirst", desc := "(III)I" } : Jvm.MethodName)) ∈ WA := wa_of 638 (by decide +kernel) (by decide +kernel)
theorem wm_639 : (Jvm.Cond.methodLink "DyeRing$Piece" (63 : Nat) ({ cls := "DyeRing$Entry", name := "dyedSecond", desc := "(II)I" } : Jvm.MethodName)) ∈ WA := wa_of 639 (by decide +kernel) (by decide +kernel)
theorem wm_640 : (Jvm.Cond.methodLink "DyeRingLaw" (133 : Nat) ({ cls := "DyeRingLaw", name := "colourByBath", desc := "(LDyeRing;II[J)I" } : Jvm.MethodName)) ∈ WA := wa_of 640 (by decide +kernel) (by decide +kernel)
theorem wm_641 : (Jvm.Cond.static ({ cls := "DyeRingLaw", name := "colourByBath", desc := "(LDyeRing;II[J)I" } : Jvm.MethodName)) ∈ WA := wa_of 641 (by decide +kernel) (by decide +kernel)
theorem wm_642 : (Jvm.Cond.codeWith ({ cls := "DyeRingLaw", name := "colourByBath", desc := "(LDyeRing;II[J)I" } : Jvm.MethodName) method_16_code (5 : Nat) (Option.some Jvm.ClassFile.FieldType.int) [((0 : Nat), (10 : Nat), (13 : Nat), (21 : Nat)), ((0 : Nat), (10 : Nat), (17 : Nat), (15 : Nat))]) ∈ WA := wa_of 642 (by decide +kernel) (by decide +kernel)
theorem wm_643 : (Jvm.Cond.methodLink "DyeRingLaw" (59 : Nat) ({ cls := "DyeRing", name := "colourByBath", desc := "(II)I" } : Jvm.MethodName)) ∈ WA := wa_of 643 (by decide +kernel) (by decide +kernel)
theorem wm_644 : (Jvm.Cond.instanceMethod ({ cls := "DyeRing", name := "colourByBath", desc := "(II)I" } : Jvm.MethodName)) ∈ WA := wa_of 644 (by decide +kernel) (by decide +kernel)
theorem wm_645 : (Jvm.Cond.selects "DyeRing" ({ cls := "DyeRing", name := "colourByBath", desc := "(II)I" } : Jvm.MethodName) ({ cls := "DyeRing", name := "colourByBath", desc := "(II)I" } : Jvm.MethodName)) ∈ WA := wa_of 645 (by decide +kernel) (by decide +kernel)
theorem wm_646 : (Jvm.Cond.code ({ cls := "DyeRing", name := "colourByBath", desc := "(II)I" } : Jvm.MethodName) prog_1_method_15_code (5 : Nat) (Option.some Jvm.ClassFile.FieldType.int)) ∈ WA := wa_of 646 (by decide +kernel) (by decide +kernel)
theorem wm_647 : (Jvm.Cond.methodLink "DyeRing" (181 : Nat) ({ cls := "DyeRing$Bath", name := "followedTo", desc := "(I)I" } : Jvm.MethodName)) ∈ WA := wa_of 647 (by decide +kernel) (by decide +kernel)
theorem wm_648 : (Jvm.Cond.instanceMethod ({ cls := "DyeRing$Bath", name := "followedTo", desc := "(I)I" } : Jvm.MethodName)) ∈ WA := wa_of 648 (by decide +kernel) (by decide +kernel)
theorem wm_649 : (Jvm.Cond.selects "DyeRing$Bath" ({ cls := "DyeRing$Bath", name := "followedTo", desc := "(I)I" } : Jvm.MethodName) ({ cls := "DyeRing$Bath", name := "followedTo", desc := "(I)I" } : Jvm.MethodName)) ∈ WA := wa_of 649 (by decide +kernel) (by decide +kernel)
theorem wm_650 : (Jvm.Cond.code ({ cls := "DyeRing$Bath", name := "followedTo", desc := "(I)I" } : Jvm.MethodName) prog_2_method_5_code (5 : Nat) (Option.some Jvm.ClassFile.FieldType.int)) ∈ WA := wa_of 650 (by decide +kernel) (by decide +kernel)
theorem wm_651 : (Jvm.Cond.methodLink "DyeRing$Bath" (51 : Nat) ({ cls := "java/util/ArrayList", name := "size", desc := "()I" } : Jvm.MethodName)) ∈ WA := wa_of 651 (by decide +kernel) (by decide +kernel)
theorem wm_652 : (Jvm.Cond.methodLink "DyeRing$Bath" (55 : Nat) ({ cls := "java/util/ArrayList", name := "get", desc := "(I)Ljava/lang/Object;" } : Jvm.MethodName)) ∈ WA := wa_of 652 (by decide +kernel) (by decide +kernel)
theorem wm_653 : (Jvm.Cond.classLink "DyeRing$Bath" (43 : Nat) "DyeRing$Piece") ∈ WA := wa_of 653 (by decide +kernel) (by decide +kernel)
theorem wm_654 : (Jvm.Cond.methodLink "DyeRingLaw" (136 : Nat) ({ cls := "DyeRingLaw", name := "blamed", desc := "(LDyeRing;II[J)I" } : Jvm.MethodName)) ∈ WA := wa_of 654 (by decide +kernel) (by decide +kernel)
theorem wm_655 : (Jvm.Cond.static ({ cls := "DyeRingLaw", name := "blamed", desc := "(LDyeRing;II[J)I" } : Jvm.MethodName)) ∈ WA := wa_of 655 (by decide +kernel) (by decide +kernel)
theorem wm_656 : (Jvm.Cond.codeWith ({ cls := "DyeRingLaw", name := "blamed", desc := "(LDyeRing;II[J)I" } : Jvm.MethodName) method_17_code (5 : Nat) (Option.some Jvm.ClassFile.FieldType.int) [((0 : Nat), (10 : Nat), (13 : Nat), (21 : Nat)), ((0 : Nat), (10 : Nat), (17 : Nat), (13 : Nat))]) ∈ WA := wa_of 656 (by decide +kernel) (by decide +kernel)
theorem wm_657 : (Jvm.Cond.methodLink "DyeRingLaw" (62 : Nat) ({ cls := "DyeRing", name := "blamed", desc := "(II)I" } : Jvm.MethodName)) ∈ WA := wa_of 657 (by decide +kernel) (by decide +kernel)
theorem wm_658 : (Jvm.Cond.instanceMethod ({ cls := "DyeRing", name := "blamed", desc := "(II)I" } : Jvm.MethodName)) ∈ WA := wa_of 658 (by decide +kernel) (by decide +kernel)
theorem wm_659 : (Jvm.Cond.selects "DyeRing" ({ cls := "DyeRing", name := "blamed", desc := "(II)I" } : Jvm.MethodName) ({ cls := "DyeRing", name := "blamed", desc := "(II)I" } : Jvm.MethodName)) ∈ WA := wa_of 659 (by decide +kernel) (by decide +kernel)
theorem wm_660 : (Jvm.Cond.code ({ cls := "DyeRing", name := "blamed", desc := "(II)I" } : Jvm.MethodName) prog_1_method_16_code (3 : Nat) (Option.some Jvm.ClassFile.FieldType.int)) ∈ WA := wa_of 660 (by decide +kernel) (by decide +kernel)
theorem wm_661 : (Jvm.Cond.methodLink "DyeRingLaw" (139 : Nat) ({ cls := "DyeRingLaw", name := "shrinks", desc := "(LDyeRing;II[J)I" } : Jvm.MethodName)) ∈ WA := wa_of 661 (by decide +kernel) (by decide +kernel)
theorem wm_662 : (Jvm.Cond.static ({ cls := "DyeRingLaw", name := "shrinks", desc := "(LDyeRing;II[J)I" } : Jvm.MethodName)) ∈ WA := wa_of 662 (by decide +kernel) (by decide +kernel)
theorem wm_663 : (Jvm.Cond.codeWith ({ cls := "DyeRingLaw", name := "shrinks", desc := "(LDyeRing;II[J)I" } : Jvm.MethodName) method_18_code (5 : Nat) (Option.some Jvm.ClassFile.FieldType.int) [((0 : Nat), (10 : Nat), (13 : Nat), (21 : Nat)), ((0 : Nat), (10 : Nat), (17 : Nat), (13 : Nat))]) ∈ WA := wa_of 663 (by decide +kernel) (by decide +kernel)
theorem wm_664 : (Jvm.Cond.methodLink "DyeRingLaw" (65 : Nat) ({ cls := "DyeRing", name := "shrinks", desc := "(II)I" } : Jvm.MethodName)) ∈ WA := wa_of 664 (by decide +kernel) (by decide +kernel)
theorem wm_665 : (Jvm.Cond.instanceMethod ({ cls := "DyeRing", name := "shrinks", desc := "(II)I" } : Jvm.MethodName)) ∈ WA := wa_of 665 (by decide +kernel) (by decide +kernel)
theorem wm_666 : (Jvm.Cond.selects "DyeRing" ({ cls := "DyeRing", name := "shrinks", desc := "(II)I" } : Jvm.MethodName) ({ cls := "DyeRing", name := "shrinks", desc := "(II)I" } : Jvm.MethodName)) ∈ WA := wa_of 666 (by decide +kernel) (by decide +kernel)
theorem wm_667 : (Jvm.Cond.code ({ cls := "DyeRing", name := "shrinks", desc := "(II)I" } : Jvm.MethodName) prog_1_method_17_code (4 : Nat) (Option.some Jvm.ClassFile.FieldType.int)) ∈ WA := wa_of 667 (by decide +kernel) (by decide +kernel)
theorem wm_668 : (Jvm.Cond.methodLink "DyeRingLaw" (142 : Nat) ({ cls := "DyeRingLaw", name := "give", desc := "(LDyeRing;IIII[J)I" } : Jvm.MethodName)) ∈ WA := wa_of 668 (by decide +kernel) (by decide +kernel)
theorem wm_669 : (Jvm.Cond.static ({ cls := "DyeRingLaw", name := "give", desc := "(LDyeRing;IIII[J)I" } : Jvm.MethodName)) ∈ WA := wa_of 669 (by decide +kernel) (by decide +kernel)
theorem wm_670 : (Jvm.Cond.codeWith ({ cls := "DyeRingLaw", name := "give", desc := "(LDyeRing;IIII[J)I" } : Jvm.MethodName) method_19_code (7 : Nat) (Option.some Jvm.ClassFile.FieldType.int) [((0 : Nat), (14 : Nat), (17 : Nat), (21 : Nat)), ((0 : Nat), (14 : Nat), (21 : Nat), (13 : Nat)), ((0 : Nat), (14 : Nat), (25 : Nat), (15 : Nat))]) ∈ WA := wa_of 670 (by decide +kernel) (by decide +kernel)
theorem wm_671 : (Jvm.Cond.methodLink "DyeRingLaw" (68 : Nat) ({ cls := "DyeRing", name := "give", desc := "(IIII)I" } : Jvm.MethodName)) ∈ WA := wa_of 671 (by decide +kernel) (by decide +kernel)
theorem wm_672 : (Jvm.Cond.instanceMethod ({ cls := "DyeRing", name := "give", desc := "(IIII)I" } : Jvm.MethodName)) ∈ WA := wa_of 672 (by decide +kernel) (by decide +kernel)
theorem wm_673 : (Jvm.Cond.selects "DyeRing" ({ cls := "DyeRing", name := "give", desc := "(IIII)I" } : Jvm.MethodName) ({ cls := "DyeRing", name := "give", desc := "(IIII)I" } : Jvm.MethodName)) ∈ WA := wa_of 673 (by decide +kernel) (by decide +kernel)
theorem wm_674 : (Jvm.Cond.code ({ cls := "DyeRing", name := "give", desc := "(IIII)I" } : Jvm.MethodName) prog_1_method_18_code (7 : Nat) (Option.some Jvm.ClassFile.FieldType.int)) ∈ WA := wa_of 674 (by decide +kernel) (by decide +kernel)
theorem wm_676 : (Jvm.Cond.methodLink "DyeRing" (193 : Nat) ({ cls := "DyeRing$Cloth", name := "shrunk", desc := "(I)I" } : Jvm.MethodName)) ∈ WA := wa_of 676 (by decide +kernel) (by decide +kernel)
theorem wm_677 : (Jvm.Cond.instanceMethod ({ cls := "DyeRing$Cloth", name := "shrunk", desc := "(I)I" } : Jvm.MethodName)) ∈ WA := wa_of 677 (by decide +kernel) (by decide +kernel)
theorem wm_678 : (Jvm.Cond.selects "DyeRing$Cloth" ({ cls := "DyeRing$Cloth", name := "shrunk", desc := "(I)I" } : Jvm.MethodName) ({ cls := "DyeRing$Cloth", name := "shrunk", desc := "(I)I" } : Jvm.MethodName)) ∈ WA := wa_of 678 (by decide +kernel) (by decide +kernel)
theorem wm_679 : (Jvm.Cond.code ({ cls := "DyeRing$Cloth", name := "shrunk", desc := "(I)I" } : Jvm.MethodName) prog_3_method_2_code (3 : Nat) (Option.some Jvm.ClassFile.FieldType.int)) ∈ WA := wa_of 679 (by decide +kernel) (by decide +kernel)
theorem wm_680 : (Jvm.Cond.constant "DyeRing" (196 : Nat) (100000 : Int32)) ∈ WA := wa_of 680 (by decide +kernel) (by decide +kernel)
theorem wm_682 : (Jvm.Cond.methodLink "DyeRingLaw" (146 : Nat) ({ cls := "DyeRingLaw", name := "owes", desc := "(LDyeRing;III[J)I" } : Jvm.MethodName)) ∈ WA := wa_of 682 (by decide +kernel) (by decide +kernel)
theorem wm_683 : (Jvm.Cond.static ({ cls := "DyeRingLaw", name := "owes", desc := "(LDyeRing;III[J)I" } : Jvm.MethodName)) ∈ WA := wa_of 683 (by decide +kernel) (by decide +kernel)
theorem wm_684 : (Jvm.Cond.codeWith ({ cls := "DyeRingLaw", name := "owes", desc := "(LDyeRing;III[J)I" } : Jvm.MethodName) method_20_code (6 : Nat) (Option.some Jvm.ClassFile.FieldType.int) [((0 : Nat), (12 : Nat), (15 : Nat), (21 : Nat))]) ∈ WA := wa_of 684 (by decide +kernel) (by decide +kernel)
theorem wm_685 : (Jvm.Cond.methodLink "DyeRingLaw" (72 : Nat) ({ cls := "DyeRing", name := "owes", desc := "(III)I" } : Jvm.MethodName)) ∈ WA := wa_of 685 (by decide +kernel) (by decide +kernel)
theorem wm_686 : (Jvm.Cond.instanceMethod ({ cls := "DyeRing", name := "owes", desc := "(III)I" } : Jvm.MethodName)) ∈ WA := wa_of 686 (by decide +kernel) (by decide +kernel)
theorem wm_687 : (Jvm.Cond.selects "DyeRing" ({ cls := "DyeRing", name := "owes", desc := "(III)I" } : Jvm.MethodName) ({ cls := "DyeRing", name := "owes", desc := "(III)I" } : Jvm.MethodName)) ∈ WA := wa_of 687 (by decide +kernel) (by decide +kernel)
theorem wm_688 : (Jvm.Cond.code ({ cls := "DyeRing", name := "owes", desc := "(III)I" } : Jvm.MethodName) prog_1_method_19_code (4 : Nat) (Option.some Jvm.ClassFile.FieldType.int)) ∈ WA := wa_of 688 (by decide +kernel) (by decide +kernel)
theorem wm_689 : (Jvm.Cond.methodLink "DyeRingLaw" (149 : Nat) ({ cls := "DyeRingLaw", name := "position", desc := "(LDyeRing;II[J)I" } : Jvm.MethodName)) ∈ WA := wa_of 689 (by decide +kernel) (by decide +kernel)
theorem wm_690 : (Jvm.Cond.static ({ cls := "DyeRingLaw", name := "position", desc := "(LDyeRing;II[J)I" } : Jvm.MethodName)) ∈ WA := wa_of 690 (by decide +kernel) (by decide +kernel)
theorem wm_691 : (Jvm.Cond.codeWith ({ cls := "DyeRingLaw", name := "position", desc := "(LDyeRing;II[J)I" } : Jvm.MethodName) method_21_code (5 : Nat) (Option.some Jvm.ClassFile.FieldType.int) [((0 : Nat), (10 : Nat), (13 : Nat), (21 : Nat))]) ∈ WA := wa_of 691 (by decide +kernel) (by decide +kernel)
theorem wm_692 : (Jvm.Cond.methodLink "DyeRingLaw" (75 : Nat) ({ cls := "DyeRing", name := "position", desc := "(II)I" } : Jvm.MethodName)) ∈ WA := wa_of 692 (by decide +kernel) (by decide +kernel)
theorem wm_693 : (Jvm.Cond.instanceMethod ({ cls := "DyeRing", name := "position", desc := "(II)I" } : Jvm.MethodName)) ∈ WA := wa_of 693 (by decide +kernel) (by decide +kernel)
theorem wm_694 : (Jvm.Cond.selects "DyeRing" ({ cls := "DyeRing", name := "position", desc := "(II)I" } : Jvm.MethodName) ({ cls := "DyeRing", name := "position", desc := "(II)I" } : Jvm.MethodName)) ∈ WA := wa_of 694 (by decide +kernel) (by decide +kernel)
theorem wm_695 : (Jvm.Cond.code ({ cls := "DyeRing", name := "position", desc := "(II)I" } : Jvm.MethodName) prog_1_method_20_code (3 : Nat) (Option.some Jvm.ClassFile.FieldType.int)) ∈ WA := wa_of 695 (by decide +kernel) (by decide +kernel)
theorem wm_696 : (Jvm.Cond.methodLink "DyeRing" (199 : Nat) ({ cls := "DyeRing$Cloth", name := "balanceOf", desc := "(I)I" } : Jvm.MethodName)) ∈ WA := wa_of 696 (by decide +kernel) (by decide +kernel)
theorem wm_697 : (Jvm.Cond.instanceMethod ({ cls := "DyeRing$Cloth", name := "balanceOf", desc := "(I)I" } : Jvm.MethodName)) ∈ WA := wa_of 697 (by decide +kernel) (by decide +kernel)
theorem wm_698 : (Jvm.Cond.selects "DyeRing$Cloth" ({ cls := "DyeRing$Cloth", name := "balanceOf", desc := "(I)I" } : Jvm.MethodName) ({ cls := "DyeRing$Cloth", name := "balanceOf", desc := "(I)I" } : Jvm.MethodName)) ∈ WA := wa_of 698 (by decide +kernel) (by decide +kernel)
theorem wm_699 : (Jvm.Cond.code ({ cls := "DyeRing$Cloth", name := "balanceOf", desc := "(I)I" } : Jvm.MethodName) prog_3_method_3_code (4 : Nat) (Option.some Jvm.ClassFile.FieldType.int)) ∈ WA := wa_of 699 (by decide +kernel) (by decide +kernel)
theorem wm_700 : (Jvm.Cond.methodLink "DyeRingLaw" (152 : Nat) ({ cls := "DyeRingLaw", name := "net", desc := "(LDyeRing;I[J)I" } : Jvm.MethodName)) ∈ WA := wa_of 700 (by decide +kernel) (by decide +kernel)
theorem wm_701 : (Jvm.Cond.static ({ cls := "DyeRingLaw", name := "net", desc := "(LDyeRing;I[J)I" } : Jvm.MethodName)) ∈ WA := wa_of 701 (by decide +kernel) (by decide +kernel)
theorem wm_702 : (Jvm.Cond.codeWith ({ cls := "DyeRingLaw", name := "net", desc := "(LDyeRing;I[J)I" } : Jvm.MethodName) method_22_code (4 : Nat) (Option.some Jvm.ClassFile.FieldType.int) [((0 : Nat), (9 : Nat), (12 : Nat), (21 : Nat))]) ∈ WA := wa_of 702 (by decide +kernel) (by decide +kernel)
theorem wm_703 : (Jvm.Cond.methodLink "DyeRingLaw" (78 : Nat) ({ cls := "DyeRing", name := "net", desc := "(I)I" } : Jvm.MethodName)) ∈ WA := wa_of 703 (by decide +kernel) (by decide +kernel)
theorem wm_704 : (Jvm.Cond.instanceMethod ({ cls := "DyeRing", name := "net", desc := "(I)I" } : Jvm.MethodName)) ∈ WA := wa_of 704 (by decide +kernel) (by decide +kernel)
theorem wm_705 : (Jvm.Cond.selects "DyeRing" ({ cls := "DyeRing", name := "net", desc := "(I)I" } : Jvm.MethodName) ({ cls := "DyeRing", name := "net", desc := "(I)I" } : Jvm.MethodName)) ∈ WA := wa_of 705 (by decide +kernel) (by decide +kernel)
theorem wm_706 : (Jvm.Cond.code ({ cls := "DyeRing", name := "net", desc := "(I)I" } : Jvm.MethodName) prog_1_method_21_code (2 : Nat) (Option.some Jvm.ClassFile.FieldType.int)) ∈ WA := wa_of 706 (by decide +kernel) (by decide +kernel)
theorem wm_707 : (Jvm.Cond.methodLink "DyeRing" (202 : Nat) ({ cls := "DyeRing$Cloth", name := "settle", desc := "()I" } : Jvm.MethodName)) ∈ WA := wa_of 707 (by decide +kernel) (by decide +kernel)
theorem wm_708 : (Jvm.Cond.instanceMethod ({ cls := "DyeRing$Cloth", name := "settle", desc := "()I" } : Jvm.MethodName)) ∈ WA := wa_of 708 (by decide +kernel) (by decide +kernel)
theorem wm_709 : (Jvm.Cond.selects "DyeRing$Cloth" ({ cls := "DyeRing$Cloth", name := "settle", desc := "()I" } : Jvm.MethodName) ({ cls := "DyeRing$Cloth", name := "settle", desc := "()I" } : Jvm.MethodName)) ∈ WA := wa_of 709 (by decide +kernel) (by decide +kernel)
theorem wm_710 : (Jvm.Cond.code ({ cls := "DyeRing$Cloth", name := "settle", desc := "()I" } : Jvm.MethodName) prog_3_method_4_code (2 : Nat) (Option.some Jvm.ClassFile.FieldType.int)) ∈ WA := wa_of 710 (by decide +kernel) (by decide +kernel)
theorem wm_711 : (Jvm.Cond.methodLink "DyeRing$Cloth" (24 : Nat) ({ cls := "DyeRing$Cloth", name := "balanceOf", desc := "(I)I" } : Jvm.MethodName)) ∈ WA := wa_of 711 (by decide +kernel) (by decide +kernel)
theorem wm_712 : (Jvm.Cond.methodLink "DyeRing$Cloth" (28 : Nat) ({ cls := "java/util/Arrays", name := "fill", desc := "([II)V" } : Jvm.MethodName)) ∈ WA := wa_of 712 (by decide +kernel) (by decide +kernel)
theorem wm_713 : (Jvm.Cond.static ({ cls := "java/util/Arrays", name := "fill", desc := "([II)V" } : Jvm.MethodName)) ∈ WA := wa_of 713 (by decide +kernel) (by decide +kernel)
theorem wm_714 : (Jvm.Cond.code ({ cls := "java/util/Arrays", name := "fill", desc := "([II)V" } : Jvm.MethodName) prog_24_method_103_code (4 : Nat) (Option.none : Option Jvm.ClassFile.FieldType)) ∈ WA := wa_of 714 (by decide +kernel) (by decide +kernel)
theorem wm_715 : (Jvm.Cond.methodLink "DyeRing$Cloth" (34 : Nat) ({ cls := "DyeRing$Cloth", name := "settleLowest", desc := "()Z" } : Jvm.MethodName)) ∈ WA := wa_of 715 (by decide +kernel) (by decide +kernel)
theorem wm_717 : (Jvm.Cond.instanceMethod ({ cls := "DyeRing$Cloth", name := "settleLowest", desc := "()Z" } : Jvm.MethodName)) ∈ WA := wa_of 717 (by decide +kernel) (by decide +kernel)
theorem wm_718 : (Jvm.Cond.code ({ cls := "DyeRing$Cloth", name := "settleLowest", desc := "()Z" } : Jvm.MethodName) prog_3_method_5_code (4 : Nat) (Option.some Jvm.ClassFile.FieldType.boolean)) ∈ WA := wa_of 718 (by decide +kernel) (by decide +kernel)
theorem wm_719 : (Jvm.Cond.methodLink "DyeRing$Cloth" (38 : Nat) ({ cls := "DyeRing$Cloth", name := "lowest", desc := "(I)I" } : Jvm.MethodName)) ∈ WA := wa_of 719 (by decide +kernel) (by decide +kernel)
theorem wm_721 : (Jvm.Cond.instanceMethod ({ cls := "DyeRing$Cloth", name := "lowest", desc := "(I)I" } : Jvm.MethodName)) ∈ WA := wa_of 721 (by decide +kernel) (by decide +kernel)
theorem wm_722 : (Jvm.Cond.code ({ cls := "DyeRing$Cloth", name := "lowest", desc := "(I)I" } : Jvm.MethodName) prog_3_method_6_code (3 : Nat) (Option.some Jvm.ClassFile.FieldType.int)) ∈ WA := wa_of 722 (by decide +kernel) (by decide +kernel)
theorem wm_723 : (Jvm.Cond.methodLink "DyeRing$Cloth" (41 : Nat) ({ cls := "java/lang/Math", name := "min", desc := "(II)I" } : Jvm.MethodName)) ∈ WA := wa_of 723 (by decide +kernel) (by decide +kernel)
theorem wm_724 : (Jvm.Cond.classLink "DyeRingLaw" (82 : Nat) "DyeRingModel") ∈ WA := wa_of 724 (by decide +kernel) (by decide +kernel)
theorem wm_725 : (Jvm.Cond.instantiable "DyeRingModel" (24 : Nat)) ∈ WA := wa_of 725 (by decide +kernel) (by decide +kernel)
theorem wm_726 : (Jvm.Cond.methodLink "DyeRingLaw" (84 : Nat) ({ cls := "DyeRingModel", name := "<init>", desc := "()V" } : Jvm.MethodName)) ∈ WA := wa_of 726 (by decide +kernel) (by decide +kernel)
theorem wm_727 : (Jvm.Cond.instanceMethod ({ cls := "DyeRingModel", name := "<init>", desc := "()V" } : Jvm.MethodName)) ∈ WA := wa_of 727 (by decide +kernel) (by decide +kernel)
theorem wm_728 : (Jvm.Cond.code ({ cls := "DyeRingModel", name := "<init>", desc := "()V" } : Jvm.MethodName) prog_8_method_1_code (1 : Nat) (Option.none : Option Jvm.ClassFile.FieldType)) ∈ WA := wa_of 728 (by decide +kernel) (by decide +kernel)
theorem wm_729 : (Jvm.Cond.methodLink "DyeRingModel" (1 : Nat) ({ cls := "java/lang/Object", name := "<init>", desc := "()V" } : Jvm.MethodName)) ∈ WA := wa_of 729 (by decide +kernel) (by decide +kernel)
theorem wm_730 : (Jvm.Cond.fieldLink "DyeRingModel" (78 : Nat) "DyeRingModel" "entries" "I") ∈ WA := wa_of 730 (by decide +kernel) (by decide +kernel)
theorem wm_731 : (Jvm.Cond.fieldLink "DyeRingModel" (7 : Nat) "DyeRingModel" "book" "[I") ∈ WA := wa_of 731 (by decide +kernel) (by decide +kernel)
theorem wm_732 : (Jvm.Cond.fieldLink "DyeRingModel" (13 : Nat) "DyeRingModel" "tolerance" "[I") ∈ WA := wa_of 732 (by decide +kernel) (by decide +kernel)
theorem wm_733 : (Jvm.Cond.fieldLink "DyeRingModel" (16 : Nat) "DyeRingModel" "waters" "[I") ∈ WA := wa_of 733 (by decide +kernel) (by decide +kernel)
theorem wm_734 : (Jvm.Cond.fieldLink "DyeRingModel" (19 : Nat) "DyeRingModel" "yarns" "[I") ∈ WA := wa_of 734 (by decide +kernel) (by decide +kernel)
theorem wm_735 : (Jvm.Cond.fieldLink "DyeRingModel" (81 : Nat) "DyeRingModel" "baths" "I") ∈ WA := wa_of 735 (by decide +kernel) (by decide +kernel)
theorem wm_736 : (Jvm.Cond.fieldLink "DyeRingModel" (22 : Nat) "DyeRingModel" "dyer" "[I") ∈ WA := wa_of 736 (by decide +kernel) (by decide +kernel)
theorem wm_737 : (Jvm.Cond.fieldLink "DyeRingModel" (25 : Nat) "DyeRingModel" "bathFor" "[I") ∈ WA := wa_of 737 (by decide +kernel) (by decide +kernel)
theorem wm_738 : (Jvm.Cond.fieldLink "DyeRingModel" (28 : Nat) "DyeRingModel" "strength" "[I") ∈ WA := wa_of 738 (by decide +kernel) (by decide +kernel)
theorem wm_739 : (Jvm.Cond.fieldLink "DyeRingModel" (84 : Nat) "DyeRingModel" "orders" "I") ∈ WA := wa_of 739 (by decide +kernel) (by decide +kernel)
theorem wm_740 : (Jvm.Cond.fieldLink "DyeRingModel" (31 : Nat) "DyeRingModel" "entryOf" "[I") ∈ WA := wa_of 740 (by decide +kernel) (by decide +kernel)
theorem wm_741 : (Jvm.Cond.fieldLink "DyeRingModel" (34 : Nat) "DyeRingModel" "weight" "[I") ∈ WA := wa_of 741 (by decide +kernel) (by decide +kernel)
theorem wm_742 : (Jvm.Cond.fieldLink "DyeRingModel" (37 : Nat) "DyeRingModel" "yarnOf" "[I") ∈ WA := wa_of 742 (by decide +kernel) (by decide +kernel)
theorem wm_743 : (Jvm.Cond.fieldLink "DyeRingModel" (40 : Nat) "DyeRingModel" "state" "[I") ∈ WA := wa_of 743 (by decide +kernel) (by decide +kernel)
theorem wm_744 : (Jvm.Cond.fieldLink "DyeRingModel" (43 : Nat) "DyeRingModel" "bathOf" "[I") ∈ WA := wa_of 744 (by decide +kernel) (by decide +kernel)
theorem wm_745 : (Jvm.Cond.fieldLink "DyeRingModel" (46 : Nat) "DyeRingModel" "hadStrength" "[I") ∈ WA := wa_of 745 (by decide +kernel) (by decide +kernel)
theorem wm_746 : (Jvm.Cond.fieldLink "DyeRingModel" (49 : Nat) "DyeRingModel" "hadWater" "[I") ∈ WA := wa_of 746 (by decide +kernel) (by decide +kernel)
theorem wm_747 : (Jvm.Cond.fieldLink "DyeRingModel" (52 : Nat) "DyeRingModel" "hadFirst" "[I") ∈ WA := wa_of 747 (by decide +kernel) (by decide +kernel)
theorem wm_748 : (Jvm.Cond.fieldLink "DyeRingModel" (55 : Nat) "DyeRingModel" "hadSecond" "[I") ∈ WA := wa_of 748 (by decide +kernel) (by decide +kernel)
theorem wm_749 : (Jvm.Cond.fieldLink "DyeRingModel" (58 : Nat) "DyeRingModel" "blames" "[I") ∈ WA := wa_of 749 (by decide +kernel) (by decide +kernel)
theorem wm_750 : (Jvm.Cond.fieldLink "DyeRingModel" (61 : Nat) "DyeRingModel" "shrinkage" "[I") ∈ WA := wa_of 750 (by decide +kernel) (by decide +kernel)
theorem wm_751 : (Jvm.Cond.fieldLink "DyeRingModel" (64 : Nat) "DyeRingModel" "debts" "[I") ∈ WA := wa_of 751 (by decide +kernel) (by decide +kernel)
theorem wm_752 : (Jvm.Cond.fieldLink "DyeRingModel" (67 : Nat) "DyeRingModel" "positions" "[I") ∈ WA := wa_of 752 (by decide +kernel) (by decide +kernel)
theorem wm_753 : (Jvm.Cond.fieldLink "DyeRingModel" (70 : Nat) "DyeRingModel" "thrown" "I") ∈ WA := wa_of 753 (by decide +kernel) (by decide +kernel)
theorem wm_754 : (Jvm.Cond.lays "DyeRingModel" "DyeRingModel" "entries" "I") ∈ WA := wa_of 754 (by decide +kernel) (by decide +kernel)
theorem wm_756 : (Jvm.Cond.laysFinal "DyeRingModel" "DyeRingModel" "book" "[I") ∈ WA := wa_of 756 (by decide +kernel) (by decide +kernel)
theorem wm_758 : (Jvm.Cond.laysFinal "DyeRingModel" "DyeRingModel" "tolerance" "[I") ∈ WA := wa_of 758 (by decide +kernel) (by decide +kernel)
theorem wm_760 : (Jvm.Cond.laysFinal "DyeRingModel" "DyeRingModel" "waters" "[I") ∈ WA := wa_of 760 (by decide +kernel) (by decide +kernel)
theorem wm_762 : (Jvm.Cond.laysFinal "DyeRingModel" "DyeRingModel" "yarns" "[I") ∈ WA := wa_of 762 (by decide +kernel) (by decide +kernel)
theorem wm_764 : (Jvm.Cond.lays "DyeRingModel" "DyeRingModel" "baths" "I") ∈ WA := wa_of 764 (by decide +kernel) (by decide +kernel)
theorem wm_766 : (Jvm.Cond.laysFinal "DyeRingModel" "DyeRingModel" "dyer" "[I") ∈ WA := wa_of 766 (by decide +kernel) (by decide +kernel)
theorem wm_768 : (Jvm.Cond.laysFinal "DyeRingModel" "DyeRingModel" "bathFor" "[I") ∈ WA := wa_of 768 (by decide +kernel) (by decide +kernel)
theorem wm_770 : (Jvm.Cond.laysFinal "DyeRingModel" "DyeRingModel" "strength" "[I") ∈ WA := wa_of 770 (by decide +kernel) (by decide +kernel)
theorem wm_772 : (Jvm.Cond.lays "DyeRingModel" "DyeRingModel" "orders" "I") ∈ WA := wa_of 772 (by decide +kernel) (by decide +kernel)
theorem wm_774 : (Jvm.Cond.laysFinal "DyeRingModel" "DyeRingModel" "entryOf" "[I") ∈ WA := wa_of 774 (by decide +kernel) (by decide +kernel)
theorem wm_776 : (Jvm.Cond.laysFinal "DyeRingModel" "DyeRingModel" "weight" "[I") ∈ WA := wa_of 776 (by decide +kernel) (by decide +kernel)
theorem wm_778 : (Jvm.Cond.laysFinal "DyeRingModel" "DyeRingModel" "yarnOf" "[I") ∈ WA := wa_of 778 (by decide +kernel) (by decide +kernel)
theorem wm_780 : (Jvm.Cond.laysFinal "DyeRingModel" "DyeRingModel" "state" "[I") ∈ WA := wa_of 780 (by decide +kernel) (by decide +kernel)
theorem wm_782 : (Jvm.Cond.laysFinal "DyeRingModel" "DyeRingModel" "bathOf" "[I") ∈ WA := wa_of 782 (by decide +kernel) (by decide +kernel)
theorem wm_784 : (Jvm.Cond.laysFinal "DyeRingModel" "DyeRingModel" "hadStrength" "[I") ∈ WA := wa_of 784 (by decide +kernel) (by decide +kernel)
theorem wm_786 : (Jvm.Cond.laysFinal "DyeRingModel" "DyeRingModel" "hadWater" "[I") ∈ WA := wa_of 786 (by decide +kernel) (by decide +kernel)
theorem wm_788 : (Jvm.Cond.laysFinal "DyeRingModel" "DyeRingModel" "hadFirst" "[I") ∈ WA := wa_of 788 (by decide +kernel) (by decide +kernel)
theorem wm_790 : (Jvm.Cond.laysFinal "DyeRingModel" "DyeRingModel" "hadSecond" "[I") ∈ WA := wa_of 790 (by decide +kernel) (by decide +kernel)
theorem wm_792 : (Jvm.Cond.laysFinal "DyeRingModel" "DyeRingModel" "blames" "[I") ∈ WA := wa_of 792 (by decide +kernel) (by decide +kernel)
theorem wm_794 : (Jvm.Cond.laysFinal "DyeRingModel" "DyeRingModel" "shrinkage" "[I") ∈ WA := wa_of 794 (by decide +kernel) (by decide +kernel)
theorem wm_796 : (Jvm.Cond.laysFinal "DyeRingModel" "DyeRingModel" "debts" "[I") ∈ WA := wa_of 796 (by decide +kernel) (by decide +kernel)
theorem wm_798 : (Jvm.Cond.laysFinal "DyeRingModel" "DyeRingModel" "positions" "[I") ∈ WA := wa_of 798 (by decide +kernel) (by decide +kernel)
theorem wm_800 : (Jvm.Cond.lays "DyeRingModel" "DyeRingModel" "thrown" "I") ∈ WA := wa_of 800 (by decide +kernel) (by decide +kernel)
theorem wm_802 : (Jvm.Cond.superclass "DyeRingModel" "java/lang/Object") ∈ WA := wa_of 802 (by decide +kernel) (by decide +kernel)
theorem wm_803 : (Jvm.Cond.methodLink "DyeRingLaw" (91 : Nat) ({ cls := "DyeRingModel", name := "thrown", desc := "()I" } : Jvm.MethodName)) ∈ WA := wa_of 803 (by decide +kernel) (by decide +kernel)
theorem wm_804 : (Jvm.Cond.instanceMethod ({ cls := "DyeRingModel", name := "thrown", desc := "()I" } : Jvm.MethodName)) ∈ WA := wa_of 804 (by decide +kernel) (by decide +kernel)
theorem wm_805 : (Jvm.Cond.selects "DyeRingModel" ({ cls := "DyeRingModel", name := "thrown", desc := "()I" } : Jvm.MethodName) ({ cls := "DyeRingModel", name := "thrown", desc := "()I" } : Jvm.MethodName)) ∈ WA := wa_of 805 (by decide +kernel) (by decide +kernel)
theorem wm_806 : (Jvm.Cond.code ({ cls := "DyeRingModel", name := "thrown", desc := "()I" } : Jvm.MethodName) prog_8_method_2_code (1 : Nat) (Option.some Jvm.ClassFile.FieldType.int)) ∈ WA := wa_of 806 (by decide +kernel) (by decide +kernel)
theorem wm_807 : (Jvm.Cond.methodLink "DyeRingLaw" (90 : Nat) ({ cls := "DyeRingModel", name := "entry", desc := "(III)I" } : Jvm.MethodName)) ∈ WA := wa_of 807 (by decide +kernel) (by decide +kernel)
theorem wm_808 : (Jvm.Cond.instanceMethod ({ cls := "DyeRingModel", name := "entry", desc := "(III)I" } : Jvm.MethodName)) ∈ WA := wa_of 808 (by decide +kernel) (by decide +kernel)
theorem wm_809 : (Jvm.Cond.selects "DyeRingModel" ({ cls := "DyeRingModel", name := "entry", desc := "(III)I" } : Jvm.MethodName) ({ cls := "DyeRingModel", name := "entry", desc := "(III)I" } : Jvm.MethodName)) ∈ WA := wa_of 809 (by decide +kernel) (by decide +kernel)
theorem wm_810 : (Jvm.Cond.code ({ cls := "DyeRingModel", name := "entry", desc := "(III)I" } : Jvm.MethodName) prog_8_method_12_code (4 : Nat) (Option.some Jvm.ClassFile.FieldType.int)) ∈ WA := wa_of 810 (by decide +kernel) (by decide +kernel)
theorem wm_811 : (Jvm.Cond.methodLink "DyeRingModel" (74 : Nat) ({ cls := "DyeRingModel", name := "isIn", desc := "(III)Z" } : Jvm.MethodName)) ∈ WA := wa_of 811 (by decide +kernel) (by decide +kernel)
theorem wm_812 : (Jvm.Cond.static ({ cls := "DyeRingModel", name := "isIn", desc := "(III)Z" } : Jvm.MethodName)) ∈ WA := wa_of 812 (by decide +kernel) (by decide +kernel)
theorem wm_813 : (Jvm.Cond.code ({ cls := "DyeRingModel", name := "isIn", desc := "(III)Z" } : Jvm.MethodName) prog_8_method_6_code (3 : Nat) (Option.some Jvm.ClassFile.FieldType.boolean)) ∈ WA := wa_of 813 (by decide +kernel) (by decide +kernel)
theorem wm_814 : (Jvm.Cond.methodLink "DyeRingModel" (87 : Nat) ({ cls := "DyeRingModel", name := "mayBoth", desc := "(ZZ)Z" } : Jvm.MethodName)) ∈ WA := wa_of 814 (by decide +kernel) (by decide +kernel)
theorem wm_816 : (Jvm.Cond.instanceMethod ({ cls := "DyeRingModel", name := "mayBoth", desc := "(ZZ)Z" } : Jvm.MethodName)) ∈ WA := wa_of 816 (by decide +kernel) (by decide +kernel)
theorem wm_817 : (Jvm.Cond.code ({ cls := "DyeRingModel", name := "mayBoth", desc := "(ZZ)Z" } : Jvm.MethodName) prog_8_method_4_code (3 : Nat) (Option.some Jvm.ClassFile.FieldType.boolean)) ∈ WA := wa_of 817 (by decide +kernel) (by decide +kernel)
theorem wm_818 : (Jvm.Cond.methodLink "DyeRingLaw" (98 : Nat) ({ cls := "DyeRingModel", name := "water", desc := "(II)I" } : Jvm.MethodName)) ∈ WA := wa_of 818 (by decide +kernel) (by decide +kernel)
theorem wm_819 : (Jvm.Cond.instanceMethod ({ cls := "DyeRingModel", name := "water", desc := "(II)I" } : Jvm.MethodName)) ∈ WA := wa_of 819 (by decide +kernel) (by decide +kernel)
theorem wm_820 : (Jvm.Cond.selects "DyeRingModel" ({ cls := "DyeRingModel", name := "water", desc := "(II)I" } : Jvm.MethodName) ({ cls := "DyeRingModel", name := "water", desc := "(II)I" } : Jvm.MethodName)) ∈ WA := wa_of 820 (by decide +kernel) (by decide +kernel)
theorem wm_821 : (Jvm.Cond.code ({ cls := "DyeRingModel", name := "water", desc := "(II)I" } : Jvm.MethodName) prog_8_method_13_code (4 : Nat) (Option.some Jvm.ClassFile.FieldType.int)) ∈ WA := wa_of 821 (by decide +kernel) (by decide +kernel)
theorem wm_822 : (Jvm.Cond.methodLink "DyeRingModel" (91 : Nat) ({ cls := "DyeRingModel", name := "isThird", desc := "(I)Z" } : Jvm.MethodName)) ∈ WA := wa_of 822 (by decide +kernel) (by decide +kernel)
theorem wm_823 : (Jvm.Cond.static ({ cls := "DyeRingModel", name := "isThird", desc := "(I)Z" } : Jvm.MethodName)) ∈ WA := wa_of 823 (by decide +kernel) (by decide +kernel)
theorem wm_824 : (Jvm.Cond.code ({ cls := "DyeRingModel", name := "isThird", desc := "(I)Z" } : Jvm.MethodName) prog_8_method_7_code (1 : Nat) (Option.some Jvm.ClassFile.FieldType.boolean)) ∈ WA := wa_of 824 (by decide +kernel) (by decide +kernel)
theorem wm_825 : (Jvm.Cond.methodLink "DyeRingLaw" (101 : Nat) ({ cls := "DyeRingModel", name := "yarn", desc := "(III)I" } : Jvm.MethodName)) ∈ WA := wa_of 825 (by decide +kernel) (by decide +kernel)
theorem wm_826 : (Jvm.Cond.instanceMethod ({ cls := "DyeRingModel", name := "yarn", desc := "(III)I" } : Jvm.MethodName)) ∈ WA := wa_of 826 (by decide +kernel) (by decide +kernel)
theorem wm_827 : (Jvm.Cond.selects "DyeRingModel" ({ cls := "DyeRingModel", name := "yarn", desc := "(III)I" } : Jvm.MethodName) ({ cls := "DyeRingModel", name := "yarn", desc := "(III)I" } : Jvm.MethodName)) ∈ WA := wa_of 827 (by decide +kernel) (by decide +kernel)
theorem wm_828 : (Jvm.Cond.code ({ cls := "DyeRingModel", name := "yarn", desc := "(III)I" } : Jvm.MethodName) prog_8_method_14_code (5 : Nat) (Option.some Jvm.ClassFile.FieldType.int)) ∈ WA := wa_of 828 (by decide +kernel) (by decide +kernel)
theorem wm_829 : (Jvm.Cond.methodLink "DyeRingLaw" (104 : Nat) ({ cls := "DyeRingModel", name := "apart", desc := "(II)I" } : Jvm.MethodName)) ∈ WA := wa_of 829 (by decide +kernel) (by decide +kernel)
theorem wm_830 : (Jvm.Cond.instanceMethod ({ cls := "DyeRingModel", name := "apart", desc := "(II)I" } : Jvm.MethodName)) ∈ WA := wa_of 830 (by decide +kernel) (by decide +kernel)
theorem wm_831 : (Jvm.Cond.selects "DyeRingModel" ({ cls := "DyeRingModel", name := "apart", desc := "(II)I" } : Jvm.MethodName) ({ cls := "DyeRingModel", name := "apart", desc := "(II)I" } : Jvm.MethodName)) ∈ WA := wa_of 831 (by decide +kernel) (by decide +kernel)
theorem wm_832 : (Jvm.Cond.code ({ cls := "DyeRingModel", name := "apart", desc := "(II)I" } : Jvm.MethodName) prog_8_method_15_code (3 : Nat) (Option.some Jvm.ClassFile.FieldType.int)) ∈ WA := wa_of 832 (by decide +kernel) (by decide +kernel)
theorem wm_833 : (Jvm.Cond.methodLink "DyeRingModel" (95 : Nat) ({ cls := "DyeRingModel", name := "isEntry", desc := "(I)Z" } : Jvm.MethodName)) ∈ WA := wa_of 833 (by decide +kernel) (by decide +kernel)
theorem wm_835 : (Jvm.Cond.instanceMethod ({ cls := "DyeRingModel", name := "isEntry", desc := "(I)Z" } : Jvm.MethodName)) ∈ WA := wa_of 835 (by decide +kernel) (by decide +kernel)
theorem wm_836 : (Jvm.Cond.code ({ cls := "DyeRingModel", name := "isEntry", desc := "(I)Z" } : Jvm.MethodName) prog_8_method_8_code (2 : Nat) (Option.some Jvm.ClassFile.FieldType.boolean)) ∈ WA := wa_of 836 (by decide +kernel) (by decide +kernel)
theorem wm_837 : (Jvm.Cond.methodLink "DyeRingModel" (98 : Nat) ({ cls := "DyeRingModel", name := "may", desc := "(Z)Z" } : Jvm.MethodName)) ∈ WA := wa_of 837 (by decide +kernel) (by decide +kernel)
theorem wm_839 : (Jvm.Cond.instanceMethod ({ cls := "DyeRingModel", name := "may", desc := "(Z)Z" } : Jvm.MethodName)) ∈ WA := wa_of 839 (by decide +kernel) (by decide +kernel)
theorem wm_840 : (Jvm.Cond.code ({ cls := "DyeRingModel", name := "may", desc := "(Z)Z" } : Jvm.MethodName) prog_8_method_3_code (2 : Nat) (Option.some Jvm.ClassFile.FieldType.boolean)) ∈ WA := wa_of 840 (by decide +kernel) (by decide +kernel)
theorem wm_841 : (Jvm.Cond.methodLink "DyeRingModel" (102 : Nat) ({ cls := "DyeRingModel", name := "far", desc := "(II)I" } : Jvm.MethodName)) ∈ WA := wa_of 841 (by decide +kernel) (by decide +kernel)
theorem wm_842 : (Jvm.Cond.static ({ cls := "DyeRingModel", name := "far", desc := "(II)I" } : Jvm.MethodName)) ∈ WA := wa_of 842 (by decide +kernel) (by decide +kernel)
theorem wm_843 : (Jvm.Cond.code ({ cls := "DyeRingModel", name := "far", desc := "(II)I" } : Jvm.MethodName) prog_8_method_11_code (2 : Nat) (Option.some Jvm.ClassFile.FieldType.int)) ∈ WA := wa_of 843 (by decide +kernel) (by decide +kernel)
theorem wm_844 : (Jvm.Cond.methodLink "DyeRingLaw" (107 : Nat) ({ cls := "DyeRingModel", name := "bath", desc := "(II)I" } : Jvm.MethodName)) ∈ WA := wa_of 844 (by decide +kernel) (by decide +kernel)
theorem wm_845 : (Jvm.Cond.instanceMethod ({ cls := "DyeRingModel", name := "bath", desc := "(II)I" } : Jvm.MethodName)) ∈ WA := wa_of 845 (by decide +kernel) (by decide +kernel)
theorem wm_846 : (Jvm.Cond.selects "DyeRingModel" ({ cls := "DyeRingModel", name := "bath", desc := "(II)I" } : Jvm.MethodName) ({ cls := "DyeRingModel", name := "bath", desc := "(II)I" } : Jvm.MethodName)) ∈ WA := wa_of 846 (by decide +kernel) (by decide +kernel)
theorem wm_847 : (Jvm.Cond.code ({ cls := "DyeRingModel", name := "bath", desc := "(II)I" } : Jvm.MethodName) prog_8_method_16_code (3 : Nat) (Option.some Jvm.ClassFile.FieldType.int)) ∈ WA := wa_of 847 (by decide +kernel) (by decide +kernel)
theorem wm_848 : (Jvm.Cond.methodLink "DyeRingLaw" (111 : Nat) ({ cls := "DyeRingModel", name := "freshen", desc := "(I)I" } : Jvm.MethodName)) ∈ WA := wa_of 848 (by decide +kernel) (by decide +kernel)
theorem wm_849 : (Jvm.Cond.instanceMethod ({ cls := "DyeRingModel", name := "freshen", desc := "(I)I" } : Jvm.MethodName)) ∈ WA := wa_of 849 (by decide +kernel) (by decide +kernel)
theorem wm_850 : (Jvm.Cond.selects "DyeRingModel" ({ cls := "DyeRingModel", name := "freshen", desc := "(I)I" } : Jvm.MethodName) ({ cls := "DyeRingModel", name := "freshen", desc := "(I)I" } : Jvm.MethodName)) ∈ WA := wa_of 850 (by decide +kernel) (by decide +kernel)
theorem wm_851 : (Jvm.Cond.code ({ cls := "DyeRingModel", name := "freshen", desc := "(I)I" } : Jvm.MethodName) prog_8_method_17_code (3 : Nat) (Option.some Jvm.ClassFile.FieldType.int)) ∈ WA := wa_of 851 (by decide +kernel) (by decide +kernel)
theorem wm_852 : (Jvm.Cond.methodLink "DyeRingModel" (106 : Nat) ({ cls := "DyeRingModel", name := "isBath", desc := "(I)Z" } : Jvm.MethodName)) ∈ WA := wa_of 852 (by decide +kernel) (by decide +kernel)
theorem wm_854 : (Jvm.Cond.instanceMethod ({ cls := "DyeRingModel", name := "isBath", desc := "(I)Z" } : Jvm.MethodName)) ∈ WA := wa_of 854 (by decide +kernel) (by decide +kernel)
theorem wm_855 : (Jvm.Cond.code ({ cls := "DyeRingModel", name := "isBath", desc := "(I)Z" } : Jvm.MethodName) prog_8_method_9_code (2 : Nat) (Option.some Jvm.ClassFile.FieldType.boolean)) ∈ WA := wa_of 855 (by decide +kernel) (by decide +kernel)
theorem wm_856 : (Jvm.Cond.methodLink "DyeRingLaw" (114 : Nat) ({ cls := "DyeRingModel", name := "strength", desc := "(I)I" } : Jvm.MethodName)) ∈ WA := wa_of 856 (by decide +kernel) (by decide +kernel)
theorem wm_857 : (Jvm.Cond.instanceMethod ({ cls := "DyeRingModel", name := "strength", desc := "(I)I" } : Jvm.MethodName)) ∈ WA := wa_of 857 (by decide +kernel) (by decide +kernel)
theorem wm_858 : (Jvm.Cond.selects "DyeRingModel" ({ cls := "DyeRingModel", name := "strength", desc := "(I)I" } : Jvm.MethodName) ({ cls := "DyeRingModel", name := "strength", desc := "(I)I" } : Jvm.MethodName)) ∈ WA := wa_of 858 (by decide +kernel) (by decide +kernel)
theorem wm_859 : (Jvm.Cond.code ({ cls := "DyeRingModel", name := "strength", desc := "(I)I" } : Jvm.MethodName) prog_8_method_18_code (2 : Nat) (Option.some Jvm.ClassFile.FieldType.int)) ∈ WA := wa_of 859 (by decide +kernel) (by decide +kernel)
theorem wm_860 : (Jvm.Cond.methodLink "DyeRingLaw" (117 : Nat) ({ cls := "DyeRingModel", name := "order", desc := "(III)I" } : Jvm.MethodName)) ∈ WA := wa_of 860 (by decide +kernel) (by decide +kernel)
theorem wm_861 : (Jvm.Cond.instanceMethod ({ cls := "DyeRingModel", name := "order", desc := "(III)I" } : Jvm.MethodName)) ∈ WA := wa_of 861 (by decide +kernel) (by decide +kernel)
theorem wm_862 : (Jvm.Cond.selects "DyeRingModel" ({ cls := "DyeRingModel", name := "order", desc := "(III)I" } : Jvm.MethodName) ({ cls := "DyeRingModel", name := "order", desc := "(III)I" } : Jvm.MethodName)) ∈ WA := wa_of 862 (by decide +kernel) (by decide +kernel)
theorem wm_863 : (Jvm.Cond.code ({ cls := "DyeRingModel", name := "order", desc := "(III)I" } : Jvm.MethodName) prog_8_method_19_code (4 : Nat) (Option.some Jvm.ClassFile.FieldType.int)) ∈ WA := wa_of 863 (by decide +kernel) (by decide +kernel)
theorem wm_864 : (Jvm.Cond.methodLink "DyeRingModel" (109 : Nat) ({ cls := "DyeRingModel", name := "mayAll", desc := "(ZZZ)Z" } : Jvm.MethodName)) ∈ WA := wa_of 864 (by decide +kernel) (by decide +kernel)
theorem wm_866 : (Jvm.Cond.instanceMethod ({ cls := "DyeRingModel", name := "mayAll", desc := "(ZZZ)Z" } : Jvm.MethodName)) ∈ WA := wa_of 866 (by decide +kernel) (by decide +kernel)
theorem wm_867 : (Jvm.Cond.code ({ cls := "DyeRingModel", name := "mayAll", desc := "(ZZZ)Z" } : Jvm.MethodName) prog_8_method_5_code (4 : Nat) (Option.some Jvm.ClassFile.FieldType.boolean)) ∈ WA := wa_of 867 (by decide +kernel) (by decide +kernel)
theorem wm_868 : (Jvm.Cond.methodLink "DyeRingLaw" (120 : Nat) ({ cls := "DyeRingModel", name := "place", desc := "(I)I" } : Jvm.MethodName)) ∈ WA := wa_of 868 (by decide +kernel) (by decide +kernel)
theorem wm_869 : (Jvm.Cond.instanceMethod ({ cls := "DyeRingModel", name := "place", desc := "(I)I" } : Jvm.MethodName)) ∈ WA := wa_of 869 (by decide +kernel) (by decide +kernel)
theorem wm_870 : (Jvm.Cond.selects "DyeRingModel" ({ cls := "DyeRingModel", name := "place", desc := "(I)I" } : Jvm.MethodName) ({ cls := "DyeRingModel", name := "place", desc := "(I)I" } : Jvm.MethodName)) ∈ WA := wa_of 870 (by decide +kernel) (by decide +kernel)
theorem wm_871 : (Jvm.Cond.code ({ cls := "DyeRingModel", name := "place", desc := "(I)I" } : Jvm.MethodName) prog_8_method_24_code (7 : Nat) (Option.some Jvm.ClassFile.FieldType.int)) ∈ WA := wa_of 871 (by decide +kernel) (by decide +kernel)
theorem wm_872 : (Jvm.Cond.methodLink "DyeRingModel" (117 : Nat) ({ cls := "DyeRingModel", name := "isOrder", desc := "(I)Z" } : Jvm.MethodName)) ∈ WA := wa_of 872 (by decide +kernel) (by decide +kernel)
theorem wm_874 : (Jvm.Cond.instanceMethod ({ cls := "DyeRingModel", name := "isOrder", desc := "(I)Z" } : Jvm.MethodName)) ∈ WA := wa_of 874 (by decide +kernel) (by decide +kernel)
theorem wm_875 : (Jvm.Cond.code ({ cls := "DyeRingModel", name := "isOrder", desc := "(I)Z" } : Jvm.MethodName) prog_8_method_10_code (2 : Nat) (Option.some Jvm.ClassFile.FieldType.boolean)) ∈ WA := wa_of 875 (by decide +kernel) (by decide +kernel)
theorem wm_876 : (Jvm.Cond.methodLink "DyeRingModel" (120 : Nat) ({ cls := "DyeRingModel", name := "offBy", desc := "(II)I" } : Jvm.MethodName)) ∈ WA := wa_of 876 (by decide +kernel) (by decide +kernel)
theorem wm_878 : (Jvm.Cond.instanceMethod ({ cls := "DyeRingModel", name := "offBy", desc := "(II)I" } : Jvm.MethodName)) ∈ WA := wa_of 878 (by decide +kernel) (by decide +kernel)
theorem wm_879 : (Jvm.Cond.code ({ cls := "DyeRingModel", name := "offBy", desc := "(II)I" } : Jvm.MethodName) prog_8_method_21_code (4 : Nat) (Option.some Jvm.ClassFile.FieldType.int)) ∈ WA := wa_of 879 (by decide +kernel) (by decide +kernel)
theorem wm_880 : (Jvm.Cond.methodLink "DyeRingModel" (113 : Nat) ({ cls := "DyeRingModel", name := "off", desc := "(IIII)I" } : Jvm.MethodName)) ∈ WA := wa_of 880 (by decide +kernel) (by decide +kernel)
theorem wm_882 : (Jvm.Cond.instanceMethod ({ cls := "DyeRingModel", name := "off", desc := "(IIII)I" } : Jvm.MethodName)) ∈ WA := wa_of 882 (by decide +kernel) (by decide +kernel)
theorem wm_883 : (Jvm.Cond.code ({ cls := "DyeRingModel", name := "off", desc := "(IIII)I" } : Jvm.MethodName) prog_8_method_20_code (7 : Nat) (Option.some Jvm.ClassFile.FieldType.int)) ∈ WA := wa_of 883 (by decide +kernel) (by decide +kernel)
theorem wm_884 : (Jvm.Cond.methodLink "DyeRingModel" (123 : Nat) ({ cls := "DyeRingModel", name := "dyeIn", desc := "(II)V" } : Jvm.MethodName)) ∈ WA := wa_of 884 (by decide +kernel) (by decide +kernel)
theorem wm_886 : (Jvm.Cond.instanceMethod ({ cls := "DyeRingModel", name := "dyeIn", desc := "(II)V" } : Jvm.MethodName)) ∈ WA := wa_of 886 (by decide +kernel) (by decide +kernel)
theorem wm_887 : (Jvm.Cond.code ({ cls := "DyeRingModel", name := "dyeIn", desc := "(II)V" } : Jvm.MethodName) prog_8_method_23_code (3 : Nat) (Option.none : Option Jvm.ClassFile.FieldType)) ∈ WA := wa_of 887 (by decide +kernel) (by decide +kernel)
theorem wm_888 : (Jvm.Cond.methodLink "DyeRingLaw" (123 : Nat) ({ cls := "DyeRingModel", name := "dye", desc := "(II)I" } : Jvm.MethodName)) ∈ WA := wa_of 888 (by decide +kernel) (by decide +kernel)
theorem wm_889 : (Jvm.Cond.instanceMethod ({ cls := "DyeRingModel", name := "dye", desc := "(II)I" } : Jvm.MethodName)) ∈ WA := wa_of 889 (by decide +kernel) (by decide +kernel)
theorem wm_890 : (Jvm.Cond.selects "DyeRingModel" ({ cls := "DyeRingModel", name := "dye", desc := "(II)I" } : Jvm.MethodName) ({ cls := "DyeRingModel", name := "dye", desc := "(II)I" } : Jvm.MethodName)) ∈ WA := wa_of 890 (by decide +kernel) (by decide +kernel)
theorem wm_891 : (Jvm.Cond.code ({ cls := "DyeRingModel", name := "dye", desc := "(II)I" } : Jvm.MethodName) prog_8_method_25_code (4 : Nat) (Option.some Jvm.ClassFile.FieldType.int)) ∈ WA := wa_of 891 (by decide +kernel) (by decide +kernel)
theorem wm_892 : (Jvm.Cond.methodLink "DyeRingModel" (127 : Nat) ({ cls := "DyeRingModel", name := "offOf", desc := "(I)I" } : Jvm.MethodName)) ∈ WA := wa_of 892 (by decide +kernel) (by decide +kernel)
theorem wm_894 : (Jvm.Cond.instanceMethod ({ cls := "DyeRingModel", name := "offOf", desc := "(I)I" } : Jvm.MethodName)) ∈ WA := wa_of 894 (by decide +kernel) (by decide +kernel)
theorem wm_895 : (Jvm.Cond.code ({ cls := "DyeRingModel", name := "offOf", desc := "(I)I" } : Jvm.MethodName) prog_8_method_22_code (2 : Nat) (Option.some Jvm.ClassFile.FieldType.int)) ∈ WA := wa_of 895 (by decide +kernel) (by decide +kernel)
theorem wm_896 : (Jvm.Cond.methodLink "DyeRingLaw" (126 : Nat) ({ cls := "DyeRingModel", name := "claim", desc := "(I)I" } : Jvm.MethodName)) ∈ WA := wa_of 896 (by decide +kernel) (by decide +kernel)
theorem wm_897 : (Jvm.Cond.instanceMethod ({ cls := "DyeRingModel", name := "claim", desc := "(I)I" } : Jvm.MethodName)) ∈ WA := wa_of 897 (by decide +kernel) (by decide +kernel)
theorem wm_898 : (Jvm.Cond.selects "DyeRingModel" ({ cls := "DyeRingModel", name := "claim", desc := "(I)I" } : Jvm.MethodName) ({ cls := "DyeRingModel", name := "claim", desc := "(I)I" } : Jvm.MethodName)) ∈ WA := wa_of 898 (by decide +kernel) (by decide +kernel)
theorem wm_899 : (Jvm.Cond.code ({ cls := "DyeRingModel", name := "claim", desc := "(I)I" } : Jvm.MethodName) prog_8_method_26_code (8 : Nat) (Option.some Jvm.ClassFile.FieldType.int)) ∈ WA := wa_of 899 (by decide +kernel) (by decide +kernel)
theorem wm_900 : (Jvm.Cond.methodLink "DyeRingLaw" (129 : Nat) ({ cls := "DyeRingModel", name := "stateOf", desc := "(I)I" } : Jvm.MethodName)) ∈ WA := wa_of 900 (by decide +kernel) (by decide +kernel)
theorem wm_901 : (Jvm.Cond.instanceMethod ({ cls := "DyeRingModel", name := "stateOf", desc := "(I)I" } : Jvm.MethodName)) ∈ WA := wa_of 901 (by decide +kernel) (by decide +kernel)
theorem wm_902 : (Jvm.Cond.selects "DyeRingModel" ({ cls := "DyeRingModel", name := "stateOf", desc := "(I)I" } : Jvm.MethodName) ({ cls := "DyeRingModel", name := "stateOf", desc := "(I)I" } : Jvm.MethodName)) ∈ WA := wa_of 902 (by decide +kernel) (by decide +kernel)
theorem wm_903 : (Jvm.Cond.code ({ cls := "DyeRingModel", name := "stateOf", desc := "(I)I" } : Jvm.MethodName) prog_8_method_27_code (2 : Nat) (Option.some Jvm.ClassFile.FieldType.int)) ∈ WA := wa_of 903 (by decide +kernel) (by decide +kernel)
theorem wm_904 : (Jvm.Cond.methodLink "DyeRingLaw" (132 : Nat) ({ cls := "DyeRingModel", name := "colour", desc := "(II)I" } : Jvm.MethodName)) ∈ WA := wa_of 904 (by decide +kernel) (by decide +kernel)
theorem wm_905 : (Jvm.Cond.instanceMethod ({ cls := "DyeRingModel", name := "colour", desc := "(II)I" } : Jvm.MethodName)) ∈ WA := wa_of 905 (by decide +kernel) (by decide +kernel)
theorem wm_906 : (Jvm.Cond.selects "DyeRingModel" ({ cls := "DyeRingModel", name := "colour", desc := "(II)I" } : Jvm.MethodName) ({ cls := "DyeRingModel", name := "colour", desc := "(II)I" } : Jvm.MethodName)) ∈ WA := wa_of 906 (by decide +kernel) (by decide +kernel)
theorem wm_907 : (Jvm.Cond.code ({ cls := "DyeRingModel", name := "colour", desc := "(II)I" } : Jvm.MethodName) prog_8_method_28_code (5 : Nat) (Option.some Jvm.ClassFile.FieldType.int)) ∈ WA := wa_of 907 (by decide +kernel) (by decide +kernel)
theorem wm_908 : (Jvm.Cond.methodLink "DyeRingLaw" (135 : Nat) ({ cls := "DyeRingModel", name := "colourByBath", desc := "(II)I" } : Jvm.MethodName)) ∈ WA := wa_of 908 (by decide +kernel) (by decide +kernel)
theorem wm_909 : (Jvm.Cond.instanceMethod ({ cls := "DyeRingModel", name := "colourByBath", desc := "(II)I" } : Jvm.MethodName)) ∈ WA := wa_of 909 (by decide +kernel) (by decide +kernel)
theorem wm_910 : (Jvm.Cond.selects "DyeRingModel" ({ cls := "DyeRingModel", name := "colourByBath", desc := "(II)I" } : Jvm.MethodName) ({ cls := "DyeRingModel", name := "colourByBath", desc := "(II)I" } : Jvm.MethodName)) ∈ WA := wa_of 910 (by decide +kernel) (by decide +kernel)
theorem wm_911 : (Jvm.Cond.code ({ cls := "DyeRingModel", name := "colourByBath", desc := "(II)I" } : Jvm.MethodName) prog_8_method_29_code (3 : Nat) (Option.some Jvm.ClassFile.FieldType.int)) ∈ WA := wa_of 911 (by decide +kernel) (by decide +kernel)
theorem wm_912 : (Jvm.Cond.methodLink "DyeRingModel" (131 : Nat) ({ cls := "DyeRingModel", name := "colour", desc := "(II)I" } : Jvm.MethodName)) ∈ WA := wa_of 912 (by decide +kernel) (by decide +kernel)
theorem wm_913 : (Jvm.Cond.methodLink "DyeRingLaw" (138 : Nat) ({ cls := "DyeRingModel", name := "blamed", desc := "(II)I" } : Jvm.MethodName)) ∈ WA := wa_of 913 (by decide +kernel) (by decide +kernel)
theorem wm_914 : (Jvm.Cond.instanceMethod ({ cls := "DyeRingModel", name := "blamed", desc := "(II)I" } : Jvm.MethodName)) ∈ WA := wa_of 914 (by decide +kernel) (by decide +kernel)
theorem wm_915 : (Jvm.Cond.selects "DyeRingModel" ({ cls := "DyeRingModel", name := "blamed", desc := "(II)I" } : Jvm.MethodName) ({ cls := "DyeRingModel", name := "blamed", desc := "(II)I" } : Jvm.MethodName)) ∈ WA := wa_of 915 (by decide +kernel) (by decide +kernel)
theorem wm_916 : (Jvm.Cond.code ({ cls := "DyeRingModel", name := "blamed", desc := "(II)I" } : Jvm.MethodName) prog_8_method_30_code (3 : Nat) (Option.some Jvm.ClassFile.FieldType.int)) ∈ WA := wa_of 916 (by decide +kernel) (by decide +kernel)
theorem wm_917 : (Jvm.Cond.methodLink "DyeRingLaw" (141 : Nat) ({ cls := "DyeRingModel", name := "shrinks", desc := "(II)I" } : Jvm.MethodName)) ∈ WA := wa_of 917 (by decide +kernel) (by decide +kernel)
theorem wm_918 : (Jvm.Cond.instanceMethod ({ cls := "DyeRingModel", name := "shrinks", desc := "(II)I" } : Jvm.MethodName)) ∈ WA := wa_of 918 (by decide +kernel) (by decide +kernel)
theorem wm_919 : (Jvm.Cond.selects "DyeRingModel" ({ cls := "DyeRingModel", name := "shrinks", desc := "(II)I" } : Jvm.MethodName) ({ cls := "DyeRingModel", name := "shrinks", desc := "(II)I" } : Jvm.MethodName)) ∈ WA := wa_of 919 (by decide +kernel) (by decide +kernel)
theorem wm_920 : (Jvm.Cond.code ({ cls := "DyeRingModel", name := "shrinks", desc := "(II)I" } : Jvm.MethodName) prog_8_method_32_code (4 : Nat) (Option.some Jvm.ClassFile.FieldType.int)) ∈ WA := wa_of 920 (by decide +kernel) (by decide +kernel)
theorem wm_921 : (Jvm.Cond.methodLink "DyeRingLaw" (145 : Nat) ({ cls := "DyeRingModel", name := "give", desc := "(IIII)I" } : Jvm.MethodName)) ∈ WA := wa_of 921 (by decide +kernel) (by decide +kernel)
theorem wm_922 : (Jvm.Cond.instanceMethod ({ cls := "DyeRingModel", name := "give", desc := "(IIII)I" } : Jvm.MethodName)) ∈ WA := wa_of 922 (by decide +kernel) (by decide +kernel)
theorem wm_923 : (Jvm.Cond.selects "DyeRingModel" ({ cls := "DyeRingModel", name := "give", desc := "(IIII)I" } : Jvm.MethodName) ({ cls := "DyeRingModel", name := "give", desc := "(IIII)I" } : Jvm.MethodName)) ∈ WA := wa_of 923 (by decide +kernel) (by decide +kernel)
theorem wm_924 : (Jvm.Cond.code ({ cls := "DyeRingModel", name := "give", desc := "(IIII)I" } : Jvm.MethodName) prog_8_method_33_code (9 : Nat) (Option.some Jvm.ClassFile.FieldType.int)) ∈ WA := wa_of 924 (by decide +kernel) (by decide +kernel)
theorem wm_925 : (Jvm.Cond.methodLink "DyeRingModel" (134 : Nat) ({ cls := "DyeRingModel", name := "isPerson", desc := "(I)Z" } : Jvm.MethodName)) ∈ WA := wa_of 925 (by decide +kernel) (by decide +kernel)
theorem wm_926 : (Jvm.Cond.static ({ cls := "DyeRingModel", name := "isPerson", desc := "(I)Z" } : Jvm.MethodName)) ∈ WA := wa_of 926 (by decide +kernel) (by decide +kernel)
theorem wm_927 : (Jvm.Cond.code ({ cls := "DyeRingModel", name := "isPerson", desc := "(I)Z" } : Jvm.MethodName) prog_8_method_31_code (1 : Nat) (Option.some Jvm.ClassFile.FieldType.boolean)) ∈ WA := wa_of 927 (by decide +kernel) (by decide +kernel)
theorem wm_928 : (Jvm.Cond.constant "DyeRingModel" (137 : Nat) (100000 : Int32)) ∈ WA := wa_of 928 (by decide +kernel) (by decide +kernel)
theorem wm_929 : (Jvm.Cond.methodLink "DyeRingLaw" (148 : Nat) ({ cls := "DyeRingModel", name := "owes", desc := "(III)I" } : Jvm.MethodName)) ∈ WA := wa_of 929 (by decide +kernel) (by decide +kernel)
theorem wm_930 : (Jvm.Cond.instanceMethod ({ cls := "DyeRingModel", name := "owes", desc := "(III)I" } : Jvm.MethodName)) ∈ WA := wa_of 930 (by decide +kernel) (by decide +kernel)
theorem wm_931 : (Jvm.Cond.selects "DyeRingModel" ({ cls := "DyeRingModel", name := "owes", desc := "(III)I" } : Jvm.MethodName) ({ cls := "DyeRingModel", name := "owes", desc := "(III)I" } : Jvm.MethodName)) ∈ WA := wa_of 931 (by decide +kernel) (by decide +kernel)
theorem wm_932 : (Jvm.Cond.code ({ cls := "DyeRingModel", name := "owes", desc := "(III)I" } : Jvm.MethodName) prog_8_method_34_code (4 : Nat) (Option.some Jvm.ClassFile.FieldType.int)) ∈ WA := wa_of 932 (by decide +kernel) (by decide +kernel)
theorem wm_933 : (Jvm.Cond.methodLink "DyeRingLaw" (151 : Nat) ({ cls := "DyeRingModel", name := "position", desc := "(II)I" } : Jvm.MethodName)) ∈ WA := wa_of 933 (by decide +kernel) (by decide +kernel)
theorem wm_934 : (Jvm.Cond.instanceMethod ({ cls := "DyeRingModel", name := "position", desc := "(II)I" } : Jvm.MethodName)) ∈ WA := wa_of 934 (by decide +kernel) (by decide +kernel)
theorem wm_935 : (Jvm.Cond.selects "DyeRingModel" ({ cls := "DyeRingModel", name := "position", desc := "(II)I" } : Jvm.MethodName) ({ cls := "DyeRingModel", name := "position", desc := "(II)I" } : Jvm.MethodName)) ∈ WA := wa_of 935 (by decide +kernel) (by decide +kernel)
theorem wm_936 : (Jvm.Cond.code ({ cls := "DyeRingModel", name := "position", desc := "(II)I" } : Jvm.MethodName) prog_8_method_36_code (3 : Nat) (Option.some Jvm.ClassFile.FieldType.int)) ∈ WA := wa_of 936 (by decide +kernel) (by decide +kernel)
theorem wm_937 : (Jvm.Cond.methodLink "DyeRingModel" (138 : Nat) ({ cls := "DyeRingModel", name := "positionOf", desc := "(II)I" } : Jvm.MethodName)) ∈ WA := wa_of 937 (by decide +kernel) (by decide +kernel)
theorem wm_939 : (Jvm.Cond.instanceMethod ({ cls := "DyeRingModel", name := "positionOf", desc := "(II)I" } : Jvm.MethodName)) ∈ WA := wa_of 939 (by decide +kernel) (by decide +kernel)
theorem wm_940 : (Jvm.Cond.code ({ cls := "DyeRingModel", name := "positionOf", desc := "(II)I" } : Jvm.MethodName) prog_8_method_35_code (5 : Nat) (Option.some Jvm.ClassFile.FieldType.int)) ∈ WA := wa_of 940 (by decide +kernel) (by decide +kernel)
theorem wm_941 : (Jvm.Cond.methodLink "DyeRingLaw" (154 : Nat) ({ cls := "DyeRingModel", name := "net", desc := "(I)I" } : Jvm.MethodName)) ∈ WA := wa_of 941 (by decide +kernel) (by decide +kernel)
theorem wm_942 : (Jvm.Cond.instanceMethod ({ cls := "DyeRingModel", name := "net", desc := "(I)I" } : Jvm.MethodName)) ∈ WA := wa_of 942 (by decide +kernel) (by decide +kernel)
theorem wm_943 : (Jvm.Cond.selects "DyeRingModel" ({ cls := "DyeRingModel", name := "net", desc := "(I)I" } : Jvm.MethodName) ({ cls := "DyeRingModel", name := "net", desc := "(I)I" } : Jvm.MethodName)) ∈ WA := wa_of 943 (by decide +kernel) (by decide +kernel)
theorem wm_944 : (Jvm.Cond.code ({ cls := "DyeRingModel", name := "net", desc := "(I)I" } : Jvm.MethodName) prog_8_method_37_code (6 : Nat) (Option.some Jvm.ClassFile.FieldType.int)) ∈ WA := wa_of 944 (by decide +kernel) (by decide +kernel)
theorem wm_945 : (Jvm.Cond.arrayClass Jvm.ClassFile.FieldType.long) ∈ WA := wa_of 945 (by decide +kernel) (by decide +kernel)
theorem wm_946 : (Jvm.Cond.sameMethod "java/lang/Throwable" "java/lang/Throwable" "fillInStackTrace" "(I)Ljava/lang/Throwable;") ∈ WA := wa_of 946 (by decide +kernel) (by decide +kernel)
theorem wm_961 : (Jvm.Cond.sameMethod "[Ljava/lang/Object;" "java/lang/Object" "getClass" "()Ljava/lang/Class;") ∈ WA := wa_of 961 (by decide +kernel) (by decide +kernel)
theorem wm_962 : (Jvm.Cond.selects "[Ljava/lang/Object;" ({ cls := "java/lang/Object", name := "getClass", desc := "()Ljava/lang/Class;" } : Jvm.MethodName) ({ cls := "java/lang/Object", name := "getClass", desc := "()Ljava/lang/Class;" } : Jvm.MethodName)) ∈ WA := wa_of 962 (by decide +kernel) (by decide +kernel)
end
section
/-! THE MAP WORLD: M says what each cell of the system holds; the heap holds M -/
abbrev Mp : Type := Nat → Option va_E
abbrev gG : Type := Nat × va_G × (Nat → ClassId) × (Nat → Nat)
abbrev gA (g : gG) : Nat → Prop := fun q => g.1 ≤ q
abbrev gT (g : gG) : List (ClassId × FieldType) := [(g.2.2.1 0, .int), (g.2.2.1 1, .long), (g.2.2.1 2, .object "java/lang/Object"), (g.2.2.1 3, .object "DyeRing$Cloth"), (g.2.2.1 4, .array .int)]
abbrev eI (g : gG) (n : Nat) (f : Nat → Int32) : va_E := .inl (g.2.2.1 0, n, .inl f)
abbrev eL (g : gG) (n : Nat) (f : Nat → Int64) : va_E := .inl (g.2.2.1 1, n, .inr (.inl f))
abbrev eQ (g : gG) (k n : Nat) (f : Nat → Option Nat) : va_E := .inl (g.2.2.1 k, n, .inr (.inr (.inr (.inr f))))
abbrev eO (ci : Nat) (fs : List Value) : va_E := .inr (ci, fs)
def mu (M : Mp) (a : Nat) (e : va_E) : Mp := fun b => if b = a then some e else M b
theorem mu_s {M : Mp} {a : Nat} {e : va_E} : mu M a e a = some e := if_pos rfl
theorem mu_n {M : Mp} {a b : Nat} {e : va_E} (h : b ≠ a) : mu M a e b = M b := if_neg h
theorem mu_mu {M : Mp} {a : Nat} {e e' : va_E} : mu (mu M a e) a e' = mu M a e' := funext fun b => by
  unfold mu; by_cases h : b = a <;> simp [h]
theorem m_ne {M : Mp} {a b : Nat} {x y : va_E} (ha : M a = some x) (hb : M b = some y) (h : x ≠ y) : a ≠ b := fun q => h (Option.some.inj (ha.symm.trans (q ▸ hb)))
theorem m_new {M : Mp} {q b : Nat} {y : va_E} (hq : M q = none) (hb : M b = some y) : b ≠ q := fun h => by rw [h, hq] at hb; cases hb
def mw (D : va_G) (M : Mp) (H : Heap) : Prop := ∀ a e, M a = some e → va_at D vwCl (a, e) H
def Hw (g : gG) (M : Mp) (H : Heap) : Prop := mw g.2.1 M H ∧ ∀ a e, M a = some e → g.1 ≤ a
theorem mw_lt {D : va_G} {M : Mp} {H : Heap} (h : mw D M H) {a : Nat} {e : va_E} (ha : M a = some e) : a < H.size := (h a e ha).lt
theorem mw_none {D : va_G} {M : Mp} {H : Heap} (h : mw D M H) {a : Nat} (ha : H.size ≤ a) : M a = none := by
  cases hm : M a with
  | none => rfl
  | some e => exact absurd (mw_lt h hm) (Nat.not_lt.mpr ha)
theorem mw_ext {D : va_G} {M : Mp} {H H1 : Heap} (h : mw D M H) (hx : ∀ q, q < H.size → H1[q]? = H[q]?) : mw D M H1 := fun a e ha => (h a e ha).kept (hx a (mw_lt h ha))
theorem Hw_ext {g : gG} {M : Mp} {H H1 : Heap} (h : Hw g M H) (hx : ∀ q, q < H.size → H1[q]? = H[q]?) : Hw g M H1 := ⟨mw_ext h.1 hx, h.2⟩
theorem mw_one {D : va_G} {M : Mp} {H : Heap} (h : mw D M H) {a : Nat} {e : va_E} (ha : M a = some e) : va_P D vwCl [(a, e)] H := fun k q hk => by
  have hz : k < 1 := (List.getElem?_eq_some_iff.mp hk).1
  rw [show k = 0 by omega] at hk
  cases hk
  exact h a e ha
-- the map as a list of cells
def mL (M : Mp) (n : Nat) : List Nat := (List.range n).filter fun a => (M a).isSome
def mf (M : Mp) : Nat → va_E := fun a => (M a).getD (.inr (0, []))
theorem mL_mem {M : Mp} {n a : Nat} : a ∈ mL M n ↔ a < n ∧ (M a).isSome = true := by
  unfold mL; rw [List.mem_filter, List.mem_range]
theorem mL_in {M : Mp} {n a : Nat} {e : va_E} (h : M a = some e) (hn : a < n) : a ∈ mL M n := mL_mem.mpr ⟨hn, by rw [h]; rfl⟩
theorem mf_at {M : Mp} {a : Nat} {e : va_E} (h : M a = some e) : mf M a = e := by unfold mf; rw [h]; rfl
theorem mL_P {D : va_G} {M : Mp} {H : Heap} {n : Nat} (h : mw D M H) : va_P D vwCl ([] ++ va_pl (mL M n) (mf M)) H := fun k q hk => by
  have h1 := List.mem_of_getElem? hk
  rw [List.nil_append] at h1
  obtain ⟨a, ha, rfl⟩ := List.mem_map.mp h1
  obtain ⟨-, h2⟩ := mL_mem.mp ha
  obtain ⟨e, he⟩ := Option.isSome_iff_exists.mp h2
  rw [mf_at he]
  exact h a e he
theorem mL_D {A : Nat → Prop} {M : Mp} {n : Nat} (h : ∀ a e, M a = some e → A a) : va_D A ([] ++ va_pl (mL M n) (mf M)) := by
  have at' : ∀ (i : Nat) (q : Nat × va_E), ([] ++ va_pl (mL M n) (mf M))[i]? = some q → (mL M n)[i]? = some q.1 := fun i q hi => by
    rw [List.nil_append] at hi
    unfold va_pl at hi
    rw [List.getElem?_map] at hi
    cases hl : (mL M n)[i]? with
    | none => rw [hl] at hi; cases hi
    | some a => rw [hl] at hi; cases hi; rfl
  refine ⟨fun i j p q hi hj hpq => ?_, fun k q hk => ?_⟩
  · have h1 := at' i p hi
    have h2 := at' j q hj
    rw [hpq] at h1
    exact (List.getElem?_inj (List.getElem?_eq_some_iff.mp h1).1 (List.Pairwise.filter _ List.nodup_range)).mp (h1.trans h2.symm)
  · obtain ⟨-, h2⟩ := mL_mem.mp (List.mem_of_getElem? (at' k q hk))
    obtain ⟨e, he⟩ := Option.isSome_iff_exists.mp h2
    exact h _ e he
theorem mL_get {M : Mp} {n a : Nat} {e : va_E} (h : M a = some e) (hn : a < n) : ∃ k : Nat, ([] ++ va_pl (mL M n) (mf M))[k]? = some (a, e) := by
  obtain ⟨k, hk⟩ := va_pl_get (X := []) (f := mf M) (mL_in h hn)
  exact ⟨k, by rw [hk, mf_at h]⟩
theorem mL_set {D : va_G} {A : Nat → Prop} {M : Mp} {H H1 : Heap} {a k : Nat} {e e' : va_E} (hM : mw D M H) (hD : va_D A ([] ++ va_pl (mL M H.size) (mf M))) (h : M a = some e) (hk : ([] ++ va_pl (mL M H.size) (mf M))[k]? = some (a, e)) (hP : va_P D vwCl (([] ++ va_pl (mL M H.size) (mf M)).set k (a, e')) H1) : mw D (mu M a e') H1 := by
  rw [va_pl_set hD (mL_in h (mw_lt hM h)) (by rw [hk, mf_at h])] at hP
  intro b e2 hb
  by_cases hba : b = a
  · subst hba
    rw [mu_s] at hb
    cases hb
    obtain ⟨j, hj⟩ := va_pl_get (X := []) (f := va_up (mf M) b e') (mL_in h (mw_lt hM h))
    have := hP j _ hj
    simpa [va_up] using this
  · rw [mu_n hba] at hb
    obtain ⟨j, hj⟩ := va_pl_get (X := []) (f := va_up (mf M) a e') (mL_in hb (mw_lt hM hb))
    have := hP j _ hj
    rw [va_up, if_neg hba, mf_at hb] at this
    exact this
theorem mL_push {D : va_G} {A : Nat → Prop} {M : Mp} {H H1 : Heap} {q : Nat} {e : va_E} (hM : mw D M H) (hP : va_P D vwCl (([] ++ va_pl (mL M H.size) (mf M)) ++ [(q, e)]) H1) (hD : va_D A (([] ++ va_pl (mL M H.size) (mf M)) ++ [(q, e)])) : M q = none ∧ mw D (mu M q e) H1 ∧ A q := by
  have hq : q ∉ mL M H.size := va_pl_fresh2 hD
  have hn : M q = none := by
    cases hm : M q with
    | none => rfl
    | some e0 => exact absurd (mL_in hm (mw_lt hM hm)) hq
  refine ⟨hn, fun b e2 hb => ?_, ?_⟩
  · by_cases hba : b = q
    · subst hba
      rw [mu_s] at hb
      cases hb
      have := hP ([] ++ va_pl (mL M H.size) (mf M)).length (b, e) (by rw [List.getElem?_append_right (Nat.le_refl _), Nat.sub_self]; rfl)
      exact this
    · rw [mu_n hba] at hb
      obtain ⟨j, hj⟩ := mL_get hb (mw_lt hM hb)
      exact hP j _ (by rw [List.getElem?_append_left (List.getElem?_eq_some_iff.mp hj).1]; exact hj)
  · exact hD.2 ([] ++ va_pl (mL M H.size) (mf M)).length (q, e) (by rw [List.getElem?_append_right (Nat.le_refl _), Nat.sub_self]; rfl)
-- what the launch gives, and what stays of it
def gStr : List (String × Nat × String) := [("DyeRing", 210, "a value is out of its range"), ("DyeRing", 212, "there is no room for one more"), ("DyeRing", 207, "there is no such number"), ("DyeRing", 214, "the order is dyed already"), ("DyeRing", 117, "no bath is right for the order"), ("DyeRing", 136, "the bath is for another entry"), ("DyeRing", 216, "the order is still waiting"), ("DyeRing", 158, "the piece is claimed already, or not off"), ("DyeRing", 188, "nobody gives to themselves"), ("DyeRing", 197, "the debt would be too large")]
def xIA : String := "java/lang/IllegalArgumentException"
def xIS : String := "java/lang/IllegalStateException"
def xIO : String := "java/lang/IndexOutOfBoundsException"
def xNE : String := "java/util/NoSuchElementException"
def gXs : List String := [xIA, xIS, xIO, xNE]
def gNc : List (String × String) := [(xIA, xIO), (xIS, xIO), (xIS, xIA), (xNE, xIO), (xNE, xIS), (xIO, xIA), (xIO, xIS), (xIA, xIS)]
def gNest : List Cond := [.methodLinkNest "DyeRing" 43 ⟨"DyeRing$Cloth", "<init>", "()V"⟩ "DyeRing", .methodLinkNest "DyeRing$Bath" 47 ⟨"DyeRing", "weakened", "(II)I"⟩ "DyeRing"]
def gOb : List String := ["DyeRing$Entry", "DyeRing$Bath", "DyeRing$Order", "DyeRing$Piece"]
def gDcl : List Cond := [.declares ⟨"java/lang/RuntimeException", "<init>", "(Ljava/lang/String;)V"⟩, .declares ⟨"java/lang/Exception", "<init>", "(Ljava/lang/String;)V"⟩, .declares ⟨"java/lang/Throwable", "<init>", "(Ljava/lang/String;)V"⟩]
def gE (g : gG) (U : State) : Prop :=
  va_K g.2.1 vwCl (gT g) U ∧
  va_Z "java/util/ArrayList" "DEFAULTCAPACITY_EMPTY_ELEMENTDATA" "[Ljava/lang/Object;" (.ref (g.2.2.2 0)) (gA g) U U.heap ∧
  va_T (.object "java/lang/Object") (g.2.2.2 0) 0 (fun _ => .null) (gA g) U U.heap ∧
  (∀ q ∈ gStr, ∃ a, vk_R q.1 q.2.1 q.2.2 a U) ∧
  (vx_Zq Bundle.tN "UNASSIGNED_STACK" Bundle.steD (gA g) U U.heap ∧ vx_Zq Bundle.tN "SUPPRESSED_SENTINEL" Bundle.listD (gA g) U U.heap) ∧
  va_Mi "[Ljava/lang/Object;" (g.2.2.2 1) U ∧
  (∀ q ∈ gNc, va_Nc q.1 q.2 U) ∧ (∀ x ∈ gXs, va_Nw (.castable x x) U) ∧
  (va_Nw (.methodLinkNest "DyeRing" 43 ⟨"DyeRing$Cloth", "<init>", "()V"⟩ "DyeRing") U ∧ va_Nw (.methodLinkNest "DyeRing$Bath" 47 ⟨"DyeRing", "weakened", "(II)I"⟩ "DyeRing") U) ∧
  (va_AO "java/lang/Object" U ∧ va_AO "DyeRing$Cloth" U ∧ va_AOA .int U) ∧ va_Dc U ∧ g.1 ≤ U.heap.size ∧ (∀ x ∈ gOb, va_Nw (.castable x "java/lang/Object") U) ∧ ∀ w ∈ gDcl, va_Nw w U
theorem va_AOA_moved {ty : FieldType} {u U : State} (hvm : u.vm.Alike U.vm) (h : va_AOA ty u) : va_AOA ty U := by
  obtain ⟨comp, c, k, h1, h2, h3, h4, h5⟩ := arrayOverA_spec h
  obtain ⟨k', hk', he⟩ := hvm.2.2 _ _ h3
  have hi : (U.vm.classes.findIdx? fun (x : Class) => match x.kind with | .array component _ => component == comp | _ => false) = some c := by
    have e1 := va_idx_bare U.vm comp
    have e2 := va_idx_bare u.vm comp
    have hbe : U.vm.bare = u.vm.bare := by first | exact hvm.bare_eq | exact hvm.bare_eq.symm
    rw [hbe] at e1
    exact (e1.symm.trans e2).trans h2
  have hkind : k'.kind = .array comp (.array ty) := by rw [he]; exact h4
  have f1 : U.vm.findClass (FieldType.array ty).toString = some comp := by rw [hvm.findClass]; exact h1
  have f2 : U.vm.findClass ("[" ++ (FieldType.array ty).toString) = some c := by rw [hvm.findClass]; exact h5
  unfold va_AOA Cond.before Cond.holds
  simp only [Cond.value]
  rw [f1, Option.bind_some]
  refine (congrArg (fun o : Option Nat => (o.bind (fun c => (U.vm.classes[c]?).map fun (k : Class) => match k.kind with | .array _ t => decide (t = FieldType.array ty) && decide (U.vm.findClass ("[" ++ (FieldType.array ty).toString) = some c) | _ => false) == some true)) hi).trans ?_
  simp [hk', hkind, f2]
theorem gE_warm {g : gG} {s U : State} (h : gE g s) (hW : s.WarmedH U.vm) (hz : s.heap.size ≤ U.heap.size) (hq : ∀ q : Nat, q < s.heap.size → ¬ gA g q → U.heap[q]? = s.heap[q]?) : gE g U := by
  obtain ⟨h1, h2, h3, h4, ⟨h5, h6⟩, h7, h8, h9, ⟨h10, h11⟩, ⟨h12, h13, h14⟩, h15, h16, h17, h18⟩ := h
  have hA := hW.alike
  exact ⟨h1.moved hA, (h2.moved hA).kept hq, (h3.moved hA).kept hq, fun q m => (h4 q m).elim fun a ha => ⟨a, ha.warm hW⟩, ⟨(h5.moved hA).kept hq, (h6.moved hA).kept hq⟩, h7.moved hA, fun q m => (h8 q m).moved hA, fun x m => (h9 x m).warmC hW, ⟨h10.warmM hW, h11.warmM hW⟩, ⟨h12.moved hA, h13.moved hA, va_AOA_moved hA h14⟩, h15.moved hA, Nat.le_trans h16 hz, fun x m => (h17 x m).warmC hW, fun w m => by
    have h := h18 w m
    rcases List.mem_cons.mp m with rfl | m
    · exact h.warmD hW
    rcases List.mem_cons.mp m with rfl | m
    · exact h.warmD hW
    rcases List.mem_cons.mp m with rfl | m
    · exact h.warmD hW
    exact absurd m List.not_mem_nil⟩
theorem gE_blind {g : gG} {U : State} {f : JFrame} {mk : MethodId} {a : Array Value} (h : gE g U) : gE g (U.calling f mk a) := gE_warm (U := U.calling f mk a) h (State.WarmedH.refl U) (Nat.le_refl _) (fun _ _ _ => rfl)
/-- a method's start: what the launch gives, and the map -/
def Wd (g : gG) (M : Mp) (U : State) : Prop := gE g U ∧ Hw g M U.heap
def Wc (g : gG) (M : Mp) (av : List Value) : Array Value → State → Prop := va_Pc av (Wd g M)
theorem Wc_blind {g : gG} {M : Mp} {av : List Value} : FrameBlind (Wc g M av) := fun _ _ _ _ h => ⟨h.1, gE_blind h.2.1, h.2.2⟩
theorem Wc_at {g : gG} {M : Mp} {s : State} {H : Heap} {locs : List Loc} (hE : gE g s) (hH : Hw g M H) (hS : va_S (gA g) s.heap H locs) (av : List Value) : ∀ U : State, U.heap = H → s.WarmedH U.vm → Wc g M av av.toArray U := fun U hU hW => ⟨rfl, gE_warm hE hW (by rw [hU]; exact hS.1) (fun q h1 h2 => by rw [hU]; exact hS.2.1 q h1 h2), by rw [hU]; exact hH⟩
/-- a method that only reads: its answer, and the heap as it was -/
def rdQ (v : Option Value) : Array Value → State → Outcome → State → Prop := fun _ st oc t => oc = .returned v ∧ t.heap = st.heap
def fr0 : Nat → Prop := fun _ => False
/-- a method that writes: its answer, and the map behind it -/
def wrQ {S : Type} (g : gG) (v : S → Option Value) (P : S → Mp → Prop) : Array Value → State → Outcome → State → Prop := fun _ st oc t => (∃ (u : S) (M' : Mp), oc = .returned (v u) ∧ P u M' ∧ Hw g M' t.heap) ∧ va_F (gA g) st t
/-- a throw: which, and the heap but for new cells as it was -/
def xQ (X : String → Prop) : String → State → State → Prop := fun E st t => X E ∧ st.heap.size ≤ t.heap.size ∧ ∀ q : Nat, q < st.heap.size → t.heap[q]? = st.heap[q]?
end
section
/-! ROWS OVER THE MAP WORLD -/
/-- a field as an instruction of class 'own' links it -/
def Fl (own : String) (idx ci k : Nat) (fin : Bool) (d : FieldType) : Prop := ∃ (C : String) (T : u_T) (N : Nat) (ty : Nat → FieldType) (ref : String), vwCl[ci]? = some (C, T, N) ∧ k < N ∧ (∀ w ∈ u_ws C T N, w ∈ WA) ∧ Cond.fieldLink own idx ref (T k).2.1 (T k).2.2.1 ∈ WA ∧ (ref = (T k).1 ∨ Cond.sameField ref (T k).1 (T k).2.1 (T k).2.2.1 ∈ WA) ∧ (∀ j, j < N → parseFieldDescriptor (T j).2.2.1 = some (ty j)) ∧ (∀ a, a < N → ∀ b, b < N → a ≠ b → (T a).2.1 ≠ (T b).2.1) ∧ (T k).2.2.2 = fin ∧ ty k = d
def Fp (own : String) (idx ci k : Nat) (d : FieldType) : Prop := ∃ (C : String) (T : u_T) (N : Nat) (ty : Nat → FieldType) (ref : String), vwCl[ci]? = some (C, T, N) ∧ k < N ∧ (∀ w ∈ u_ws C T N, w ∈ WA) ∧ Cond.fieldLink own idx ref (T k).2.1 (T k).2.2.1 ∈ WA ∧ ref = (T k).1 ∧ (∀ j, j < N → parseFieldDescriptor (T j).2.2.1 = some (ty j)) ∧ (∀ a, a < N → ∀ b, b < N → a ≠ b → (T a).2.1 ≠ (T b).2.1) ∧ (T k).2.2.2 = true ∧ ty k = d ∧ (T k).1 = own
def Cb (ci : Nat) (C : String) (N : Nat) (fs : List Value) : Prop := ∃ (T : u_T) (ty : Nat → FieldType), vwCl[ci]? = some (C, T, N) ∧ (∀ w ∈ u_ws C T N, w ∈ WA) ∧ (∀ j, j < N → parseFieldDescriptor (T j).2.2.1 = some (ty j)) ∧ ∀ j, j < N → defaultValue (ty j) = vp_V fs j
theorem mu_dom {g : gG} {M : Mp} {a : Nat} {e : va_E} (h : ∀ a e, M a = some e → g.1 ≤ a) (ha : g.1 ≤ a) : ∀ b e', mu M a e b = some e' → g.1 ≤ b := fun b e' hb => by
  by_cases q : b = a
  · rw [q]; exact ha
  · rw [mu_n q] at hb; exact h b e' hb
theorem Hw_set {g : gG} {M : Mp} {H H1 : Heap} {a k : Nat} {e e' : va_E} (hH : Hw g M H) (h : M a = some e) (hk : ([] ++ va_pl (mL M H.size) (mf M))[k]? = some (a, e)) (hP : va_P g.2.1 vwCl (([] ++ va_pl (mL M H.size) (mf M)).set k (a, e')) H1) : Hw g (mu M a e') H1 := ⟨mL_set hH.1 (mL_D hH.2) h hk hP, mu_dom hH.2 (hH.2 a e h)⟩
theorem RA_one {U : State} {c1 c2 : ClassId} {ty : FieldType} (h1 : va_RA U c1 ty) (h2 : va_RA U c2 ty) : c1 = c2 := by
  cases ty with
  | object C =>
    obtain ⟨_, _, _, _, _, a⟩ := h1
    obtain ⟨_, _, _, _, _, b⟩ := h2
    exact Option.some.inj (a.symm.trans b)
  | _ => exact Option.some.inj ((show U.vm.findClass _ = some c1 from h1).symm.trans (show U.vm.findClass _ = some c2 from h2))
theorem K_last {D : va_G} {cl : List vw_C} {tys : List (ClassId × FieldType)} {U : State} {c1 c2 : ClassId} {ty : FieldType} {k : Nat} (h : va_K D cl (tys ++ [(c2, ty)]) U) (hk : tys[k]? = some (c1, ty)) : c2 = c1 := by
  have a := (h.2 k (c1, ty) (by rw [List.getElem?_append_left (List.getElem?_eq_some_iff.mp hk).1]; exact hk)).2
  have b := (h.2 tys.length (c2, ty) (by rw [List.getElem?_append_right (Nat.le_refl _), Nat.sub_self]; rfl)).2
  exact RA_one b a
theorem gE_A {g : gG} {s : State} (h : gE g s) : ∀ q, s.heap.size ≤ q → gA g q := fun q hq => Nat.le_trans h.2.2.2.2.2.2.2.2.2.2.2.1 hq
theorem goodIn_W {w : Cond} (h : w ∈ WA) : w ∈ WA ∧ ((w.onTables && w.keeps) = true ∨ ∃ ty, w = .arrayClass ty) := ⟨h, good_of_word (List.mem_filter.mp h).2⟩
theorem goodIn_c {y : MethodName} {cc : ByteArray} {n : Nat} {r : Option FieldType} (h : Cond.code y cc n r ∈ WA) : GoodIn WA (Cond.code y cc n r :: WA) := fun w hw => goodIn_W ((List.mem_cons.mp hw).elim (fun e => e ▸ h) id)
theorem goodIn_t {y : MethodName} {cc : ByteArray} {n : Nat} {r : Option FieldType} {hh : List (Nat × Nat × Nat × Nat)} (h : Cond.codeWith y cc n r hh ∈ WA) : GoodIn WA (Cond.codeWith y cc n r hh :: WA) := fun w hw => goodIn_W ((List.mem_cons.mp hw).elim (fun e => e ▸ h) id)
section MWR
variable {p : Program} {l : Launch} {e : Env} {R : Room} {s : State} {m : MethodId} {args : Array Value} {below : List Frame} {meth : Method} {c : Code} {H : Heap} {locs : List Loc} {cells slots : Nat} {Q : State → Prop}
variable {cc : ByteArray} {nL : Nat} {own : String} {pc : Nat} {ls : Array Slot} {rest : List Value} {g : gG} {M : Mp} {a : Nat}
theorem mget {idx ci k : Nat} {fin : Bool} {d : FieldType} {fs : List Value} {v : Value} (C : CallFix p m c cc nL s args WA own) (hE : gE g s) (hH : Hw g M H) (F : Fl own idx ci k fin d) (h : M a = some (eO ci fs)) (hv : fs[k]? = some v) (hdg : decode cc pc = .ok (.getfield idx, 3)) (kk : W p l e R s m args below meth c H locs cells slots Q (F0 m (pc + 3) ls (v :: rest))) : W p l e R s m args below meth c H locs cells slots Q (F0 m pc ls (.ref a :: rest)) := by
  obtain ⟨hx, hb, -, hown, hts⟩ := C
  obtain ⟨CN, T, N, ty, ref, hc, hk, hin, hl, hs, -, -, -, -⟩ := F
  refine va_get (Ts := WA) hx hb hts hin hown hE.1 (mw_one hH.1 h) 0 rfl hc k hk (hts _ hl) (fun x hx9 => ?_) hv hdg kk
  rcases hs with rfl | hs
  · exact hx9
  · exact u_same (hts _ hs) x hx9
theorem mput {idx ci k : Nat} {d : FieldType} {fs fs' : List Value} {v : Value} (C : CallFix p m c cc nL s args WA own) (hE : gE g s) (hH : Hw g M H) (hS : va_S (gA g) s.heap H locs) (F : Fl own idx ci k false d) (h : M a = some (eO ci fs)) (hn : narrow d v = v) (hfit : fits d v = true) (hfs : fs.set k v = fs') (hlen : k < fs.length) (hdg : decode cc pc = .ok (.putfield idx, 3)) (kk : ∀ (H1 : Heap) (locs1 : List Loc), Hw g (mu M a (eO ci fs')) H1 → va_S (gA g) s.heap H1 locs1 → W p l e R s m args below meth c H1 locs1 cells slots Q (F0 m (pc + 3) ls rest)) : W p l e R s m args below meth c H locs cells slots Q (F0 m pc ls (v :: .ref a :: rest)) := by
  subst hfs
  obtain ⟨hx, hb, -, hown, hts⟩ := C
  obtain ⟨CN, T, N, ty, ref, hc, hk, hin, hl, hs, hty, hnm, hfin, hd⟩ := F
  obtain ⟨j, hj⟩ := mL_get h (mw_lt hH.1 h)
  refine va_put (Ts := WA) hx hb hts hin ty hty hnm hown hE.1 (mL_P hH.1) (mL_D hH.2) hS j hj hc k hk (hts _ hl) (fun x hx9 => ?_) hfin ((hty k hk).trans (congrArg some hd)) hn hfit hlen hdg (fun H1 locs1 hP1 _ hS1 => kk H1 locs1 (Hw_set hH h hj hP1) hS1)
  rcases hs with rfl | hs
  · exact hx9
  · exact u_same (hts _ hs) x hx9
theorem mputF {idx ci k : Nat} {d : FieldType} {fs fs' : List Value} {v : Value} (C : CallFix p m c cc nL s args WA own) (hE : gE g s) (hH : Hw g M H) (hS : va_S (gA g) s.heap H locs) (F : Fp own idx ci k d) (h : M a = some (eO ci fs)) (hi : meth.name = "<init>") (hn : narrow d v = v) (hfit : fits d v = true) (hfs : fs.set k v = fs') (hlen : k < fs.length) (hdg : decode cc pc = .ok (.putfield idx, 3)) (kk : ∀ (H1 : Heap) (locs1 : List Loc), Hw g (mu M a (eO ci fs')) H1 → va_S (gA g) s.heap H1 locs1 → W p l e R s m args below meth c H1 locs1 cells slots Q (F0 m (pc + 3) ls rest)) : W p l e R s m args below meth c H locs cells slots Q (F0 m pc ls (v :: .ref a :: rest)) := by
  subst hfs
  obtain ⟨hx, hb, -, hown, hts⟩ := C
  obtain ⟨CN, T, N, ty, ref, hc, hk, hin, hl, hs, hty, hnm, hfin, hd, hdecl⟩ := F
  obtain ⟨j, hj⟩ := mL_get h (mw_lt hH.1 h)
  exact va_putF (Ts := WA) hx hb hts hin ty hty hnm hown hE.1 (mL_P hH.1) (mL_D hH.2) hS j hj hc k hk (hts _ hl) (fun x hx9 => by rw [hs]; exact hx9) hfin hi hdecl ((hty k hk).trans (congrArg some hd)) hn hfit hlen hdg (fun H1 locs1 hP1 _ hS1 => kk H1 locs1 (Hw_set hH h hj hP1) hS1)
theorem mnew {idx ci N : Nat} {CN : String} {fs : List Value} (C : CallFix p m c cc nL s args WA own) (hE : gE g s) (hH : Hw g M H) (hS : va_S (gA g) s.heap H locs) (F : Cb ci CN N fs) (h1 : Cond.classLink own idx CN ∈ WA) (h2 : Cond.instantiable CN N ∈ WA) (h3 : Cond.initialized CN ∈ WA) (hcells : cells + 1 ≤ R.cells) (hslots : slots + N ≤ R.slots) (hdg : decode cc pc = .ok (.new idx, 3)) (kk : ∀ (q : Nat) (H1 : Heap), M q = none → g.1 ≤ q → Hw g (mu M q (eO ci fs)) H1 → va_S (gA g) s.heap H1 locs → W p l e R s m args below meth c H1 locs (cells + 1) (slots + N) Q (F0 m (pc + 3) ls (.ref q :: rest))) : W p l e R s m args below meth c H locs cells slots Q (F0 m pc ls rest) := by
  obtain ⟨hx, hb, -, hown, hts⟩ := C
  obtain ⟨T, ty, hc, hin, hty, hfs⟩ := F
  exact va_new (Ts := WA) hx hb hts hin ty hty hown (hts _ h1) (hts _ h2) (hts _ h3) hE.1 (mL_P (n := H.size) hH.1) (mL_D hH.2) hS (gE_A hE) hc hfs hcells hslots hdg (fun q H1 hP1 hD1 hS1 => by
    obtain ⟨a1, a2, a3⟩ := mL_push hH.1 hP1 hD1
    exact kk q H1 a1 a3 ⟨a2, mu_dom hH.2 a3⟩ hS1)
theorem mald {n : Nat} {f : Nat → Int32} {i : Int32} (C : CallFix p m c cc nL s args WA own) (hE : gE g s) (hH : Hw g M H) (h : M a = some (eI g n f)) (hin : vp_in i n) (hdg : decode cc pc = .ok (.iaload, 1)) (kk : W p l e R s m args below meth c H locs cells slots Q (F0 m (pc + 1) ls (.int (f i.toNatClampNeg) :: rest))) : W p l e R s m args below meth c H locs cells slots Q (F0 m pc ls (.int i :: .ref a :: rest)) :=
  va_iald C.1 C.2.1 hE.1 (mw_one hH.1 h) 0 0 rfl rfl hin hdg kk
theorem mlald {n : Nat} {f : Nat → Int64} {i : Int32} (C : CallFix p m c cc nL s args WA own) (hE : gE g s) (hH : Hw g M H) (h : M a = some (eL g n f)) (hin : vp_in i n) (hdg : decode cc pc = .ok (.laload, 1)) (kk : W p l e R s m args below meth c H locs cells slots Q (F0 m (pc + 1) ls (.long (f i.toNatClampNeg) :: rest))) : W p l e R s m args below meth c H locs cells slots Q (F0 m pc ls (.int i :: .ref a :: rest)) :=
  va_lald C.1 C.2.1 hE.1 (mw_one hH.1 h) 0 1 rfl rfl hin hdg kk
theorem mast {n : Nat} {f : Nat → Int32} {i x : Int32} (C : CallFix p m c cc nL s args WA own) (hE : gE g s) (hH : Hw g M H) (hS : va_S (gA g) s.heap H locs) (h : M a = some (eI g n f)) (hin : vp_in i n) (hdg : decode cc pc = .ok (.iastore, 1)) (kk : ∀ (H1 : Heap) (locs1 : List Loc), Hw g (mu M a (eI g n (upd f i.toNatClampNeg x))) H1 → va_S (gA g) s.heap H1 locs1 → W p l e R s m args below meth c H1 locs1 cells slots Q (F0 m (pc + 1) ls rest)) : W p l e R s m args below meth c H locs cells slots Q (F0 m pc ls (.int x :: .int i :: .ref a :: rest)) := by
  obtain ⟨j, hj⟩ := mL_get h (mw_lt hH.1 h)
  exact va_iast C.1 C.2.1 hE.1 (mL_P hH.1) (mL_D hH.2) hS j 0 hj rfl hin hdg (fun H1 locs1 hP1 _ hS1 => kk H1 locs1 (Hw_set hH h hj hP1) hS1)
theorem mlast {n : Nat} {f : Nat → Int64} {i : Int32} {x : Int64} (C : CallFix p m c cc nL s args WA own) (hE : gE g s) (hH : Hw g M H) (hS : va_S (gA g) s.heap H locs) (h : M a = some (eL g n f)) (hin : vp_in i n) (hdg : decode cc pc = .ok (.lastore, 1)) (kk : ∀ (H1 : Heap) (locs1 : List Loc), Hw g (mu M a (eL g n (vp_updL f i.toNatClampNeg x))) H1 → va_S (gA g) s.heap H1 locs1 → W p l e R s m args below meth c H1 locs1 cells slots Q (F0 m (pc + 1) ls rest)) : W p l e R s m args below meth c H locs cells slots Q (F0 m pc ls (.long x :: .int i :: .ref a :: rest)) := by
  obtain ⟨j, hj⟩ := mL_get h (mw_lt hH.1 h)
  exact va_last C.1 C.2.1 hE.1 (mL_P hH.1) (mL_D hH.2) hS j 1 hj rfl hin hdg (fun H1 locs1 hP1 _ hS1 => kk H1 locs1 (Hw_set hH h hj hP1) hS1)
theorem malen {k : Nat} {x : vp_A} {ty : FieldType} {v : Int32} (C : CallFix p m c cc nL s args WA own) (hE : gE g s) (hH : Hw g M H) (h : M a = some (.inl (g.2.2.1 k, x))) (ht : (gT g)[k]? = some (g.2.2.1 k, ty)) (hv : Int32.ofNat x.1 = v) (hdg : decode cc pc = .ok (.arraylength, 1)) (kk : W p l e R s m args below meth c H locs cells slots Q (F0 m (pc + 1) ls (.int v :: rest))) : W p l e R s m args below meth c H locs cells slots Q (F0 m pc ls (.ref a :: rest)) :=
  va_alen C.1 C.2.1 hE.1 (mw_one hH.1 h) 0 k rfl ht hv hdg kk
theorem maldq {k n y : Nat} {f : Nat → Option Nat} {ty : FieldType} {i : Int32} (C : CallFix p m c cc nL s args WA own) (hE : gE g s) (hH : Hw g M H) (h : M a = some (eQ g k n f)) (ht : (gT g)[k]? = some (g.2.2.1 k, ty)) (hty : ty.isReference = true) (hin : vp_in i n) (hv : f i.toNatClampNeg = some y) (hdg : decode cc pc = .ok (.aaload, 1)) (kk : W p l e R s m args below meth c H locs cells slots Q (F0 m (pc + 1) ls (.ref y :: rest))) : W p l e R s m args below meth c H locs cells slots Q (F0 m pc ls (.int i :: .ref a :: rest)) := by
  have hlt : i.toNatClampNeg < n := Nat.not_le.mp fun q => hin (Or.inr q)
  exact W.aald (v := .ref y) (ty := ty) C.1 C.2.1 (mw_one hH.1 h 0 _ rfl) ((hE.1.2 k _ ht).1 n (fun j => va_rf (f j))) hty (fun q => by cases q) (by show ¬ (i < 0 ∨ (arrV _ _ _).slots.size ≤ _); rw [arrV_size]; exact hin) (by show (arrV _ _ _).slots[_]? = _; rw [arrV_read _ _ hlt, hv]; rfl) rfl rfl hdg kk
theorem mastq {k n v ci : Nat} {r : vw_C} {E : String} {f : Nat → Option Nat} {vs : List Value} {i : Int32} (C : CallFix p m c cc nL s args WA own) (hE : gE g s) (hH : Hw g M H) (hS : va_S (gA g) s.heap H locs) (h : M a = some (eQ g k n f)) (ht : (gT g)[k]? = some (g.2.2.1 k, .object E)) (hca : va_Nw (.castable r.1 E) s ∨ r.1 = E) (hv : M v = some (eO ci vs)) (hc : vwCl[ci]? = some r) (hin : vp_in i n) (hdg : decode cc pc = .ok (.aastore, 1)) (kk : ∀ (H1 : Heap) (locs1 : List Loc), Hw g (mu M a (eQ g k n (va_up f i.toNatClampNeg (some v)))) H1 → va_S (gA g) s.heap H1 locs1 → W p l e R s m args below meth c H1 locs1 cells slots Q (F0 m (pc + 1) ls rest)) : W p l e R s m args below meth c H locs cells slots Q (F0 m pc ls (.ref v :: .int i :: .ref a :: rest)) := by
  obtain ⟨j, hj⟩ := mL_get h (mw_lt hH.1 h)
  obtain ⟨j2, hj2⟩ := mL_get hv (mw_lt hH.1 hv)
  rcases hca with hca | rfl
  · exact va_astqO C.1 C.2.1 hE.1 (mL_P hH.1) (mL_D hH.2) hS j k j2 ci hj ht hca hj2 hc hin hdg (fun H1 locs1 hP1 _ hS1 => kk H1 locs1 (Hw_set hH h hj hP1) hS1)
  · exact va_astq C.1 C.2.1 hE.1 (mL_P hH.1) (mL_D hH.2) hS j k j2 ci hj ht hj2 hc hin hdg (fun H1 locs1 hP1 _ hS1 => kk H1 locs1 (Hw_set hH h hj hP1) hS1)
theorem mnewI {n : Int32} {N : Nat} (C : CallFix p m c cc nL s args WA own) (hE : gE g s) (hH : Hw g M H) (hS : va_S (gA g) s.heap H locs) (harr : Cond.arrayClass .int ∈ WA) (hn : ¬ n < 0) (hN : n.toNatClampNeg = N) (hbytes : N * 4 ≤ 536870912) (hcells : cells + 1 ≤ R.cells) (hslots : slots + N ≤ R.slots) (hdg : decode cc pc = .ok (.newarray .int, 2)) (kk : ∀ (q : Nat) (H1 : Heap), M q = none → g.1 ≤ q → Hw g (mu M q (eI g N (fun _ => 0))) H1 → va_S (gA g) s.heap H1 locs → W p l e R s m args below meth c H1 locs (cells + 1) (slots + N) Q (F0 m (pc + 2) ls (.ref q :: rest))) : W p l e R s m args below meth c H locs cells slots Q (F0 m pc ls (.int n :: rest)) :=
  va_newa (atype := .int) (ty := .int) (a0 := (N, .inl (fun _ => 0))) C.1 C.2.1 (C.2.2.2.2 _ harr) rfl hE.1 (mL_P (n := H.size) hH.1) (mL_D hH.2) hS (gE_A hE) (fun _ => rfl) hn hN hbytes hcells hslots hdg (fun q cA H1 hK1 hP1 hD1 hS1 => by
    obtain rfl := K_last (k := 0) hK1 rfl
    obtain ⟨a1, a2, a3⟩ := mL_push hH.1 hP1 hD1
    exact kk q H1 a1 a3 ⟨a2, mu_dom hH.2 a3⟩ hS1)
theorem mnewL {n : Int32} {N : Nat} (C : CallFix p m c cc nL s args WA own) (hE : gE g s) (hH : Hw g M H) (hS : va_S (gA g) s.heap H locs) (harr : Cond.arrayClass .long ∈ WA) (hn : ¬ n < 0) (hN : n.toNatClampNeg = N) (hbytes : N * 8 ≤ 536870912) (hcells : cells + 1 ≤ R.cells) (hslots : slots + N ≤ R.slots) (hdg : decode cc pc = .ok (.newarray .long, 2)) (kk : ∀ (q : Nat) (H1 : Heap), M q = none → g.1 ≤ q → Hw g (mu M q (eL g N (fun _ => 0))) H1 → va_S (gA g) s.heap H1 locs → W p l e R s m args below meth c H1 locs (cells + 1) (slots + N) Q (F0 m (pc + 2) ls (.ref q :: rest))) : W p l e R s m args below meth c H locs cells slots Q (F0 m pc ls (.int n :: rest)) :=
  va_newa (atype := .long) (ty := .long) (a0 := (N, .inr (.inl (fun _ => 0)))) C.1 C.2.1 (C.2.2.2.2 _ harr) rfl hE.1 (mL_P (n := H.size) hH.1) (mL_D hH.2) hS (gE_A hE) (fun _ => rfl) hn hN hbytes hcells hslots hdg (fun q cA H1 hK1 hP1 hD1 hS1 => by
    obtain rfl := K_last (k := 1) hK1 rfl
    obtain ⟨a1, a2, a3⟩ := mL_push hH.1 hP1 hD1
    exact kk q H1 a1 a3 ⟨a2, mu_dom hH.2 a3⟩ hS1)
theorem mnewQ {idx k N : Nat} {CN : String} {n : Int32} (C : CallFix p m c cc nL s args WA own) (hE : gE g s) (hH : Hw g M H) (hS : va_S (gA g) s.heap H locs) (h1 : Cond.classLink own idx CN ∈ WA) (hover : va_AO CN s) (ht : (gT g)[k]? = some (g.2.2.1 k, .object CN)) (hn : ¬ n < 0) (hN : n.toNatClampNeg = N) (hbytes : N * 4 ≤ 536870912) (hcells : cells + 1 ≤ R.cells) (hslots : slots + N ≤ R.slots) (hdg : decode cc pc = .ok (.anewarray idx, 3)) (kk : ∀ (q : Nat) (H1 : Heap), M q = none → g.1 ≤ q → Hw g (mu M q (eQ g k N (fun _ => none))) H1 → va_S (gA g) s.heap H1 locs → W p l e R s m args below meth c H1 locs (cells + 1) (slots + N) Q (F0 m (pc + 3) ls (.ref q :: rest))) : W p l e R s m args below meth c H locs cells slots Q (F0 m pc ls (.int n :: rest)) :=
  va_newq C.1 C.2.1 C.2.2.2.1 (C.2.2.2.2 _ h1) hover hE.1 (mL_P (n := H.size) hH.1) (mL_D hH.2) hS (gE_A hE) hn hN hbytes hcells hslots hdg (fun q cA H1 hK1 hP1 hD1 hS1 => by
    obtain rfl := K_last (k := k) hK1 ht
    obtain ⟨a1, a2, a3⟩ := mL_push hH.1 hP1 hD1
    exact kk q H1 a1 a3 ⟨a2, mu_dom hH.2 a3⟩ hS1)
/-- n new rows: at r 0 .. r (n-1) -/
def muR (M : Mp) (n : Nat) (r : Nat → Nat) (e : va_E) : Mp := fun b => if b ∈ (List.range n).map r then some e else M b
theorem mmna {idx N K : Nat} {n k : Int32} (C : CallFix p m c cc nL s args WA own) (hE : gE g s) (hH : Hw g M H) (hS : va_S (gA g) s.heap H locs) (h1 : Cond.classLink own idx "[[I" ∈ WA) (harr : Cond.arrayClass .int ∈ WA) (hn : ¬ n < 0) (hk : ¬ k < 0) (hN : n.toNatClampNeg = N) (hK : k.toNatClampNeg = K) (hb1 : N * 4 ≤ 536870912) (hb2 : K * 4 ≤ 536870912) (hb3 : K ≤ 536870912) (hcells : cells + (1 + N) ≤ R.cells) (hslots : slots + (N + N * K) ≤ R.slots) (hdg : decode cc pc = .ok (.multianewarray idx 2, 4))
    (kk : ∀ (q : Nat) (r : Nat → Nat) (H1 : Heap), (∀ i j : Nat, i < N → j < N → r i = r j → i = j) → M q = none → g.1 ≤ q → (∀ i, i < N → M (r i) = none ∧ g.1 ≤ r i ∧ r i ≠ q) → Hw g (muR (mu M q (eQ g 4 N (fun i => if i < N then some (r i) else none))) N r (eI g K (fun _ => 0))) H1 → va_S (gA g) s.heap H1 locs → W p l e R s m args below meth c H1 locs (cells + 1 + N) (slots + N + N * K) Q (F0 m (pc + 4) ls (.ref q :: rest))) : W p l e R s m args below meth c H locs cells slots Q (F0 m pc ls (.int k :: .int n :: rest)) := by
  have hcy : s.vm.findClass (FieldType.array .int).toString = some (g.2.2.1 0) := (hE.1.2 0 _ rfl).2
  have hPn : va_P g.2.1 vwCl (([] ++ va_pl (mL M H.size) (mf M)) ++ va_pl [] (mf M)) H := by
    show va_P g.2.1 vwCl (([] ++ va_pl (mL M H.size) (mf M)) ++ []) H
    rw [List.append_nil]; exact mL_P hH.1
  have hDn : va_D (gA g) (([] ++ va_pl (mL M H.size) (mf M)) ++ va_pl [] (mf M)) := by
    show va_D (gA g) (([] ++ va_pl (mL M H.size) (mf M)) ++ [])
    rw [List.append_nil]; exact mL_D hH.2
  refine va_mna (ty := .int) (z := (K, .inl (fun _ => 0))) C.1 C.2.1 C.2.2.2.1 (C.2.2.2.2 _ h1) hE.2.2.2.2.2.2.2.2.2.1.2.2 (C.2.2.2.2 _ harr) hcy hE.1 hPn hDn hS (gE_A hE) hn hk hN hK hb1 hb2 hb3 rfl rfl hcells hslots (fun c9 => by show ({ cls := c9, slots := Array.replicate K (Value.int 0), vm := .none } : Cell) = _; rw [arrV_new]; rfl) hdg (fun q r cA H1 hinj _ hK1 hP1 hD1 hS1 => ?_)
  obtain rfl := K_last (k := 4) hK1 rfl
  rw [List.nil_append] at hP1 hD1
  have hL1 : ∀ j : Nat, j < N → ∃ t : Nat, t ≥ (([] ++ va_pl (mL M H.size) (mf M)).length + 1) ∧ ((([] ++ va_pl (mL M H.size) (mf M)) ++ [(q, eQ g 4 N (fun i => if i < N then some (r i) else none))]) ++ va_pl ((List.range N).map r) (vr_up (mf M) ((List.range N).map r) (eI g K (fun _ => 0))))[t]? = some (r j, eI g K (fun _ => 0)) := fun j hj => by
    obtain ⟨t, ht⟩ := va_pl_get (X := []) (L := (List.range N).map r) (f := vr_up (mf M) ((List.range N).map r) (eI g K (fun _ => 0))) (a := r j) (List.mem_map.mpr ⟨j, List.mem_range.mpr hj, rfl⟩)
    rw [List.nil_append, vr_up_in (List.mem_map.mpr ⟨j, List.mem_range.mpr hj, rfl⟩)] at ht
    refine ⟨(([] ++ va_pl (mL M H.size) (mf M)) ++ [(q, eQ g 4 N (fun i => if i < N then some (r i) else none))]).length + t, by simp only [List.length_append, List.length_cons, List.length_nil]; omega, ?_⟩
    rw [List.getElem?_append_right (by omega), Nat.add_sub_cancel_left]
    exact ht
  have hq1 : ((([] ++ va_pl (mL M H.size) (mf M)) ++ [(q, eQ g 4 N (fun i => if i < N then some (r i) else none))]) ++ va_pl ((List.range N).map r) (vr_up (mf M) ((List.range N).map r) (eI g K (fun _ => 0))))[([] ++ va_pl (mL M H.size) (mf M)).length]? = some (q, eQ g 4 N (fun i => if i < N then some (r i) else none)) := by
    rw [List.getElem?_append_left (by simp only [List.length_append, List.length_cons, List.length_nil]; omega), List.getElem?_append_right (Nat.le_refl _), Nat.sub_self]; rfl
  have hold : ∀ b e2, M b = some e2 → ∃ t : Nat, t < ([] ++ va_pl (mL M H.size) (mf M)).length ∧ ((([] ++ va_pl (mL M H.size) (mf M)) ++ [(q, eQ g 4 N (fun i => if i < N then some (r i) else none))]) ++ va_pl ((List.range N).map r) (vr_up (mf M) ((List.range N).map r) (eI g K (fun _ => 0))))[t]? = some (b, e2) := fun b e2 hb => by
    obtain ⟨t, ht⟩ := mL_get hb (mw_lt hH.1 hb)
    have hl := (List.getElem?_eq_some_iff.mp ht).1
    refine ⟨t, hl, ?_⟩
    rw [List.getElem?_append_left (by simp only [List.length_append, List.length_cons, List.length_nil] at hl ⊢; omega), List.getElem?_append_left hl]
    exact ht
  have hqn : M q = none := by
    cases hm : M q with
    | none => rfl
    | some e2 =>
      obtain ⟨t, hl, ht⟩ := hold q e2 hm
      have := hD1.1 _ _ _ _ ht hq1 rfl
      omega
  have hrn : ∀ i, i < N → M (r i) = none := fun i hi => by
    cases hm : M (r i) with
    | none => rfl
    | some e2 =>
      obtain ⟨t, hl, ht⟩ := hold (r i) e2 hm
      obtain ⟨t2, hl2, ht2⟩ := hL1 i hi
      have := hD1.1 _ _ _ _ ht ht2 rfl
      omega
  have hrq : ∀ i, i < N → r i ≠ q := fun i hi h => by
    obtain ⟨t2, hl2, ht2⟩ := hL1 i hi
    have := hD1.1 _ _ _ _ ht2 hq1 h
    omega
  have hgq : g.1 ≤ q := hD1.2 _ _ hq1
  have hgr : ∀ i, i < N → g.1 ≤ r i := fun i hi => by
    obtain ⟨t2, -, ht2⟩ := hL1 i hi
    exact hD1.2 _ _ ht2
  refine kk q r H1 hinj hqn hgq (fun i hi => ⟨hrn i hi, hgr i hi, hrq i hi⟩) ⟨fun b e2 hb => ?_, fun b e2 hb => ?_⟩ hS1
  · unfold muR at hb
    by_cases hm : b ∈ (List.range N).map r
    · rw [if_pos hm] at hb
      cases hb
      obtain ⟨i, hi, rfl⟩ := List.mem_map.mp hm
      obtain ⟨t2, -, ht2⟩ := hL1 i (List.mem_range.mp hi)
      exact hP1 _ _ ht2
    · rw [if_neg hm] at hb
      by_cases hbq : b = q
      · subst hbq
        rw [mu_s] at hb
        cases hb
        exact hP1 _ _ hq1
      · rw [mu_n hbq] at hb
        obtain ⟨t, -, ht⟩ := hold b e2 hb
        exact hP1 _ _ ht
  · unfold muR at hb
    by_cases hm : b ∈ (List.range N).map r
    · obtain ⟨i, hi, rfl⟩ := List.mem_map.mp hm
      exact hgr i (List.mem_range.mp hi)
    · rw [if_neg hm] at hb
      by_cases hbq : b = q
      · rw [hbq]; exact hgq
      · rw [mu_n hbq] at hb
        exact hH.2 b e2 hb
end MWR
end
section
/-! CALLS OVER THE MAP WORLD -/
abbrev MVx (y : MethodName) (n : Nat) : Prop := y.cls ≠ "java/lang/invoke/MethodHandle" ∧ y.cls ≠ "java/lang/invoke/VarHandle" ∧ (parseMethodDescriptor y.desc).map (fun d => d.parameters.length) = some n
/-- what the tables say of a method of objects, of a static one, of a constructor, of a static one with a table of its own -/
def MVi (y : MethodName) (cc : ByteArray) (maxL : Nat) (ret : Option FieldType) (n : Nat) : Prop := Cond.code y cc maxL ret ∈ WA ∧ MVx y n ∧ Cond.initialized y.cls ∈ WA ∧ Cond.instanceMethod y ∈ WA ∧ Cond.selects y.cls y y ∈ WA
def MVs (y : MethodName) (cc : ByteArray) (maxL : Nat) (ret : Option FieldType) (n : Nat) : Prop := Cond.code y cc maxL ret ∈ WA ∧ MVx y n ∧ Cond.initialized y.cls ∈ WA ∧ Cond.static y ∈ WA
def MVc (y : MethodName) (cc : ByteArray) (maxL : Nat) (n : Nat) : Prop := Cond.code y cc maxL none ∈ WA ∧ MVx y n ∧ Cond.initialized y.cls ∈ WA ∧ Cond.instanceMethod y ∈ WA ∧ y.name = "<init>"
def MVt (y : MethodName) (cc : ByteArray) (maxL : Nat) (ret : Option FieldType) (hh : List (Nat × Nat × Nat × Nat)) (n : Nat) : Prop := Cond.codeWith y cc maxL ret hh ∈ WA ∧ MVx y n ∧ Cond.initialized y.cls ∈ WA ∧ Cond.static y ∈ WA
abbrev WY (y : MethodName) (cc : ByteArray) (maxL : Nat) (ret : Option FieldType) : List Cond := Cond.code y cc maxL ret :: WA
theorem gi_app {a b : List Cond} (ha : ∀ w ∈ a, w ∈ WA) (hb : GoodIn WA b) : GoodIn WA (a ++ b) := fun w h => (List.mem_append.mp h).elim (fun q => goodIn_W (ha w q)) (hb w)
theorem gi_V {own : String} {idx : Nat} {y : MethodName} {b : List Cond} (h1 : Cond.methodLink own idx y ∈ WA) (h2 : Cond.instanceMethod y ∈ WA) (h3 : Cond.selects y.cls y y ∈ WA) (h4 : Cond.initialized y.cls ∈ WA) (hb : GoodIn WA b) : GoodIn WA (wsV own idx y.cls y b) := gi_app (fun w h => by
  rcases List.mem_cons.mp h with rfl | h
  · exact h1
  rcases List.mem_cons.mp h with rfl | h
  · exact h2
  rcases List.mem_cons.mp h with rfl | h
  · exact h3
  rcases List.mem_cons.mp h with rfl | h
  · exact h4
  exact absurd h List.not_mem_nil) hb
theorem gi_S {own : String} {idx : Nat} {y : MethodName} {b : List Cond} (h1 : Cond.methodLink own idx y ∈ WA) (h2 : Cond.static y ∈ WA) (h4 : Cond.initialized y.cls ∈ WA) (hb : GoodIn WA b) : GoodIn WA (va_wsS own idx y b) := gi_app (fun w h => by
  rcases List.mem_cons.mp h with rfl | h
  · exact h1
  rcases List.mem_cons.mp h with rfl | h
  · exact h2
  rcases List.mem_cons.mp h with rfl | h
  · exact h4
  exact absurd h List.not_mem_nil) hb
/-- a method that may throw and else only reads -/
def xrQ (P : Prop) (v : Option Value) : Array Value → State → Outcome → State → Prop := fun a st o t => P ∧ rdQ v a st o t
section MCR
variable {p : Program} {l : Launch} {e : Env} {R : Room} {s : State} {m : MethodId} {args : Array Value} {below : List Frame} {meth : Method} {c : Code} {H : Heap} {locs : List Loc} {cells slots : Nat} {Q : State → Prop}
variable {cc bytes : ByteArray} {nL maxL n idx mc ms ci : Nat} {own : String} {pc : Nat} {ls : Array Slot} {rest st0 As : List Value} {g : gG} {M : Mp} {a : Nat} {a9 : Array Value} {y : MethodName} {rm : Room} {ret : Option FieldType} {v : Option Value} {fs : List Value} {q : vw_C} {hh : List (Nat × Nat × Nat × Nat)}
theorem rd_go (hr : va_Run p l e R s m args below meth c H locs cells slots 0 0 (F0 m pc ls st0) rest (rdQ v a9) fr0) (kk : W p l e R s m args below meth c H locs cells slots Q (F0 m (pc + 3) ls (v.toList ++ rest))) : W p l e R s m args below meth c H locs cells slots Q (F0 m pc ls st0) := by
  intro T hT X
  obtain ⟨v', st₀, t, T', L, h0, X', hL, e1, e2, ⟨hv, hheap⟩, st⟩ := hr T hT X
  have hL0 : L = [] := by
    cases L with
    | nil => rfl
    | cons z L => exact (hL z List.mem_cons_self).elim
  subst hL0
  rw [List.append_nil] at X'
  cases hv
  obtain ⟨t2, a1, b1⟩ := kk T' (e1.trans (hheap.trans h0)) X'
  exact ⟨t2, st t2 a1, b1⟩
theorem wr_go {S : Type} {vf : S → Option Value} {P : S → Mp → Prop} (hr : va_Run p l e R s m args below meth c H locs cells slots mc ms (F0 m pc ls st0) rest (wrQ g vf P a9) (gA g)) (hS : va_S (gA g) s.heap H locs) (kk : ∀ (u : S) (M' : Mp) (H1 : Heap) (locs1 : List Loc), P u M' → Hw g M' H1 → va_S (gA g) s.heap H1 locs1 → W p l e R s m args below meth c H1 locs1 (cells + mc) (slots + ms) Q (F0 m (pc + 3) ls ((vf u).toList ++ rest))) : W p l e R s m args below meth c H locs cells slots Q (F0 m pc ls st0) := by
  intro T hT X
  obtain ⟨v', st₀, t, T', L, h0, X', hL, e1, e2, ⟨⟨u, M', hv, hp, hH⟩, hF⟩, st⟩ := hr T hT X
  cases hv
  obtain ⟨-, -, k3⟩ := vx_keep (A0 := gA g) h0 e1 hS (fun _ _ z => z) (fun _ z => z) hL hF
  obtain ⟨t2, a1, b1⟩ := kk u M' T'.heap (locs ++ L) hp (by rw [e1]; exact hH) k3 T' rfl X'
  exact ⟨t2, st t2 a1, b1⟩
theorem xr_go {P : Prop} {X : String → Prop} (hr : vx_Run p l e R s m args below meth c H locs cells slots mc ms (F0 m pc ls st0) rest (xrQ P v a9) (xQ X) fr0)
    (kx : ∀ (E : String) (ce : Cell) (q9 : Addr) (H1 : Heap), X E → H.size ≤ H1.size → (∀ q : Nat, q < H.size → H1[q]? = H[q]?) → H1[q9]? = some ce → ce.vm = .none → s.vm.findClass E = some ce.cls → vx_W p l e R s m args below meth c H1 locs (cells + mc) (slots + ms) Q (F0 m pc ls rest) q9)
    (kk : P → W p l e R s m args below meth c H locs (cells + mc) (slots + ms) Q (F0 m (pc + 3) ls (v.toList ++ rest))) : W p l e R s m args below meth c H locs cells slots Q (F0 m pc ls st0) := by
  intro T hT X
  rcases hr T hT X with ⟨v', st₀, t, T', L, h0, X', hL, e1, e2, ⟨hP, hv, hheap⟩, st⟩ | ⟨q, st₀, t, T', L, E, ce, h0, X', hL, e1, e2, ⟨hx, hz, hk⟩, hce, hcv, hcl, st⟩
  all_goals
    have hL0 : L = [] := by
      cases L with
      | nil => rfl
      | cons z L => exact (hL z List.mem_cons_self).elim
    subst hL0
    rw [List.append_nil] at X'
  · cases hv
    obtain ⟨t2, a1, b1⟩ := kk hP T' (e1.trans (hheap.trans h0)) X'
    exact ⟨t2, st t2 a1, b1⟩
  · obtain ⟨t2, a1, b1⟩ := kx E ce q T'.heap hx (by rw [e1, ← h0]; exact hz) (fun q9 h9 => by rw [e1, ← h0]; exact hk q9 (by rw [h0]; exact h9)) (by rw [e1]; exact hce) hcv hcl T' rfl X'
    exact ⟨t2, st.trans a1, b1⟩
theorem xw_go {S : Type} {vf : S → Option Value} {P : S → Mp → Prop} {X : String → Prop} (hr : vx_Run p l e R s m args below meth c H locs cells slots mc ms (F0 m pc ls st0) rest (wrQ g vf P a9) (xQ X) (gA g)) (hS : va_S (gA g) s.heap H locs)
    (kx : ∀ (E : String) (ce : Cell) (q9 : Addr) (H1 : Heap) (locs1 : List Loc), X E → H.size ≤ H1.size → (∀ q : Nat, q < H.size → H1[q]? = H[q]?) → va_S (gA g) s.heap H1 locs1 → H1[q9]? = some ce → ce.vm = .none → s.vm.findClass E = some ce.cls → vx_W p l e R s m args below meth c H1 locs1 (cells + mc) (slots + ms) Q (F0 m pc ls rest) q9)
    (kk : ∀ (u : S) (M' : Mp) (H1 : Heap) (locs1 : List Loc), P u M' → Hw g M' H1 → va_S (gA g) s.heap H1 locs1 → W p l e R s m args below meth c H1 locs1 (cells + mc) (slots + ms) Q (F0 m (pc + 3) ls ((vf u).toList ++ rest))) : W p l e R s m args below meth c H locs cells slots Q (F0 m pc ls st0) := by
  intro T hT X
  rcases hr T hT X with ⟨v', st₀, t, T', L, h0, X', hL, e1, e2, ⟨⟨u, M', hv, hp, hH⟩, hF⟩, st⟩ | ⟨q, st₀, t, T', L, E, ce, h0, X', hL, e1, e2, ⟨hx, hz, hk⟩, hce, hcv, hcl, st⟩
  · cases hv
    obtain ⟨-, -, k3⟩ := vx_keep (A0 := gA g) h0 e1 hS (fun _ _ z => z) (fun _ z => z) hL hF
    obtain ⟨t2, a1, b1⟩ := kk u M' T'.heap (locs ++ L) hp (by rw [e1]; exact hH) k3 T' rfl X'
    exact ⟨t2, st t2 a1, b1⟩
  · obtain ⟨-, -, k3⟩ := vx_keep (A0 := gA g) (A1 := gA g) h0 e1 hS (fun _ _ z => z) (fun _ z => z) hL ⟨hz, fun q9 h9 _ => hk q9 h9⟩
    obtain ⟨t2, a1, b1⟩ := kx E ce q T'.heap (locs ++ L) hx (by rw [e1, ← h0]; exact hz) (fun q9 h9 => by rw [e1, ← h0]; exact hk q9 (by rw [h0]; exact h9)) k3 (by rw [e1]; exact hce) hcv hcl T' rfl X'
    exact ⟨t2, st.trans a1, b1⟩
theorem m_recv (hE : gE g s) (hH : Hw g M H) (ho : M a = some (eO ci fs)) (hc : vwCl[ci]? = some q) : ∃ cell : Cell, H[a]? = some cell ∧ cell.vm.isStatics = false ∧ s.vm.findClass q.1 = some cell.cls := va_recv hE.1 (mw_one hH.1 ho) hc (q0 := 0) rfl
abbrev RmOk (rm R : Room) (maxL : Nat) : Prop := rm.frames + 1 ≤ R.frames ∧ 8 + (maxL + 11) + rm.locals ≤ R.locals
-- calls of methods that never throw: V on an object, S static, I a constructor
theorem runV {Qc : Array Value → State → Outcome → State → Prop} {free : Addr → Prop} (C : CallFix p m c cc nL s args WA own) (hE : gE g s) (hH : Hw g M H) (hS : va_S (gA g) s.heap H locs) (hM : Met l y (WY y bytes maxL ret) rm (Wc g M (.ref a :: As)) Qc mc ms free) (B : MVi y bytes maxL ret n) (h1 : Cond.methodLink own idx y ∈ WA) (ho : M a = some (eO ci fs)) (hc : vwCl[ci]? = some q) (hq : q.1 = y.cls) (hsz : ls.size = nL) (hdg : decode cc pc = .ok (.invokevirtual idx, 3)) (hn : As.length = n) (hst : st0 = As.reverse ++ .ref a :: rest) (hrm : rm.cells = mc ∧ rm.slots = ms) (hR : RmOk rm R maxL) (hW : (rest.map fun v => v.category).sum ≤ 8) (hf : cells + mc ≤ R.cells ∧ slots + ms ≤ R.slots) : va_Run p l e R s m args below meth c H locs cells slots mc ms (F0 m pc ls st0) rest (Qc (Value.ref a :: As).toArray) free := by
  obtain ⟨b1, b2, b3, b4, b5⟩ := B
  exact va_runV C hM (cwV n C.2.2.2.2 (gi_V h1 b4 b5 b3 (goodIn_c b1)) rfl hrm.1 hrm.2 ⟨rfl, b2⟩ hR) ⟨Wc_blind, by obtain ⟨cell, z1, z2, z3⟩ := m_recv hE hH ho hc; exact ⟨cell, z1, z2, by rw [← hq]; exact z3⟩, Wc_at hE hH hS (.ref a :: As)⟩ rfl hn hsz hst (lv_room hW) hdg hf
theorem runS {Qc : Array Value → State → Outcome → State → Prop} {free : Addr → Prop} (C : CallFix p m c cc nL s args WA own) (hE : gE g s) (hH : Hw g M H) (hS : va_S (gA g) s.heap H locs) (hM : Met l y (WY y bytes maxL ret) rm (Wc g M As) Qc mc ms free) (B : MVs y bytes maxL ret n) (h1 : Cond.methodLink own idx y ∈ WA) (hsz : ls.size = nL) (hdg : decode cc pc = .ok (.invokestatic idx, 3)) (hn : As.length = n) (hst : st0 = As.reverse ++ rest) (hrm : rm.cells = mc ∧ rm.slots = ms) (hR : RmOk rm R maxL) (hW : (rest.map fun v => v.category).sum ≤ 8) (hf : cells + mc ≤ R.cells ∧ slots + ms ≤ R.slots) : va_Run p l e R s m args below meth c H locs cells slots mc ms (F0 m pc ls st0) rest (Qc As.toArray) free := by
  obtain ⟨b1, b2, b3, b4⟩ := B
  exact va_runS C hM (va_cwS n C.2.2.2.2 (gi_S h1 b4 b3 (goodIn_c b1)) rfl hrm.1 hrm.2 b2 hR) ⟨Wc_blind, Wc_at hE hH hS As⟩ rfl hn hsz hst (lv_room hW) hdg hf
theorem runI {Qc : Array Value → State → Outcome → State → Prop} {free : Addr → Prop} (C : CallFix p m c cc nL s args WA own) (hE : gE g s) (hH : Hw g M H) (hS : va_S (gA g) s.heap H locs) (hM : Met l y (WY y bytes maxL none) rm (Wc g M (.ref a :: As)) Qc mc ms free) (B : MVc y bytes maxL n) (h1 : Cond.methodLink own idx y ∈ WA) (hsz : ls.size = nL) (hdg : decode cc pc = .ok (.invokespecial idx, 3)) (hn : As.length = n) (hst : st0 = As.reverse ++ .ref a :: rest) (hrm : rm.cells = mc ∧ rm.slots = ms) (hR : RmOk rm R maxL) (hW : (rest.map fun v => v.category).sum ≤ 8) (hf : cells + mc ≤ R.cells ∧ slots + ms ≤ R.slots) : va_Run p l e R s m args below meth c H locs cells slots mc ms (F0 m pc ls st0) rest (Qc (Value.ref a :: As).toArray) free := by
  obtain ⟨b1, b2, b3, b4, b5⟩ := B
  exact va_runI C hM (cwI n C.2.2.2.2 (goodIn_c b1) rfl hrm.1 hrm.2 (C.2.2.2.2 _ b3) (C.2.2.2.2 _ h1) (C.2.2.2.2 _ b4) b5 b2 hR) ⟨Wc_blind, Wc_at hE hH hS (.ref a :: As)⟩ rfl hn hsz hst (lv_room hW) hdg hf
theorem runIN {host : String} {Qc : Array Value → State → Outcome → State → Prop} {free : Addr → Prop} (C : CallFix p m c cc nL s args WA own) (hE : gE g s) (hH : Hw g M H) (hS : va_S (gA g) s.heap H locs) (hM : Met l y (WY y bytes maxL none) rm (Wc g M (.ref a :: As)) Qc mc ms free) (B : MVc y bytes maxL n) (h1 : va_Nw (.methodLinkNest own idx y host) s) (hsz : ls.size = nL) (hdg : decode cc pc = .ok (.invokespecial idx, 3)) (hn : As.length = n) (hst : st0 = As.reverse ++ .ref a :: rest) (hrm : rm.cells = mc ∧ rm.slots = ms) (hR : RmOk rm R maxL) (hW : (rest.map fun v => v.category).sum ≤ 8) (hf : cells + mc ≤ R.cells ∧ slots + ms ≤ R.slots) : va_Run p l e R s m args below meth c H locs cells slots mc ms (F0 m pc ls st0) rest (Qc (Value.ref a :: As).toArray) free := by
  obtain ⟨b1, b2, b3, b4, b5⟩ := B
  exact va_runIN C hM ⟨va_cnB n C.2.2.2.2 (goodIn_c b1) rfl hrm.1 hrm.2 h1 (C.2.2.2.2 _ b3) b2 hR, b5, C.2.2.2.2 _ b4⟩ ⟨Wc_blind, Wc_at hE hH hS (.ref a :: As)⟩ rfl hn hsz hst (lv_room hW) hdg hf
theorem runSN {host : String} {Qc : Array Value → State → Outcome → State → Prop} {free : Addr → Prop} (C : CallFix p m c cc nL s args WA own) (hE : gE g s) (hH : Hw g M H) (hS : va_S (gA g) s.heap H locs) (hM : Met l y (WY y bytes maxL ret) rm (Wc g M As) Qc mc ms free) (B : MVs y bytes maxL ret n) (h1 : va_Nw (.methodLinkNest own idx y host) s) (hsz : ls.size = nL) (hdg : decode cc pc = .ok (.invokestatic idx, 3)) (hn : As.length = n) (hst : st0 = As.reverse ++ rest) (hrm : rm.cells = mc ∧ rm.slots = ms) (hR : RmOk rm R maxL) (hW : (rest.map fun v => v.category).sum ≤ 8) (hf : cells + mc ≤ R.cells ∧ slots + ms ≤ R.slots) : va_Run p l e R s m args below meth c H locs cells slots mc ms (F0 m pc ls st0) rest (Qc As.toArray) free := by
  obtain ⟨b1, b2, b3, b4⟩ := B
  exact va_runSN C hM ⟨va_cnB n C.2.2.2.2 (goodIn_c b1) rfl hrm.1 hrm.2 h1 (C.2.2.2.2 _ b3) b2 hR, C.2.2.2.2 _ b4, trivial⟩ ⟨Wc_blind, Wc_at hE hH hS As⟩ rfl hn hsz hst (lv_room hW) hdg hf
theorem runT {Qc : Array Value → State → Outcome → State → Prop} {free : Addr → Prop} (C : CallFix p m c cc nL s args WA own) (hE : gE g s) (hH : Hw g M H) (hS : va_S (gA g) s.heap H locs) (hM : Met l y (Cond.codeWith y bytes maxL ret hh :: WA) rm (Wc g M As) Qc mc ms free) (B : MVt y bytes maxL ret hh n) (h1 : Cond.methodLink own idx y ∈ WA) (hsz : ls.size = nL) (hdg : decode cc pc = .ok (.invokestatic idx, 3)) (hn : As.length = n) (hst : st0 = As.reverse ++ rest) (hrm : rm.cells = mc ∧ rm.slots = ms) (hR : RmOk rm R maxL) (hW : (rest.map fun v => v.category).sum ≤ 8) (hf : cells + mc ≤ R.cells ∧ slots + ms ≤ R.slots) : va_Run p l e R s m args below meth c H locs cells slots mc ms (F0 m pc ls st0) rest (Qc As.toArray) free := by
  obtain ⟨b1, b2, b3, b4⟩ := B
  exact vx_runSW C hM (vx_cwSW n C.2.2.2.2 (gi_S h1 b4 b3 (goodIn_t b1)) rfl hrm.1 hrm.2 b2 hR) ⟨Wc_blind, Wc_at hE hH hS As⟩ rfl hn hsz hst (lv_room hW) hdg hf
-- calls of methods that may throw
theorem xrunV {Qc : Array Value → State → Outcome → State → Prop} {XC : String → State → State → Prop} {free : Addr → Prop} (C : CallFix p m c cc nL s args WA own) (hE : gE g s) (hH : Hw g M H) (hS : va_S (gA g) s.heap H locs) (hM : vx_Met l y (WY y bytes maxL ret) rm (Wc g M (.ref a :: As)) Qc XC mc ms free) (B : MVi y bytes maxL ret n) (h1 : Cond.methodLink own idx y ∈ WA) (ho : M a = some (eO ci fs)) (hc : vwCl[ci]? = some q) (hq : q.1 = y.cls) (hsz : ls.size = nL) (hdg : decode cc pc = .ok (.invokevirtual idx, 3)) (hn : As.length = n) (hst : st0 = As.reverse ++ .ref a :: rest) (hrm : rm.cells = mc ∧ rm.slots = ms) (hR : RmOk rm R maxL) (hW : (rest.map fun v => v.category).sum ≤ 8) (hf : cells + mc ≤ R.cells ∧ slots + ms ≤ R.slots) : vx_Run p l e R s m args below meth c H locs cells slots mc ms (F0 m pc ls st0) rest (Qc (Value.ref a :: As).toArray) XC free := by
  obtain ⟨b1, b2, b3, b4, b5⟩ := B
  exact vx_runV C hM (cwV n C.2.2.2.2 (gi_V h1 b4 b5 b3 (goodIn_c b1)) rfl hrm.1 hrm.2 ⟨rfl, b2⟩ hR) ⟨Wc_blind, by obtain ⟨cell, z1, z2, z3⟩ := m_recv hE hH ho hc; exact ⟨cell, z1, z2, by rw [← hq]; exact z3⟩, Wc_at hE hH hS (.ref a :: As)⟩ rfl hn hsz hst (lv_room hW) hdg hf
theorem xrunS {Qc : Array Value → State → Outcome → State → Prop} {XC : String → State → State → Prop} {free : Addr → Prop} (C : CallFix p m c cc nL s args WA own) (hE : gE g s) (hH : Hw g M H) (hS : va_S (gA g) s.heap H locs) (hM : vx_Met l y (WY y bytes maxL ret) rm (Wc g M As) Qc XC mc ms free) (B : MVs y bytes maxL ret n) (h1 : Cond.methodLink own idx y ∈ WA) (hsz : ls.size = nL) (hdg : decode cc pc = .ok (.invokestatic idx, 3)) (hn : As.length = n) (hst : st0 = As.reverse ++ rest) (hrm : rm.cells = mc ∧ rm.slots = ms) (hR : RmOk rm R maxL) (hW : (rest.map fun v => v.category).sum ≤ 8) (hf : cells + mc ≤ R.cells ∧ slots + ms ≤ R.slots) : vx_Run p l e R s m args below meth c H locs cells slots mc ms (F0 m pc ls st0) rest (Qc As.toArray) XC free := by
  obtain ⟨b1, b2, b3, b4⟩ := B
  exact vx_runS C hM (va_cwS n C.2.2.2.2 (gi_S h1 b4 b3 (goodIn_c b1)) rfl hrm.1 hrm.2 b2 hR) ⟨Wc_blind, Wc_at hE hH hS As⟩ rfl hn hsz hst (lv_room hW) hdg hf
theorem rd_go1 {v1 : Value} (hr : va_Run p l e R s m args below meth c H locs cells slots 0 0 (F0 m pc ls st0) rest (rdQ (some v1) a9) fr0) (kk : W p l e R s m args below meth c H locs cells slots Q (F0 m (pc + 3) ls (v1 :: rest))) : W p l e R s m args below meth c H locs cells slots Q (F0 m pc ls st0) := rd_go hr kk
theorem rd_go0 (hr : va_Run p l e R s m args below meth c H locs cells slots 0 0 (F0 m pc ls st0) rest (rdQ none a9) fr0) (kk : W p l e R s m args below meth c H locs cells slots Q (F0 m (pc + 3) ls rest)) : W p l e R s m args below meth c H locs cells slots Q (F0 m pc ls st0) := rd_go hr kk
theorem wr_go1 {S : Type} {vf : S → Value} {P : S → Mp → Prop} (hr : va_Run p l e R s m args below meth c H locs cells slots mc ms (F0 m pc ls st0) rest (wrQ g (fun u => some (vf u)) P a9) (gA g)) (hS : va_S (gA g) s.heap H locs) (kk : ∀ (u : S) (M' : Mp) (H1 : Heap) (locs1 : List Loc), P u M' → Hw g M' H1 → va_S (gA g) s.heap H1 locs1 → W p l e R s m args below meth c H1 locs1 (cells + mc) (slots + ms) Q (F0 m (pc + 3) ls (vf u :: rest))) : W p l e R s m args below meth c H locs cells slots Q (F0 m pc ls st0) := wr_go hr hS kk
theorem wr_go0 {S : Type} {P : S → Mp → Prop} (hr : va_Run p l e R s m args below meth c H locs cells slots mc ms (F0 m pc ls st0) rest (wrQ g (fun _ => none) P a9) (gA g)) (hS : va_S (gA g) s.heap H locs) (kk : ∀ (u : S) (M' : Mp) (H1 : Heap) (locs1 : List Loc), P u M' → Hw g M' H1 → va_S (gA g) s.heap H1 locs1 → W p l e R s m args below meth c H1 locs1 (cells + mc) (slots + ms) Q (F0 m (pc + 3) ls rest)) : W p l e R s m args below meth c H locs cells slots Q (F0 m pc ls st0) := wr_go hr hS kk
theorem xr_go1 {P : Prop} {X : String → Prop} {v1 : Value} (hr : vx_Run p l e R s m args below meth c H locs cells slots mc ms (F0 m pc ls st0) rest (xrQ P (some v1) a9) (xQ X) fr0)
    (kx : ∀ (E : String) (ce : Cell) (q9 : Addr) (H1 : Heap), X E → H.size ≤ H1.size → (∀ q : Nat, q < H.size → H1[q]? = H[q]?) → H1[q9]? = some ce → ce.vm = .none → s.vm.findClass E = some ce.cls → vx_W p l e R s m args below meth c H1 locs (cells + mc) (slots + ms) Q (F0 m pc ls rest) q9)
    (kk : P → W p l e R s m args below meth c H locs (cells + mc) (slots + ms) Q (F0 m (pc + 3) ls (v1 :: rest))) : W p l e R s m args below meth c H locs cells slots Q (F0 m pc ls st0) := xr_go hr kx kk
theorem xr_go0 {P : Prop} {X : String → Prop} (hr : vx_Run p l e R s m args below meth c H locs cells slots mc ms (F0 m pc ls st0) rest (xrQ P none a9) (xQ X) fr0)
    (kx : ∀ (E : String) (ce : Cell) (q9 : Addr) (H1 : Heap), X E → H.size ≤ H1.size → (∀ q : Nat, q < H.size → H1[q]? = H[q]?) → H1[q9]? = some ce → ce.vm = .none → s.vm.findClass E = some ce.cls → vx_W p l e R s m args below meth c H1 locs (cells + mc) (slots + ms) Q (F0 m pc ls rest) q9)
    (kk : P → W p l e R s m args below meth c H locs (cells + mc) (slots + ms) Q (F0 m (pc + 3) ls rest)) : W p l e R s m args below meth c H locs cells slots Q (F0 m pc ls st0) := xr_go hr kx kk
theorem xw_go1 {S : Type} {vf : S → Value} {P : S → Mp → Prop} {X : String → Prop} (hr : vx_Run p l e R s m args below meth c H locs cells slots mc ms (F0 m pc ls st0) rest (wrQ g (fun u => some (vf u)) P a9) (xQ X) (gA g)) (hS : va_S (gA g) s.heap H locs)
    (kx : ∀ (E : String) (ce : Cell) (q9 : Addr) (H1 : Heap) (locs1 : List Loc), X E → H.size ≤ H1.size → (∀ q : Nat, q < H.size → H1[q]? = H[q]?) → va_S (gA g) s.heap H1 locs1 → H1[q9]? = some ce → ce.vm = .none → s.vm.findClass E = some ce.cls → vx_W p l e R s m args below meth c H1 locs1 (cells + mc) (slots + ms) Q (F0 m pc ls rest) q9)
    (kk : ∀ (u : S) (M' : Mp) (H1 : Heap) (locs1 : List Loc), P u M' → Hw g M' H1 → va_S (gA g) s.heap H1 locs1 → W p l e R s m args below meth c H1 locs1 (cells + mc) (slots + ms) Q (F0 m (pc + 3) ls (vf u :: rest))) : W p l e R s m args below meth c H locs cells slots Q (F0 m pc ls st0) := xw_go hr hS kx kk
end MCR
end
section
/-! METHODS OVER THE MAP WORLD: their heads and their ends -/
theorem ofM {l : Launch} {y : MethodName} {cc : ByteArray} {maxL : Nat} {ret : Option FieldType} {rm : Room} {g : gG} {M : Mp} {As : List Value} {Qc : Array Value → State → Outcome → State → Prop} {mc ms : Nat} {free : Addr → Prop} (hy : plainName y.cls = true) (hA : (lg_sl As).length ≤ maxL)
    (body : ∀ (p : Program) (e : Env) (s : State) (m : MethodId) (args : Array Value) (below : List Frame) (meth : Method) (c : Code) (ls : Array Slot), CallFix p m c cc maxL s args WA y.cls → meth.sig.returnType = ret → meth.locks = false → meth.name = y.name → gE g s → Hw g M s.heap → lv_has ls maxL (lv_args 0 As) → args = As.toArray → W p l e rm s m args below meth c s.heap [] 0 0 (MQ below Qc args s mc ms free) (F0 m 0 ls [])) : Met l y (WY y cc maxL ret) rm (Wc g M As) Qc mc ms free := by
  refine Met.ofW (cc := cc) (maxL := maxL) (ret := ret) hy rfl ?_
  intro p e s m args below meth c s₁ B hml hv
  obtain ⟨rfl, hE, hH⟩ := hv
  have hts := atoms_spec (ws := WY y cc maxL ret) B.pre
  have hl := lv_entry As (n := maxL) hA
  rw [lg_entry_eq]
  exact body p e s m _ below meth c _ ⟨B.exec, B.bytes, hml, findClass_of_methodNamed B.named, fun w h => hts w (List.mem_cons_of_mem _ h)⟩ B.returns B.notSynchronized (name_of_methodNamed B.named B.method).1 hE hH hl rfl
theorem ofX {l : Launch} {y : MethodName} {cc : ByteArray} {maxL : Nat} {ret : Option FieldType} {rm : Room} {g : gG} {M : Mp} {As : List Value} {Qc : Array Value → State → Outcome → State → Prop} {XC : String → State → State → Prop} {mc ms : Nat} {free : Addr → Prop} (hy : plainName y.cls = true) (hA : (lg_sl As).length ≤ maxL)
    (body : ∀ (p : Program) (e : Env) (s : State) (m : MethodId) (args : Array Value) (below : List Frame) (meth : Method) (c : Code) (ls : Array Slot), CallFix p m c cc maxL s args WA y.cls → meth.sig.returnType = ret → meth.locks = false → (∀ x ∈ c.exceptionTable.toList, False) → gE g s → Hw g M s.heap → lv_has ls maxL (lv_args 0 As) → args = As.toArray → W p l e rm s m args below meth c s.heap [] 0 0 (vx_MQ below Qc XC args s mc ms free) (F0 m 0 ls [])) : vx_Met l y (WY y cc maxL ret) rm (Wc g M As) Qc XC mc ms free := by
  refine vx_ofW (cc := cc) (maxL := maxL) (ret := ret) hy rfl ?_
  intro p e s m args below meth c s₁ B hml hout hv
  obtain ⟨rfl, hE, hH⟩ := hv
  have hts := atoms_spec (ws := WY y cc maxL ret) B.pre
  have hl := lv_entry As (n := maxL) hA
  rw [lg_entry_eq]
  exact body p e s m _ below meth c _ ⟨B.exec, B.bytes, hml, findClass_of_methodNamed B.named, fun w h => hts w (List.mem_cons_of_mem _ h)⟩ B.returns B.notSynchronized hout hE hH hl rfl
section MER
variable {p : Program} {l : Launch} {e : Env} {R : Room} {s : State} {m : MethodId} {args : Array Value} {below : List Frame} {meth : Method} {c : Code} {H : Heap} {locs : List Loc} {cells slots : Nat}
variable {cc : ByteArray} {nL mc ms : Nat} {own : String} {pc : Nat} {ls : Array Slot} {rest : List Value} {g : gG} {M : Mp} {Ts : List Cond}
theorem rd_iret {v w : Int32} (C : CallFix p m c cc nL s args Ts own) (hr : meth.sig.returnType = some .int) (hk : meth.locks = false) (hv : v = w) (hdg : decode cc pc = .ok (.ireturn, 1)) : W p l e R s m args below meth c s.heap [] 0 0 (MQ below (rdQ (some (.int w))) args s 0 0 fr0) (F0 m pc ls [.int v]) := by
  subst hv
  exact W.iret C.1 C.2.1 hr (fun t ht _ => ⟨rfl, ht⟩) (fun _ h => by cases h) hdg hk
theorem rd_zret {v w : Int32} (C : CallFix p m c cc nL s args Ts own) (hr : meth.sig.returnType = some .boolean) (hk : meth.locks = false) (hn : narrow .boolean (.int v) = .int v) (hv : v = w) (hdg : decode cc pc = .ok (.ireturn, 1)) : W p l e R s m args below meth c s.heap [] 0 0 (MQ below (rdQ (some (.int w))) args s 0 0 fr0) (F0 m pc ls [.int v]) := by
  subst hv
  exact W.zret C.1 C.2.1 hr hn (fun t ht _ => ⟨rfl, ht⟩) (fun _ h => by cases h) hdg hk
theorem rd_aret {v w : Nat} {rt : FieldType} (C : CallFix p m c cc nL s args Ts own) (hr : meth.sig.returnType = some rt) (hk : meth.locks = false) (hrt : (∃ n, rt = .object n) ∨ ∃ t, rt = .array t) (hv : v = w) (hdg : decode cc pc = .ok (.areturn, 1)) : W p l e R s m args below meth c s.heap [] 0 0 (MQ below (rdQ (some (.ref w))) args s 0 0 fr0) (F0 m pc ls [.ref v]) := by
  subst hv
  exact W.aret C.1 C.2.1 hr hrt (Or.inr ⟨v, rfl⟩) (fun t ht _ => ⟨rfl, ht⟩) (fun _ h => by cases h) hdg hk
theorem rd_vret (C : CallFix p m c cc nL s args Ts own) (hr : meth.sig.returnType = none) (hk : meth.locks = false) (hdg : decode cc pc = .ok (.return_, 1)) : W p l e R s m args below meth c s.heap [] 0 0 (MQ below (rdQ none) args s 0 0 fr0) (F0 m pc ls []) :=
  W.vret C.1 C.2.1 hr (fun t ht _ => ⟨rfl, ht⟩) (fun _ h => by cases h) hdg hk
-- ends of a method that writes
theorem wr_iret {S : Type} {vf : S → Option Value} {P : S → Mp → Prop} (u : S) {v : Int32} (C : CallFix p m c cc nL s args Ts own) (hr : meth.sig.returnType = some .int) (hk : meth.locks = false) (hH : Hw g M H) (hS : va_S (gA g) s.heap H locs) (hv : vf u = some (.int v)) (hp : P u M) (h1 : cells ≤ mc) (h2 : slots ≤ ms) (hdg : decode cc pc = .ok (.ireturn, 1)) : W p l e R s m args below meth c H locs cells slots (MQ below (wrQ g vf P) args s mc ms (gA g)) (F0 m pc ls [.int v]) :=
  W.widen h1 h2 (W.iret C.1 C.2.1 hr (fun t ht _ => ⟨⟨u, M, by rw [hv], hp, by rw [ht]; exact hH⟩, hS.F ht⟩) hS.2.2 hdg hk)
theorem wr_zret {S : Type} {vf : S → Option Value} {P : S → Mp → Prop} (u : S) {v : Int32} (C : CallFix p m c cc nL s args Ts own) (hr : meth.sig.returnType = some .boolean) (hk : meth.locks = false) (hn : narrow .boolean (.int v) = .int v) (hH : Hw g M H) (hS : va_S (gA g) s.heap H locs) (hv : vf u = some (.int v)) (hp : P u M) (h1 : cells ≤ mc) (h2 : slots ≤ ms) (hdg : decode cc pc = .ok (.ireturn, 1)) : W p l e R s m args below meth c H locs cells slots (MQ below (wrQ g vf P) args s mc ms (gA g)) (F0 m pc ls [.int v]) :=
  W.widen h1 h2 (W.zret C.1 C.2.1 hr hn (fun t ht _ => ⟨⟨u, M, by rw [hv], hp, by rw [ht]; exact hH⟩, hS.F ht⟩) hS.2.2 hdg hk)
theorem wr_aret {S : Type} {vf : S → Option Value} {P : S → Mp → Prop} (u : S) {v : Nat} {rt : FieldType} (C : CallFix p m c cc nL s args Ts own) (hr : meth.sig.returnType = some rt) (hk : meth.locks = false) (hrt : (∃ n, rt = .object n) ∨ ∃ t, rt = .array t) (hH : Hw g M H) (hS : va_S (gA g) s.heap H locs) (hv : vf u = some (.ref v)) (hp : P u M) (h1 : cells ≤ mc) (h2 : slots ≤ ms) (hdg : decode cc pc = .ok (.areturn, 1)) : W p l e R s m args below meth c H locs cells slots (MQ below (wrQ g vf P) args s mc ms (gA g)) (F0 m pc ls [.ref v]) :=
  W.widen h1 h2 (W.aret C.1 C.2.1 hr hrt (Or.inr ⟨v, rfl⟩) (fun t ht _ => ⟨⟨u, M, by rw [hv], hp, by rw [ht]; exact hH⟩, hS.F ht⟩) hS.2.2 hdg hk)
theorem wr_vret {S : Type} {vf : S → Option Value} {P : S → Mp → Prop} (u : S) (C : CallFix p m c cc nL s args Ts own) (hr : meth.sig.returnType = none) (hk : meth.locks = false) (hH : Hw g M H) (hS : va_S (gA g) s.heap H locs) (hv : vf u = none) (hp : P u M) (h1 : cells ≤ mc) (h2 : slots ≤ ms) (hdg : decode cc pc = .ok (.return_, 1)) : W p l e R s m args below meth c H locs cells slots (MQ below (wrQ g vf P) args s mc ms (gA g)) (F0 m pc ls []) :=
  W.widen h1 h2 (W.vret C.1 C.2.1 hr (fun t ht _ => ⟨⟨u, M, by rw [hv], hp, by rw [ht]; exact hH⟩, hS.F ht⟩) hS.2.2 hdg hk)
-- ends of a method that may throw and else reads
theorem xr_iret {P : Prop} {XC : String → State → State → Prop} {v w : Int32} (C : CallFix p m c cc nL s args Ts own) (hr : meth.sig.returnType = some .int) (hk : meth.locks = false) (hp : P) (hv : v = w) (h1 : cells ≤ mc) (h2 : slots ≤ ms) (hdg : decode cc pc = .ok (.ireturn, 1)) : W p l e R s m args below meth c s.heap [] cells slots (vx_MQ below (xrQ P (some (.int w))) XC args s mc ms fr0) (F0 m pc ls [.int v]) := by
  subst hv
  exact vx_ret (W.widen h1 h2 (W.iret C.1 C.2.1 hr (fun t ht _ => ⟨hp, rfl, ht⟩) (fun _ h => by cases h) hdg hk))
theorem xr_aret {P : Prop} {XC : String → State → State → Prop} {v w : Nat} {rt : FieldType} (C : CallFix p m c cc nL s args Ts own) (hr : meth.sig.returnType = some rt) (hk : meth.locks = false) (hrt : (∃ n, rt = .object n) ∨ ∃ t, rt = .array t) (hp : P) (hv : v = w) (h1 : cells ≤ mc) (h2 : slots ≤ ms) (hdg : decode cc pc = .ok (.areturn, 1)) : W p l e R s m args below meth c s.heap [] cells slots (vx_MQ below (xrQ P (some (.ref w))) XC args s mc ms fr0) (F0 m pc ls [.ref v]) := by
  subst hv
  exact vx_ret (W.widen h1 h2 (W.aret C.1 C.2.1 hr hrt (Or.inr ⟨v, rfl⟩) (fun t ht _ => ⟨hp, rfl, ht⟩) (fun _ h => by cases h) hdg hk))
theorem xr_vret {P : Prop} {XC : String → State → State → Prop} (C : CallFix p m c cc nL s args Ts own) (hr : meth.sig.returnType = none) (hk : meth.locks = false) (hp : P) (h1 : cells ≤ mc) (h2 : slots ≤ ms) (hdg : decode cc pc = .ok (.return_, 1)) : W p l e R s m args below meth c s.heap [] cells slots (vx_MQ below (xrQ P none) XC args s mc ms fr0) (F0 m pc ls []) :=
  vx_ret (W.widen h1 h2 (W.vret C.1 C.2.1 hr (fun t ht _ => ⟨hp, rfl, ht⟩) (fun _ h => by cases h) hdg hk))
/-- an exception that passes through a method that has written nothing -/
theorem x_pass {Qc : Array Value → State → Outcome → State → Prop} {X : String → Prop} {free : Addr → Prop} {E : String} {ce : Cell} {q : Addr} {H1 : Heap} (hout : ∀ x ∈ c.exceptionTable.toList, False) (hk : meth.locks = false) (hx : X E) (hz : s.heap.size ≤ H1.size) (ho : ∀ q : Nat, q < s.heap.size → H1[q]? = s.heap[q]?) (hcell : H1[q]? = some ce) (hv : ce.vm = .none) (hcl : s.vm.findClass E = some ce.cls) (h1 : cells ≤ mc) (h2 : slots ≤ ms) : vx_W p l e R s m args below meth c H1 [] cells slots (vx_MQ below Qc (xQ X) args s mc ms free) (F0 m pc ls rest) q :=
  vx_out (fun x h => (hout x h).elim) hk hcell hv hcl (fun t ht _ => ⟨hx, by rw [ht]; exact hz, fun q9 h9 => by rw [ht]; exact ho q9 h9⟩) (fun _ h => by cases h) h1 h2
def xNm : List String := ["java/lang/RuntimeException", "java/lang/Exception"]
/-- what the tables say of 'throw new cls(text)' in class own -/
def Tw (own : String) (ik is ic : Nat) (cls text : String) : Prop := Bundle.fit cls = true ∧ (∀ n ∈ xNm, Bundle.fit n = true) ∧ Cond.classLink own ik cls ∈ WA ∧ Cond.initialized cls ∈ WA ∧ (own, is, text) ∈ gStr ∧ (∀ w ∈ vx_atS own ic cls xNm, w ∈ WA ∨ w = .castable cls cls ∨ w ∈ gDcl) ∧ (∀ w ∈ Cond.classLink own ik cls :: Cond.initialized cls :: vx_atS own ic cls xNm, vx_ot w = true) ∧ cls ∈ gXs
theorem gDcl_ot {w : Cond} (h : w ∈ gDcl) : w.onTables = true := by
  rcases List.mem_cons.mp h with rfl | h
  · rfl
  rcases List.mem_cons.mp h with rfl | h
  · rfl
  rcases List.mem_cons.mp h with rfl | h
  · rfl
  exact absurd h List.not_mem_nil
theorem x_throw {Qc : Array Value → State → Outcome → State → Prop} {X : String → Prop} {free : Addr → Prop} {ik is ic : Nat} {cls text : String} (C : CallFix p m c cc nL s args WA own) (hl : l.stackTraces = false) (hout : ∀ x ∈ c.exceptionTable.toList, False) (hk : meth.locks = false) (hE : gE g s) (F : Tw own ik is ic cls text) (hsz : ls.size = nL) (hx : X cls)
    (d0 : decode cc pc = .ok (.new ik, 3)) (d3 : decode cc (pc + 3) = .ok (.dup, 1)) (d4 : decode cc (pc + 4) = .ok (.ldc is, 2)) (d6 : decode cc (pc + 6) = .ok (.invokespecial ic, 3)) (d9 : decode cc (pc + 9) = .ok (.athrow, 1))
    (hRf : 5 < R.frames) (hRl : (rest.map fun v => v.category).sum + 82 ≤ R.locals) (hRc : cells + 1 ≤ R.cells) (hRs : slots + 6 ≤ R.slots) (h1 : cells + 1 ≤ mc) (h2 : slots + 6 ≤ ms) : W p l e R s m args below meth c s.heap [] cells slots (vx_MQ below Qc (xQ X) args s mc ms free) (F0 m pc ls rest) := by
  obtain ⟨f1, f2, f3, f4, f5, f6, f7, f8⟩ := F
  obtain ⟨sa, hstr⟩ := hE.2.2.2.1 _ f5
  refine vx_throwS (names := xNm) (A := gA g) C.1 C.2.1 hl C.2.2.2.1 f1 f2 (C.2.2.2.2 _ f3) (C.2.2.2.2 _ f4) hstr (fun w hw => ?_) f7 hE.2.2.2.2.1.1 hE.2.2.2.2.1.2 va_S.rf (hsz.trans C.2.2.1.symm) d0 d3 d4 d6 d9 (fun x h => (hout x h).elim) hRf hRl hRc hRs hk (fun t _ hz ho => ⟨hx, hz, ho⟩) (fun _ h => by cases h) h1 h2
  rcases f6 w hw with h | rfl | h
  · exact C.2.2.2.2 _ h
  · exact (hE.2.2.2.2.2.2.2.1 _ f8).use rfl
  · exact (hE.2.2.2.2.2.2.2.2.2.2.2.2.2 w h).use (gDcl_ot h)
end MER
end
section
/-! what the tables say, bundled: fields, classes, methods, throws -/
theorem iw_RJx4a65c : ∀ w ∈ u_ws RJx4a65c TJx4a65c 3, w ∈ WA := by decide +kernel
theorem iw_RX0 : ∀ w ∈ u_ws RX0 TX0 5, w ∈ WA := by decide +kernel
theorem iw_RX1 : ∀ w ∈ u_ws RX1 TX1 3, w ∈ WA := by decide +kernel
theorem iw_RX2 : ∀ w ∈ u_ws RX2 TX2 4, w ∈ WA := by decide +kernel
theorem iw_RX3 : ∀ w ∈ u_ws RX3 TX3 6, w ∈ WA := by decide +kernel
theorem iw_RX4 : ∀ w ∈ u_ws RX4 TX4 9, w ∈ WA := by decide +kernel
theorem iw_RX5 : ∀ w ∈ u_ws RX5 TX5 8, w ∈ WA := by decide +kernel
theorem iw_RX6 : ∀ w ∈ u_ws RX6 TX6 24, w ∈ WA := by decide +kernel
theorem fl_69 : Fl "java/util/ArrayList" 9 0 1 false (.array (.object "java/lang/Object")) := ⟨RJx4a65c, TJx4a65c, 3, tyJx4a65c, "java/util/ArrayList", rfl, by decide, iw_RJx4a65c, wm_69, Or.inl rfl, tyJx4a65c_ok, nmJx4a65c, rfl, rfl⟩
theorem fl_70 : Fl "java/util/ArrayList" 48 0 2 false .int := ⟨RJx4a65c, TJx4a65c, 3, tyJx4a65c, "java/util/ArrayList", rfl, by decide, iw_RJx4a65c, wm_70, Or.inl rfl, tyJx4a65c_ok, nmJx4a65c, rfl, rfl⟩
theorem fl_71 : Fl "java/util/AbstractList" 7 0 0 false .int := ⟨RJx4a65c, TJx4a65c, 3, tyJx4a65c, "java/util/AbstractList", rfl, by decide, iw_RJx4a65c, wm_71, Or.inl rfl, tyJx4a65c_ok, nmJx4a65c, rfl, rfl⟩
theorem fl_72 : Fl "java/util/ArrayList" 63 0 0 false .int := ⟨RJx4a65c, TJx4a65c, 3, tyJx4a65c, "java/util/ArrayList", rfl, by decide, iw_RJx4a65c, wm_72, Or.inr wm_73, tyJx4a65c_ok, nmJx4a65c, rfl, rfl⟩
theorem fl_91 : Fl "DyeRing$Cloth" 20 2 0 false .int := ⟨RX1, TX1, 3, tyX1, "DyeRing$Cloth", rfl, by decide, iw_RX1, wm_91, Or.inl rfl, tyX1_ok, nmX1, rfl, rfl⟩
theorem fl_92 : Fl "DyeRing" 185 2 0 false .int := ⟨RX1, TX1, 3, tyX1, "DyeRing$Cloth", rfl, by decide, iw_RX1, wm_92, Or.inl rfl, tyX1_ok, nmX1, rfl, rfl⟩
theorem fl_93 : Fl "DyeRing$Cloth" 11 2 1 true (.array (.array .int)) := ⟨RX1, TX1, 3, tyX1, "DyeRing$Cloth", rfl, by decide, iw_RX1, wm_93, Or.inl rfl, tyX1_ok, nmX1, rfl, rfl⟩
theorem fp_93 : Fp "DyeRing$Cloth" 11 2 1 (.array (.array .int)) := ⟨RX1, TX1, 3, tyX1, "DyeRing$Cloth", rfl, by decide, iw_RX1, wm_93, rfl, tyX1_ok, nmX1, rfl, rfl, rfl⟩
theorem fl_94 : Fl "DyeRing" 190 2 1 true (.array (.array .int)) := ⟨RX1, TX1, 3, tyX1, "DyeRing$Cloth", rfl, by decide, iw_RX1, wm_94, Or.inl rfl, tyX1_ok, nmX1, rfl, rfl⟩
theorem fl_95 : Fl "DyeRing$Cloth" 16 2 2 true (.array .int) := ⟨RX1, TX1, 3, tyX1, "DyeRing$Cloth", rfl, by decide, iw_RX1, wm_95, Or.inl rfl, tyX1_ok, nmX1, rfl, rfl⟩
theorem fp_95 : Fp "DyeRing$Cloth" 16 2 2 (.array .int) := ⟨RX1, TX1, 3, tyX1, "DyeRing$Cloth", rfl, by decide, iw_RX1, wm_95, rfl, tyX1_ok, nmX1, rfl, rfl, rfl⟩
theorem fl_104 : Fl "DyeRing" 10 6 0 true (.object "java/util/ArrayList") := ⟨RX5, TX5, 8, tyX5, "DyeRing", rfl, by decide, iw_RX5, wm_104, Or.inl rfl, tyX5_ok, nmX5, rfl, rfl⟩
theorem fp_104 : Fp "DyeRing" 10 6 0 (.object "java/util/ArrayList") := ⟨RX5, TX5, 8, tyX5, "DyeRing", rfl, by decide, iw_RX5, wm_104, rfl, tyX5_ok, nmX5, rfl, rfl, rfl⟩
theorem fl_105 : Fl "DyeRing" 16 6 1 true (.object "java/util/ArrayList") := ⟨RX5, TX5, 8, tyX5, "DyeRing", rfl, by decide, iw_RX5, wm_105, Or.inl rfl, tyX5_ok, nmX5, rfl, rfl⟩
theorem fp_105 : Fp "DyeRing" 16 6 1 (.object "java/util/ArrayList") := ⟨RX5, TX5, 8, tyX5, "DyeRing", rfl, by decide, iw_RX5, wm_105, rfl, tyX5_ok, nmX5, rfl, rfl, rfl⟩
theorem fl_106 : Fl "DyeRing" 19 6 2 true (.object "java/util/ArrayList") := ⟨RX5, TX5, 8, tyX5, "DyeRing", rfl, by decide, iw_RX5, wm_106, Or.inl rfl, tyX5_ok, nmX5, rfl, rfl⟩
theorem fp_106 : Fp "DyeRing" 19 6 2 (.object "java/util/ArrayList") := ⟨RX5, TX5, 8, tyX5, "DyeRing", rfl, by decide, iw_RX5, wm_106, rfl, tyX5_ok, nmX5, rfl, rfl, rfl⟩
theorem fl_107 : Fl "DyeRing" 22 6 3 true (.array .int) := ⟨RX5, TX5, 8, tyX5, "DyeRing", rfl, by decide, iw_RX5, wm_107, Or.inl rfl, tyX5_ok, nmX5, rfl, rfl⟩
theorem fp_107 : Fp "DyeRing" 22 6 3 (.array .int) := ⟨RX5, TX5, 8, tyX5, "DyeRing", rfl, by decide, iw_RX5, wm_107, rfl, tyX5_ok, nmX5, rfl, rfl, rfl⟩
theorem fl_108 : Fl "DyeRing" 26 6 4 true (.array .int) := ⟨RX5, TX5, 8, tyX5, "DyeRing", rfl, by decide, iw_RX5, wm_108, Or.inl rfl, tyX5_ok, nmX5, rfl, rfl⟩
theorem fp_108 : Fp "DyeRing" 26 6 4 (.array .int) := ⟨RX5, TX5, 8, tyX5, "DyeRing", rfl, by decide, iw_RX5, wm_108, rfl, tyX5_ok, nmX5, rfl, rfl, rfl⟩
theorem fl_109 : Fl "DyeRing" 29 6 5 true (.array .int) := ⟨RX5, TX5, 8, tyX5, "DyeRing", rfl, by decide, iw_RX5, wm_109, Or.inl rfl, tyX5_ok, nmX5, rfl, rfl⟩
theorem fp_109 : Fp "DyeRing" 29 6 5 (.array .int) := ⟨RX5, TX5, 8, tyX5, "DyeRing", rfl, by decide, iw_RX5, wm_109, rfl, tyX5_ok, nmX5, rfl, rfl, rfl⟩
theorem fl_110 : Fl "DyeRing" 34 6 6 true (.array (.array .int)) := ⟨RX5, TX5, 8, tyX5, "DyeRing", rfl, by decide, iw_RX5, wm_110, Or.inl rfl, tyX5_ok, nmX5, rfl, rfl⟩
theorem fp_110 : Fp "DyeRing" 34 6 6 (.array (.array .int)) := ⟨RX5, TX5, 8, tyX5, "DyeRing", rfl, by decide, iw_RX5, wm_110, rfl, tyX5_ok, nmX5, rfl, rfl, rfl⟩
theorem fl_111 : Fl "DyeRing" 39 6 7 true (.array (.object "DyeRing$Cloth")) := ⟨RX5, TX5, 8, tyX5, "DyeRing", rfl, by decide, iw_RX5, wm_111, Or.inl rfl, tyX5_ok, nmX5, rfl, rfl⟩
theorem fp_111 : Fp "DyeRing" 39 6 7 (.array (.object "DyeRing$Cloth")) := ⟨RX5, TX5, 8, tyX5, "DyeRing", rfl, by decide, iw_RX5, wm_111, rfl, tyX5_ok, nmX5, rfl, rfl, rfl⟩
theorem fl_239 : Fl "DyeRing$Entry" 9 3 0 true .int := ⟨RX2, TX2, 4, tyX2, "DyeRing$Entry", rfl, by decide, iw_RX2, wm_239, Or.inl rfl, tyX2_ok, nmX2, rfl, rfl⟩
theorem fp_239 : Fp "DyeRing$Entry" 9 3 0 .int := ⟨RX2, TX2, 4, tyX2, "DyeRing$Entry", rfl, by decide, iw_RX2, wm_239, rfl, tyX2_ok, nmX2, rfl, rfl, rfl⟩
theorem fl_240 : Fl "DyeRing$Bath" 29 3 0 true .int := ⟨RX2, TX2, 4, tyX2, "DyeRing$Entry", rfl, by decide, iw_RX2, wm_240, Or.inl rfl, tyX2_ok, nmX2, rfl, rfl⟩
theorem fl_241 : Fl "DyeRing$Entry" 15 3 1 true .int := ⟨RX2, TX2, 4, tyX2, "DyeRing$Entry", rfl, by decide, iw_RX2, wm_241, Or.inl rfl, tyX2_ok, nmX2, rfl, rfl⟩
theorem fp_241 : Fp "DyeRing$Entry" 15 3 1 .int := ⟨RX2, TX2, 4, tyX2, "DyeRing$Entry", rfl, by decide, iw_RX2, wm_241, rfl, tyX2_ok, nmX2, rfl, rfl, rfl⟩
theorem fl_242 : Fl "DyeRing" 72 3 1 true .int := ⟨RX2, TX2, 4, tyX2, "DyeRing$Entry", rfl, by decide, iw_RX2, wm_242, Or.inl rfl, tyX2_ok, nmX2, rfl, rfl⟩
theorem fl_243 : Fl "DyeRing$Entry" 18 3 2 true .int := ⟨RX2, TX2, 4, tyX2, "DyeRing$Entry", rfl, by decide, iw_RX2, wm_243, Or.inl rfl, tyX2_ok, nmX2, rfl, rfl⟩
theorem fp_243 : Fp "DyeRing$Entry" 18 3 2 .int := ⟨RX2, TX2, 4, tyX2, "DyeRing$Entry", rfl, by decide, iw_RX2, wm_243, rfl, tyX2_ok, nmX2, rfl, rfl, rfl⟩
theorem fl_244 : Fl "DyeRing" 76 3 2 true .int := ⟨RX2, TX2, 4, tyX2, "DyeRing$Entry", rfl, by decide, iw_RX2, wm_244, Or.inl rfl, tyX2_ok, nmX2, rfl, rfl⟩
theorem fl_245 : Fl "DyeRing$Entry" 21 3 3 true .int := ⟨RX2, TX2, 4, tyX2, "DyeRing$Entry", rfl, by decide, iw_RX2, wm_245, Or.inl rfl, tyX2_ok, nmX2, rfl, rfl⟩
theorem fp_245 : Fp "DyeRing$Entry" 21 3 3 .int := ⟨RX2, TX2, 4, tyX2, "DyeRing$Entry", rfl, by decide, iw_RX2, wm_245, rfl, tyX2_ok, nmX2, rfl, rfl, rfl⟩
theorem fl_246 : Fl "DyeRing$Piece" 75 3 3 true .int := ⟨RX2, TX2, 4, tyX2, "DyeRing$Entry", rfl, by decide, iw_RX2, wm_246, Or.inl rfl, tyX2_ok, nmX2, rfl, rfl⟩
theorem fl_247 : Fl "DyeRing" 234 3 3 true .int := ⟨RX2, TX2, 4, tyX2, "DyeRing$Entry", rfl, by decide, iw_RX2, wm_247, Or.inl rfl, tyX2_ok, nmX2, rfl, rfl⟩
theorem fl_397 : Fl "DyeRing$Bath" 22 1 0 true .int := ⟨RX0, TX0, 5, tyX0, "DyeRing$Bath", rfl, by decide, iw_RX0, wm_397, Or.inl rfl, tyX0_ok, nmX0, rfl, rfl⟩
theorem fp_397 : Fp "DyeRing$Bath" 22 1 0 .int := ⟨RX0, TX0, 5, tyX0, "DyeRing$Bath", rfl, by decide, iw_RX0, wm_397, rfl, tyX0_ok, nmX0, rfl, rfl, rfl⟩
theorem fl_398 : Fl "DyeRing" 168 1 0 true .int := ⟨RX0, TX0, 5, tyX0, "DyeRing$Bath", rfl, by decide, iw_RX0, wm_398, Or.inl rfl, tyX0_ok, nmX0, rfl, rfl⟩
theorem fl_399 : Fl "DyeRing$Bath" 25 1 1 true (.object "DyeRing$Entry") := ⟨RX0, TX0, 5, tyX0, "DyeRing$Bath", rfl, by decide, iw_RX0, wm_399, Or.inl rfl, tyX0_ok, nmX0, rfl, rfl⟩
theorem fp_399 : Fp "DyeRing$Bath" 25 1 1 (.object "DyeRing$Entry") := ⟨RX0, TX0, 5, tyX0, "DyeRing$Bath", rfl, by decide, iw_RX0, wm_399, rfl, tyX0_ok, nmX0, rfl, rfl, rfl⟩
theorem fl_400 : Fl "DyeRing" 226 1 1 true (.object "DyeRing$Entry") := ⟨RX0, TX0, 5, tyX0, "DyeRing$Bath", rfl, by decide, iw_RX0, wm_400, Or.inl rfl, tyX0_ok, nmX0, rfl, rfl⟩
theorem fl_401 : Fl "DyeRing$Bath" 9 1 2 false .int := ⟨RX0, TX0, 5, tyX0, "DyeRing$Bath", rfl, by decide, iw_RX0, wm_401, Or.inl rfl, tyX0_ok, nmX0, rfl, rfl⟩
theorem fl_402 : Fl "DyeRing$Piece" 42 1 2 false .int := ⟨RX0, TX0, 5, tyX0, "DyeRing$Bath", rfl, by decide, iw_RX0, wm_402, Or.inl rfl, tyX0_ok, nmX0, rfl, rfl⟩
theorem fl_403 : Fl "DyeRing" 95 1 2 false .int := ⟨RX0, TX0, 5, tyX0, "DyeRing$Bath", rfl, by decide, iw_RX0, wm_403, Or.inl rfl, tyX0_ok, nmX0, rfl, rfl⟩
theorem fl_404 : Fl "DyeRing$Piece" 33 1 3 false .boolean := ⟨RX0, TX0, 5, tyX0, "DyeRing$Bath", rfl, by decide, iw_RX0, wm_404, Or.inl rfl, tyX0_ok, nmX0, rfl, rfl⟩
theorem fl_405 : Fl "DyeRing$Bath" 34 1 3 false .boolean := ⟨RX0, TX0, 5, tyX0, "DyeRing$Bath", rfl, by decide, iw_RX0, wm_405, Or.inl rfl, tyX0_ok, nmX0, rfl, rfl⟩
theorem fl_406 : Fl "DyeRing$Bath" 18 1 4 true (.object "java/util/ArrayList") := ⟨RX0, TX0, 5, tyX0, "DyeRing$Bath", rfl, by decide, iw_RX0, wm_406, Or.inl rfl, tyX0_ok, nmX0, rfl, rfl⟩
theorem fp_406 : Fp "DyeRing$Bath" 18 1 4 (.object "java/util/ArrayList") := ⟨RX0, TX0, 5, tyX0, "DyeRing$Bath", rfl, by decide, iw_RX0, wm_406, rfl, tyX0_ok, nmX0, rfl, rfl, rfl⟩
theorem fl_453 : Fl "DyeRing$Order" 7 4 0 true .int := ⟨RX3, TX3, 6, tyX3, "DyeRing$Order", rfl, by decide, iw_RX3, wm_453, Or.inl rfl, tyX3_ok, nmX3, rfl, rfl⟩
theorem fp_453 : Fp "DyeRing$Order" 7 4 0 .int := ⟨RX3, TX3, 6, tyX3, "DyeRing$Order", rfl, by decide, iw_RX3, wm_453, rfl, tyX3_ok, nmX3, rfl, rfl, rfl⟩
theorem fl_454 : Fl "DyeRing$Piece" 9 4 0 true .int := ⟨RX3, TX3, 6, tyX3, "DyeRing$Order", rfl, by decide, iw_RX3, wm_454, Or.inl rfl, tyX3_ok, nmX3, rfl, rfl⟩
theorem fl_455 : Fl "DyeRing$Order" 13 4 1 true (.object "DyeRing$Entry") := ⟨RX3, TX3, 6, tyX3, "DyeRing$Order", rfl, by decide, iw_RX3, wm_455, Or.inl rfl, tyX3_ok, nmX3, rfl, rfl⟩
theorem fp_455 : Fp "DyeRing$Order" 13 4 1 (.object "DyeRing$Entry") := ⟨RX3, TX3, 6, tyX3, "DyeRing$Order", rfl, by decide, iw_RX3, wm_455, rfl, tyX3_ok, nmX3, rfl, rfl, rfl⟩
theorem fl_456 : Fl "DyeRing$Piece" 20 4 1 true (.object "DyeRing$Entry") := ⟨RX3, TX3, 6, tyX3, "DyeRing$Order", rfl, by decide, iw_RX3, wm_456, Or.inl rfl, tyX3_ok, nmX3, rfl, rfl⟩
theorem fl_457 : Fl "DyeRing" 126 4 1 true (.object "DyeRing$Entry") := ⟨RX3, TX3, 6, tyX3, "DyeRing$Order", rfl, by decide, iw_RX3, wm_457, Or.inl rfl, tyX3_ok, nmX3, rfl, rfl⟩
theorem fl_458 : Fl "DyeRing$Order" 17 4 2 true .int := ⟨RX3, TX3, 6, tyX3, "DyeRing$Order", rfl, by decide, iw_RX3, wm_458, Or.inl rfl, tyX3_ok, nmX3, rfl, rfl⟩
theorem fp_458 : Fp "DyeRing$Order" 17 4 2 .int := ⟨RX3, TX3, 6, tyX3, "DyeRing$Order", rfl, by decide, iw_RX3, wm_458, rfl, tyX3_ok, nmX3, rfl, rfl, rfl⟩
theorem fl_459 : Fl "DyeRing$Piece" 25 4 2 true .int := ⟨RX3, TX3, 6, tyX3, "DyeRing$Order", rfl, by decide, iw_RX3, wm_459, Or.inl rfl, tyX3_ok, nmX3, rfl, rfl⟩
theorem fl_460 : Fl "DyeRing$Order" 20 4 3 true .int := ⟨RX3, TX3, 6, tyX3, "DyeRing$Order", rfl, by decide, iw_RX3, wm_460, Or.inl rfl, tyX3_ok, nmX3, rfl, rfl⟩
theorem fp_460 : Fp "DyeRing$Order" 20 4 3 .int := ⟨RX3, TX3, 6, tyX3, "DyeRing$Order", rfl, by decide, iw_RX3, wm_460, rfl, tyX3_ok, nmX3, rfl, rfl, rfl⟩
theorem fl_461 : Fl "DyeRing" 227 4 3 true .int := ⟨RX3, TX3, 6, tyX3, "DyeRing$Order", rfl, by decide, iw_RX3, wm_461, Or.inl rfl, tyX3_ok, nmX3, rfl, rfl⟩
theorem fl_462 : Fl "DyeRing" 171 4 4 false (.object "DyeRing$Piece") := ⟨RX3, TX3, 6, tyX3, "DyeRing$Order", rfl, by decide, iw_RX3, wm_462, Or.inl rfl, tyX3_ok, nmX3, rfl, rfl⟩
theorem fl_463 : Fl "DyeRing" 148 4 5 false .boolean := ⟨RX3, TX3, 6, tyX3, "DyeRing$Order", rfl, by decide, iw_RX3, wm_463, Or.inl rfl, tyX3_ok, nmX3, rfl, rfl⟩
theorem fl_544 : Fl "DyeRing$Piece" 15 5 0 true .int := ⟨RX4, TX4, 9, tyX4, "DyeRing$Piece", rfl, by decide, iw_RX4, wm_544, Or.inl rfl, tyX4_ok, nmX4, rfl, rfl⟩
theorem fp_544 : Fp "DyeRing$Piece" 15 5 0 .int := ⟨RX4, TX4, 9, tyX4, "DyeRing$Piece", rfl, by decide, iw_RX4, wm_544, rfl, tyX4_ok, nmX4, rfl, rfl, rfl⟩
theorem fl_545 : Fl "DyeRing$Bath" 62 5 0 true .int := ⟨RX4, TX4, 9, tyX4, "DyeRing$Piece", rfl, by decide, iw_RX4, wm_545, Or.inl rfl, tyX4_ok, nmX4, rfl, rfl⟩
theorem fl_546 : Fl "DyeRing$Piece" 24 5 1 true (.object "DyeRing$Entry") := ⟨RX4, TX4, 9, tyX4, "DyeRing$Piece", rfl, by decide, iw_RX4, wm_546, Or.inl rfl, tyX4_ok, nmX4, rfl, rfl⟩
theorem fp_546 : Fp "DyeRing$Piece" 24 5 1 (.object "DyeRing$Entry") := ⟨RX4, TX4, 9, tyX4, "DyeRing$Piece", rfl, by decide, iw_RX4, wm_546, rfl, tyX4_ok, nmX4, rfl, rfl, rfl⟩
theorem fl_547 : Fl "DyeRing$Piece" 28 5 2 true .int := ⟨RX4, TX4, 9, tyX4, "DyeRing$Piece", rfl, by decide, iw_RX4, wm_547, Or.inl rfl, tyX4_ok, nmX4, rfl, rfl⟩
theorem fp_547 : Fp "DyeRing$Piece" 28 5 2 .int := ⟨RX4, TX4, 9, tyX4, "DyeRing$Piece", rfl, by decide, iw_RX4, wm_547, rfl, tyX4_ok, nmX4, rfl, rfl, rfl⟩
theorem fl_548 : Fl "DyeRing$Bath" 42 5 2 true .int := ⟨RX4, TX4, 9, tyX4, "DyeRing$Piece", rfl, by decide, iw_RX4, wm_548, Or.inl rfl, tyX4_ok, nmX4, rfl, rfl⟩
theorem fl_549 : Fl "DyeRing$Piece" 29 5 3 true (.object "DyeRing$Bath") := ⟨RX4, TX4, 9, tyX4, "DyeRing$Piece", rfl, by decide, iw_RX4, wm_549, Or.inl rfl, tyX4_ok, nmX4, rfl, rfl⟩
theorem fp_549 : Fp "DyeRing$Piece" 29 5 3 (.object "DyeRing$Bath") := ⟨RX4, TX4, 9, tyX4, "DyeRing$Piece", rfl, by decide, iw_RX4, wm_549, rfl, tyX4_ok, nmX4, rfl, rfl, rfl⟩
theorem fl_550 : Fl "DyeRing" 164 5 3 true (.object "DyeRing$Bath") := ⟨RX4, TX4, 9, tyX4, "DyeRing$Piece", rfl, by decide, iw_RX4, wm_550, Or.inl rfl, tyX4_ok, nmX4, rfl, rfl⟩
theorem fl_551 : Fl "DyeRing$Piece" 39 5 4 true .boolean := ⟨RX4, TX4, 9, tyX4, "DyeRing$Piece", rfl, by decide, iw_RX4, wm_551, Or.inl rfl, tyX4_ok, nmX4, rfl, rfl⟩
theorem fp_551 : Fp "DyeRing$Piece" 39 5 4 .boolean := ⟨RX4, TX4, 9, tyX4, "DyeRing$Piece", rfl, by decide, iw_RX4, wm_551, rfl, tyX4_ok, nmX4, rfl, rfl, rfl⟩
theorem fl_552 : Fl "DyeRing$Bath" 59 5 4 true .boolean := ⟨RX4, TX4, 9, tyX4, "DyeRing$Piece", rfl, by decide, iw_RX4, wm_552, Or.inl rfl, tyX4_ok, nmX4, rfl, rfl⟩
theorem fl_553 : Fl "DyeRing$Piece" 45 5 5 true .int := ⟨RX4, TX4, 9, tyX4, "DyeRing$Piece", rfl, by decide, iw_RX4, wm_553, Or.inl rfl, tyX4_ok, nmX4, rfl, rfl⟩
theorem fp_553 : Fp "DyeRing$Piece" 45 5 5 .int := ⟨RX4, TX4, 9, tyX4, "DyeRing$Piece", rfl, by decide, iw_RX4, wm_553, rfl, tyX4_ok, nmX4, rfl, rfl, rfl⟩
theorem fl_554 : Fl "DyeRing" 175 5 5 true .int := ⟨RX4, TX4, 9, tyX4, "DyeRing$Piece", rfl, by decide, iw_RX4, wm_554, Or.inl rfl, tyX4_ok, nmX4, rfl, rfl⟩
theorem fl_555 : Fl "DyeRing$Piece" 48 5 6 true .int := ⟨RX4, TX4, 9, tyX4, "DyeRing$Piece", rfl, by decide, iw_RX4, wm_555, Or.inl rfl, tyX4_ok, nmX4, rfl, rfl⟩
theorem fp_555 : Fp "DyeRing$Piece" 48 5 6 .int := ⟨RX4, TX4, 9, tyX4, "DyeRing$Piece", rfl, by decide, iw_RX4, wm_555, rfl, tyX4_ok, nmX4, rfl, rfl, rfl⟩
theorem fl_556 : Fl "DyeRing$Piece" 51 5 7 true .int := ⟨RX4, TX4, 9, tyX4, "DyeRing$Piece", rfl, by decide, iw_RX4, wm_556, Or.inl rfl, tyX4_ok, nmX4, rfl, rfl⟩
theorem fp_556 : Fp "DyeRing$Piece" 51 5 7 .int := ⟨RX4, TX4, 9, tyX4, "DyeRing$Piece", rfl, by decide, iw_RX4, wm_556, rfl, tyX4_ok, nmX4, rfl, rfl, rfl⟩
theorem fl_557 : Fl "DyeRing$Piece" 54 5 8 true .int := ⟨RX4, TX4, 9, tyX4, "DyeRing$Piece", rfl, by decide, iw_RX4, wm_557, Or.inl rfl, tyX4_ok, nmX4, rfl, rfl⟩
theorem fp_557 : Fp "DyeRing$Piece" 54 5 8 .int := ⟨RX4, TX4, 9, tyX4, "DyeRing$Piece", rfl, by decide, iw_RX4, wm_557, rfl, tyX4_ok, nmX4, rfl, rfl, rfl⟩
theorem fl_730 : Fl "DyeRingModel" 78 7 0 false .int := ⟨RX6, TX6, 24, tyX6, "DyeRingModel", rfl, by decide, iw_RX6, wm_730, Or.inl rfl, tyX6_ok, nmX6, rfl, rfl⟩
theorem fl_731 : Fl "DyeRingModel" 7 7 1 true (.array .int) := ⟨RX6, TX6, 24, tyX6, "DyeRingModel", rfl, by decide, iw_RX6, wm_731, Or.inl rfl, tyX6_ok, nmX6, rfl, rfl⟩
theorem fp_731 : Fp "DyeRingModel" 7 7 1 (.array .int) := ⟨RX6, TX6, 24, tyX6, "DyeRingModel", rfl, by decide, iw_RX6, wm_731, rfl, tyX6_ok, nmX6, rfl, rfl, rfl⟩
theorem fl_732 : Fl "DyeRingModel" 13 7 2 true (.array .int) := ⟨RX6, TX6, 24, tyX6, "DyeRingModel", rfl, by decide, iw_RX6, wm_732, Or.inl rfl, tyX6_ok, nmX6, rfl, rfl⟩
theorem fp_732 : Fp "DyeRingModel" 13 7 2 (.array .int) := ⟨RX6, TX6, 24, tyX6, "DyeRingModel", rfl, by decide, iw_RX6, wm_732, rfl, tyX6_ok, nmX6, rfl, rfl, rfl⟩
theorem fl_733 : Fl "DyeRingModel" 16 7 3 true (.array .int) := ⟨RX6, TX6, 24, tyX6, "DyeRingModel", rfl, by decide, iw_RX6, wm_733, Or.inl rfl, tyX6_ok, nmX6, rfl, rfl⟩
theorem fp_733 : Fp "DyeRingModel" 16 7 3 (.array .int) := ⟨RX6, TX6, 24, tyX6, "DyeRingModel", rfl, by decide, iw_RX6, wm_733, rfl, tyX6_ok, nmX6, rfl, rfl, rfl⟩
theorem fl_734 : Fl "DyeRingModel" 19 7 4 true (.array .int) := ⟨RX6, TX6, 24, tyX6, "DyeRingModel", rfl, by decide, iw_RX6, wm_734, Or.inl rfl, tyX6_ok, nmX6, rfl, rfl⟩
theorem fp_734 : Fp "DyeRingModel" 19 7 4 (.array .int) := ⟨RX6, TX6, 24, tyX6, "DyeRingModel", rfl, by decide, iw_RX6, wm_734, rfl, tyX6_ok, nmX6, rfl, rfl, rfl⟩
theorem fl_735 : Fl "DyeRingModel" 81 7 5 false .int := ⟨RX6, TX6, 24, tyX6, "DyeRingModel", rfl, by decide, iw_RX6, wm_735, Or.inl rfl, tyX6_ok, nmX6, rfl, rfl⟩
theorem fl_736 : Fl "DyeRingModel" 22 7 6 true (.array .int) := ⟨RX6, TX6, 24, tyX6, "DyeRingModel", rfl, by decide, iw_RX6, wm_736, Or.inl rfl, tyX6_ok, nmX6, rfl, rfl⟩
theorem fp_736 : Fp "DyeRingModel" 22 7 6 (.array .int) := ⟨RX6, TX6, 24, tyX6, "DyeRingModel", rfl, by decide, iw_RX6, wm_736, rfl, tyX6_ok, nmX6, rfl, rfl, rfl⟩
theorem fl_737 : Fl "DyeRingModel" 25 7 7 true (.array .int) := ⟨RX6, TX6, 24, tyX6, "DyeRingModel", rfl, by decide, iw_RX6, wm_737, Or.inl rfl, tyX6_ok, nmX6, rfl, rfl⟩
theorem fp_737 : Fp "DyeRingModel" 25 7 7 (.array .int) := ⟨RX6, TX6, 24, tyX6, "DyeRingModel", rfl, by decide, iw_RX6, wm_737, rfl, tyX6_ok, nmX6, rfl, rfl, rfl⟩
theorem fl_738 : Fl "DyeRingModel" 28 7 8 true (.array .int) := ⟨RX6, TX6, 24, tyX6, "DyeRingModel", rfl, by decide, iw_RX6, wm_738, Or.inl rfl, tyX6_ok, nmX6, rfl, rfl⟩
theorem fp_738 : Fp "DyeRingModel" 28 7 8 (.array .int) := ⟨RX6, TX6, 24, tyX6, "DyeRingModel", rfl, by decide, iw_RX6, wm_738, rfl, tyX6_ok, nmX6, rfl, rfl, rfl⟩
theorem fl_739 : Fl "DyeRingModel" 84 7 9 false .int := ⟨RX6, TX6, 24, tyX6, "DyeRingModel", rfl, by decide, iw_RX6, wm_739, Or.inl rfl, tyX6_ok, nmX6, rfl, rfl⟩
theorem fl_740 : Fl "DyeRingModel" 31 7 10 true (.array .int) := ⟨RX6, TX6, 24, tyX6, "DyeRingModel", rfl, by decide, iw_RX6, wm_740, Or.inl rfl, tyX6_ok, nmX6, rfl, rfl⟩
theorem fp_740 : Fp "DyeRingModel" 31 7 10 (.array .int) := ⟨RX6, TX6, 24, tyX6, "DyeRingModel", rfl, by decide, iw_RX6, wm_740, rfl, tyX6_ok, nmX6, rfl, rfl, rfl⟩
theorem fl_741 : Fl "DyeRingModel" 34 7 11 true (.array .int) := ⟨RX6, TX6, 24, tyX6, "DyeRingModel", rfl, by decide, iw_RX6, wm_741, Or.inl rfl, tyX6_ok, nmX6, rfl, rfl⟩
theorem fp_741 : Fp "DyeRingModel" 34 7 11 (.array .int) := ⟨RX6, TX6, 24, tyX6, "DyeRingModel", rfl, by decide, iw_RX6, wm_741, rfl, tyX6_ok, nmX6, rfl, rfl, rfl⟩
theorem fl_742 : Fl "DyeRingModel" 37 7 12 true (.array .int) := ⟨RX6, TX6, 24, tyX6, "DyeRingModel", rfl, by decide, iw_RX6, wm_742, Or.inl rfl, tyX6_ok, nmX6, rfl, rfl⟩
theorem fp_742 : Fp "DyeRingModel" 37 7 12 (.array .int) := ⟨RX6, TX6, 24, tyX6, "DyeRingModel", rfl, by decide, iw_RX6, wm_742, rfl, tyX6_ok, nmX6, rfl, rfl, rfl⟩
theorem fl_743 : Fl "DyeRingModel" 40 7 13 true (.array .int) := ⟨RX6, TX6, 24, tyX6, "DyeRingModel", rfl, by decide, iw_RX6, wm_743, Or.inl rfl, tyX6_ok, nmX6, rfl, rfl⟩
theorem fp_743 : Fp "DyeRingModel" 40 7 13 (.array .int) := ⟨RX6, TX6, 24, tyX6, "DyeRingModel", rfl, by decide, iw_RX6, wm_743, rfl, tyX6_ok, nmX6, rfl, rfl, rfl⟩
theorem fl_744 : Fl "DyeRingModel" 43 7 14 true (.array .int) := ⟨RX6, TX6, 24, tyX6, "DyeRingModel", rfl, by decide, iw_RX6, wm_744, Or.inl rfl, tyX6_ok, nmX6, rfl, rfl⟩
theorem fp_744 : Fp "DyeRingModel" 43 7 14 (.array .int) := ⟨RX6, TX6, 24, tyX6, "DyeRingModel", rfl, by decide, iw_RX6, wm_744, rfl, tyX6_ok, nmX6, rfl, rfl, rfl⟩
theorem fl_745 : Fl "DyeRingModel" 46 7 15 true (.array .int) := ⟨RX6, TX6, 24, tyX6, "DyeRingModel", rfl, by decide, iw_RX6, wm_745, Or.inl rfl, tyX6_ok, nmX6, rfl, rfl⟩
theorem fp_745 : Fp "DyeRingModel" 46 7 15 (.array .int) := ⟨RX6, TX6, 24, tyX6, "DyeRingModel", rfl, by decide, iw_RX6, wm_745, rfl, tyX6_ok, nmX6, rfl, rfl, rfl⟩
theorem fl_746 : Fl "DyeRingModel" 49 7 16 true (.array .int) := ⟨RX6, TX6, 24, tyX6, "DyeRingModel", rfl, by decide, iw_RX6, wm_746, Or.inl rfl, tyX6_ok, nmX6, rfl, rfl⟩
theorem fp_746 : Fp "DyeRingModel" 49 7 16 (.array .int) := ⟨RX6, TX6, 24, tyX6, "DyeRingModel", rfl, by decide, iw_RX6, wm_746, rfl, tyX6_ok, nmX6, rfl, rfl, rfl⟩
theorem fl_747 : Fl "DyeRingModel" 52 7 17 true (.array .int) := ⟨RX6, TX6, 24, tyX6, "DyeRingModel", rfl, by decide, iw_RX6, wm_747, Or.inl rfl, tyX6_ok, nmX6, rfl, rfl⟩
theorem fp_747 : Fp "DyeRingModel" 52 7 17 (.array .int) := ⟨RX6, TX6, 24, tyX6, "DyeRingModel", rfl, by decide, iw_RX6, wm_747, rfl, tyX6_ok, nmX6, rfl, rfl, rfl⟩
theorem fl_748 : Fl "DyeRingModel" 55 7 18 true (.array .int) := ⟨RX6, TX6, 24, tyX6, "DyeRingModel", rfl, by decide, iw_RX6, wm_748, Or.inl rfl, tyX6_ok, nmX6, rfl, rfl⟩
theorem fp_748 : Fp "DyeRingModel" 55 7 18 (.array .int) := ⟨RX6, TX6, 24, tyX6, "DyeRingModel", rfl, by decide, iw_RX6, wm_748, rfl, tyX6_ok, nmX6, rfl, rfl, rfl⟩
theorem fl_749 : Fl "DyeRingModel" 58 7 19 true (.array .int) := ⟨RX6, TX6, 24, tyX6, "DyeRingModel", rfl, by decide, iw_RX6, wm_749, Or.inl rfl, tyX6_ok, nmX6, rfl, rfl⟩
theorem fp_749 : Fp "DyeRingModel" 58 7 19 (.array .int) := ⟨RX6, TX6, 24, tyX6, "DyeRingModel", rfl, by decide, iw_RX6, wm_749, rfl, tyX6_ok, nmX6, rfl, rfl, rfl⟩
theorem fl_750 : Fl "DyeRingModel" 61 7 20 true (.array .int) := ⟨RX6, TX6, 24, tyX6, "DyeRingModel", rfl, by decide, iw_RX6, wm_750, Or.inl rfl, tyX6_ok, nmX6, rfl, rfl⟩
theorem fp_750 : Fp "DyeRingModel" 61 7 20 (.array .int) := ⟨RX6, TX6, 24, tyX6, "DyeRingModel", rfl, by decide, iw_RX6, wm_750, rfl, tyX6_ok, nmX6, rfl, rfl, rfl⟩
theorem fl_751 : Fl "DyeRingModel" 64 7 21 true (.array .int) := ⟨RX6, TX6, 24, tyX6, "DyeRingModel", rfl, by decide, iw_RX6, wm_751, Or.inl rfl, tyX6_ok, nmX6, rfl, rfl⟩
theorem fp_751 : Fp "DyeRingModel" 64 7 21 (.array .int) := ⟨RX6, TX6, 24, tyX6, "DyeRingModel", rfl, by decide, iw_RX6, wm_751, rfl, tyX6_ok, nmX6, rfl, rfl, rfl⟩
theorem fl_752 : Fl "DyeRingModel" 67 7 22 true (.array .int) := ⟨RX6, TX6, 24, tyX6, "DyeRingModel", rfl, by decide, iw_RX6, wm_752, Or.inl rfl, tyX6_ok, nmX6, rfl, rfl⟩
theorem fp_752 : Fp "DyeRingModel" 67 7 22 (.array .int) := ⟨RX6, TX6, 24, tyX6, "DyeRingModel", rfl, by decide, iw_RX6, wm_752, rfl, tyX6_ok, nmX6, rfl, rfl, rfl⟩
theorem fl_753 : Fl "DyeRingModel" 70 7 23 false .int := ⟨RX6, TX6, 24, tyX6, "DyeRingModel", rfl, by decide, iw_RX6, wm_753, Or.inl rfl, tyX6_ok, nmX6, rfl, rfl⟩
theorem cb_RJx4a65c : Cb 0 RJx4a65c 3 [.int 0, .null, .int 0] := ⟨TJx4a65c, tyJx4a65c, rfl, iw_RJx4a65c, tyJx4a65c_ok, fun j hj => by rcases (show j = 0 ∨ j = 1 ∨ j = 2 by omega) with rfl | rfl | rfl <;> rfl⟩
theorem cb_RX0 : Cb 1 RX0 5 [.int 0, .null, .int 0, .int 0, .null] := ⟨TX0, tyX0, rfl, iw_RX0, tyX0_ok, fun j hj => by rcases (show j = 0 ∨ j = 1 ∨ j = 2 ∨ j = 3 ∨ j = 4 by omega) with rfl | rfl | rfl | rfl | rfl <;> rfl⟩
theorem cb_RX1 : Cb 2 RX1 3 [.int 0, .null, .null] := ⟨TX1, tyX1, rfl, iw_RX1, tyX1_ok, fun j hj => by rcases (show j = 0 ∨ j = 1 ∨ j = 2 by omega) with rfl | rfl | rfl <;> rfl⟩
theorem cb_RX2 : Cb 3 RX2 4 [.int 0, .int 0, .int 0, .int 0] := ⟨TX2, tyX2, rfl, iw_RX2, tyX2_ok, fun j hj => by rcases (show j = 0 ∨ j = 1 ∨ j = 2 ∨ j = 3 by omega) with rfl | rfl | rfl | rfl <;> rfl⟩
theorem cb_RX3 : Cb 4 RX3 6 [.int 0, .null, .int 0, .int 0, .null, .int 0] := ⟨TX3, tyX3, rfl, iw_RX3, tyX3_ok, fun j hj => by rcases (show j = 0 ∨ j = 1 ∨ j = 2 ∨ j = 3 ∨ j = 4 ∨ j = 5 by omega) with rfl | rfl | rfl | rfl | rfl | rfl <;> rfl⟩
theorem cb_RX4 : Cb 5 RX4 9 [.int 0, .null, .int 0, .null, .int 0, .int 0, .int 0, .int 0, .int 0] := ⟨TX4, tyX4, rfl, iw_RX4, tyX4_ok, fun j hj => by rcases (show j = 0 ∨ j = 1 ∨ j = 2 ∨ j = 3 ∨ j = 4 ∨ j = 5 ∨ j = 6 ∨ j = 7 ∨ j = 8 by omega) with rfl | rfl | rfl | rfl | rfl | rfl | rfl | rfl | rfl <;> rfl⟩
theorem cb_RX5 : Cb 6 RX5 8 [.null, .null, .null, .null, .null, .null, .null, .null] := ⟨TX5, tyX5, rfl, iw_RX5, tyX5_ok, fun j hj => by rcases (show j = 0 ∨ j = 1 ∨ j = 2 ∨ j = 3 ∨ j = 4 ∨ j = 5 ∨ j = 6 ∨ j = 7 by omega) with rfl | rfl | rfl | rfl | rfl | rfl | rfl | rfl <;> rfl⟩
theorem cb_RX6 : Cb 7 RX6 24 [.int 0, .null, .null, .null, .null, .int 0, .null, .null, .null, .int 0, .null, .null, .null, .null, .null, .null, .null, .null, .null, .null, .null, .null, .null, .int 0] := ⟨TX6, tyX6, rfl, iw_RX6, tyX6_ok, fun j hj => by rcases (show j = 0 ∨ j = 1 ∨ j = 2 ∨ j = 3 ∨ j = 4 ∨ j = 5 ∨ j = 6 ∨ j = 7 ∨ j = 8 ∨ j = 9 ∨ j = 10 ∨ j = 11 ∨ j = 12 ∨ j = 13 ∨ j = 14 ∨ j = 15 ∨ j = 16 ∨ j = 17 ∨ j = 18 ∨ j = 19 ∨ j = 20 ∨ j = 21 ∨ j = 22 ∨ j = 23 by omega) with rfl | rfl | rfl | rfl | rfl | rfl | rfl | rfl | rfl | rfl | rfl | rfl | rfl | rfl | rfl | rfl | rfl | rfl | rfl | rfl | rfl | rfl | rfl | rfl <;> rfl⟩
theorem mv_X5_init : MVc yX5_init cX5_init 2 0 := ⟨wm_51, ⟨by decide +kernel, by decide +kernel, by decide +kernel⟩, wm_24, wm_50, rfl⟩
theorem mv_Jx4a65c_init_da8c8 : MVc yJx4a65c_init_da8c8 cJx4a65c_init_da8c8 1 0 := ⟨wm_59, ⟨by decide +kernel, by decide +kernel, by decide +kernel⟩, wm_27, wm_58, rfl⟩
theorem mv_Jxc12de_init_da8c8 : MVc yJxc12de_init_da8c8 cJxc12de_init_da8c8 1 0 := ⟨wm_62, ⟨by decide +kernel, by decide +kernel, by decide +kernel⟩, wm_26, wm_61, rfl⟩
theorem mv_Jxa1e45_init_da8c8 : MVc yJxa1e45_init_da8c8 cJxa1e45_init_da8c8 1 0 := ⟨wm_65, ⟨by decide +kernel, by decide +kernel, by decide +kernel⟩, wm_25, wm_64, rfl⟩
theorem mv_X1_init : MVc yX1_init cX1_init 1 0 := ⟨wm_88, ⟨by decide +kernel, by decide +kernel, by decide +kernel⟩, wm_28, wm_87, rfl⟩
theorem mv_L_entry : MVt yL_entry cL_entry 6 (some .int) [(0, 12, 15, 13), (0, 12, 19, 15)] 5 := ⟨wm_131, ⟨by decide +kernel, by decide +kernel, by decide +kernel⟩, wm_23, wm_130⟩
theorem mv_X5_entry : MVi yX5_entry cX5_entry 5 (some .int) 3 := ⟨wm_137, ⟨by decide +kernel, by decide +kernel, by decide +kernel⟩, wm_24, wm_135, wm_136⟩
theorem mv_X5_requireRange : MVs yX5_requireRange cX5_requireRange 3 none 3 := ⟨wm_140, ⟨by decide +kernel, by decide +kernel, by decide +kernel⟩, wm_24, wm_139⟩
theorem mv_Jx4a65c_size_8abf5 : MVi yJx4a65c_size_8abf5 cJx4a65c_size_8abf5 1 (some .int) 0 := ⟨wm_213, ⟨by decide +kernel, by decide +kernel, by decide +kernel⟩, wm_27, wm_211, wm_212⟩
theorem mv_X5_requireRoom : MVs yX5_requireRoom cX5_requireRoom 2 none 2 := ⟨wm_216, ⟨by decide +kernel, by decide +kernel, by decide +kernel⟩, wm_24, wm_215⟩
theorem mv_X2_init : MVc yX2_init cX2_init 5 4 := ⟨wm_237, ⟨by decide +kernel, by decide +kernel, by decide +kernel⟩, wm_35, wm_236, rfl⟩
theorem mv_Jx4a65c_add_9ea2d : MVi yJx4a65c_add_9ea2d cJx4a65c_add_9ea2d 2 (some .boolean) 1 := ⟨wm_260, ⟨by decide +kernel, by decide +kernel, by decide +kernel⟩, wm_27, wm_258, wm_259⟩
theorem mv_Jx4a65c_add_72be8 : MVi yJx4a65c_add_72be8 cJx4a65c_add_72be8 4 none 3 := ⟨wm_264, ⟨by decide +kernel, by decide +kernel, by decide +kernel⟩, wm_27, wm_263, wm_1⟩
theorem mv_Jx4a65c_grow_d5877 : MVi yJx4a65c_grow_d5877 cJx4a65c_grow_d5877 1 (some (.array (.object "java/lang/Object"))) 0 := ⟨wm_268, ⟨by decide +kernel, by decide +kernel, by decide +kernel⟩, wm_27, wm_267, wm_2⟩
theorem mv_Jx4a65c_grow_92f84 : MVi yJx4a65c_grow_92f84 cJx4a65c_grow_92f84 4 (some (.array (.object "java/lang/Object"))) 1 := ⟨wm_272, ⟨by decide +kernel, by decide +kernel, by decide +kernel⟩, wm_27, wm_271, wm_3⟩
theorem mv_J8_newLength_cabcc : MVs yJ8_newLength_cabcc cJ8_newLength_cabcc 4 (some .int) 3 := ⟨wm_275, ⟨by decide +kernel, by decide +kernel, by decide +kernel⟩, wm_36, wm_274⟩
theorem mv_J9_max_7cf53 : MVs yJ9_max_7cf53 cJ9_max_7cf53 2 (some .int) 2 := ⟨wm_278, ⟨by decide +kernel, by decide +kernel, by decide +kernel⟩, wm_37, wm_277⟩
theorem mv_J8_hugeLength_7cf53 : MVs yJ8_hugeLength_7cf53 cJ8_hugeLength_7cf53 3 (some .int) 2 := ⟨wm_282, ⟨by decide +kernel, by decide +kernel, by decide +kernel⟩, wm_36, wm_281⟩
theorem mv_J7_copyOf_1904c : MVs yJ7_copyOf_1904c cJ7_copyOf_1904c 2 (some (.array (.object "java/lang/Object"))) 2 := ⟨wm_285, ⟨by decide +kernel, by decide +kernel, by decide +kernel⟩, wm_38, wm_284⟩
theorem mv_J7_copyOf_6403c : MVs yJ7_copyOf_6403c cJ7_copyOf_6403c 4 (some (.array (.object "java/lang/Object"))) 3 := ⟨wm_304, ⟨by decide +kernel, by decide +kernel, by decide +kernel⟩, wm_38, wm_303⟩
theorem mv_J9_min_7cf53 : MVs yJ9_min_7cf53 cJ9_min_7cf53 2 (some .int) 2 := ⟨wm_310, ⟨by decide +kernel, by decide +kernel, by decide +kernel⟩, wm_37, wm_309⟩
theorem mv_L_water : MVt yL_water cL_water 5 (some .int) [(0, 10, 13, 21), (0, 10, 17, 13)] 4 := ⟨wm_318, ⟨by decide +kernel, by decide +kernel, by decide +kernel⟩, wm_23, wm_317⟩
theorem mv_X5_water : MVi yX5_water cX5_water 4 (some .int) 2 := ⟨wm_323, ⟨by decide +kernel, by decide +kernel, by decide +kernel⟩, wm_24, wm_321, wm_322⟩
theorem mv_X5_requireIndex : MVs yX5_requireIndex cX5_requireIndex 2 none 2 := ⟨wm_326, ⟨by decide +kernel, by decide +kernel, by decide +kernel⟩, wm_24, wm_325⟩
theorem mv_L_yarn : MVt yL_yarn cL_yarn 6 (some .int) [(0, 12, 15, 21), (0, 12, 19, 13)] 5 := ⟨wm_345, ⟨by decide +kernel, by decide +kernel, by decide +kernel⟩, wm_23, wm_344⟩
theorem mv_X5_yarn : MVi yX5_yarn cX5_yarn 5 (some .int) 3 := ⟨wm_349, ⟨by decide +kernel, by decide +kernel, by decide +kernel⟩, wm_24, wm_347, wm_348⟩
theorem mv_L_apart : MVt yL_apart cL_apart 5 (some .int) [(0, 10, 13, 21)] 4 := ⟨wm_352, ⟨by decide +kernel, by decide +kernel, by decide +kernel⟩, wm_23, wm_351⟩
theorem mv_X5_apart : MVi yX5_apart cX5_apart 5 (some .int) 2 := ⟨wm_356, ⟨by decide +kernel, by decide +kernel, by decide +kernel⟩, wm_24, wm_354, wm_355⟩
theorem mv_X5_findEntry : MVi yX5_findEntry cX5_findEntry 2 (some (.object "DyeRing$Entry")) 1 := ⟨wm_360, ⟨by decide +kernel, by decide +kernel, by decide +kernel⟩, wm_24, wm_359, wm_4⟩
theorem mv_Jx4a65c_get_915e3 : MVi yJx4a65c_get_915e3 cJx4a65c_get_915e3 2 (some (.object "java/lang/Object")) 1 := ⟨wm_364, ⟨by decide +kernel, by decide +kernel, by decide +kernel⟩, wm_27, wm_362, wm_363⟩
theorem mv_J15_checkIndex_7cf53 : MVs yJ15_checkIndex_7cf53 cJ15_checkIndex_7cf53 2 (some .int) 2 := ⟨wm_367, ⟨by decide +kernel, by decide +kernel, by decide +kernel⟩, wm_41, wm_366⟩
theorem mv_J3_checkIndex_8e157 : MVs yJ3_checkIndex_8e157 cJ3_checkIndex_8e157 3 (some .int) 3 := ⟨wm_370, ⟨by decide +kernel, by decide +kernel, by decide +kernel⟩, wm_42, wm_369⟩
theorem mv_Jx4a65c_elementData_915e3 : MVi yJx4a65c_elementData_915e3 cJx4a65c_elementData_915e3 2 (some (.object "java/lang/Object")) 1 := ⟨wm_374, ⟨by decide +kernel, by decide +kernel, by decide +kernel⟩, wm_27, wm_372, wm_373⟩
theorem mv_X2_distanceTo : MVi yX2_distanceTo cX2_distanceTo 3 (some .int) 2 := ⟨wm_378, ⟨by decide +kernel, by decide +kernel, by decide +kernel⟩, wm_35, wm_376, wm_377⟩
theorem mv_J9_abs_0f7a4 : MVs yJ9_abs_0f7a4 cJ9_abs_0f7a4 1 (some .int) 1 := ⟨wm_381, ⟨by decide +kernel, by decide +kernel, by decide +kernel⟩, wm_37, wm_380⟩
theorem mv_L_bath : MVt yL_bath cL_bath 5 (some .int) [(0, 10, 13, 21), (0, 10, 17, 15)] 4 := ⟨wm_384, ⟨by decide +kernel, by decide +kernel, by decide +kernel⟩, wm_23, wm_383⟩
theorem mv_X5_bath : MVi yX5_bath cX5_bath 5 (some .int) 2 := ⟨wm_388, ⟨by decide +kernel, by decide +kernel, by decide +kernel⟩, wm_24, wm_386, wm_387⟩
theorem mv_X0_init : MVc yX0_init cX0_init 3 2 := ⟨wm_393, ⟨by decide +kernel, by decide +kernel, by decide +kernel⟩, wm_43, wm_392, rfl⟩
theorem mv_L_freshen : MVt yL_freshen cL_freshen 4 (some .int) [(0, 9, 12, 21)] 3 := ⟨wm_420, ⟨by decide +kernel, by decide +kernel, by decide +kernel⟩, wm_23, wm_419⟩
theorem mv_X5_freshen : MVi yX5_freshen cX5_freshen 2 (some .int) 1 := ⟨wm_424, ⟨by decide +kernel, by decide +kernel, by decide +kernel⟩, wm_24, wm_422, wm_423⟩
theorem mv_X5_findBath : MVi yX5_findBath cX5_findBath 2 (some (.object "DyeRing$Bath")) 1 := ⟨wm_428, ⟨by decide +kernel, by decide +kernel, by decide +kernel⟩, wm_24, wm_427, wm_5⟩
theorem mv_X0_renew : MVi yX0_renew cX0_renew 2 (some .int) 0 := ⟨wm_432, ⟨by decide +kernel, by decide +kernel, by decide +kernel⟩, wm_43, wm_430, wm_431⟩
theorem mv_L_strength : MVt yL_strength cL_strength 4 (some .int) [(0, 9, 12, 21)] 3 := ⟨wm_435, ⟨by decide +kernel, by decide +kernel, by decide +kernel⟩, wm_23, wm_434⟩
theorem mv_X5_strength : MVi yX5_strength cX5_strength 2 (some .int) 1 := ⟨wm_439, ⟨by decide +kernel, by decide +kernel, by decide +kernel⟩, wm_24, wm_437, wm_438⟩
theorem mv_L_order : MVt yL_order cL_order 6 (some .int) [(0, 12, 15, 21), (0, 12, 19, 13), (0, 12, 23, 15)] 5 := ⟨wm_442, ⟨by decide +kernel, by decide +kernel, by decide +kernel⟩, wm_23, wm_441⟩
theorem mv_X5_order : MVi yX5_order cX5_order 6 (some .int) 3 := ⟨wm_446, ⟨by decide +kernel, by decide +kernel, by decide +kernel⟩, wm_24, wm_444, wm_445⟩
theorem mv_X3_init : MVc yX3_init cX3_init 5 4 := ⟨wm_451, ⟨by decide +kernel, by decide +kernel, by decide +kernel⟩, wm_44, wm_450, rfl⟩
theorem mv_L_place : MVt yL_place cL_place 4 (some .int) [(0, 9, 12, 21), (0, 9, 15, 15), (0, 9, 18, 45)] 3 := ⟨wm_479, ⟨by decide +kernel, by decide +kernel, by decide +kernel⟩, wm_23, wm_478⟩
theorem mv_X5_place : MVi yX5_place cX5_place 4 (some .int) 1 := ⟨wm_484, ⟨by decide +kernel, by decide +kernel, by decide +kernel⟩, wm_24, wm_482, wm_483⟩
theorem mv_X5_findOrder : MVi yX5_findOrder cX5_findOrder 2 (some (.object "DyeRing$Order")) 1 := ⟨wm_488, ⟨by decide +kernel, by decide +kernel, by decide +kernel⟩, wm_24, wm_487, wm_6⟩
theorem mv_X5_requireWaiting : MVs yX5_requireWaiting cX5_requireWaiting 1 none 1 := ⟨wm_491, ⟨by decide +kernel, by decide +kernel, by decide +kernel⟩, wm_24, wm_490⟩
theorem mv_X5_weakestRightBath : MVi yX5_weakestRightBath cX5_weakestRightBath 6 (some .int) 1 := ⟨wm_496, ⟨by decide +kernel, by decide +kernel, by decide +kernel⟩, wm_24, wm_495, wm_7⟩
theorem mv_X5_isRight : MVi yX5_isRight cX5_isRight 4 (some .boolean) 2 := ⟨wm_500, ⟨by decide +kernel, by decide +kernel, by decide +kernel⟩, wm_24, wm_499, wm_8⟩
theorem mv_X0_isFor : MVi yX0_isFor cX0_isFor 2 (some .boolean) 1 := ⟨wm_504, ⟨by decide +kernel, by decide +kernel, by decide +kernel⟩, wm_43, wm_502, wm_503⟩
theorem mv_X2_distanceOfDyed : MVi yX2_distanceOfDyed cX2_distanceOfDyed 5 (some .int) 4 := ⟨wm_508, ⟨by decide +kernel, by decide +kernel, by decide +kernel⟩, wm_35, wm_506, wm_507⟩
theorem mv_X2_dyedFirst : MVi yX2_dyedFirst cX2_dyedFirst 4 (some .int) 3 := ⟨wm_512, ⟨by decide +kernel, by decide +kernel, by decide +kernel⟩, wm_35, wm_510, wm_511⟩
theorem mv_X2_dyedSecond : MVi yX2_dyedSecond cX2_dyedSecond 3 (some .int) 2 := ⟨wm_516, ⟨by decide +kernel, by decide +kernel, by decide +kernel⟩, wm_35, wm_514, wm_515⟩
theorem mv_X5_dyeIn : MVi yX5_dyeIn cX5_dyeIn 4 (some (.object "DyeRing$Piece")) 2 := ⟨wm_537, ⟨by decide +kernel, by decide +kernel, by decide +kernel⟩, wm_24, wm_536, wm_9⟩
theorem mv_X4_init : MVc yX4_init cX4_init 6 5 := ⟨wm_542, ⟨by decide +kernel, by decide +kernel, by decide +kernel⟩, wm_46, wm_541, rfl⟩
theorem mv_X0_take : MVi yX0_take cX0_take 2 none 1 := ⟨wm_580, ⟨by decide +kernel, by decide +kernel, by decide +kernel⟩, wm_43, wm_578, wm_579⟩
theorem mv_X5_weakened : MVs yX5_weakened cX5_weakened 2 (some .int) 2 := ⟨wm_584, ⟨by decide +kernel, by decide +kernel, by decide +kernel⟩, wm_24, wm_583⟩
theorem mv_L_dye : MVt yL_dye cL_dye 5 (some .int) [(0, 10, 13, 21), (0, 10, 17, 13), (0, 10, 21, 15)] 4 := ⟨wm_588, ⟨by decide +kernel, by decide +kernel, by decide +kernel⟩, wm_23, wm_587⟩
theorem mv_X5_dye : MVi yX5_dye cX5_dye 5 (some .int) 2 := ⟨wm_592, ⟨by decide +kernel, by decide +kernel, by decide +kernel⟩, wm_24, wm_590, wm_591⟩
theorem mv_X4_distance : MVi yX4_distance cX4_distance 1 (some .int) 0 := ⟨wm_597, ⟨by decide +kernel, by decide +kernel, by decide +kernel⟩, wm_46, wm_595, wm_596⟩
theorem mv_L_claim : MVt yL_claim cL_claim 4 (some .int) [(0, 9, 12, 21), (0, 9, 15, 15)] 3 := ⟨wm_601, ⟨by decide +kernel, by decide +kernel, by decide +kernel⟩, wm_23, wm_600⟩
theorem mv_X5_claim : MVi yX5_claim cX5_claim 5 (some .int) 1 := ⟨wm_605, ⟨by decide +kernel, by decide +kernel, by decide +kernel⟩, wm_24, wm_603, wm_604⟩
theorem mv_X5_pieceOf : MVs yX5_pieceOf cX5_pieceOf 2 (some (.object "DyeRing$Piece")) 1 := ⟨wm_608, ⟨by decide +kernel, by decide +kernel, by decide +kernel⟩, wm_24, wm_607⟩
theorem mv_X4_isOff : MVi yX4_isOff cX4_isOff 1 (some .boolean) 0 := ⟨wm_613, ⟨by decide +kernel, by decide +kernel, by decide +kernel⟩, wm_46, wm_611, wm_612⟩
theorem mv_X4_toBlame : MVi yX4_toBlame cX4_toBlame 4 (some .int) 0 := ⟨wm_619, ⟨by decide +kernel, by decide +kernel, by decide +kernel⟩, wm_46, wm_617, wm_618⟩
theorem mv_L_stateOf : MVt yL_stateOf cL_stateOf 4 (some .int) [(0, 9, 12, 21)] 3 := ⟨wm_622, ⟨by decide +kernel, by decide +kernel, by decide +kernel⟩, wm_23, wm_621⟩
theorem mv_X5_stateOf : MVi yX5_stateOf cX5_stateOf 3 (some .int) 1 := ⟨wm_626, ⟨by decide +kernel, by decide +kernel, by decide +kernel⟩, wm_24, wm_624, wm_625⟩
theorem mv_L_colour : MVt yL_colour cL_colour 5 (some .int) [(0, 10, 13, 21), (0, 10, 17, 15)] 4 := ⟨wm_629, ⟨by decide +kernel, by decide +kernel, by decide +kernel⟩, wm_23, wm_628⟩
theorem mv_X5_colour : MVi yX5_colour cX5_colour 5 (some .int) 2 := ⟨wm_633, ⟨by decide +kernel, by decide +kernel, by decide +kernel⟩, wm_24, wm_631, wm_632⟩
theorem mv_X4_colourAt : MVi yX4_colourAt cX4_colourAt 3 (some .int) 2 := ⟨wm_637, ⟨by decide +kernel, by decide +kernel, by decide +kernel⟩, wm_46, wm_635, wm_636⟩
theorem mv_L_colourByBath : MVt yL_colourByBath cL_colourByBath 5 (some .int) [(0, 10, 13, 21), (0, 10, 17, 15)] 4 := ⟨wm_642, ⟨by decide +kernel, by decide +kernel, by decide +kernel⟩, wm_23, wm_641⟩
theorem mv_X5_colourByBath : MVi yX5_colourByBath cX5_colourByBath 5 (some .int) 2 := ⟨wm_646, ⟨by decide +kernel, by decide +kernel, by decide +kernel⟩, wm_24, wm_644, wm_645⟩
theorem mv_X0_followedTo : MVi yX0_followedTo cX0_followedTo 5 (some .int) 1 := ⟨wm_650, ⟨by decide +kernel, by decide +kernel, by decide +kernel⟩, wm_43, wm_648, wm_649⟩
theorem mv_L_blamed : MVt yL_blamed cL_blamed 5 (some .int) [(0, 10, 13, 21), (0, 10, 17, 13)] 4 := ⟨wm_656, ⟨by decide +kernel, by decide +kernel, by decide +kernel⟩, wm_23, wm_655⟩
theorem mv_X5_blamed : MVi yX5_blamed cX5_blamed 3 (some .int) 2 := ⟨wm_660, ⟨by decide +kernel, by decide +kernel, by decide +kernel⟩, wm_24, wm_658, wm_659⟩
theorem mv_L_shrinks : MVt yL_shrinks cL_shrinks 5 (some .int) [(0, 10, 13, 21), (0, 10, 17, 13)] 4 := ⟨wm_663, ⟨by decide +kernel, by decide +kernel, by decide +kernel⟩, wm_23, wm_662⟩
theorem mv_X5_shrinks : MVi yX5_shrinks cX5_shrinks 4 (some .int) 2 := ⟨wm_667, ⟨by decide +kernel, by decide +kernel, by decide +kernel⟩, wm_24, wm_665, wm_666⟩
theorem mv_L_give : MVt yL_give cL_give 7 (some .int) [(0, 14, 17, 21), (0, 14, 21, 13), (0, 14, 25, 15)] 6 := ⟨wm_670, ⟨by decide +kernel, by decide +kernel, by decide +kernel⟩, wm_23, wm_669⟩
theorem mv_X5_give : MVi yX5_give cX5_give 7 (some .int) 4 := ⟨wm_674, ⟨by decide +kernel, by decide +kernel, by decide +kernel⟩, wm_24, wm_672, wm_673⟩
theorem mv_X1_shrunk : MVi yX1_shrunk cX1_shrunk 3 (some .int) 1 := ⟨wm_679, ⟨by decide +kernel, by decide +kernel, by decide +kernel⟩, wm_28, wm_677, wm_678⟩
theorem mv_L_owes : MVt yL_owes cL_owes 6 (some .int) [(0, 12, 15, 21)] 5 := ⟨wm_684, ⟨by decide +kernel, by decide +kernel, by decide +kernel⟩, wm_23, wm_683⟩
theorem mv_X5_owes : MVi yX5_owes cX5_owes 4 (some .int) 3 := ⟨wm_688, ⟨by decide +kernel, by decide +kernel, by decide +kernel⟩, wm_24, wm_686, wm_687⟩
theorem mv_L_position : MVt yL_position cL_position 5 (some .int) [(0, 10, 13, 21)] 4 := ⟨wm_691, ⟨by decide +kernel, by decide +kernel, by decide +kernel⟩, wm_23, wm_690⟩
theorem mv_X5_position : MVi yX5_position cX5_position 3 (some .int) 2 := ⟨wm_695, ⟨by decide +kernel, by decide +kernel, by decide +kernel⟩, wm_24, wm_693, wm_694⟩
theorem mv_X1_balanceOf : MVi yX1_balanceOf cX1_balanceOf 4 (some .int) 1 := ⟨wm_699, ⟨by decide +kernel, by decide +kernel, by decide +kernel⟩, wm_28, wm_697, wm_698⟩
theorem mv_L_net : MVt yL_net cL_net 4 (some .int) [(0, 9, 12, 21)] 3 := ⟨wm_702, ⟨by decide +kernel, by decide +kernel, by decide +kernel⟩, wm_23, wm_701⟩
theorem mv_X5_net : MVi yX5_net cX5_net 2 (some .int) 1 := ⟨wm_706, ⟨by decide +kernel, by decide +kernel, by decide +kernel⟩, wm_24, wm_704, wm_705⟩
theorem mv_X1_settle : MVi yX1_settle cX1_settle 2 (some .int) 0 := ⟨wm_710, ⟨by decide +kernel, by decide +kernel, by decide +kernel⟩, wm_28, wm_708, wm_709⟩
theorem mv_J7_fill_53178 : MVs yJ7_fill_53178 cJ7_fill_53178 4 none 2 := ⟨wm_714, ⟨by decide +kernel, by decide +kernel, by decide +kernel⟩, wm_38, wm_713⟩
theorem mv_X1_settleLowest : MVi yX1_settleLowest cX1_settleLowest 4 (some .boolean) 0 := ⟨wm_718, ⟨by decide +kernel, by decide +kernel, by decide +kernel⟩, wm_28, wm_717, wm_10⟩
theorem mv_X1_lowest : MVi yX1_lowest cX1_lowest 3 (some .int) 1 := ⟨wm_722, ⟨by decide +kernel, by decide +kernel, by decide +kernel⟩, wm_28, wm_721, wm_11⟩
theorem mv_X6_init : MVc yX6_init cX6_init 1 0 := ⟨wm_728, ⟨by decide +kernel, by decide +kernel, by decide +kernel⟩, wm_29, wm_727, rfl⟩
theorem mv_X6_thrown : MVi yX6_thrown cX6_thrown 1 (some .int) 0 := ⟨wm_806, ⟨by decide +kernel, by decide +kernel, by decide +kernel⟩, wm_29, wm_804, wm_805⟩
theorem mv_X6_entry : MVi yX6_entry cX6_entry 4 (some .int) 3 := ⟨wm_810, ⟨by decide +kernel, by decide +kernel, by decide +kernel⟩, wm_29, wm_808, wm_809⟩
theorem mv_X6_isIn : MVs yX6_isIn cX6_isIn 3 (some .boolean) 3 := ⟨wm_813, ⟨by decide +kernel, by decide +kernel, by decide +kernel⟩, wm_29, wm_812⟩
theorem mv_X6_mayBoth : MVi yX6_mayBoth cX6_mayBoth 3 (some .boolean) 2 := ⟨wm_817, ⟨by decide +kernel, by decide +kernel, by decide +kernel⟩, wm_29, wm_816, wm_12⟩
theorem mv_X6_water : MVi yX6_water cX6_water 4 (some .int) 2 := ⟨wm_821, ⟨by decide +kernel, by decide +kernel, by decide +kernel⟩, wm_29, wm_819, wm_820⟩
theorem mv_X6_isThird : MVs yX6_isThird cX6_isThird 1 (some .boolean) 1 := ⟨wm_824, ⟨by decide +kernel, by decide +kernel, by decide +kernel⟩, wm_29, wm_823⟩
theorem mv_X6_yarn : MVi yX6_yarn cX6_yarn 5 (some .int) 3 := ⟨wm_828, ⟨by decide +kernel, by decide +kernel, by decide +kernel⟩, wm_29, wm_826, wm_827⟩
theorem mv_X6_apart : MVi yX6_apart cX6_apart 3 (some .int) 2 := ⟨wm_832, ⟨by decide +kernel, by decide +kernel, by decide +kernel⟩, wm_29, wm_830, wm_831⟩
theorem mv_X6_isEntry : MVi yX6_isEntry cX6_isEntry 2 (some .boolean) 1 := ⟨wm_836, ⟨by decide +kernel, by decide +kernel, by decide +kernel⟩, wm_29, wm_835, wm_13⟩
theorem mv_X6_may : MVi yX6_may cX6_may 2 (some .boolean) 1 := ⟨wm_840, ⟨by decide +kernel, by decide +kernel, by decide +kernel⟩, wm_29, wm_839, wm_14⟩
theorem mv_X6_far : MVs yX6_far cX6_far 2 (some .int) 2 := ⟨wm_843, ⟨by decide +kernel, by decide +kernel, by decide +kernel⟩, wm_29, wm_842⟩
theorem mv_X6_bath : MVi yX6_bath cX6_bath 3 (some .int) 2 := ⟨wm_847, ⟨by decide +kernel, by decide +kernel, by decide +kernel⟩, wm_29, wm_845, wm_846⟩
theorem mv_X6_freshen : MVi yX6_freshen cX6_freshen 3 (some .int) 1 := ⟨wm_851, ⟨by decide +kernel, by decide +kernel, by decide +kernel⟩, wm_29, wm_849, wm_850⟩
theorem mv_X6_isBath : MVi yX6_isBath cX6_isBath 2 (some .boolean) 1 := ⟨wm_855, ⟨by decide +kernel, by decide +kernel, by decide +kernel⟩, wm_29, wm_854, wm_15⟩
theorem mv_X6_strength : MVi yX6_strength cX6_strength 2 (some .int) 1 := ⟨wm_859, ⟨by decide +kernel, by decide +kernel, by decide +kernel⟩, wm_29, wm_857, wm_858⟩
theorem mv_X6_order : MVi yX6_order cX6_order 4 (some .int) 3 := ⟨wm_863, ⟨by decide +kernel, by decide +kernel, by decide +kernel⟩, wm_29, wm_861, wm_862⟩
theorem mv_X6_mayAll : MVi yX6_mayAll cX6_mayAll 4 (some .boolean) 3 := ⟨wm_867, ⟨by decide +kernel, by decide +kernel, by decide +kernel⟩, wm_29, wm_866, wm_16⟩
theorem mv_X6_place : MVi yX6_place cX6_place 7 (some .int) 1 := ⟨wm_871, ⟨by decide +kernel, by decide +kernel, by decide +kernel⟩, wm_29, wm_869, wm_870⟩
theorem mv_X6_isOrder : MVi yX6_isOrder cX6_isOrder 2 (some .boolean) 1 := ⟨wm_875, ⟨by decide +kernel, by decide +kernel, by decide +kernel⟩, wm_29, wm_874, wm_17⟩
theorem mv_X6_offBy : MVi yX6_offBy cX6_offBy 4 (some .int) 2 := ⟨wm_879, ⟨by decide +kernel, by decide +kernel, by decide +kernel⟩, wm_29, wm_878, wm_18⟩
theorem mv_X6_off : MVi yX6_off cX6_off 7 (some .int) 4 := ⟨wm_883, ⟨by decide +kernel, by decide +kernel, by decide +kernel⟩, wm_29, wm_882, wm_19⟩
theorem mv_X6_dyeIn : MVi yX6_dyeIn cX6_dyeIn 3 none 2 := ⟨wm_887, ⟨by decide +kernel, by decide +kernel, by decide +kernel⟩, wm_29, wm_886, wm_20⟩
theorem mv_X6_dye : MVi yX6_dye cX6_dye 4 (some .int) 2 := ⟨wm_891, ⟨by decide +kernel, by decide +kernel, by decide +kernel⟩, wm_29, wm_889, wm_890⟩
theorem mv_X6_offOf : MVi yX6_offOf cX6_offOf 2 (some .int) 1 := ⟨wm_895, ⟨by decide +kernel, by decide +kernel, by decide +kernel⟩, wm_29, wm_894, wm_21⟩
theorem mv_X6_claim : MVi yX6_claim cX6_claim 8 (some .int) 1 := ⟨wm_899, ⟨by decide +kernel, by decide +kernel, by decide +kernel⟩, wm_29, wm_897, wm_898⟩
theorem mv_X6_stateOf : MVi yX6_stateOf cX6_stateOf 2 (some .int) 1 := ⟨wm_903, ⟨by decide +kernel, by decide +kernel, by decide +kernel⟩, wm_29, wm_901, wm_902⟩
theorem mv_X6_colour : MVi yX6_colour cX6_colour 5 (some .int) 2 := ⟨wm_907, ⟨by decide +kernel, by decide +kernel, by decide +kernel⟩, wm_29, wm_905, wm_906⟩
theorem mv_X6_colourByBath : MVi yX6_colourByBath cX6_colourByBath 3 (some .int) 2 := ⟨wm_911, ⟨by decide +kernel, by decide +kernel, by decide +kernel⟩, wm_29, wm_909, wm_910⟩
theorem mv_X6_blamed : MVi yX6_blamed cX6_blamed 3 (some .int) 2 := ⟨wm_916, ⟨by decide +kernel, by decide +kernel, by decide +kernel⟩, wm_29, wm_914, wm_915⟩
theorem mv_X6_shrinks : MVi yX6_shrinks cX6_shrinks 4 (some .int) 2 := ⟨wm_920, ⟨by decide +kernel, by decide +kernel, by decide +kernel⟩, wm_29, wm_918, wm_919⟩
theorem mv_X6_give : MVi yX6_give cX6_give 9 (some .int) 4 := ⟨wm_924, ⟨by decide +kernel, by decide +kernel, by decide +kernel⟩, wm_29, wm_922, wm_923⟩
theorem mv_X6_isPerson : MVs yX6_isPerson cX6_isPerson 1 (some .boolean) 1 := ⟨wm_927, ⟨by decide +kernel, by decide +kernel, by decide +kernel⟩, wm_29, wm_926⟩
theorem mv_X6_owes : MVi yX6_owes cX6_owes 4 (some .int) 3 := ⟨wm_932, ⟨by decide +kernel, by decide +kernel, by decide +kernel⟩, wm_29, wm_930, wm_931⟩
theorem mv_X6_position : MVi yX6_position cX6_position 3 (some .int) 2 := ⟨wm_936, ⟨by decide +kernel, by decide +kernel, by decide +kernel⟩, wm_29, wm_934, wm_935⟩
theorem mv_X6_positionOf : MVi yX6_positionOf cX6_positionOf 5 (some .int) 2 := ⟨wm_940, ⟨by decide +kernel, by decide +kernel, by decide +kernel⟩, wm_29, wm_939, wm_22⟩
theorem mv_X6_net : MVi yX6_net cX6_net 6 (some .int) 1 := ⟨wm_944, ⟨by decide +kernel, by decide +kernel, by decide +kernel⟩, wm_29, wm_942, wm_943⟩
theorem tw_156_158_160 : Tw "DyeRing" 156 158 160 "java/lang/IllegalStateException" "the piece is claimed already, or not off" := ⟨by decide +kernel, by decide +kernel, wm_217, wm_34, by decide +kernel, by decide +kernel, by decide +kernel, by decide +kernel⟩
theorem tw_134_136_138 : Tw "DyeRing" 134 136 138 "java/lang/IllegalArgumentException" "the bath is for another entry" := ⟨by decide +kernel, by decide +kernel, wm_141, wm_33, by decide +kernel, by decide +kernel, by decide +kernel, by decide +kernel⟩
theorem tw_134_188_138 : Tw "DyeRing" 134 188 138 "java/lang/IllegalArgumentException" "nobody gives to themselves" := ⟨by decide +kernel, by decide +kernel, wm_141, wm_33, by decide +kernel, by decide +kernel, by decide +kernel, by decide +kernel⟩
theorem tw_156_197_160 : Tw "DyeRing" 156 197 160 "java/lang/IllegalStateException" "the debt would be too large" := ⟨by decide +kernel, by decide +kernel, wm_217, wm_34, by decide +kernel, by decide +kernel, by decide +kernel, by decide +kernel⟩
theorem tw_156_216_160 : Tw "DyeRing" 156 216 160 "java/lang/IllegalStateException" "the order is still waiting" := ⟨by decide +kernel, by decide +kernel, wm_217, wm_34, by decide +kernel, by decide +kernel, by decide +kernel, by decide +kernel⟩
theorem tw_205_207_209 : Tw "DyeRing" 205 207 209 "java/lang/IndexOutOfBoundsException" "there is no such number" := ⟨by decide +kernel, by decide +kernel, wm_327, wm_40, by decide +kernel, by decide +kernel, by decide +kernel, by decide +kernel⟩
theorem tw_134_210_138 : Tw "DyeRing" 134 210 138 "java/lang/IllegalArgumentException" "a value is out of its range" := ⟨by decide +kernel, by decide +kernel, wm_141, wm_33, by decide +kernel, by decide +kernel, by decide +kernel, by decide +kernel⟩
theorem tw_156_212_160 : Tw "DyeRing" 156 212 160 "java/lang/IllegalStateException" "there is no room for one more" := ⟨by decide +kernel, by decide +kernel, wm_217, wm_34, by decide +kernel, by decide +kernel, by decide +kernel, by decide +kernel⟩
theorem tw_156_214_160 : Tw "DyeRing" 156 214 160 "java/lang/IllegalStateException" "the order is dyed already" := ⟨by decide +kernel, by decide +kernel, wm_217, wm_34, by decide +kernel, by decide +kernel, by decide +kernel, by decide +kernel⟩
end
section
/-! THE RING'S LEAVES: pure words -/
def zab (x : Int32) : Int32 := if 0 ≤ x then x else 0 - x
def zd (f h x y : Int32) : Int32 := zab (f - x) + zab (h - y)
def zf (f k w y : Int32) : Int32 := f * k / 100 + y + w
def zs (h k y : Int32) : Int32 := h * k / 100 + y
def zod (f h k w y1 y2 : Int32) : Int32 := zd f h (zf f k w y1) (zs h k y2)
def bI (b : Bool) : Int32 := if b then 1 else 0
theorem ne_IQ {g : gG} {n k m : Nat} {f : Nat → Int32} {r : Nat → Option Nat} : eI g n f ≠ eQ g k m r := fun z => by
  injection z with z; injection z with z1 z2; injection z2 with z3 z4; cases z4
theorem ne_LI {g : gG} {n m : Nat} {f : Nat → Int64} {r : Nat → Int32} : eL g n f ≠ eI g m r := fun z => by
  injection z with z; injection z with z1 z2; injection z2 with z3 z4; cases z4
theorem ne_LQ {g : gG} {n k m : Nat} {f : Nat → Int64} {r : Nat → Option Nat} : eL g n f ≠ eQ g k m r := fun z => by
  injection z with z; injection z with z1 z2; injection z2 with z3 z4; cases z4
set_option maxHeartbeats 4000000 in
set_option maxRecDepth 100000 in
theorem c_E_distanceTo {l : Launch} {g : gG} {M : Mp} {a : Nat} {n f h t : Int32} (h0 : M a = some (eO 3 [.int n, .int f, .int h, .int t])) (x y : Int32) : Met l yX2_distanceTo (WY yX2_distanceTo cX2_distanceTo 3 (some .int)) { frames := 1, cells := 0, slots := 0, locals := 14 } (Wc g M [.ref a, .int x, .int y]) (rdQ (some (.int (zd f h x y)))) 0 0 fr0 := by
  refine ofM (by decide +kernel) (Nat.le_of_ble_eq_true rfl) (fun p e s m args below meth c ls C hr hlocks hin hE hH hl ea => ?_)
  have hl : lv_has ls 3 [(0, .ref a), (1, .int x), (2, .int y)] := hl
  have hS : va_S (gA g) s.heap s.heap [] := va_S.rf
  refine lv_aload_n C.1 C.2.1 dX2_distanceTo_0 rfl (lv_at hl 0 rfl) ?_
  refine mget C hE hH fl_241 h0 rfl dX2_distanceTo_1 ?_
  refine lv_iload_n C.1 C.2.1 dX2_distanceTo_4 rfl (lv_at hl 1 rfl) ?_
  refine lv_isub C.1 C.2.1 dX2_distanceTo_5 ?_
  refine va_mabs C.1 C.2.1 (C.2.2.1.trans hl.1.symm) C.2.2.2.1 (C.2.2.2.2 _ wm_379) (C.2.2.2.2 _ wm_380) (C.2.2.2.2 _ wm_37) (C.2.2.2.2 _ wm_381) (Nat.le_of_ble_eq_true rfl) (Nat.le_of_ble_eq_true rfl) (by decide) (by decide) dX2_distanceTo_6 ?_
  refine lv_aload_n C.1 C.2.1 dX2_distanceTo_9 rfl (lv_at hl 0 rfl) ?_
  refine mget C hE hH fl_243 h0 rfl dX2_distanceTo_10 ?_
  refine lv_iload_n C.1 C.2.1 dX2_distanceTo_13 rfl (lv_at hl 2 rfl) ?_
  refine lv_isub C.1 C.2.1 dX2_distanceTo_14 ?_
  refine va_mabs C.1 C.2.1 (C.2.2.1.trans hl.1.symm) C.2.2.2.1 (C.2.2.2.2 _ wm_379) (C.2.2.2.2 _ wm_380) (C.2.2.2.2 _ wm_37) (C.2.2.2.2 _ wm_381) (Nat.le_of_ble_eq_true rfl) (Nat.le_of_ble_eq_true rfl) (by decide) (by decide) dX2_distanceTo_15 ?_
  refine lv_iadd C.1 C.2.1 dX2_distanceTo_18 ?_
  exact rd_iret C hr hlocks (rfl) dX2_distanceTo_19
set_option maxHeartbeats 4000000 in
set_option maxRecDepth 100000 in
theorem c_E_dyedFirst {l : Launch} {g : gG} {M : Mp} {a : Nat} {n f h t : Int32} (h0 : M a = some (eO 3 [.int n, .int f, .int h, .int t])) (k w y : Int32) : Met l yX2_dyedFirst (WY yX2_dyedFirst cX2_dyedFirst 4 (some .int)) { frames := 0, cells := 0, slots := 0, locals := 0 } (Wc g M [.ref a, .int k, .int w, .int y]) (rdQ (some (.int (zf f k w y)))) 0 0 fr0 := by
  refine ofM (by decide +kernel) (Nat.le_of_ble_eq_true rfl) (fun p e s m args below meth c ls C hr hlocks hin hE hH hl ea => ?_)
  have hl : lv_has ls 4 [(0, .ref a), (1, .int k), (2, .int w), (3, .int y)] := hl
  have hS : va_S (gA g) s.heap s.heap [] := va_S.rf
  refine lv_aload_n C.1 C.2.1 dX2_dyedFirst_0 rfl (lv_at hl 0 rfl) ?_
  refine mget C hE hH fl_241 h0 rfl dX2_dyedFirst_1 ?_
  refine lv_iload_n C.1 C.2.1 dX2_dyedFirst_4 rfl (lv_at hl 1 rfl) ?_
  refine lv_imul C.1 C.2.1 dX2_dyedFirst_5 ?_
  refine lv_bipush (v := 100) C.1 C.2.1 dX2_dyedFirst_6 rfl ?_
  refine lv_idiv C.1 C.2.1 dX2_dyedFirst_8 (by decide) ?_
  refine lv_iload_n C.1 C.2.1 dX2_dyedFirst_9 rfl (lv_at hl 3 rfl) ?_
  refine lv_iadd C.1 C.2.1 dX2_dyedFirst_10 ?_
  refine lv_iload_n C.1 C.2.1 dX2_dyedFirst_11 rfl (lv_at hl 2 rfl) ?_
  refine lv_iadd C.1 C.2.1 dX2_dyedFirst_12 ?_
  exact rd_iret C hr hlocks (rfl) dX2_dyedFirst_13
set_option maxHeartbeats 4000000 in
set_option maxRecDepth 100000 in
theorem c_E_dyedSecond {l : Launch} {g : gG} {M : Mp} {a : Nat} {n f h t : Int32} (h0 : M a = some (eO 3 [.int n, .int f, .int h, .int t])) (k y : Int32) : Met l yX2_dyedSecond (WY yX2_dyedSecond cX2_dyedSecond 3 (some .int)) { frames := 0, cells := 0, slots := 0, locals := 0 } (Wc g M [.ref a, .int k, .int y]) (rdQ (some (.int (zs h k y)))) 0 0 fr0 := by
  refine ofM (by decide +kernel) (Nat.le_of_ble_eq_true rfl) (fun p e s m args below meth c ls C hr hlocks hin hE hH hl ea => ?_)
  have hl : lv_has ls 3 [(0, .ref a), (1, .int k), (2, .int y)] := hl
  have hS : va_S (gA g) s.heap s.heap [] := va_S.rf
  refine lv_aload_n C.1 C.2.1 dX2_dyedSecond_0 rfl (lv_at hl 0 rfl) ?_
  refine mget C hE hH fl_243 h0 rfl dX2_dyedSecond_1 ?_
  refine lv_iload_n C.1 C.2.1 dX2_dyedSecond_4 rfl (lv_at hl 1 rfl) ?_
  refine lv_imul C.1 C.2.1 dX2_dyedSecond_5 ?_
  refine lv_bipush (v := 100) C.1 C.2.1 dX2_dyedSecond_6 rfl ?_
  refine lv_idiv C.1 C.2.1 dX2_dyedSecond_8 (by decide) ?_
  refine lv_iload_n C.1 C.2.1 dX2_dyedSecond_9 rfl (lv_at hl 2 rfl) ?_
  refine lv_iadd C.1 C.2.1 dX2_dyedSecond_10 ?_
  exact rd_iret C hr hlocks (rfl) dX2_dyedSecond_11
set_option maxHeartbeats 4000000 in
set_option maxRecDepth 100000 in
theorem c_E_distanceOfDyed {l : Launch} {g : gG} {M : Mp} {a : Nat} {n f h t : Int32} (h0 : M a = some (eO 3 [.int n, .int f, .int h, .int t])) (k w y1 y2 : Int32) : Met l yX2_distanceOfDyed (WY yX2_distanceOfDyed cX2_distanceOfDyed 5 (some .int)) { frames := 2, cells := 0, slots := 0, locals := 36 } (Wc g M [.ref a, .int k, .int w, .int y1, .int y2]) (rdQ (some (.int (zod f h k w y1 y2)))) 0 0 fr0 := by
  refine ofM (by decide +kernel) (Nat.le_of_ble_eq_true rfl) (fun p e s m args below meth c ls C hr hlocks hin hE hH hl ea => ?_)
  have hl : lv_has ls 5 [(0, .ref a), (1, .int k), (2, .int w), (3, .int y1), (4, .int y2)] := hl
  have hS : va_S (gA g) s.heap s.heap [] := va_S.rf
  refine lv_aload_n C.1 C.2.1 dX2_distanceOfDyed_0 rfl (lv_at hl 0 rfl) ?_
  refine lv_aload_n C.1 C.2.1 dX2_distanceOfDyed_1 rfl (lv_at hl 0 rfl) ?_
  refine lv_iload_n C.1 C.2.1 dX2_distanceOfDyed_2 rfl (lv_at hl 1 rfl) ?_
  refine lv_iload_n C.1 C.2.1 dX2_distanceOfDyed_3 rfl (lv_at hl 2 rfl) ?_
  refine lv_iload_n C.1 C.2.1 dX2_distanceOfDyed_4 rfl (lv_at hl 3 rfl) ?_
  refine rd_go1 (runV C hE hH hS (c_E_dyedFirst h0 k w y1) mv_X2_dyedFirst wm_509 h0 rfl rfl hl.1 dX2_distanceOfDyed_5 rfl rfl ⟨rfl, rfl⟩ ⟨Nat.le_of_ble_eq_true rfl, Nat.le_of_ble_eq_true rfl⟩ (Nat.le_of_ble_eq_true rfl) ⟨Nat.le_of_ble_eq_true rfl, Nat.le_of_ble_eq_true rfl⟩) ?_
  refine lv_aload_n C.1 C.2.1 dX2_distanceOfDyed_8 rfl (lv_at hl 0 rfl) ?_
  refine lv_iload_n C.1 C.2.1 dX2_distanceOfDyed_9 rfl (lv_at hl 1 rfl) ?_
  refine lv_iload C.1 C.2.1 dX2_distanceOfDyed_10 (lv_at hl 4 rfl) ?_
  refine rd_go1 (runV C hE hH hS (c_E_dyedSecond h0 k y2) mv_X2_dyedSecond wm_513 h0 rfl rfl hl.1 dX2_distanceOfDyed_12 rfl rfl ⟨rfl, rfl⟩ ⟨Nat.le_of_ble_eq_true rfl, Nat.le_of_ble_eq_true rfl⟩ (Nat.le_of_ble_eq_true rfl) ⟨Nat.le_of_ble_eq_true rfl, Nat.le_of_ble_eq_true rfl⟩) ?_
  refine rd_go1 (runV C hE hH hS (c_E_distanceTo h0 (zf f k w y1) (zs h k y2)) mv_X2_distanceTo wm_517 h0 rfl rfl hl.1 dX2_distanceOfDyed_15 rfl rfl ⟨rfl, rfl⟩ ⟨Nat.le_of_ble_eq_true rfl, Nat.le_of_ble_eq_true rfl⟩ (Nat.le_of_ble_eq_true rfl) ⟨Nat.le_of_ble_eq_true rfl, Nat.le_of_ble_eq_true rfl⟩) ?_
  exact rd_iret C hr hlocks (rfl) dX2_distanceOfDyed_18
set_option maxHeartbeats 4000000 in
set_option maxRecDepth 100000 in
theorem c_E_init {l : Launch} {g : gG} {M : Mp} {a : Nat} (h0 : M a = some (eO 3 [.int 0, .int 0, .int 0, .int 0])) (x1 x2 x3 x4 : Int32) : Met l yX2_init (WY yX2_init cX2_init 5 none) { frames := 1, cells := 0, slots := 0, locals := 12 } (Wc g M [.ref a, .int x1, .int x2, .int x3, .int x4]) (wrQ (S := Unit) g (fun u_ => none) (fun u_ M_ => M_ = mu M a (eO 3 [.int x1, .int x2, .int x3, .int x4]))) 0 0 (gA g) := by
  refine ofM (by decide +kernel) (Nat.le_of_ble_eq_true rfl) (fun p e s m args below meth c ls C hr hlocks hin hE hH hl ea => ?_)
  have hin : meth.name = "<init>" := hin
  have hl : lv_has ls 5 [(0, .ref a), (1, .int x1), (2, .int x2), (3, .int x3), (4, .int x4)] := hl
  have hS : va_S (gA g) s.heap s.heap [] := va_S.rf
  refine lv_aload_n C.1 C.2.1 dX2_init_0 rfl (lv_at hl 0 rfl) ?_
  refine W.objInit C.1 C.2.1 C.2.2.2.1 (C.2.2.2.2 _ wm_238) (C.2.2.2.2 _ wm_53) (C.2.2.2.2 _ wm_54) rfl (by rw [C.2.2.1]; exact hl.1) rfl dX2_init_1 (Nat.le_of_ble_eq_true rfl) (Nat.le_of_ble_eq_true rfl) ?_
  refine W.eq (g2 := F0 m 4 ls []) rfl ?_
  refine lv_aload_n C.1 C.2.1 dX2_init_4 rfl (lv_at hl 0 rfl) ?_
  refine lv_iload_n C.1 C.2.1 dX2_init_5 rfl (lv_at hl 1 rfl) ?_
  refine mputF (fs' := [.int x1, .int 0, .int 0, .int 0]) C hE hH hS fp_239 h0 hin rfl rfl rfl (Nat.le_of_ble_eq_true rfl) dX2_init_6 (fun H locs hH hS => ?_)
  obtain ⟨M1, hM1⟩ : ∃ z, z = mu M a (eO 3 [.int x1, .int 0, .int 0, .int 0]) := ⟨_, rfl⟩
  have hH : Hw g M1 H := by rw [hM1]; exact hH
  have f2 : M1 a = some (eO 3 [.int x1, .int 0, .int 0, .int 0]) := by rw [hM1]; exact mu_s
  refine lv_aload_n C.1 C.2.1 dX2_init_9 rfl (lv_at hl 0 rfl) ?_
  refine lv_iload_n C.1 C.2.1 dX2_init_10 rfl (lv_at hl 2 rfl) ?_
  refine mputF (fs' := [.int x1, .int x2, .int 0, .int 0]) C hE hH hS fp_241 f2 hin rfl rfl rfl (Nat.le_of_ble_eq_true rfl) dX2_init_11 (fun H locs hH hS => ?_)
  obtain ⟨M3, hM3⟩ : ∃ z, z = mu M1 a (eO 3 [.int x1, .int x2, .int 0, .int 0]) := ⟨_, rfl⟩
  have hH : Hw g M3 H := by rw [hM3]; exact hH
  have f4 : M3 a = some (eO 3 [.int x1, .int x2, .int 0, .int 0]) := by rw [hM3]; exact mu_s
  refine lv_aload_n C.1 C.2.1 dX2_init_14 rfl (lv_at hl 0 rfl) ?_
  refine lv_iload_n C.1 C.2.1 dX2_init_15 rfl (lv_at hl 3 rfl) ?_
  refine mputF (fs' := [.int x1, .int x2, .int x3, .int 0]) C hE hH hS fp_243 f4 hin rfl rfl rfl (Nat.le_of_ble_eq_true rfl) dX2_init_16 (fun H locs hH hS => ?_)
  obtain ⟨M5, hM5⟩ : ∃ z, z = mu M3 a (eO 3 [.int x1, .int x2, .int x3, .int 0]) := ⟨_, rfl⟩
  have hH : Hw g M5 H := by rw [hM5]; exact hH
  have f6 : M5 a = some (eO 3 [.int x1, .int x2, .int x3, .int 0]) := by rw [hM5]; exact mu_s
  refine lv_aload_n C.1 C.2.1 dX2_init_19 rfl (lv_at hl 0 rfl) ?_
  refine lv_iload C.1 C.2.1 dX2_init_20 (lv_at hl 4 rfl) ?_
  refine mputF (fs' := [.int x1, .int x2, .int x3, .int x4]) C hE hH hS fp_245 f6 hin rfl rfl rfl (Nat.le_of_ble_eq_true rfl) dX2_init_22 (fun H locs hH hS => ?_)
  obtain ⟨M7, hM7⟩ : ∃ z, z = mu M5 a (eO 3 [.int x1, .int x2, .int x3, .int x4]) := ⟨_, rfl⟩
  have hH : Hw g M7 H := by rw [hM7]; exact hH
  have f8 : M7 a = some (eO 3 [.int x1, .int x2, .int x3, .int x4]) := by rw [hM7]; exact mu_s
  exact wr_vret () C hr hlocks hH hS rfl (by (rw [hM7, hM5, hM3, hM1]) <;> simp only [mu_mu]) (by decide) (by decide) dX2_init_25
theorem bI_t {Q : Prop} [Decidable Q] (h : Q) : (1 : Int32) = bI (decide Q) := by rw [bI, if_pos (decide_eq_true h)]
theorem bI_f {Q : Prop} [Decidable Q] (h : ¬ Q) : (0 : Int32) = bI (decide Q) := by rw [bI, if_neg (by rw [decide_eq_false h]; decide)]
theorem bI_fit (b : Bool) : fits .boolean (.int (bI b)) = true := by cases b <;> rfl
theorem bI_n (b : Bool) : narrow .boolean (.int (bI b)) = .int (bI b) := by cases b <;> rfl
def zw (k w : Int32) : Int32 := if 0 < k - w then k - w else 0
def zblame (x y z : Int32) : Int32 := if x ≤ y ∧ x ≤ z then 0 else if y ≤ z then 1 else 2
def zsh (x k : Int32) : Int32 := x - (x * k + 99) / 100
set_option maxHeartbeats 4000000 in
set_option maxRecDepth 100000 in
theorem c_O_init {l : Launch} {g : gG} {M : Mp} {a : Nat} (h0 : M a = some (eO 4 [.int 0, .null, .int 0, .int 0, .null, .int 0])) (x1 : Int32) (x2 : Nat) (x3 x4 : Int32) : Met l yX3_init (WY yX3_init cX3_init 5 none) { frames := 1, cells := 0, slots := 0, locals := 12 } (Wc g M [.ref a, .int x1, .ref x2, .int x3, .int x4]) (wrQ (S := Unit) g (fun u_ => none) (fun u_ M_ => M_ = mu M a (eO 4 [.int x1, .ref x2, .int x3, .int x4, .null, .int 0]))) 0 0 (gA g) := by
  refine ofM (by decide +kernel) (Nat.le_of_ble_eq_true rfl) (fun p e s m args below meth c ls C hr hlocks hin hE hH hl ea => ?_)
  have hin : meth.name = "<init>" := hin
  have hl : lv_has ls 5 [(0, .ref a), (1, .int x1), (2, .ref x2), (3, .int x3), (4, .int x4)] := hl
  have hS : va_S (gA g) s.heap s.heap [] := va_S.rf
  refine lv_aload_n C.1 C.2.1 dX3_init_0 rfl (lv_at hl 0 rfl) ?_
  refine W.objInit C.1 C.2.1 C.2.2.2.1 (C.2.2.2.2 _ wm_452) (C.2.2.2.2 _ wm_53) (C.2.2.2.2 _ wm_54) rfl (by rw [C.2.2.1]; exact hl.1) rfl dX3_init_1 (Nat.le_of_ble_eq_true rfl) (Nat.le_of_ble_eq_true rfl) ?_
  refine W.eq (g2 := F0 m 4 ls []) rfl ?_
  refine lv_aload_n C.1 C.2.1 dX3_init_4 rfl (lv_at hl 0 rfl) ?_
  refine lv_iload_n C.1 C.2.1 dX3_init_5 rfl (lv_at hl 1 rfl) ?_
  refine mputF (fs' := [.int x1, .null, .int 0, .int 0, .null, .int 0]) C hE hH hS fp_453 h0 hin rfl rfl rfl (Nat.le_of_ble_eq_true rfl) dX3_init_6 (fun H locs hH hS => ?_)
  obtain ⟨M1, hM1⟩ : ∃ z, z = mu M a (eO 4 [.int x1, .null, .int 0, .int 0, .null, .int 0]) := ⟨_, rfl⟩
  have hH : Hw g M1 H := by rw [hM1]; exact hH
  have f2 : M1 a = some (eO 4 [.int x1, .null, .int 0, .int 0, .null, .int 0]) := by rw [hM1]; exact mu_s
  refine lv_aload_n C.1 C.2.1 dX3_init_9 rfl (lv_at hl 0 rfl) ?_
  refine lv_aload_n C.1 C.2.1 dX3_init_10 rfl (lv_at hl 2 rfl) ?_
  refine mputF (fs' := [.int x1, .ref x2, .int 0, .int 0, .null, .int 0]) C hE hH hS fp_455 f2 hin rfl rfl rfl (Nat.le_of_ble_eq_true rfl) dX3_init_11 (fun H locs hH hS => ?_)
  obtain ⟨M3, hM3⟩ : ∃ z, z = mu M1 a (eO 4 [.int x1, .ref x2, .int 0, .int 0, .null, .int 0]) := ⟨_, rfl⟩
  have hH : Hw g M3 H := by rw [hM3]; exact hH
  have f4 : M3 a = some (eO 4 [.int x1, .ref x2, .int 0, .int 0, .null, .int 0]) := by rw [hM3]; exact mu_s
  refine lv_aload_n C.1 C.2.1 dX3_init_14 rfl (lv_at hl 0 rfl) ?_
  refine lv_iload_n C.1 C.2.1 dX3_init_15 rfl (lv_at hl 3 rfl) ?_
  refine mputF (fs' := [.int x1, .ref x2, .int x3, .int 0, .null, .int 0]) C hE hH hS fp_458 f4 hin rfl rfl rfl (Nat.le_of_ble_eq_true rfl) dX3_init_16 (fun H locs hH hS => ?_)
  obtain ⟨M5, hM5⟩ : ∃ z, z = mu M3 a (eO 4 [.int x1, .ref x2, .int x3, .int 0, .null, .int 0]) := ⟨_, rfl⟩
  have hH : Hw g M5 H := by rw [hM5]; exact hH
  have f6 : M5 a = some (eO 4 [.int x1, .ref x2, .int x3, .int 0, .null, .int 0]) := by rw [hM5]; exact mu_s
  refine lv_aload_n C.1 C.2.1 dX3_init_19 rfl (lv_at hl 0 rfl) ?_
  refine lv_iload C.1 C.2.1 dX3_init_20 (lv_at hl 4 rfl) ?_
  refine mputF (fs' := [.int x1, .ref x2, .int x3, .int x4, .null, .int 0]) C hE hH hS fp_460 f6 hin rfl rfl rfl (Nat.le_of_ble_eq_true rfl) dX3_init_22 (fun H locs hH hS => ?_)
  obtain ⟨M7, hM7⟩ : ∃ z, z = mu M5 a (eO 4 [.int x1, .ref x2, .int x3, .int x4, .null, .int 0]) := ⟨_, rfl⟩
  have hH : Hw g M7 H := by rw [hM7]; exact hH
  have f8 : M7 a = some (eO 4 [.int x1, .ref x2, .int x3, .int x4, .null, .int 0]) := by rw [hM7]; exact mu_s
  exact wr_vret () C hr hlocks hH hS rfl (by (rw [hM7, hM5, hM3, hM1]) <;> simp only [mu_mu]) (by decide) (by decide) dX3_init_25
set_option maxHeartbeats 4000000 in
set_option maxRecDepth 100000 in
theorem c_P_init {l : Launch} {g : gG} {M : Mp} {a o b : Nat} {on : Int32} {oe : Nat} {ow oy : Int32} {oc : Bool} {bd : Int32} {be : Nat} {bs : Int32} {br : Bool} {bp : Nat} (h0 : M a = some (eO 5 [.int 0, .null, .int 0, .null, .int 0, .int 0, .int 0, .int 0, .int 0])) (h1 : M o = some (eO 4 [.int on, .ref oe, .int ow, .int oy, .null, .int (bI oc)])) (h2 : M b = some (eO 1 [.int bd, .ref be, .int bs, .int (bI br), .ref bp])) (x1 x2 x3 : Int32) : Met l yX4_init (WY yX4_init cX4_init 6 none) { frames := 1, cells := 0, slots := 0, locals := 12 } (Wc g M [.ref a, .ref o, .ref b, .int x1, .int x2, .int x3]) (wrQ (S := Unit) g (fun u_ => none) (fun u_ M_ => M_ = mu M a (eO 5 [.int on, .ref oe, .int ow, .ref b, .int (bI br), .int bs, .int x1, .int x2, .int x3]))) 0 0 (gA g) := by
  refine ofM (by decide +kernel) (Nat.le_of_ble_eq_true rfl) (fun p e s m args below meth c ls C hr hlocks hin hE hH hl ea => ?_)
  have hin : meth.name = "<init>" := hin
  have hl : lv_has ls 6 [(0, .ref a), (1, .ref o), (2, .ref b), (3, .int x1), (4, .int x2), (5, .int x3)] := hl
  have hS : va_S (gA g) s.heap s.heap [] := va_S.rf
  refine lv_aload_n C.1 C.2.1 dX4_init_0 rfl (lv_at hl 0 rfl) ?_
  refine W.objInit C.1 C.2.1 C.2.2.2.1 (C.2.2.2.2 _ wm_543) (C.2.2.2.2 _ wm_53) (C.2.2.2.2 _ wm_54) rfl (by rw [C.2.2.1]; exact hl.1) rfl dX4_init_1 (Nat.le_of_ble_eq_true rfl) (Nat.le_of_ble_eq_true rfl) ?_
  refine W.eq (g2 := F0 m 4 ls []) rfl ?_
  refine lv_aload_n C.1 C.2.1 dX4_init_4 rfl (lv_at hl 0 rfl) ?_
  refine lv_aload_n C.1 C.2.1 dX4_init_5 rfl (lv_at hl 1 rfl) ?_
  refine mget C hE hH fl_454 h1 rfl dX4_init_6 ?_
  refine mputF (fs' := [.int on, .null, .int 0, .null, .int 0, .int 0, .int 0, .int 0, .int 0]) C hE hH hS fp_544 h0 hin rfl rfl rfl (Nat.le_of_ble_eq_true rfl) dX4_init_9 (fun H locs hH hS => ?_)
  obtain ⟨M1, hM1⟩ : ∃ z, z = mu M a (eO 5 [.int on, .null, .int 0, .null, .int 0, .int 0, .int 0, .int 0, .int 0]) := ⟨_, rfl⟩
  have hH : Hw g M1 H := by rw [hM1]; exact hH
  have f2 : M1 a = some (eO 5 [.int on, .null, .int 0, .null, .int 0, .int 0, .int 0, .int 0, .int 0]) := by rw [hM1]; exact mu_s
  have f3 : M1 o = some (eO 4 [.int on, .ref oe, .int ow, .int oy, .null, .int (bI oc)]) := by rw [hM1]; exact (mu_n (m_ne h1 h0 (by first | (intro z; cases z; done) | exact ne_IQ | exact ne_IQ.symm | exact ne_LI | exact ne_LI.symm | (intro z; cases z; omega) | (intro z; cases z; contradiction) | exact (fun z => by cases z)))).trans h1
  have f4 : M1 b = some (eO 1 [.int bd, .ref be, .int bs, .int (bI br), .ref bp]) := by rw [hM1]; exact (mu_n (m_ne h2 h0 (by first | (intro z; cases z; done) | exact ne_IQ | exact ne_IQ.symm | exact ne_LI | exact ne_LI.symm | (intro z; cases z; omega) | (intro z; cases z; contradiction) | exact (fun z => by cases z)))).trans h2
  refine lv_aload_n C.1 C.2.1 dX4_init_12 rfl (lv_at hl 0 rfl) ?_
  refine lv_aload_n C.1 C.2.1 dX4_init_13 rfl (lv_at hl 1 rfl) ?_
  refine mget C hE hH fl_456 f3 rfl dX4_init_14 ?_
  refine mputF (fs' := [.int on, .ref oe, .int 0, .null, .int 0, .int 0, .int 0, .int 0, .int 0]) C hE hH hS fp_546 f2 hin rfl rfl rfl (Nat.le_of_ble_eq_true rfl) dX4_init_17 (fun H locs hH hS => ?_)
  obtain ⟨M5, hM5⟩ : ∃ z, z = mu M1 a (eO 5 [.int on, .ref oe, .int 0, .null, .int 0, .int 0, .int 0, .int 0, .int 0]) := ⟨_, rfl⟩
  have hH : Hw g M5 H := by rw [hM5]; exact hH
  have f6 : M5 a = some (eO 5 [.int on, .ref oe, .int 0, .null, .int 0, .int 0, .int 0, .int 0, .int 0]) := by rw [hM5]; exact mu_s
  have f7 : M5 o = some (eO 4 [.int on, .ref oe, .int ow, .int oy, .null, .int (bI oc)]) := by rw [hM5]; exact (mu_n (m_ne f3 f2 (by first | (intro z; cases z; done) | exact ne_IQ | exact ne_IQ.symm | exact ne_LI | exact ne_LI.symm | (intro z; cases z; omega) | (intro z; cases z; contradiction) | exact (fun z => by cases z)))).trans f3
  have f8 : M5 b = some (eO 1 [.int bd, .ref be, .int bs, .int (bI br), .ref bp]) := by rw [hM5]; exact (mu_n (m_ne f4 f2 (by first | (intro z; cases z; done) | exact ne_IQ | exact ne_IQ.symm | exact ne_LI | exact ne_LI.symm | (intro z; cases z; omega) | (intro z; cases z; contradiction) | exact (fun z => by cases z)))).trans f4
  refine lv_aload_n C.1 C.2.1 dX4_init_20 rfl (lv_at hl 0 rfl) ?_
  refine lv_aload_n C.1 C.2.1 dX4_init_21 rfl (lv_at hl 1 rfl) ?_
  refine mget C hE hH fl_459 f7 rfl dX4_init_22 ?_
  refine mputF (fs' := [.int on, .ref oe, .int ow, .null, .int 0, .int 0, .int 0, .int 0, .int 0]) C hE hH hS fp_547 f6 hin rfl rfl rfl (Nat.le_of_ble_eq_true rfl) dX4_init_25 (fun H locs hH hS => ?_)
  obtain ⟨M9, hM9⟩ : ∃ z, z = mu M5 a (eO 5 [.int on, .ref oe, .int ow, .null, .int 0, .int 0, .int 0, .int 0, .int 0]) := ⟨_, rfl⟩
  have hH : Hw g M9 H := by rw [hM9]; exact hH
  have f10 : M9 a = some (eO 5 [.int on, .ref oe, .int ow, .null, .int 0, .int 0, .int 0, .int 0, .int 0]) := by rw [hM9]; exact mu_s
  have f11 : M9 o = some (eO 4 [.int on, .ref oe, .int ow, .int oy, .null, .int (bI oc)]) := by rw [hM9]; exact (mu_n (m_ne f7 f6 (by first | (intro z; cases z; done) | exact ne_IQ | exact ne_IQ.symm | exact ne_LI | exact ne_LI.symm | (intro z; cases z; omega) | (intro z; cases z; contradiction) | exact (fun z => by cases z)))).trans f7
  have f12 : M9 b = some (eO 1 [.int bd, .ref be, .int bs, .int (bI br), .ref bp]) := by rw [hM9]; exact (mu_n (m_ne f8 f6 (by first | (intro z; cases z; done) | exact ne_IQ | exact ne_IQ.symm | exact ne_LI | exact ne_LI.symm | (intro z; cases z; omega) | (intro z; cases z; contradiction) | exact (fun z => by cases z)))).trans f8
  refine lv_aload_n C.1 C.2.1 dX4_init_28 rfl (lv_at hl 0 rfl) ?_
  refine lv_aload_n C.1 C.2.1 dX4_init_29 rfl (lv_at hl 2 rfl) ?_
  refine mputF (fs' := [.int on, .ref oe, .int ow, .ref b, .int 0, .int 0, .int 0, .int 0, .int 0]) C hE hH hS fp_549 f10 hin rfl rfl rfl (Nat.le_of_ble_eq_true rfl) dX4_init_30 (fun H locs hH hS => ?_)
  obtain ⟨M13, hM13⟩ : ∃ z, z = mu M9 a (eO 5 [.int on, .ref oe, .int ow, .ref b, .int 0, .int 0, .int 0, .int 0, .int 0]) := ⟨_, rfl⟩
  have hH : Hw g M13 H := by rw [hM13]; exact hH
  have f14 : M13 a = some (eO 5 [.int on, .ref oe, .int ow, .ref b, .int 0, .int 0, .int 0, .int 0, .int 0]) := by rw [hM13]; exact mu_s
  have f15 : M13 o = some (eO 4 [.int on, .ref oe, .int ow, .int oy, .null, .int (bI oc)]) := by rw [hM13]; exact (mu_n (m_ne f11 f10 (by first | (intro z; cases z; done) | exact ne_IQ | exact ne_IQ.symm | exact ne_LI | exact ne_LI.symm | (intro z; cases z; omega) | (intro z; cases z; contradiction) | exact (fun z => by cases z)))).trans f11
  have f16 : M13 b = some (eO 1 [.int bd, .ref be, .int bs, .int (bI br), .ref bp]) := by rw [hM13]; exact (mu_n (m_ne f12 f10 (by first | (intro z; cases z; done) | exact ne_IQ | exact ne_IQ.symm | exact ne_LI | exact ne_LI.symm | (intro z; cases z; omega) | (intro z; cases z; contradiction) | exact (fun z => by cases z)))).trans f12
  refine lv_aload_n C.1 C.2.1 dX4_init_33 rfl (lv_at hl 0 rfl) ?_
  refine lv_aload_n C.1 C.2.1 dX4_init_34 rfl (lv_at hl 2 rfl) ?_
  refine mget C hE hH fl_404 f16 rfl dX4_init_35 ?_
  refine mputF (fs' := [.int on, .ref oe, .int ow, .ref b, .int (bI br), .int 0, .int 0, .int 0, .int 0]) C hE hH hS fp_551 f14 hin (bI_n _) (bI_fit _) rfl (Nat.le_of_ble_eq_true rfl) dX4_init_38 (fun H locs hH hS => ?_)
  obtain ⟨M17, hM17⟩ : ∃ z, z = mu M13 a (eO 5 [.int on, .ref oe, .int ow, .ref b, .int (bI br), .int 0, .int 0, .int 0, .int 0]) := ⟨_, rfl⟩
  have hH : Hw g M17 H := by rw [hM17]; exact hH
  have f18 : M17 a = some (eO 5 [.int on, .ref oe, .int ow, .ref b, .int (bI br), .int 0, .int 0, .int 0, .int 0]) := by rw [hM17]; exact mu_s
  have f19 : M17 o = some (eO 4 [.int on, .ref oe, .int ow, .int oy, .null, .int (bI oc)]) := by rw [hM17]; exact (mu_n (m_ne f15 f14 (by first | (intro z; cases z; done) | exact ne_IQ | exact ne_IQ.symm | exact ne_LI | exact ne_LI.symm | (intro z; cases z; omega) | (intro z; cases z; contradiction) | exact (fun z => by cases z)))).trans f15
  have f20 : M17 b = some (eO 1 [.int bd, .ref be, .int bs, .int (bI br), .ref bp]) := by rw [hM17]; exact (mu_n (m_ne f16 f14 (by first | (intro z; cases z; done) | exact ne_IQ | exact ne_IQ.symm | exact ne_LI | exact ne_LI.symm | (intro z; cases z; omega) | (intro z; cases z; contradiction) | exact (fun z => by cases z)))).trans f16
  refine lv_aload_n C.1 C.2.1 dX4_init_41 rfl (lv_at hl 0 rfl) ?_
  refine lv_aload_n C.1 C.2.1 dX4_init_42 rfl (lv_at hl 2 rfl) ?_
  refine mget C hE hH fl_402 f20 rfl dX4_init_43 ?_
  refine mputF (fs' := [.int on, .ref oe, .int ow, .ref b, .int (bI br), .int bs, .int 0, .int 0, .int 0]) C hE hH hS fp_553 f18 hin rfl rfl rfl (Nat.le_of_ble_eq_true rfl) dX4_init_46 (fun H locs hH hS => ?_)
  obtain ⟨M21, hM21⟩ : ∃ z, z = mu M17 a (eO 5 [.int on, .ref oe, .int ow, .ref b, .int (bI br), .int bs, .int 0, .int 0, .int 0]) := ⟨_, rfl⟩
  have hH : Hw g M21 H := by rw [hM21]; exact hH
  have f22 : M21 a = some (eO 5 [.int on, .ref oe, .int ow, .ref b, .int (bI br), .int bs, .int 0, .int 0, .int 0]) := by rw [hM21]; exact mu_s
  have f23 : M21 o = some (eO 4 [.int on, .ref oe, .int ow, .int oy, .null, .int (bI oc)]) := by rw [hM21]; exact (mu_n (m_ne f19 f18 (by first | (intro z; cases z; done) | exact ne_IQ | exact ne_IQ.symm | exact ne_LI | exact ne_LI.symm | (intro z; cases z; omega) | (intro z; cases z; contradiction) | exact (fun z => by cases z)))).trans f19
  have f24 : M21 b = some (eO 1 [.int bd, .ref be, .int bs, .int (bI br), .ref bp]) := by rw [hM21]; exact (mu_n (m_ne f20 f18 (by first | (intro z; cases z; done) | exact ne_IQ | exact ne_IQ.symm | exact ne_LI | exact ne_LI.symm | (intro z; cases z; omega) | (intro z; cases z; contradiction) | exact (fun z => by cases z)))).trans f20
  refine lv_aload_n C.1 C.2.1 dX4_init_49 rfl (lv_at hl 0 rfl) ?_
  refine lv_iload_n C.1 C.2.1 dX4_init_50 rfl (lv_at hl 3 rfl) ?_
  refine mputF (fs' := [.int on, .ref oe, .int ow, .ref b, .int (bI br), .int bs, .int x1, .int 0, .int 0]) C hE hH hS fp_555 f22 hin rfl rfl rfl (Nat.le_of_ble_eq_true rfl) dX4_init_51 (fun H locs hH hS => ?_)
  obtain ⟨M25, hM25⟩ : ∃ z, z = mu M21 a (eO 5 [.int on, .ref oe, .int ow, .ref b, .int (bI br), .int bs, .int x1, .int 0, .int 0]) := ⟨_, rfl⟩
  have hH : Hw g M25 H := by rw [hM25]; exact hH
  have f26 : M25 a = some (eO 5 [.int on, .ref oe, .int ow, .ref b, .int (bI br), .int bs, .int x1, .int 0, .int 0]) := by rw [hM25]; exact mu_s
  have f27 : M25 o = some (eO 4 [.int on, .ref oe, .int ow, .int oy, .null, .int (bI oc)]) := by rw [hM25]; exact (mu_n (m_ne f23 f22 (by first | (intro z; cases z; done) | exact ne_IQ | exact ne_IQ.symm | exact ne_LI | exact ne_LI.symm | (intro z; cases z; omega) | (intro z; cases z; contradiction) | exact (fun z => by cases z)))).trans f23
  have f28 : M25 b = some (eO 1 [.int bd, .ref be, .int bs, .int (bI br), .ref bp]) := by rw [hM25]; exact (mu_n (m_ne f24 f22 (by first | (intro z; cases z; done) | exact ne_IQ | exact ne_IQ.symm | exact ne_LI | exact ne_LI.symm | (intro z; cases z; omega) | (intro z; cases z; contradiction) | exact (fun z => by cases z)))).trans f24
  refine lv_aload_n C.1 C.2.1 dX4_init_54 rfl (lv_at hl 0 rfl) ?_
  refine lv_iload C.1 C.2.1 dX4_init_55 (lv_at hl 4 rfl) ?_
  refine mputF (fs' := [.int on, .ref oe, .int ow, .ref b, .int (bI br), .int bs, .int x1, .int x2, .int 0]) C hE hH hS fp_556 f26 hin rfl rfl rfl (Nat.le_of_ble_eq_true rfl) dX4_init_57 (fun H locs hH hS => ?_)
  obtain ⟨M29, hM29⟩ : ∃ z, z = mu M25 a (eO 5 [.int on, .ref oe, .int ow, .ref b, .int (bI br), .int bs, .int x1, .int x2, .int 0]) := ⟨_, rfl⟩
  have hH : Hw g M29 H := by rw [hM29]; exact hH
  have f30 : M29 a = some (eO 5 [.int on, .ref oe, .int ow, .ref b, .int (bI br), .int bs, .int x1, .int x2, .int 0]) := by rw [hM29]; exact mu_s
  have f31 : M29 o = some (eO 4 [.int on, .ref oe, .int ow, .int oy, .null, .int (bI oc)]) := by rw [hM29]; exact (mu_n (m_ne f27 f26 (by first | (intro z; cases z; done) | exact ne_IQ | exact ne_IQ.symm | exact ne_LI | exact ne_LI.symm | (intro z; cases z; omega) | (intro z; cases z; contradiction) | exact (fun z => by cases z)))).trans f27
  have f32 : M29 b = some (eO 1 [.int bd, .ref be, .int bs, .int (bI br), .ref bp]) := by rw [hM29]; exact (mu_n (m_ne f28 f26 (by first | (intro z; cases z; done) | exact ne_IQ | exact ne_IQ.symm | exact ne_LI | exact ne_LI.symm | (intro z; cases z; omega) | (intro z; cases z; contradiction) | exact (fun z => by cases z)))).trans f28
  refine lv_aload_n C.1 C.2.1 dX4_init_60 rfl (lv_at hl 0 rfl) ?_
  refine lv_iload C.1 C.2.1 dX4_init_61 (lv_at hl 5 rfl) ?_
  refine mputF (fs' := [.int on, .ref oe, .int ow, .ref b, .int (bI br), .int bs, .int x1, .int x2, .int x3]) C hE hH hS fp_557 f30 hin rfl rfl rfl (Nat.le_of_ble_eq_true rfl) dX4_init_63 (fun H locs hH hS => ?_)
  obtain ⟨M33, hM33⟩ : ∃ z, z = mu M29 a (eO 5 [.int on, .ref oe, .int ow, .ref b, .int (bI br), .int bs, .int x1, .int x2, .int x3]) := ⟨_, rfl⟩
  have hH : Hw g M33 H := by rw [hM33]; exact hH
  have f34 : M33 a = some (eO 5 [.int on, .ref oe, .int ow, .ref b, .int (bI br), .int bs, .int x1, .int x2, .int x3]) := by rw [hM33]; exact mu_s
  have f35 : M33 o = some (eO 4 [.int on, .ref oe, .int ow, .int oy, .null, .int (bI oc)]) := by rw [hM33]; exact (mu_n (m_ne f31 f30 (by first | (intro z; cases z; done) | exact ne_IQ | exact ne_IQ.symm | exact ne_LI | exact ne_LI.symm | (intro z; cases z; omega) | (intro z; cases z; contradiction) | exact (fun z => by cases z)))).trans f31
  have f36 : M33 b = some (eO 1 [.int bd, .ref be, .int bs, .int (bI br), .ref bp]) := by rw [hM33]; exact (mu_n (m_ne f32 f30 (by first | (intro z; cases z; done) | exact ne_IQ | exact ne_IQ.symm | exact ne_LI | exact ne_LI.symm | (intro z; cases z; omega) | (intro z; cases z; contradiction) | exact (fun z => by cases z)))).trans f32
  exact wr_vret () C hr hlocks hH hS rfl (by (rw [hM33, hM29, hM25, hM21, hM17, hM13, hM9, hM5, hM1]) <;> simp only [mu_mu]) (by decide) (by decide) dX4_init_66
set_option maxHeartbeats 4000000 in
set_option maxRecDepth 100000 in
theorem c_P_colourAt {l : Launch} {g : gG} {M : Mp} {a : Nat} {pn : Int32} {pe : Nat} {pw : Int32} {pb : Nat} {pr : Bool} {ps wt y1 y2 : Int32} {n f h t : Int32} (h0 : M a = some (eO 5 [.int pn, .ref pe, .int pw, .ref pb, .int (bI pr), .int ps, .int wt, .int y1, .int y2])) (h1 : M pe = some (eO 3 [.int n, .int f, .int h, .int t])) (x k : Int32) : Met l yX4_colourAt (WY yX4_colourAt cX4_colourAt 3 (some .int)) { frames := 1, cells := 0, slots := 0, locals := 23 } (Wc g M [.ref a, .int x, .int k]) (rdQ (some (.int (if x = 0 then zf f k wt y1 else zs h k y2)))) 0 0 fr0 := by
  refine ofM (by decide +kernel) (Nat.le_of_ble_eq_true rfl) (fun p e s m args below meth c ls C hr hlocks hin hE hH hl ea => ?_)
  have hl : lv_has ls 3 [(0, .ref a), (1, .int x), (2, .int k)] := hl
  have hS : va_S (gA g) s.heap s.heap [] := va_S.rf
  refine lv_iload_n C.1 C.2.1 dX4_colourAt_0 rfl (lv_at hl 1 rfl) ?_
  refine lv_if_ne (tgt := 23) C.1 C.2.1 dX4_colourAt_1 (by decide) (fun c1 => ?_) (fun c1 => ?_)
  · refine lv_aload_n C.1 C.2.1 dX4_colourAt_23 rfl (lv_at hl 0 rfl) ?_
    refine mget C hE hH fl_546 h0 rfl dX4_colourAt_24 ?_
    refine lv_iload_n C.1 C.2.1 dX4_colourAt_27 rfl (lv_at hl 2 rfl) ?_
    refine lv_aload_n C.1 C.2.1 dX4_colourAt_28 rfl (lv_at hl 0 rfl) ?_
    refine mget C hE hH fl_557 h0 rfl dX4_colourAt_29 ?_
    refine rd_go1 (runV C hE hH hS (c_E_dyedSecond h1 k y2) mv_X2_dyedSecond wm_639 h1 rfl rfl hl.1 dX4_colourAt_32 rfl rfl ⟨rfl, rfl⟩ ⟨Nat.le_of_ble_eq_true rfl, Nat.le_of_ble_eq_true rfl⟩ (Nat.le_of_ble_eq_true rfl) ⟨Nat.le_of_ble_eq_true rfl, Nat.le_of_ble_eq_true rfl⟩) ?_
    exact rd_iret C hr hlocks (by split <;> first | rfl | contradiction) dX4_colourAt_35
  · refine lv_aload_n C.1 C.2.1 dX4_colourAt_4 rfl (lv_at hl 0 rfl) ?_
    refine mget C hE hH fl_546 h0 rfl dX4_colourAt_5 ?_
    refine lv_iload_n C.1 C.2.1 dX4_colourAt_8 rfl (lv_at hl 2 rfl) ?_
    refine lv_aload_n C.1 C.2.1 dX4_colourAt_9 rfl (lv_at hl 0 rfl) ?_
    refine mget C hE hH fl_555 h0 rfl dX4_colourAt_10 ?_
    refine lv_aload_n C.1 C.2.1 dX4_colourAt_13 rfl (lv_at hl 0 rfl) ?_
    refine mget C hE hH fl_556 h0 rfl dX4_colourAt_14 ?_
    refine rd_go1 (runV C hE hH hS (c_E_dyedFirst h1 k wt y1) mv_X2_dyedFirst wm_638 h1 rfl rfl hl.1 dX4_colourAt_17 rfl rfl ⟨rfl, rfl⟩ ⟨Nat.le_of_ble_eq_true rfl, Nat.le_of_ble_eq_true rfl⟩ (Nat.le_of_ble_eq_true rfl) ⟨Nat.le_of_ble_eq_true rfl, Nat.le_of_ble_eq_true rfl⟩) ?_
    refine lv_goto (tgt := 35) C.1 C.2.1 dX4_colourAt_20 (by decide) ?_
    exact rd_iret C hr hlocks (by split <;> first | rfl | contradiction) dX4_colourAt_35
set_option maxHeartbeats 4000000 in
set_option maxRecDepth 100000 in
theorem c_P_distance {l : Launch} {g : gG} {M : Mp} {a : Nat} {pn : Int32} {pe : Nat} {pw : Int32} {pb : Nat} {pr : Bool} {ps wt y1 y2 : Int32} {n f h t : Int32} (h0 : M a = some (eO 5 [.int pn, .ref pe, .int pw, .ref pb, .int (bI pr), .int ps, .int wt, .int y1, .int y2])) (h1 : M pe = some (eO 3 [.int n, .int f, .int h, .int t])) : Met l yX4_distance (WY yX4_distance cX4_distance 1 (some .int)) { frames := 3, cells := 0, slots := 0, locals := 60 } (Wc g M [.ref a]) (rdQ (some (.int (zod f h ps wt y1 y2)))) 0 0 fr0 := by
  refine ofM (by decide +kernel) (Nat.le_of_ble_eq_true rfl) (fun p e s m args below meth c ls C hr hlocks hin hE hH hl ea => ?_)
  have hl : lv_has ls 1 [(0, .ref a)] := hl
  have hS : va_S (gA g) s.heap s.heap [] := va_S.rf
  refine lv_aload_n C.1 C.2.1 dX4_distance_0 rfl (lv_at hl 0 rfl) ?_
  refine mget C hE hH fl_546 h0 rfl dX4_distance_1 ?_
  refine lv_aload_n C.1 C.2.1 dX4_distance_4 rfl (lv_at hl 0 rfl) ?_
  refine mget C hE hH fl_553 h0 rfl dX4_distance_5 ?_
  refine lv_aload_n C.1 C.2.1 dX4_distance_8 rfl (lv_at hl 0 rfl) ?_
  refine mget C hE hH fl_555 h0 rfl dX4_distance_9 ?_
  refine lv_aload_n C.1 C.2.1 dX4_distance_12 rfl (lv_at hl 0 rfl) ?_
  refine mget C hE hH fl_556 h0 rfl dX4_distance_13 ?_
  refine lv_aload_n C.1 C.2.1 dX4_distance_16 rfl (lv_at hl 0 rfl) ?_
  refine mget C hE hH fl_557 h0 rfl dX4_distance_17 ?_
  refine rd_go1 (runV C hE hH hS (c_E_distanceOfDyed h1 ps wt y1 y2) mv_X2_distanceOfDyed wm_598 h1 rfl rfl hl.1 dX4_distance_20 rfl rfl ⟨rfl, rfl⟩ ⟨Nat.le_of_ble_eq_true rfl, Nat.le_of_ble_eq_true rfl⟩ (Nat.le_of_ble_eq_true rfl) ⟨Nat.le_of_ble_eq_true rfl, Nat.le_of_ble_eq_true rfl⟩) ?_
  exact rd_iret C hr hlocks (rfl) dX4_distance_23
set_option maxHeartbeats 4000000 in
set_option maxRecDepth 100000 in
theorem c_P_isOff {l : Launch} {g : gG} {M : Mp} {a : Nat} {pn : Int32} {pe : Nat} {pw : Int32} {pb : Nat} {pr : Bool} {ps wt y1 y2 : Int32} {n f h t : Int32} (h0 : M a = some (eO 5 [.int pn, .ref pe, .int pw, .ref pb, .int (bI pr), .int ps, .int wt, .int y1, .int y2])) (h1 : M pe = some (eO 3 [.int n, .int f, .int h, .int t])) : Met l yX4_isOff (WY yX4_isOff cX4_isOff 1 (some .boolean)) { frames := 4, cells := 0, slots := 0, locals := 80 } (Wc g M [.ref a]) (rdQ (some (.int (bI (decide (¬ zod f h ps wt y1 y2 ≤ t)))))) 0 0 fr0 := by
  refine ofM (by decide +kernel) (Nat.le_of_ble_eq_true rfl) (fun p e s m args below meth c ls C hr hlocks hin hE hH hl ea => ?_)
  have hl : lv_has ls 1 [(0, .ref a)] := hl
  have hS : va_S (gA g) s.heap s.heap [] := va_S.rf
  refine lv_aload_n C.1 C.2.1 dX4_isOff_0 rfl (lv_at hl 0 rfl) ?_
  refine rd_go1 (runV C hE hH hS (c_P_distance h0 h1) mv_X4_distance wm_614 h0 rfl rfl hl.1 dX4_isOff_1 rfl rfl ⟨rfl, rfl⟩ ⟨Nat.le_of_ble_eq_true rfl, Nat.le_of_ble_eq_true rfl⟩ (Nat.le_of_ble_eq_true rfl) ⟨Nat.le_of_ble_eq_true rfl, Nat.le_of_ble_eq_true rfl⟩) ?_
  refine lv_aload_n C.1 C.2.1 dX4_isOff_4 rfl (lv_at hl 0 rfl) ?_
  refine mget C hE hH fl_546 h0 rfl dX4_isOff_5 ?_
  refine mget C hE hH fl_246 h1 rfl dX4_isOff_8 ?_
  refine lv_icmp_le (tgt := 18) C.1 C.2.1 dX4_isOff_11 (by decide) (fun c11 => ?_) (fun c11 => ?_)
  · refine lv_iconst (v := 0) C.1 C.2.1 dX4_isOff_18 rfl ?_
    exact rd_zret C hr hlocks (rfl) (bI_f (not_not_intro c11)) dX4_isOff_19
  · refine lv_iconst (v := 1) C.1 C.2.1 dX4_isOff_14 rfl ?_
    refine lv_goto (tgt := 19) C.1 C.2.1 dX4_isOff_15 (by decide) ?_
    exact rd_zret C hr hlocks (rfl) (bI_t c11) dX4_isOff_19
set_option maxHeartbeats 4000000 in
set_option maxRecDepth 100000 in
theorem c_P_toBlame {l : Launch} {g : gG} {M : Mp} {a : Nat} {pn : Int32} {pe : Nat} {pw : Int32} {pb : Nat} {pr : Bool} {ps wt y1 y2 : Int32} {n f h t : Int32} (h0 : M a = some (eO 5 [.int pn, .ref pe, .int pw, .ref pb, .int (bI pr), .int ps, .int wt, .int y1, .int y2])) (h1 : M pe = some (eO 3 [.int n, .int f, .int h, .int t])) : Met l yX4_toBlame (WY yX4_toBlame cX4_toBlame 4 (some .int)) { frames := 3, cells := 0, slots := 0, locals := 60 } (Wc g M [.ref a]) (rdQ (some (.int (zblame (zod f h 100 wt y1 y2) (zod f h ps 0 y1 y2) (zod f h ps wt 0 0))))) 0 0 fr0 := by
  refine ofM (by decide +kernel) (Nat.le_of_ble_eq_true rfl) (fun p e s m args below meth c ls C hr hlocks hin hE hH hl ea => ?_)
  have hl : lv_has ls 4 [(0, .ref a)] := hl
  have hS : va_S (gA g) s.heap s.heap [] := va_S.rf
  refine lv_aload_n C.1 C.2.1 dX4_toBlame_0 rfl (lv_at hl 0 rfl) ?_
  refine mget C hE hH fl_546 h0 rfl dX4_toBlame_1 ?_
  refine lv_bipush (v := 100) C.1 C.2.1 dX4_toBlame_4 rfl ?_
  refine lv_aload_n C.1 C.2.1 dX4_toBlame_6 rfl (lv_at hl 0 rfl) ?_
  refine mget C hE hH fl_555 h0 rfl dX4_toBlame_7 ?_
  refine lv_aload_n C.1 C.2.1 dX4_toBlame_10 rfl (lv_at hl 0 rfl) ?_
  refine mget C hE hH fl_556 h0 rfl dX4_toBlame_11 ?_
  refine lv_aload_n C.1 C.2.1 dX4_toBlame_14 rfl (lv_at hl 0 rfl) ?_
  refine mget C hE hH fl_557 h0 rfl dX4_toBlame_15 ?_
  refine rd_go1 (runV C hE hH hS (c_E_distanceOfDyed h1 100 wt y1 y2) mv_X2_distanceOfDyed wm_598 h1 rfl rfl hl.1 dX4_toBlame_18 rfl rfl ⟨rfl, rfl⟩ ⟨Nat.le_of_ble_eq_true rfl, Nat.le_of_ble_eq_true rfl⟩ (Nat.le_of_ble_eq_true rfl) ⟨Nat.le_of_ble_eq_true rfl, Nat.le_of_ble_eq_true rfl⟩) ?_
  refine lv_topi (fun x1 ex1 => ?_)
  refine lv_istore_n (lv' := [(1, .int x1), (0, .ref a)]) C.1 C.2.1 dX4_toBlame_21 rfl hl (by decide) rfl (fun ls hl => ?_)
  refine lv_aload_n C.1 C.2.1 dX4_toBlame_22 rfl (lv_at hl 1 rfl) ?_
  refine mget C hE hH fl_546 h0 rfl dX4_toBlame_23 ?_
  refine lv_aload_n C.1 C.2.1 dX4_toBlame_26 rfl (lv_at hl 1 rfl) ?_
  refine mget C hE hH fl_553 h0 rfl dX4_toBlame_27 ?_
  refine lv_iconst (v := 0) C.1 C.2.1 dX4_toBlame_30 rfl ?_
  refine lv_aload_n C.1 C.2.1 dX4_toBlame_31 rfl (lv_at hl 1 rfl) ?_
  refine mget C hE hH fl_556 h0 rfl dX4_toBlame_32 ?_
  refine lv_aload_n C.1 C.2.1 dX4_toBlame_35 rfl (lv_at hl 1 rfl) ?_
  refine mget C hE hH fl_557 h0 rfl dX4_toBlame_36 ?_
  refine rd_go1 (runV C hE hH hS (c_E_distanceOfDyed h1 ps 0 y1 y2) mv_X2_distanceOfDyed wm_598 h1 rfl rfl hl.1 dX4_toBlame_39 rfl rfl ⟨rfl, rfl⟩ ⟨Nat.le_of_ble_eq_true rfl, Nat.le_of_ble_eq_true rfl⟩ (Nat.le_of_ble_eq_true rfl) ⟨Nat.le_of_ble_eq_true rfl, Nat.le_of_ble_eq_true rfl⟩) ?_
  refine lv_topi (fun x2 ex2 => ?_)
  refine lv_istore_n (lv' := [(2, .int x2), (1, .int x1), (0, .ref a)]) C.1 C.2.1 dX4_toBlame_42 rfl hl (by decide) rfl (fun ls hl => ?_)
  refine lv_aload_n C.1 C.2.1 dX4_toBlame_43 rfl (lv_at hl 2 rfl) ?_
  refine mget C hE hH fl_546 h0 rfl dX4_toBlame_44 ?_
  refine lv_aload_n C.1 C.2.1 dX4_toBlame_47 rfl (lv_at hl 2 rfl) ?_
  refine mget C hE hH fl_553 h0 rfl dX4_toBlame_48 ?_
  refine lv_aload_n C.1 C.2.1 dX4_toBlame_51 rfl (lv_at hl 2 rfl) ?_
  refine mget C hE hH fl_555 h0 rfl dX4_toBlame_52 ?_
  refine lv_iconst (v := 0) C.1 C.2.1 dX4_toBlame_55 rfl ?_
  refine lv_iconst (v := 0) C.1 C.2.1 dX4_toBlame_56 rfl ?_
  refine rd_go1 (runV C hE hH hS (c_E_distanceOfDyed h1 ps wt 0 0) mv_X2_distanceOfDyed wm_598 h1 rfl rfl hl.1 dX4_toBlame_57 rfl rfl ⟨rfl, rfl⟩ ⟨Nat.le_of_ble_eq_true rfl, Nat.le_of_ble_eq_true rfl⟩ (Nat.le_of_ble_eq_true rfl) ⟨Nat.le_of_ble_eq_true rfl, Nat.le_of_ble_eq_true rfl⟩) ?_
  refine lv_topi (fun x3 ex3 => ?_)
  refine lv_istore_n (lv' := [(3, .int x3), (2, .int x2), (1, .int x1), (0, .ref a)]) C.1 C.2.1 dX4_toBlame_60 rfl hl (by decide) rfl (fun ls hl => ?_)
  refine lv_iload_n C.1 C.2.1 dX4_toBlame_61 rfl (lv_at hl 2 rfl) ?_
  refine lv_iload_n C.1 C.2.1 dX4_toBlame_62 rfl (lv_at hl 1 rfl) ?_
  refine lv_icmp_gt (tgt := 73) C.1 C.2.1 dX4_toBlame_63 (by decide) (fun c63 => ?_) (fun c63 => ?_)
  · refine lv_iload_n C.1 C.2.1 dX4_toBlame_73 rfl (lv_at hl 1 rfl) ?_
    refine lv_iload_n C.1 C.2.1 dX4_toBlame_74 rfl (lv_at hl 0 rfl) ?_
    refine lv_icmp_gt (tgt := 82) C.1 C.2.1 dX4_toBlame_75 (by decide) (fun c75 => ?_) (fun c75 => ?_)
    · refine lv_iconst (v := 2) C.1 C.2.1 dX4_toBlame_82 rfl ?_
      exact rd_iret C hr hlocks (by subst_vars; simp only [Int32.lt_iff_toInt_lt, Int32.le_iff_toInt_le, zblame] at c63 c75 ⊢; (repeat' split) <;> first | rfl | omega) dX4_toBlame_83
    · refine lv_iconst (v := 1) C.1 C.2.1 dX4_toBlame_78 rfl ?_
      refine lv_goto (tgt := 83) C.1 C.2.1 dX4_toBlame_79 (by decide) ?_
      exact rd_iret C hr hlocks (by subst_vars; simp only [Int32.lt_iff_toInt_lt, Int32.le_iff_toInt_le, zblame] at c63 c75 ⊢; (repeat' split) <;> first | rfl | omega) dX4_toBlame_83
  · refine lv_iload_n C.1 C.2.1 dX4_toBlame_66 rfl (lv_at hl 2 rfl) ?_
    refine lv_iload_n C.1 C.2.1 dX4_toBlame_67 rfl (lv_at hl 0 rfl) ?_
    refine lv_icmp_gt (tgt := 73) C.1 C.2.1 dX4_toBlame_68 (by decide) (fun c68 => ?_) (fun c68 => ?_)
    · refine lv_iload_n C.1 C.2.1 dX4_toBlame_73 rfl (lv_at hl 1 rfl) ?_
      refine lv_iload_n C.1 C.2.1 dX4_toBlame_74 rfl (lv_at hl 0 rfl) ?_
      refine lv_icmp_gt (tgt := 82) C.1 C.2.1 dX4_toBlame_75 (by decide) (fun c75 => ?_) (fun c75 => ?_)
      · refine lv_iconst (v := 2) C.1 C.2.1 dX4_toBlame_82 rfl ?_
        exact rd_iret C hr hlocks (by subst_vars; simp only [Int32.lt_iff_toInt_lt, Int32.le_iff_toInt_le, zblame] at c63 c68 c75 ⊢; (repeat' split) <;> first | rfl | omega) dX4_toBlame_83
      · refine lv_iconst (v := 1) C.1 C.2.1 dX4_toBlame_78 rfl ?_
        refine lv_goto (tgt := 83) C.1 C.2.1 dX4_toBlame_79 (by decide) ?_
        exact rd_iret C hr hlocks (by subst_vars; simp only [Int32.lt_iff_toInt_lt, Int32.le_iff_toInt_le, zblame] at c63 c68 c75 ⊢; (repeat' split) <;> first | rfl | omega) dX4_toBlame_83
    · refine lv_iconst (v := 0) C.1 C.2.1 dX4_toBlame_71 rfl ?_
      exact rd_iret C hr hlocks (by subst_vars; simp only [Int32.lt_iff_toInt_lt, Int32.le_iff_toInt_le, zblame] at c63 c68 ⊢; (repeat' split) <;> first | rfl | omega) dX4_toBlame_72
set_option maxHeartbeats 4000000 in
set_option maxRecDepth 100000 in
theorem c_B_isFor {l : Launch} {g : gG} {M : Mp} {a o : Nat} {bd : Int32} {be : Nat} {bs : Int32} {br : Bool} {bp : Nat} {n f h t n2 f2 h2 t2 : Int32} (h0 : M a = some (eO 1 [.int bd, .ref be, .int bs, .int (bI br), .ref bp])) (h1 : M be = some (eO 3 [.int n, .int f, .int h, .int t])) (h2 : M o = some (eO 3 [.int n2, .int f2, .int h2, .int t2])) : Met l yX0_isFor (WY yX0_isFor cX0_isFor 2 (some .boolean)) { frames := 0, cells := 0, slots := 0, locals := 0 } (Wc g M [.ref a, .ref o]) (rdQ (some (.int (bI (decide (n = n2)))))) 0 0 fr0 := by
  refine ofM (by decide +kernel) (Nat.le_of_ble_eq_true rfl) (fun p e s m args below meth c ls C hr hlocks hin hE hH hl ea => ?_)
  have hl : lv_has ls 2 [(0, .ref a), (1, .ref o)] := hl
  have hS : va_S (gA g) s.heap s.heap [] := va_S.rf
  refine lv_aload_n C.1 C.2.1 dX0_isFor_0 rfl (lv_at hl 0 rfl) ?_
  refine mget C hE hH fl_399 h0 rfl dX0_isFor_1 ?_
  refine mget C hE hH fl_240 h1 rfl dX0_isFor_4 ?_
  refine lv_aload_n C.1 C.2.1 dX0_isFor_7 rfl (lv_at hl 1 rfl) ?_
  refine mget C hE hH fl_240 h2 rfl dX0_isFor_8 ?_
  refine lv_icmp_ne (tgt := 18) C.1 C.2.1 dX0_isFor_11 (by decide) (fun c11 => ?_) (fun c11 => ?_)
  · refine lv_iconst (v := 0) C.1 C.2.1 dX0_isFor_18 rfl ?_
    exact rd_zret C hr hlocks (rfl) (bI_f (by simpa using c11)) dX0_isFor_19
  · refine lv_iconst (v := 1) C.1 C.2.1 dX0_isFor_14 rfl ?_
    refine lv_goto (tgt := 19) C.1 C.2.1 dX0_isFor_15 (by decide) ?_
    exact rd_zret C hr hlocks (rfl) (bI_t (by simpa using c11)) dX0_isFor_19
set_option maxHeartbeats 4000000 in
set_option maxRecDepth 100000 in
theorem c_B_renew {l : Launch} {g : gG} {M : Mp} {a : Nat} {bd : Int32} {be : Nat} {bs : Int32} {br : Bool} {bp : Nat} (h0 : M a = some (eO 1 [.int bd, .ref be, .int bs, .int (bI br), .ref bp])) : Met l yX0_renew (WY yX0_renew cX0_renew 2 (some .int)) { frames := 0, cells := 0, slots := 0, locals := 0 } (Wc g M [.ref a]) (wrQ (S := Unit) g (fun u_ => (some (.int bs))) (fun u_ M_ => M_ = mu M a (eO 1 [.int bd, .ref be, .int 100, .int 1, .ref bp]))) 0 0 (gA g) := by
  refine ofM (by decide +kernel) (Nat.le_of_ble_eq_true rfl) (fun p e s m args below meth c ls C hr hlocks hin hE hH hl ea => ?_)
  have hl : lv_has ls 2 [(0, .ref a)] := hl
  have hS : va_S (gA g) s.heap s.heap [] := va_S.rf
  refine lv_aload_n C.1 C.2.1 dX0_renew_0 rfl (lv_at hl 0 rfl) ?_
  refine mget C hE hH fl_401 h0 rfl dX0_renew_1 ?_
  refine lv_istore_n (lv' := [(1, .int bs), (0, .ref a)]) C.1 C.2.1 dX0_renew_4 rfl hl (by decide) rfl (fun ls hl => ?_)
  refine lv_aload_n C.1 C.2.1 dX0_renew_5 rfl (lv_at hl 1 rfl) ?_
  refine lv_bipush (v := 100) C.1 C.2.1 dX0_renew_6 rfl ?_
  refine mput (fs' := [.int bd, .ref be, .int 100, .int (bI br), .ref bp]) C hE hH hS fl_401 h0 rfl rfl rfl (Nat.le_of_ble_eq_true rfl) dX0_renew_8 (fun H locs hH hS => ?_)
  obtain ⟨M1, hM1⟩ : ∃ z, z = mu M a (eO 1 [.int bd, .ref be, .int 100, .int (bI br), .ref bp]) := ⟨_, rfl⟩
  have hH : Hw g M1 H := by rw [hM1]; exact hH
  have f2 : M1 a = some (eO 1 [.int bd, .ref be, .int 100, .int (bI br), .ref bp]) := by rw [hM1]; exact mu_s
  refine lv_aload_n C.1 C.2.1 dX0_renew_11 rfl (lv_at hl 1 rfl) ?_
  refine lv_iconst (v := 1) C.1 C.2.1 dX0_renew_12 rfl ?_
  refine mput (fs' := [.int bd, .ref be, .int 100, .int 1, .ref bp]) C hE hH hS fl_405 f2 rfl rfl rfl (Nat.le_of_ble_eq_true rfl) dX0_renew_13 (fun H locs hH hS => ?_)
  obtain ⟨M3, hM3⟩ : ∃ z, z = mu M1 a (eO 1 [.int bd, .ref be, .int 100, .int 1, .ref bp]) := ⟨_, rfl⟩
  have hH : Hw g M3 H := by rw [hM3]; exact hH
  have f4 : M3 a = some (eO 1 [.int bd, .ref be, .int 100, .int 1, .ref bp]) := by rw [hM3]; exact mu_s
  refine lv_iload_n C.1 C.2.1 dX0_renew_16 rfl (lv_at hl 0 rfl) ?_
  exact wr_iret () C hr hlocks hH hS rfl (by (rw [hM3, hM1]) <;> simp only [mu_mu]) (by decide) (by decide) dX0_renew_17
set_option maxHeartbeats 4000000 in
set_option maxRecDepth 100000 in
theorem c_weakened {l : Launch} {g : gG} {M : Mp}  (k w : Int32) : Met l yX5_weakened (WY yX5_weakened cX5_weakened 2 (some .int)) { frames := 1, cells := 0, slots := 0, locals := 13 } (Wc g M [.int k, .int w]) (rdQ (some (.int (zw k w)))) 0 0 fr0 := by
  refine ofM (by decide +kernel) (Nat.le_of_ble_eq_true rfl) (fun p e s m args below meth c ls C hr hlocks hin hE hH hl ea => ?_)
  have hl : lv_has ls 2 [(0, .int k), (1, .int w)] := hl
  have hS : va_S (gA g) s.heap s.heap [] := va_S.rf
  refine lv_iconst (v := 0) C.1 C.2.1 dX5_weakened_0 rfl ?_
  refine lv_iload_n C.1 C.2.1 dX5_weakened_1 rfl (lv_at hl 0 rfl) ?_
  refine lv_iload_n C.1 C.2.1 dX5_weakened_2 rfl (lv_at hl 1 rfl) ?_
  refine lv_isub C.1 C.2.1 dX5_weakened_3 ?_
  refine va_mmax C.1 C.2.1 (C.2.2.1.trans hl.1.symm) C.2.2.2.1 (C.2.2.2.2 _ wm_585) (C.2.2.2.2 _ wm_277) (C.2.2.2.2 _ wm_37) (C.2.2.2.2 _ wm_278) (Nat.le_of_ble_eq_true rfl) (Nat.le_of_ble_eq_true rfl) (by decide) (by decide) dX5_weakened_4 ?_
  exact rd_iret C hr hlocks (rfl) dX5_weakened_7
set_option maxHeartbeats 4000000 in
set_option maxRecDepth 100000 in
theorem c_C_shrunk {l : Launch} {g : gG} {M : Mp} {a : Nat} {k : Int32} {d u : Nat} (h0 : M a = some (eO 2 [.int k, .ref d, .ref u])) (x : Int32) : Met l yX1_shrunk (WY yX1_shrunk cX1_shrunk 3 (some .int)) { frames := 0, cells := 0, slots := 0, locals := 0 } (Wc g M [.ref a, .int x]) (rdQ (some (.int (zsh x k)))) 0 0 fr0 := by
  refine ofM (by decide +kernel) (Nat.le_of_ble_eq_true rfl) (fun p e s m args below meth c ls C hr hlocks hin hE hH hl ea => ?_)
  have hl : lv_has ls 3 [(0, .ref a), (1, .int x)] := hl
  have hS : va_S (gA g) s.heap s.heap [] := va_S.rf
  refine lv_iload_n C.1 C.2.1 dX1_shrunk_0 rfl (lv_at hl 1 rfl) ?_
  refine lv_aload_n C.1 C.2.1 dX1_shrunk_1 rfl (lv_at hl 0 rfl) ?_
  refine mget C hE hH fl_91 h0 rfl dX1_shrunk_2 ?_
  refine lv_imul C.1 C.2.1 dX1_shrunk_5 ?_
  refine lv_bipush (v := 99) C.1 C.2.1 dX1_shrunk_6 rfl ?_
  refine lv_iadd C.1 C.2.1 dX1_shrunk_8 ?_
  refine lv_bipush (v := 100) C.1 C.2.1 dX1_shrunk_9 rfl ?_
  refine lv_idiv C.1 C.2.1 dX1_shrunk_11 (by decide) ?_
  refine lv_topi (fun x1 ex1 => ?_)
  refine lv_istore_n (lv' := [(2, .int x1), (0, .ref a), (1, .int x)]) C.1 C.2.1 dX1_shrunk_12 rfl hl (by decide) rfl (fun ls hl => ?_)
  refine lv_iload_n C.1 C.2.1 dX1_shrunk_13 rfl (lv_at hl 2 rfl) ?_
  refine lv_iload_n C.1 C.2.1 dX1_shrunk_14 rfl (lv_at hl 0 rfl) ?_
  refine lv_isub C.1 C.2.1 dX1_shrunk_15 ?_
  exact rd_iret C hr hlocks (by subst_vars; rfl) dX1_shrunk_16
set_option maxHeartbeats 4000000 in
set_option maxRecDepth 100000 in
theorem c_reqIndex {l : Launch} {g : gG} {M : Mp}  (hlx : l.stackTraces = false) (x n : Int32) : vx_Met l yX5_requireIndex (WY yX5_requireIndex cX5_requireIndex 2 none) { frames := 6, cells := 1, slots := 6, locals := 82 } (Wc g M [.int x, .int n]) (xrQ (¬ x < 0 ∧ x < n) none) (xQ (fun E_ => E_ = xIO ∧ ¬ (¬ x < 0 ∧ x < n))) 1 6 fr0 := by
  refine ofX (by decide +kernel) (Nat.le_of_ble_eq_true rfl) (fun p e s m args below meth c ls C hr hlocks hout hE hH hl ea => ?_)
  have hl : lv_has ls 2 [(0, .int x), (1, .int n)] := hl
  have hS : va_S (gA g) s.heap s.heap [] := va_S.rf
  refine lv_iload_n C.1 C.2.1 dX5_requireIndex_0 rfl (lv_at hl 0 rfl) ?_
  refine lv_if_lt (tgt := 9) C.1 C.2.1 dX5_requireIndex_1 (by decide) (fun c1 => ?_) (fun c1 => ?_)
  · exact x_throw C hlx hout hlocks hE tw_205_207_209 hl.1 (⟨rfl, fun z => z.1 c1⟩) dX5_requireIndex_9 dX5_requireIndex_12 dX5_requireIndex_13 dX5_requireIndex_15 dX5_requireIndex_18 (by decide) (Nat.le_of_ble_eq_true rfl) (by decide) (by decide) (by decide) (by decide)
  · refine lv_iload_n C.1 C.2.1 dX5_requireIndex_4 rfl (lv_at hl 0 rfl) ?_
    refine lv_iload_n C.1 C.2.1 dX5_requireIndex_5 rfl (lv_at hl 1 rfl) ?_
    refine lv_icmp_lt (tgt := 19) C.1 C.2.1 dX5_requireIndex_6 (by decide) (fun c6 => ?_) (fun c6 => ?_)
    · exact xr_vret C hr hlocks (⟨c1, c6⟩)  (by decide) (by decide) dX5_requireIndex_19
    · exact x_throw C hlx hout hlocks hE tw_205_207_209 hl.1 (⟨rfl, fun z => c6 z.2⟩) dX5_requireIndex_9 dX5_requireIndex_12 dX5_requireIndex_13 dX5_requireIndex_15 dX5_requireIndex_18 (by decide) (Nat.le_of_ble_eq_true rfl) (by decide) (by decide) (by decide) (by decide)
set_option maxHeartbeats 4000000 in
set_option maxRecDepth 100000 in
theorem c_reqRange {l : Launch} {g : gG} {M : Mp}  (hlx : l.stackTraces = false) (x lo hi : Int32) : vx_Met l yX5_requireRange (WY yX5_requireRange cX5_requireRange 3 none) { frames := 6, cells := 1, slots := 6, locals := 82 } (Wc g M [.int x, .int lo, .int hi]) (xrQ (¬ x < lo ∧ x ≤ hi) none) (xQ (fun E_ => E_ = xIA ∧ ¬ (¬ x < lo ∧ x ≤ hi))) 1 6 fr0 := by
  refine ofX (by decide +kernel) (Nat.le_of_ble_eq_true rfl) (fun p e s m args below meth c ls C hr hlocks hout hE hH hl ea => ?_)
  have hl : lv_has ls 3 [(0, .int x), (1, .int lo), (2, .int hi)] := hl
  have hS : va_S (gA g) s.heap s.heap [] := va_S.rf
  refine lv_iload_n C.1 C.2.1 dX5_requireRange_0 rfl (lv_at hl 0 rfl) ?_
  refine lv_iload_n C.1 C.2.1 dX5_requireRange_1 rfl (lv_at hl 1 rfl) ?_
  refine lv_icmp_lt (tgt := 10) C.1 C.2.1 dX5_requireRange_2 (by decide) (fun c2 => ?_) (fun c2 => ?_)
  · exact x_throw C hlx hout hlocks hE tw_134_210_138 hl.1 (⟨rfl, fun z => z.1 c2⟩) dX5_requireRange_10 dX5_requireRange_13 dX5_requireRange_14 dX5_requireRange_16 dX5_requireRange_19 (by decide) (Nat.le_of_ble_eq_true rfl) (by decide) (by decide) (by decide) (by decide)
  · refine lv_iload_n C.1 C.2.1 dX5_requireRange_5 rfl (lv_at hl 0 rfl) ?_
    refine lv_iload_n C.1 C.2.1 dX5_requireRange_6 rfl (lv_at hl 2 rfl) ?_
    refine lv_icmp_le (tgt := 20) C.1 C.2.1 dX5_requireRange_7 (by decide) (fun c7 => ?_) (fun c7 => ?_)
    · exact xr_vret C hr hlocks (⟨c2, c7⟩)  (by decide) (by decide) dX5_requireRange_20
    · exact x_throw C hlx hout hlocks hE tw_134_210_138 hl.1 (⟨rfl, fun z => c7 z.2⟩) dX5_requireRange_10 dX5_requireRange_13 dX5_requireRange_14 dX5_requireRange_16 dX5_requireRange_19 (by decide) (Nat.le_of_ble_eq_true rfl) (by decide) (by decide) (by decide) (by decide)
set_option maxHeartbeats 4000000 in
set_option maxRecDepth 100000 in
theorem c_reqRoom {l : Launch} {g : gG} {M : Mp}  (hlx : l.stackTraces = false) (x n : Int32) : vx_Met l yX5_requireRoom (WY yX5_requireRoom cX5_requireRoom 2 none) { frames := 6, cells := 1, slots := 6, locals := 82 } (Wc g M [.int x, .int n]) (xrQ (x < n) none) (xQ (fun E_ => E_ = xIS ∧ ¬ x < n)) 1 6 fr0 := by
  refine ofX (by decide +kernel) (Nat.le_of_ble_eq_true rfl) (fun p e s m args below meth c ls C hr hlocks hout hE hH hl ea => ?_)
  have hl : lv_has ls 2 [(0, .int x), (1, .int n)] := hl
  have hS : va_S (gA g) s.heap s.heap [] := va_S.rf
  refine lv_iload_n C.1 C.2.1 dX5_requireRoom_0 rfl (lv_at hl 0 rfl) ?_
  refine lv_iload_n C.1 C.2.1 dX5_requireRoom_1 rfl (lv_at hl 1 rfl) ?_
  refine lv_icmp_lt (tgt := 15) C.1 C.2.1 dX5_requireRoom_2 (by decide) (fun c2 => ?_) (fun c2 => ?_)
  · exact xr_vret C hr hlocks (c2)  (by decide) (by decide) dX5_requireRoom_15
  · exact x_throw C hlx hout hlocks hE tw_156_212_160 hl.1 (⟨rfl, c2⟩) dX5_requireRoom_5 dX5_requireRoom_8 dX5_requireRoom_9 dX5_requireRoom_11 dX5_requireRoom_14 (by decide) (Nat.le_of_ble_eq_true rfl) (by decide) (by decide) (by decide) (by decide)
end
section
/-! rows for the JDK's list -/
section MJR
variable {p : Program} {l : Launch} {e : Env} {R : Room} {s : State} {m : MethodId} {args : Array Value} {below : List Frame} {meth : Method} {c : Code} {H : Heap} {locs : List Loc} {cells slots : Nat} {Q : State → Prop}
variable {cc : ByteArray} {nL : Nat} {own : String} {pc : Nat} {ls : Array Slot} {rest : List Value} {g : gG} {M : Mp} {a : Nat}
theorem medlen (C : CallFix p m c cc nL s args WA own) (hE : gE g s) (hS : va_S (gA g) s.heap H locs) (hdg : decode cc pc = .ok (.arraylength, 1)) (kk : W p l e R s m args below meth c H locs cells slots Q (F0 m (pc + 1) ls (.int 0 :: rest))) : W p l e R s m args below meth c H locs cells slots Q (F0 m pc ls (.ref (g.2.2.2 0) :: rest)) := by
  obtain ⟨cell, h1, h2, h3, h4, h5, h6, h7⟩ := hE.2.2.1
  exact W.alen (n := 0) C.1 C.2.1 (by rw [hS.2.1 _ (Array.getElem?_eq_some_iff.mp h1).1 h7]; exact h1) h2 (h5.trans rfl) rfl rfl hdg kk
theorem mgetC {n idx : Nat} {f : Nat → Option Nat} (C : CallFix p m c cc nL s args WA own) (hE : gE g s) (hH : Hw g M H) (h : M a = some (eQ g 2 n f)) (hsz : ls.size = nL) (h1 : Cond.methodLink own idx ⟨"java/lang/Object", "getClass", "()Ljava/lang/Class;"⟩ ∈ WA) (h3 : Cond.selects "[Ljava/lang/Object;" ⟨"java/lang/Object", "getClass", "()Ljava/lang/Class;"⟩ ⟨"java/lang/Object", "getClass", "()Ljava/lang/Class;"⟩ ∈ WA) (h4 : Cond.instanceMethod ⟨"java/lang/Object", "getClass", "()Ljava/lang/Class;"⟩ ∈ WA) (h5 : Cond.native ⟨"java/lang/Object", "getClass", "()Ljava/lang/Class;"⟩ ∈ WA) (hframes : 1 ≤ R.frames) (hlocals : (rest.map fun v => v.category).sum + 14 ≤ R.locals) (hdg : decode cc pc = .ok (.invokevirtual idx, 3)) (kk : W p l e R s m args below meth c H locs cells slots Q (F0 m (pc + 3) ls (.ref (g.2.2.2 1) :: rest))) : W p l e R s m args below meth c H locs cells slots Q (F0 m pc ls (.ref a :: rest)) := by
  obtain ⟨-, -, -, -, -, hf⟩ := (hE.1.2 2 _ rfl).2
  exact va_getC C.1 C.2.1 (C.2.2.1.trans hsz.symm) C.2.2.2.1 (C.2.2.2.2 _ h1) (hE.2.2.2.2.2.2.2.2.2.2.1.use) (C.2.2.2.2 _ h3) (C.2.2.2.2 _ h4) (C.2.2.2.2 _ h5) hE.2.2.2.2.2.1 ⟨_, mw_one hH.1 h 0 _ rfl, rfl, hf⟩ hframes hlocals hdg kk
theorem mcopyq {a0 n0 n1 ci idx : Nat} {r : vw_C} {f h : Nat → Option Nat} {sp dp n : Int32} (C : CallFix p m c cc nL s args WA own) (hE : gE g s) (hH : Hw g M H) (hS : va_S (gA g) s.heap H locs) (ha0 : M a0 = some (eQ g 2 n0 f)) (ha : M a = some (eQ g 2 n1 h)) (hsz : ls.size = nL) (h1 : Cond.methodLink own idx arraycopyName ∈ WA) (h2 : Cond.native arraycopyName ∈ WA) (h3 : Cond.static arraycopyName ∈ WA) (h4 : Cond.initialized "java/lang/System" ∈ WA)
    (s1 : ¬ sp < 0) (s2 : ¬ dp < 0) (s3 : ¬ n < 0) (s4 : sp.toNatClampNeg + n.toNatClampNeg ≤ n0) (s5 : dp.toNatClampNeg + n.toNatClampNeg ≤ n1) (hel : ∀ i : Nat, i < n.toNatClampNeg → ∀ y : Nat, f (sp.toNatClampNeg + i) = some y → ∃ vs, M y = some (eO ci vs)) (hc : vwCl[ci]? = some r) (hca : va_Nw (.castable r.1 "java/lang/Object") s) (hframes : 1 ≤ R.frames) (hlocals : (rest.map fun v => v.category).sum + (nativeFrameWords "java/lang/System" "arraycopy" 5 + 11) ≤ R.locals) (hdg : decode cc pc = .ok (.invokestatic idx, 3))
    (kk : ∀ (H1 : Heap) (locs1 : List Loc), Hw g (mu M a (eQ g 2 n1 (va_cpy f h sp.toNatClampNeg dp.toNatClampNeg n.toNatClampNeg))) H1 → va_S (gA g) s.heap H1 locs1 → W p l e R s m args below meth c H1 locs1 cells slots Q (F0 m (pc + 3) ls rest)) : W p l e R s m args below meth c H locs cells slots Q (F0 m pc ls (.int n :: .int dp :: .ref a :: .int sp :: .ref a0 :: rest)) := by
  obtain ⟨j0, hj0⟩ := mL_get ha0 (mw_lt hH.1 ha0)
  obtain ⟨j, hj⟩ := mL_get ha (mw_lt hH.1 ha)
  exact va_copyq (C := r.1) C.1 C.2.1 (C.2.2.1.trans hsz.symm) C.2.2.2.1 (C.2.2.2.2 _ h1) (C.2.2.2.2 _ h2) (C.2.2.2.2 _ h3) (C.2.2.2.2 _ h4) hE.1 (mL_P hH.1) (mL_D hH.2) hS j0 j 2 2 hj0 hj rfl rfl s1 s2 s3 s4 s5 (fun i hi y hy => by obtain ⟨vs, hv⟩ := hel i hi y hy; exact m_recv hE hH hv hc) (vb_asgC hca) hframes hlocals hdg (fun H1 locs1 hP1 _ hS1 => kk H1 locs1 (Hw_set hH ha hj hP1) hS1)
end MJR

set_option maxHeartbeats 4000000 in
set_option maxRecDepth 100000 in
theorem c_AC_init {l : Launch} {g : gG} {M : Mp} {a : Nat} (h0 : M a = some (eO 0 [.int 0, .null, .int 0])) : Met l yJxa1e45_init_da8c8 (WY yJxa1e45_init_da8c8 cJxa1e45_init_da8c8 1 none) { frames := 1, cells := 0, slots := 0, locals := 12 } (Wc g M [.ref a]) (rdQ none) 0 0 fr0 := by
  refine ofM (by decide +kernel) (Nat.le_of_ble_eq_true rfl) (fun p e s m args below meth c ls C hr hlocks hin hE hH hl ea => ?_)
  have hin : meth.name = "<init>" := hin
  have hl : lv_has ls 1 [(0, .ref a)] := hl
  have hS : va_S (gA g) s.heap s.heap [] := va_S.rf
  refine lv_aload_n C.1 C.2.1 dJxa1e45_init_da8c8_0 rfl (lv_at hl 0 rfl) ?_
  refine W.objInit C.1 C.2.1 C.2.2.2.1 (C.2.2.2.2 _ wm_66) (C.2.2.2.2 _ wm_53) (C.2.2.2.2 _ wm_54) rfl (by rw [C.2.2.1]; exact hl.1) rfl dJxa1e45_init_da8c8_1 (Nat.le_of_ble_eq_true rfl) (Nat.le_of_ble_eq_true rfl) ?_
  refine W.eq (g2 := F0 m 4 ls []) rfl ?_
  exact rd_vret C hr hlocks  dJxa1e45_init_da8c8_4
set_option maxHeartbeats 4000000 in
set_option maxRecDepth 100000 in
theorem c_AbL_init {l : Launch} {g : gG} {M : Mp} {a : Nat} (h0 : M a = some (eO 0 [.int 0, .null, .int 0])) : Met l yJxc12de_init_da8c8 (WY yJxc12de_init_da8c8 cJxc12de_init_da8c8 1 none) { frames := 2, cells := 0, slots := 0, locals := 32 } (Wc g M [.ref a]) (wrQ (S := Unit) g (fun u_ => none) (fun u_ M_ => M_ = mu M a (eO 0 [.int 0, .null, .int 0]))) 0 0 (gA g) := by
  refine ofM (by decide +kernel) (Nat.le_of_ble_eq_true rfl) (fun p e s m args below meth c ls C hr hlocks hin hE hH hl ea => ?_)
  have hin : meth.name = "<init>" := hin
  have hl : lv_has ls 1 [(0, .ref a)] := hl
  have hS : va_S (gA g) s.heap s.heap [] := va_S.rf
  refine lv_aload_n C.1 C.2.1 dJxc12de_init_da8c8_0 rfl (lv_at hl 0 rfl) ?_
  refine rd_go0 (runI C hE hH hS (c_AC_init h0) mv_Jxa1e45_init_da8c8 wm_63 hl.1 dJxc12de_init_da8c8_1 rfl rfl ⟨rfl, rfl⟩ ⟨Nat.le_of_ble_eq_true rfl, Nat.le_of_ble_eq_true rfl⟩ (Nat.le_of_ble_eq_true rfl) ⟨Nat.le_of_ble_eq_true rfl, Nat.le_of_ble_eq_true rfl⟩) ?_
  refine lv_aload_n C.1 C.2.1 dJxc12de_init_da8c8_4 rfl (lv_at hl 0 rfl) ?_
  refine lv_iconst (v := 0) C.1 C.2.1 dJxc12de_init_da8c8_5 rfl ?_
  refine mput (fs' := [.int 0, .null, .int 0]) C hE hH hS fl_71 h0 rfl rfl rfl (Nat.le_of_ble_eq_true rfl) dJxc12de_init_da8c8_6 (fun H locs hH hS => ?_)
  obtain ⟨M1, hM1⟩ : ∃ z, z = mu M a (eO 0 [.int 0, .null, .int 0]) := ⟨_, rfl⟩
  have hH : Hw g M1 H := by rw [hM1]; exact hH
  have f2 : M1 a = some (eO 0 [.int 0, .null, .int 0]) := by rw [hM1]; exact mu_s
  exact wr_vret () C hr hlocks hH hS rfl (by (rw [hM1]) <;> simp only [mu_mu]) (by decide) (by decide) dJxc12de_init_da8c8_9
set_option maxHeartbeats 4000000 in
set_option maxRecDepth 100000 in
theorem c_L_init {l : Launch} {g : gG} {M : Mp} {a : Nat} (h0 : M a = some (eO 0 [.int 0, .null, .int 0])) : Met l yJx4a65c_init_da8c8 (WY yJx4a65c_init_da8c8 cJx4a65c_init_da8c8 1 none) { frames := 3, cells := 0, slots := 0, locals := 52 } (Wc g M [.ref a]) (wrQ (S := Unit) g (fun u_ => none) (fun u_ M_ => M_ = mu M a (eO 0 [.int 0, .ref (g.2.2.2 0), .int 0]))) 0 0 (gA g) := by
  refine ofM (by decide +kernel) (Nat.le_of_ble_eq_true rfl) (fun p e s m args below meth c ls C hr hlocks hin hE hH hl ea => ?_)
  have hin : meth.name = "<init>" := hin
  have hl : lv_has ls 1 [(0, .ref a)] := hl
  have hS : va_S (gA g) s.heap s.heap [] := va_S.rf
  refine lv_aload_n C.1 C.2.1 dJx4a65c_init_da8c8_0 rfl (lv_at hl 0 rfl) ?_
  refine wr_go0 (runI C hE hH hS (c_AbL_init h0) mv_Jxc12de_init_da8c8 wm_60 hl.1 dJx4a65c_init_da8c8_1 rfl rfl ⟨rfl, rfl⟩ ⟨Nat.le_of_ble_eq_true rfl, Nat.le_of_ble_eq_true rfl⟩ (Nat.le_of_ble_eq_true rfl) ⟨Nat.le_of_ble_eq_true rfl, Nat.le_of_ble_eq_true rfl⟩) hS (fun u1 M2 H locs hM2 hH hS => ?_)
  have f3 : M2 a = some (eO 0 [.int 0, .null, .int 0]) := by rw [hM2]; exact mu_s
  refine lv_aload_n C.1 C.2.1 dJx4a65c_init_da8c8_4 rfl (lv_at hl 0 rfl) ?_
  refine va_gets C.1 C.2.1 hE.2.1 hS C.2.2.2.1 (C.2.2.2.2 _ wm_67) (fun x h => h) dJx4a65c_init_da8c8_5 ?_
  refine mput (fs' := [.int 0, .ref (g.2.2.2 0), .int 0]) C hE hH hS fl_69 f3 rfl rfl rfl (Nat.le_of_ble_eq_true rfl) dJx4a65c_init_da8c8_8 (fun H locs hH hS => ?_)
  obtain ⟨M4, hM4⟩ : ∃ z, z = mu M2 a (eO 0 [.int 0, .ref (g.2.2.2 0), .int 0]) := ⟨_, rfl⟩
  have hH : Hw g M4 H := by rw [hM4]; exact hH
  have f5 : M4 a = some (eO 0 [.int 0, .ref (g.2.2.2 0), .int 0]) := by rw [hM4]; exact mu_s
  exact wr_vret () C hr hlocks hH hS rfl (by (rw [hM4, hM2]) <;> simp only [mu_mu]) (by decide) (by decide) dJx4a65c_init_da8c8_11
set_option maxHeartbeats 4000000 in
set_option maxRecDepth 100000 in
theorem c_L_size {l : Launch} {g : gG} {M : Mp} {a : Nat} {md : Int32} {d : Nat} {k : Int32} (h0 : M a = some (eO 0 [.int md, .ref d, .int k])) : Met l yJx4a65c_size_8abf5 (WY yJx4a65c_size_8abf5 cJx4a65c_size_8abf5 1 (some .int)) { frames := 0, cells := 0, slots := 0, locals := 0 } (Wc g M [.ref a]) (rdQ (some (.int k))) 0 0 fr0 := by
  refine ofM (by decide +kernel) (Nat.le_of_ble_eq_true rfl) (fun p e s m args below meth c ls C hr hlocks hin hE hH hl ea => ?_)
  have hl : lv_has ls 1 [(0, .ref a)] := hl
  have hS : va_S (gA g) s.heap s.heap [] := va_S.rf
  refine lv_aload_n C.1 C.2.1 dJx4a65c_size_8abf5_0 rfl (lv_at hl 0 rfl) ?_
  refine mget C hE hH fl_70 h0 rfl dJx4a65c_size_8abf5_1 ?_
  exact rd_iret C hr hlocks (rfl) dJx4a65c_size_8abf5_4
set_option maxHeartbeats 4000000 in
set_option maxRecDepth 100000 in
theorem c_pcheck {l : Launch} {g : gG} {M : Mp} {x n : Int32} (hi0 : ¬ x < 0) (hi1 : x < n) : Met l yJ3_checkIndex_8e157 (WY yJ3_checkIndex_8e157 cJ3_checkIndex_8e157 3 (some .int)) { frames := 0, cells := 0, slots := 0, locals := 0 } (Wc g M [.int x, .int n, .null]) (rdQ (some (.int x))) 0 0 fr0 := by
  refine ofM (by decide +kernel) (Nat.le_of_ble_eq_true rfl) (fun p e s m args below meth c ls C hr hlocks hin hE hH hl ea => ?_)
  have hl : lv_has ls 3 [(0, .int x), (1, .int n), (2, .null)] := hl
  have hS : va_S (gA g) s.heap s.heap [] := va_S.rf
  refine lv_iload_n C.1 C.2.1 dJ3_checkIndex_8e157_0 rfl (lv_at hl 0 rfl) ?_
  refine lv_if_lt (tgt := 9) C.1 C.2.1 dJ3_checkIndex_8e157_1 (by decide) (fun c1 => ?_) (fun c1 => ?_)
  · exact absurd c1 hi0
  · refine lv_iload_n C.1 C.2.1 dJ3_checkIndex_8e157_4 rfl (lv_at hl 0 rfl) ?_
    refine lv_iload_n C.1 C.2.1 dJ3_checkIndex_8e157_5 rfl (lv_at hl 1 rfl) ?_
    refine lv_icmp_lt (tgt := 16) C.1 C.2.1 dJ3_checkIndex_8e157_6 (by decide) (fun c6 => ?_) (fun c6 => ?_)
    · refine lv_iload_n C.1 C.2.1 dJ3_checkIndex_8e157_16 rfl (lv_at hl 0 rfl) ?_
      exact rd_iret C hr hlocks (rfl) dJ3_checkIndex_8e157_17
    · exact absurd hi1 c6
set_option maxHeartbeats 4000000 in
set_option maxRecDepth 100000 in
theorem c_ocheck {l : Launch} {g : gG} {M : Mp} {x n : Int32} (hi0 : ¬ x < 0) (hi1 : x < n) : Met l yJ15_checkIndex_7cf53 (WY yJ15_checkIndex_7cf53 cJ15_checkIndex_7cf53 2 (some .int)) { frames := 1, cells := 0, slots := 0, locals := 22 } (Wc g M [.int x, .int n]) (rdQ (some (.int x))) 0 0 fr0 := by
  refine ofM (by decide +kernel) (Nat.le_of_ble_eq_true rfl) (fun p e s m args below meth c ls C hr hlocks hin hE hH hl ea => ?_)
  have hl : lv_has ls 2 [(0, .int x), (1, .int n)] := hl
  have hS : va_S (gA g) s.heap s.heap [] := va_S.rf
  refine lv_iload_n C.1 C.2.1 dJ15_checkIndex_7cf53_0 rfl (lv_at hl 0 rfl) ?_
  refine lv_iload_n C.1 C.2.1 dJ15_checkIndex_7cf53_1 rfl (lv_at hl 1 rfl) ?_
  refine lv_null C.1 C.2.1 dJ15_checkIndex_7cf53_2 ?_
  refine rd_go1 (runS C hE hH hS (c_pcheck (hi0) (hi1)) mv_J3_checkIndex_8e157 wm_368 hl.1 dJ15_checkIndex_7cf53_3 rfl rfl ⟨rfl, rfl⟩ ⟨Nat.le_of_ble_eq_true rfl, Nat.le_of_ble_eq_true rfl⟩ (Nat.le_of_ble_eq_true rfl) ⟨Nat.le_of_ble_eq_true rfl, Nat.le_of_ble_eq_true rfl⟩) ?_
  exact rd_iret C hr hlocks (rfl) dJ15_checkIndex_7cf53_6
set_option maxHeartbeats 4000000 in
set_option maxRecDepth 100000 in
theorem c_L_elementData {l : Launch} {g : gG} {M : Mp} {a : Nat} {md : Int32} {d : Nat} {k : Int32}{nn : Nat} {row : Nat → Option Nat} {x : Int32} {y : Nat} (h0 : M a = some (eO 0 [.int md, .ref d, .int k])) (h1 : M d = some (eQ g 2 nn row)) (hv : vp_in x nn) (hy : row x.toNatClampNeg = some y) : Met l yJx4a65c_elementData_915e3 (WY yJx4a65c_elementData_915e3 cJx4a65c_elementData_915e3 2 (some (.object "java/lang/Object"))) { frames := 0, cells := 0, slots := 0, locals := 0 } (Wc g M [.ref a, .int x]) (rdQ (some (.ref y))) 0 0 fr0 := by
  refine ofM (by decide +kernel) (Nat.le_of_ble_eq_true rfl) (fun p e s m args below meth c ls C hr hlocks hin hE hH hl ea => ?_)
  have hl : lv_has ls 2 [(0, .ref a), (1, .int x)] := hl
  have hS : va_S (gA g) s.heap s.heap [] := va_S.rf
  refine lv_aload_n C.1 C.2.1 dJx4a65c_elementData_915e3_0 rfl (lv_at hl 0 rfl) ?_
  refine mget C hE hH fl_69 h0 rfl dJx4a65c_elementData_915e3_1 ?_
  refine lv_iload_n C.1 C.2.1 dJx4a65c_elementData_915e3_4 rfl (lv_at hl 1 rfl) ?_
  refine maldq (k := 2) (y := y) C hE hH h1 rfl rfl hv hy dJx4a65c_elementData_915e3_5 ?_
  exact rd_aret C hr hlocks (by first | exact Or.inl ⟨_, rfl⟩ | exact Or.inr ⟨_, rfl⟩) (rfl) dJx4a65c_elementData_915e3_6
set_option maxHeartbeats 4000000 in
set_option maxRecDepth 100000 in
theorem c_L_get {l : Launch} {g : gG} {M : Mp} {a : Nat} {md : Int32} {d : Nat} {k : Int32}{nn : Nat} {row : Nat → Option Nat} {x : Int32} {y : Nat} (h0 : M a = some (eO 0 [.int md, .ref d, .int k])) (h1 : M d = some (eQ g 2 nn row)) (hv : vp_in x nn) (hy : row x.toNatClampNeg = some y) (hi0 : ¬ x < 0) (hi1 : x < k) : Met l yJx4a65c_get_915e3 (WY yJx4a65c_get_915e3 cJx4a65c_get_915e3 2 (some (.object "java/lang/Object"))) { frames := 2, cells := 0, slots := 0, locals := 43 } (Wc g M [.ref a, .int x]) (rdQ (some (.ref y))) 0 0 fr0 := by
  refine ofM (by decide +kernel) (Nat.le_of_ble_eq_true rfl) (fun p e s m args below meth c ls C hr hlocks hin hE hH hl ea => ?_)
  have hl : lv_has ls 2 [(0, .ref a), (1, .int x)] := hl
  have hS : va_S (gA g) s.heap s.heap [] := va_S.rf
  refine lv_iload_n C.1 C.2.1 dJx4a65c_get_915e3_0 rfl (lv_at hl 1 rfl) ?_
  refine lv_aload_n C.1 C.2.1 dJx4a65c_get_915e3_1 rfl (lv_at hl 0 rfl) ?_
  refine mget C hE hH fl_70 h0 rfl dJx4a65c_get_915e3_2 ?_
  refine rd_go1 (runS C hE hH hS (c_ocheck (hi0) (hi1)) mv_J15_checkIndex_7cf53 wm_365 hl.1 dJx4a65c_get_915e3_5 rfl rfl ⟨rfl, rfl⟩ ⟨Nat.le_of_ble_eq_true rfl, Nat.le_of_ble_eq_true rfl⟩ (Nat.le_of_ble_eq_true rfl) ⟨Nat.le_of_ble_eq_true rfl, Nat.le_of_ble_eq_true rfl⟩) ?_
  refine lv_pop C.1 C.2.1 dJx4a65c_get_915e3_8 rfl ?_
  refine lv_aload_n C.1 C.2.1 dJx4a65c_get_915e3_9 rfl (lv_at hl 0 rfl) ?_
  refine lv_iload_n C.1 C.2.1 dJx4a65c_get_915e3_10 rfl (lv_at hl 1 rfl) ?_
  refine rd_go1 (runV C hE hH hS (c_L_elementData h0 h1 (hv) (hy)) mv_Jx4a65c_elementData_915e3 wm_371 h0 rfl rfl hl.1 dJx4a65c_get_915e3_11 rfl rfl ⟨rfl, rfl⟩ ⟨Nat.le_of_ble_eq_true rfl, Nat.le_of_ble_eq_true rfl⟩ (Nat.le_of_ble_eq_true rfl) ⟨Nat.le_of_ble_eq_true rfl, Nat.le_of_ble_eq_true rfl⟩) ?_
  exact rd_aret C hr hlocks (by first | exact Or.inl ⟨_, rfl⟩ | exact Or.inr ⟨_, rfl⟩) (rfl) dJx4a65c_get_915e3_14
set_option maxHeartbeats 4000000 in
set_option maxRecDepth 100000 in
theorem c_newLength {l : Launch} {g : gG} {M : Mp} {x y z : Int32} (hp1 : ¬ x + (if y < z then z else y) ≤ 0) (hp2 : ¬ 2147483639 < x + (if y < z then z else y)) : Met l yJ8_newLength_cabcc (WY yJ8_newLength_cabcc cJ8_newLength_cabcc 4 (some .int)) { frames := 1, cells := 0, slots := 0, locals := 14 } (Wc g M [.int x, .int y, .int z]) (rdQ (some (.int (x + (if y < z then z else y))))) 0 0 fr0 := by
  refine ofM (by decide +kernel) (Nat.le_of_ble_eq_true rfl) (fun p e s m args below meth c ls C hr hlocks hin hE hH hl ea => ?_)
  have hl : lv_has ls 4 [(0, .int x), (1, .int y), (2, .int z)] := hl
  have hS : va_S (gA g) s.heap s.heap [] := va_S.rf
  refine lv_iload_n C.1 C.2.1 dJ8_newLength_cabcc_0 rfl (lv_at hl 0 rfl) ?_
  refine lv_iload_n C.1 C.2.1 dJ8_newLength_cabcc_1 rfl (lv_at hl 1 rfl) ?_
  refine lv_iload_n C.1 C.2.1 dJ8_newLength_cabcc_2 rfl (lv_at hl 2 rfl) ?_
  refine va_mmax C.1 C.2.1 (C.2.2.1.trans hl.1.symm) C.2.2.2.1 (C.2.2.2.2 _ wm_276) (C.2.2.2.2 _ wm_277) (C.2.2.2.2 _ wm_37) (C.2.2.2.2 _ wm_278) (Nat.le_of_ble_eq_true rfl) (Nat.le_of_ble_eq_true rfl) (by decide) (by decide) dJ8_newLength_cabcc_3 ?_
  refine lv_iadd C.1 C.2.1 dJ8_newLength_cabcc_6 ?_
  refine lv_topi (fun x1 ex1 => ?_)
  refine lv_istore_n (lv' := [(3, .int x1), (0, .int x), (1, .int y), (2, .int z)]) C.1 C.2.1 dJ8_newLength_cabcc_7 rfl hl (by decide) rfl (fun ls hl => ?_)
  refine lv_iconst (v := 0) C.1 C.2.1 dJ8_newLength_cabcc_8 rfl ?_
  refine lv_iload_n C.1 C.2.1 dJ8_newLength_cabcc_9 rfl (lv_at hl 0 rfl) ?_
  refine lv_icmp_ge (tgt := 21) C.1 C.2.1 dJ8_newLength_cabcc_10 (by decide) (fun c10 => ?_) (fun c10 => ?_)
  · exact absurd c10 (by rw [ex1]; exact hp1)
  · refine lv_iload_n C.1 C.2.1 dJ8_newLength_cabcc_13 rfl (lv_at hl 0 rfl) ?_
    refine lv_ldc (v := 2147483639) C.1 C.2.1 C.2.2.2.1 (C.2.2.2.2 _ wm_279) dJ8_newLength_cabcc_14 ?_
    refine lv_icmp_gt (tgt := 21) C.1 C.2.1 dJ8_newLength_cabcc_16 (by decide) (fun c16 => ?_) (fun c16 => ?_)
    · exact absurd c16 (by rw [ex1]; exact hp2)
    · refine lv_iload_n C.1 C.2.1 dJ8_newLength_cabcc_19 rfl (lv_at hl 0 rfl) ?_
      exact rd_iret C hr hlocks (ex1) dJ8_newLength_cabcc_20
set_option maxHeartbeats 4000000 in
set_option maxRecDepth 100000 in
theorem c_copyOf3 {l : Launch} {g : gG} {M : Mp} {a0 n0 nn ci : Nat} {row : Nat → Option Nat} {r : vw_C} (h0 : M a0 = some (eQ g 2 n0 row)) (hN : n0 < nn ∧ nn ≤ 200) (hc : vwCl[ci]? = some r) (hcaS : ∀ s : State, gE g s → va_Nw (.castable r.1 "java/lang/Object") s) (hel : ∀ j, j < n0 → ∃ y vs, row j = some y ∧ M y = some (eO ci vs)) : Met l yJ7_copyOf_6403c (WY yJ7_copyOf_6403c cJ7_copyOf_6403c 4 (some (.array (.object "java/lang/Object")))) { frames := 1, cells := 1, slots := 200, locals := 60 } (Wc g M [.ref a0, .int (nI nn), .ref (g.2.2.2 1)]) (wrQ (S := Nat) g (fun u_ => (some (.ref u_))) (fun u_ M_ => M u_ = none ∧ g.1 ≤ u_ ∧ M_ = mu M u_ (eQ g 2 nn (va_cpy row (fun _ => none) 0 0 n0)))) 1 200 (gA g) := by
  refine ofM (by decide +kernel) (Nat.le_of_ble_eq_true rfl) (fun p e s m args below meth c ls C hr hlocks hin hE hH hl ea => ?_)
  have hl : lv_has ls 4 [(0, .ref a0), (1, .int (nI nn)), (2, .ref (g.2.2.2 1))] := hl
  have hS : va_S (gA g) s.heap s.heap [] := va_S.rf
  have hca := hcaS s hE
  obtain ⟨hN1, hN2⟩ := hN
  refine lv_aload_n C.1 C.2.1 dJ7_copyOf_6403c_0 rfl (lv_at hl 2 rfl) ?_
  refine va_ldcM C.1 C.2.1 C.2.2.2.1 (C.2.2.2.2 _ wm_305) hE.2.2.2.2.2.1 dJ7_copyOf_6403c_1 ?_
  refine lv_acmp_ne (rx := some (g.2.2.2 1)) (ry := some (g.2.2.2 1)) (tgt := 13) C.1 C.2.1 dJ7_copyOf_6403c_3 (by decide) (fun c3 => ?_) (fun c3 => ?_)
  · exact absurd rfl c3
  · refine lv_iload_n C.1 C.2.1 dJ7_copyOf_6403c_6 rfl (lv_at hl 1 rfl) ?_
    refine mnewQ (k := 2) (N := nn) C hE hH hS wm_307 hE.2.2.2.2.2.2.2.2.2.1.1 rfl (nI_pos (by omega)) (nI_clamp (by omega)) (by omega) (by decide) (by show 0 + nn ≤ 200; omega) dJ7_copyOf_6403c_7 (fun q1 H nq1 gq1 hH hS => ?_)
    refine W.widen (k := 1) (n := 200) (by omega) (by omega) ?_
    obtain ⟨M2, hM2⟩ : ∃ z, z = mu M q1 (eQ g 2 nn (fun _ => none)) := ⟨_, rfl⟩
    have hH : Hw g M2 H := by rw [hM2]; exact hH
    have f3 : M2 q1 = some (eQ g 2 nn (fun _ => none)) := by rw [hM2]; exact mu_s
    have f4 : M2 a0 = some (eQ g 2 n0 row) := by rw [hM2]; exact (mu_n (m_new nq1 h0)).trans h0
    refine lv_goto (tgt := 24) C.1 C.2.1 dJ7_copyOf_6403c_10 (by decide) ?_
    refine lv_astore_n (lv' := [(3, .ref q1), (0, .ref a0), (1, .int (nI nn)), (2, .ref (g.2.2.2 1))]) C.1 C.2.1 dJ7_copyOf_6403c_24 rfl hl (by decide) rfl (fun ls hl => ?_)
    refine lv_aload_n C.1 C.2.1 dJ7_copyOf_6403c_25 rfl (lv_at hl 1 rfl) ?_
    refine lv_iconst (v := 0) C.1 C.2.1 dJ7_copyOf_6403c_26 rfl ?_
    refine lv_aload_n C.1 C.2.1 dJ7_copyOf_6403c_27 rfl (lv_at hl 0 rfl) ?_
    refine lv_iconst (v := 0) C.1 C.2.1 dJ7_copyOf_6403c_28 rfl ?_
    refine lv_aload_n C.1 C.2.1 dJ7_copyOf_6403c_29 rfl (lv_at hl 1 rfl) ?_
    refine malen (k := 2) (v := nI n0) C hE hH f4 rfl rfl dJ7_copyOf_6403c_30 ?_
    refine lv_iload_n C.1 C.2.1 dJ7_copyOf_6403c_31 rfl (lv_at hl 2 rfl) ?_
    refine va_mmin C.1 C.2.1 (C.2.2.1.trans hl.1.symm) C.2.2.2.1 (C.2.2.2.2 _ wm_308) (C.2.2.2.2 _ wm_309) (C.2.2.2.2 _ wm_37) (C.2.2.2.2 _ wm_310) (Nat.le_of_ble_eq_true rfl) (Nat.le_of_ble_eq_true rfl) (by decide) (by decide) dJ7_copyOf_6403c_32 ?_
    have hmin : (if (nI nn) < (nI n0) then (nI nn) else (nI n0)) = nI n0 := by rw [if_neg (fun z => absurd ((nI_ltI (by omega) (by omega)).mp z) (by omega))]
    rw [hmin]
    refine mcopyq (ci := ci) C hE hH hS f4 f3 hl.1 wm_311 wm_313 wm_312 wm_39 (by decide) (by decide) (nI_pos (by omega)) (by rw [nI_clamp (by omega)]; show 0 + n0 ≤ n0; omega) (by rw [nI_clamp (by omega)]; show 0 + n0 ≤ nn; omega) (fun i hi y hy => by rw [nI_clamp (by omega)] at hi; rw [show ((0 : Int32).toNatClampNeg + i) = i from Nat.zero_add i] at hy; obtain ⟨y2, vs, e1, e2⟩ := hel i hi; rw [hy] at e1; cases e1; exact ⟨vs, by rw [hM2, mu_n (m_new nq1 e2)]; exact e2⟩) hc hca (Nat.le_of_ble_eq_true rfl) (by decide +kernel) dJ7_copyOf_6403c_35 (fun H locs hH hS => ?_)
    rw [nI_clamp (by omega)] at hH
    obtain ⟨M5, hM5⟩ : ∃ z, z = mu M2 q1 (eQ g 2 nn (va_cpy row (fun _ => none) 0 0 n0)) := ⟨_, rfl⟩
    have hH : Hw g M5 H := by rw [hM5]; exact hH
    have f6 : M5 q1 = some (eQ g 2 nn (va_cpy row (fun _ => none) 0 0 n0)) := by rw [hM5]; exact mu_s
    have f7 : M5 a0 = some (eQ g 2 n0 row) := by rw [hM5]; exact (mu_n (m_new nq1 h0)).trans f4
    refine lv_aload_n C.1 C.2.1 dJ7_copyOf_6403c_38 rfl (lv_at hl 0 rfl) ?_
    exact wr_aret q1 C hr hlocks (by first | exact Or.inl ⟨_, rfl⟩ | exact Or.inr ⟨_, rfl⟩) hH hS rfl (⟨nq1, gq1, by (rw [hM5, hM2]) <;> simp only [mu_mu]⟩) (by decide) (by decide) dJ7_copyOf_6403c_39
set_option maxHeartbeats 4000000 in
set_option maxRecDepth 100000 in
theorem c_copyOf2 {l : Launch} {g : gG} {M : Mp} {a0 n0 nn ci : Nat} {row : Nat → Option Nat} {r : vw_C} (h0 : M a0 = some (eQ g 2 n0 row)) (hN : n0 < nn ∧ nn ≤ 200) (hc : vwCl[ci]? = some r) (hcaS : ∀ s : State, gE g s → va_Nw (.castable r.1 "java/lang/Object") s) (hel : ∀ j, j < n0 → ∃ y vs, row j = some y ∧ M y = some (eO ci vs)) : Met l yJ7_copyOf_1904c (WY yJ7_copyOf_1904c cJ7_copyOf_1904c 2 (some (.array (.object "java/lang/Object")))) { frames := 2, cells := 1, slots := 200, locals := 83 } (Wc g M [.ref a0, .int (nI nn)]) (wrQ (S := Nat) g (fun u_ => (some (.ref u_))) (fun u_ M_ => M u_ = none ∧ g.1 ≤ u_ ∧ M_ = mu M u_ (eQ g 2 nn (va_cpy row (fun _ => none) 0 0 n0)))) 1 200 (gA g) := by
  refine ofM (by decide +kernel) (Nat.le_of_ble_eq_true rfl) (fun p e s m args below meth c ls C hr hlocks hin hE hH hl ea => ?_)
  have hl : lv_has ls 2 [(0, .ref a0), (1, .int (nI nn))] := hl
  have hS : va_S (gA g) s.heap s.heap [] := va_S.rf
  refine lv_aload_n C.1 C.2.1 dJ7_copyOf_1904c_0 rfl (lv_at hl 0 rfl) ?_
  refine lv_iload_n C.1 C.2.1 dJ7_copyOf_1904c_1 rfl (lv_at hl 1 rfl) ?_
  refine lv_aload_n C.1 C.2.1 dJ7_copyOf_1904c_2 rfl (lv_at hl 0 rfl) ?_
  refine mgetC C hE hH h0 hl.1 wm_286 wm_962 wm_287 wm_301 (Nat.le_of_ble_eq_true rfl) (Nat.le_of_ble_eq_true rfl) dJ7_copyOf_1904c_3 ?_
  refine wr_go1 (runS C hE hH hS (c_copyOf3 h0 (hN) (hc) (hcaS) (hel)) mv_J7_copyOf_6403c wm_302 hl.1 dJ7_copyOf_1904c_6 rfl rfl ⟨rfl, rfl⟩ ⟨Nat.le_of_ble_eq_true rfl, Nat.le_of_ble_eq_true rfl⟩ (Nat.le_of_ble_eq_true rfl) ⟨Nat.le_of_ble_eq_true rfl, Nat.le_of_ble_eq_true rfl⟩) hS (fun u1 M2 H locs hM2 hH hS => ?_)
  obtain ⟨nu1, gu1, hM2⟩ := hM2
  have f3 : M2 u1 = some (eQ g 2 nn (va_cpy row (fun _ => none) 0 0 n0)) := by rw [hM2]; exact mu_s
  have f4 : M2 a0 = some (eQ g 2 n0 row) := by rw [hM2]; exact (mu_n (m_new nu1 h0)).trans h0
  exact wr_aret u1 C hr hlocks (by first | exact Or.inl ⟨_, rfl⟩ | exact Or.inr ⟨_, rfl⟩) hH hS rfl (⟨nu1, gu1, hM2⟩) (by decide) (by decide) dJ7_copyOf_1904c_9
def gcap (n : Nat) : Nat := n + (if 1 < n / 2 then n / 2 else 1)
theorem gcap_b {n : Nat} (h : 0 < n) (h2 : n ≤ 100) : n < gcap n ∧ gcap n ≤ 200 := by
  unfold gcap
  split <;> omega
theorem glen {n : Nat} {x : Int32} (hx : x = nI (n + 1)) (h2 : n ≤ 100) : nI n + (if x - nI n < nI n >>> (1 &&& 31) then nI n >>> (1 &&& 31) else x - nI n) = nI (gcap n) := by
  subst hx
  rw [pk_sub (by omega), show n + 1 - n = 1 by omega, pk_shrN (by omega) _ 1 (by decide)]
  unfold gcap
  by_cases h : 1 < n / 2
  · rw [if_pos ((nI_ltI (by omega) (by omega)).mpr h), if_pos h, nI_add]
  · rw [if_neg (fun z => h ((nI_ltI (by omega) (by omega)).mp z)), if_neg h, nI_add]
theorem glen_p {n : Nat} {x : Int32} (hx : x = nI (n + 1)) (h2 : n ≤ 100) : (¬ nI n + (if x - nI n < nI n >>> (1 &&& 31) then nI n >>> (1 &&& 31) else x - nI n) ≤ 0) ∧ ¬ (2147483639 : Int32) < nI n + (if x - nI n < nI n >>> (1 &&& 31) then nI n >>> (1 &&& 31) else x - nI n) := by
  rw [glen hx h2]
  have hg : 0 < gcap n ∧ gcap n ≤ 200 := by unfold gcap; split <;> omega
  exact ⟨nI_nle hg.1 (by omega), fun z => absurd ((nI_ltI (a := 2147483639) (b := gcap n) (by omega) (by omega)).mp z) (by omega)⟩
set_option maxHeartbeats 4000000 in
set_option maxRecDepth 100000 in
theorem c_growB {l : Launch} {g : gG} {M : Mp} {a : Nat} {md x : Int32} (h0 : M a = some (eO 0 [.int md, .ref (g.2.2.2 0), .int 0])) (hx : x = 1) : Met l yJx4a65c_grow_92f84 (WY yJx4a65c_grow_92f84 cJx4a65c_grow_92f84 4 (some (.array (.object "java/lang/Object")))) { frames := 1, cells := 1, slots := 10, locals := 14 } (Wc g M [.ref a, .int x]) (wrQ (S := Nat) g (fun u_ => (some (.ref u_))) (fun u_ M_ => M u_ = none ∧ g.1 ≤ u_ ∧ M_ = mu (mu M u_ (eQ g 2 10 (fun _ => none))) a (eO 0 [.int md, .ref u_, .int 0]))) 1 10 (gA g) := by
  refine ofM (by decide +kernel) (Nat.le_of_ble_eq_true rfl) (fun p e s m args below meth c ls C hr hlocks hin hE hH hl ea => ?_)
  have hl : lv_has ls 4 [(0, .ref a), (1, .int x)] := hl
  have hS : va_S (gA g) s.heap s.heap [] := va_S.rf
  refine lv_aload_n C.1 C.2.1 dJx4a65c_grow_92f84_0 rfl (lv_at hl 0 rfl) ?_
  refine mget C hE hH fl_69 h0 rfl dJx4a65c_grow_92f84_1 ?_
  refine medlen C hE hS dJx4a65c_grow_92f84_4 ?_
  refine lv_istore_n (lv' := [(2, .int 0), (0, .ref a), (1, .int x)]) C.1 C.2.1 dJx4a65c_grow_92f84_5 rfl hl (by decide) rfl (fun ls hl => ?_)
  refine lv_iload_n C.1 C.2.1 dJx4a65c_grow_92f84_6 rfl (lv_at hl 0 rfl) ?_
  refine lv_if_gt (tgt := 20) C.1 C.2.1 dJx4a65c_grow_92f84_7 (by decide) (fun c7 => ?_) (fun c7 => ?_)
  · exact absurd c7 (by decide)
  · refine lv_aload_n C.1 C.2.1 dJx4a65c_grow_92f84_10 rfl (lv_at hl 1 rfl) ?_
    refine mget C hE hH fl_69 h0 rfl dJx4a65c_grow_92f84_11 ?_
    refine va_gets C.1 C.2.1 hE.2.1 hS C.2.2.2.1 (C.2.2.2.2 _ wm_67) (fun x h => h) dJx4a65c_grow_92f84_14 ?_
    refine lv_acmp_eq (rx := some (g.2.2.2 0)) (ry := some (g.2.2.2 0)) (tgt := 45) C.1 C.2.1 dJx4a65c_grow_92f84_17 (by decide) (fun c17 => ?_) (fun c17 => ?_)
    · refine lv_aload_n C.1 C.2.1 dJx4a65c_grow_92f84_45 rfl (lv_at hl 1 rfl) ?_
      refine lv_bipush (v := 10) C.1 C.2.1 dJx4a65c_grow_92f84_46 rfl ?_
      refine lv_iload_n C.1 C.2.1 dJx4a65c_grow_92f84_48 rfl (lv_at hl 2 rfl) ?_
      refine va_mmax C.1 C.2.1 (C.2.2.1.trans hl.1.symm) C.2.2.2.1 (C.2.2.2.2 _ wm_314) (C.2.2.2.2 _ wm_277) (C.2.2.2.2 _ wm_37) (C.2.2.2.2 _ wm_278) (Nat.le_of_ble_eq_true rfl) (Nat.le_of_ble_eq_true rfl) (by decide) (by decide) dJx4a65c_grow_92f84_49 ?_
      refine mnewQ (k := 2) (N := 10) C hE hH hS wm_315 hE.2.2.2.2.2.2.2.2.2.1.1 rfl (by rw [hx]; decide) (by rw [hx]; rfl) (by decide) (by decide) (by decide) dJx4a65c_grow_92f84_52 (fun q1 H nq1 gq1 hH hS => ?_)
      refine W.widen (k := 1) (n := 10) (by omega) (by omega) ?_
      obtain ⟨M2, hM2⟩ : ∃ z, z = mu M q1 (eQ g 2 10 (fun _ => none)) := ⟨_, rfl⟩
      have hH : Hw g M2 H := by rw [hM2]; exact hH
      have f3 : M2 q1 = some (eQ g 2 10 (fun _ => none)) := by rw [hM2]; exact mu_s
      have f4 : M2 a = some (eO 0 [.int md, .ref (g.2.2.2 0), .int 0]) := by rw [hM2]; exact (mu_n (m_new nq1 h0)).trans h0
      refine lv_dup_x1 C.1 C.2.1 dJx4a65c_grow_92f84_55 rfl rfl ?_
      refine mput (fs' := [.int md, .ref q1, .int 0]) C hE hH hS fl_69 f4 rfl rfl rfl (Nat.le_of_ble_eq_true rfl) dJx4a65c_grow_92f84_56 (fun H locs hH hS => ?_)
      obtain ⟨M5, hM5⟩ : ∃ z, z = mu M2 a (eO 0 [.int md, .ref q1, .int 0]) := ⟨_, rfl⟩
      have hH : Hw g M5 H := by rw [hM5]; exact hH
      have f6 : M5 a = some (eO 0 [.int md, .ref q1, .int 0]) := by rw [hM5]; exact mu_s
      have f7 : M5 q1 = some (eQ g 2 10 (fun _ => none)) := by rw [hM5]; exact (mu_n ((m_new nq1 h0)).symm).trans f3
      exact wr_aret q1 C hr hlocks (by first | exact Or.inl ⟨_, rfl⟩ | exact Or.inr ⟨_, rfl⟩) hH hS rfl (⟨nq1, gq1, by rw [hM5, hM2]⟩) (by decide) (by decide) dJx4a65c_grow_92f84_59
    · exact absurd rfl c17
set_option maxHeartbeats 4000000 in
set_option maxRecDepth 100000 in
theorem c_growC {l : Launch} {g : gG} {M : Mp} {a d n0 ci : Nat} {md kk x : Int32} {row : Nat → Option Nat} {r : vw_C} (h0 : M a = some (eO 0 [.int md, .ref d, .int kk])) (h1 : M d = some (eQ g 2 n0 row)) (hx : x = nI (n0 + 1)) (hn : 0 < n0 ∧ n0 ≤ 100) (hc : vwCl[ci]? = some r) (hcaS : ∀ s : State, gE g s → va_Nw (.castable r.1 "java/lang/Object") s) (hel : ∀ j, j < n0 → ∃ y vs, row j = some y ∧ M y = some (eO ci vs)) : Met l yJx4a65c_grow_92f84 (WY yJx4a65c_grow_92f84 cJx4a65c_grow_92f84 4 (some (.array (.object "java/lang/Object")))) { frames := 3, cells := 1, slots := 200, locals := 104 } (Wc g M [.ref a, .int x]) (wrQ (S := Nat) g (fun u_ => (some (.ref u_))) (fun u_ M_ => M u_ = none ∧ g.1 ≤ u_ ∧ M_ = mu (mu M u_ (eQ g 2 (gcap n0) (va_cpy row (fun _ => none) 0 0 n0))) a (eO 0 [.int md, .ref u_, .int kk]))) 1 200 (gA g) := by
  refine ofM (by decide +kernel) (Nat.le_of_ble_eq_true rfl) (fun p e s m args below meth c ls C hr hlocks hin hE hH hl ea => ?_)
  have hl : lv_has ls 4 [(0, .ref a), (1, .int x)] := hl
  have hS : va_S (gA g) s.heap s.heap [] := va_S.rf
  refine lv_aload_n C.1 C.2.1 dJx4a65c_grow_92f84_0 rfl (lv_at hl 0 rfl) ?_
  refine mget C hE hH fl_69 h0 rfl dJx4a65c_grow_92f84_1 ?_
  refine malen (k := 2) (v := nI n0) C hE hH h1 rfl rfl dJx4a65c_grow_92f84_4 ?_
  refine lv_istore_n (lv' := [(2, .int (nI n0)), (0, .ref a), (1, .int x)]) C.1 C.2.1 dJx4a65c_grow_92f84_5 rfl hl (by decide) rfl (fun ls hl => ?_)
  refine lv_iload_n C.1 C.2.1 dJx4a65c_grow_92f84_6 rfl (lv_at hl 0 rfl) ?_
  refine lv_if_gt (tgt := 20) C.1 C.2.1 dJx4a65c_grow_92f84_7 (by decide) (fun c7 => ?_) (fun c7 => ?_)
  · refine lv_iload_n C.1 C.2.1 dJx4a65c_grow_92f84_20 rfl (lv_at hl 0 rfl) ?_
    refine lv_iload_n C.1 C.2.1 dJx4a65c_grow_92f84_21 rfl (lv_at hl 2 rfl) ?_
    refine lv_iload_n C.1 C.2.1 dJx4a65c_grow_92f84_22 rfl (lv_at hl 0 rfl) ?_
    refine lv_isub C.1 C.2.1 dJx4a65c_grow_92f84_23 ?_
    refine lv_iload_n C.1 C.2.1 dJx4a65c_grow_92f84_24 rfl (lv_at hl 0 rfl) ?_
    refine lv_iconst (v := 1) C.1 C.2.1 dJx4a65c_grow_92f84_25 rfl ?_
    refine lv_ishr C.1 C.2.1 dJx4a65c_grow_92f84_26 ?_
    refine rd_go1 (runS C hE hH hS (c_newLength ((glen_p hx hn.2).1) ((glen_p hx hn.2).2)) mv_J8_newLength_cabcc wm_273 hl.1 dJx4a65c_grow_92f84_27 rfl rfl ⟨rfl, rfl⟩ ⟨Nat.le_of_ble_eq_true rfl, Nat.le_of_ble_eq_true rfl⟩ (Nat.le_of_ble_eq_true rfl) ⟨Nat.le_of_ble_eq_true rfl, Nat.le_of_ble_eq_true rfl⟩) ?_
    refine lv_topi (fun x1 ex1 => ?_)
    refine lv_istore_n (lv' := [(3, .int x1), (2, .int (nI n0)), (0, .ref a), (1, .int x)]) C.1 C.2.1 dJx4a65c_grow_92f84_30 rfl hl (by decide) rfl (fun ls hl => ?_)
    have e9 : x1 = nI (gcap n0) := by rw [ex1]; exact glen hx hn.2
    subst e9
    refine lv_aload_n C.1 C.2.1 dJx4a65c_grow_92f84_31 rfl (lv_at hl 2 rfl) ?_
    refine lv_aload_n C.1 C.2.1 dJx4a65c_grow_92f84_32 rfl (lv_at hl 2 rfl) ?_
    refine mget C hE hH fl_69 h0 rfl dJx4a65c_grow_92f84_33 ?_
    refine lv_iload_n C.1 C.2.1 dJx4a65c_grow_92f84_36 rfl (lv_at hl 0 rfl) ?_
    refine wr_go1 (runS C hE hH hS (c_copyOf2 h1 (gcap_b hn.1 hn.2) (hc) (hcaS) (hel)) mv_J7_copyOf_1904c wm_283 hl.1 dJx4a65c_grow_92f84_37 rfl rfl ⟨rfl, rfl⟩ ⟨Nat.le_of_ble_eq_true rfl, Nat.le_of_ble_eq_true rfl⟩ (Nat.le_of_ble_eq_true rfl) ⟨Nat.le_of_ble_eq_true rfl, Nat.le_of_ble_eq_true rfl⟩) hS (fun u2 M3 H locs hM3 hH hS => ?_)
    obtain ⟨nu2, gu2, hM3⟩ := hM3
    have f4 : M3 u2 = some (eQ g 2 (gcap n0) (va_cpy row (fun _ => none) 0 0 n0)) := by rw [hM3]; exact mu_s
    have f5 : M3 a = some (eO 0 [.int md, .ref d, .int kk]) := by rw [hM3]; exact (mu_n (m_new nu2 h0)).trans h0
    have f6 : M3 d = some (eQ g 2 n0 row) := by rw [hM3]; exact (mu_n (m_new nu2 h1)).trans h1
    refine lv_dup_x1 C.1 C.2.1 dJx4a65c_grow_92f84_40 rfl rfl ?_
    refine mput (fs' := [.int md, .ref u2, .int kk]) C hE hH hS fl_69 f5 rfl rfl rfl (Nat.le_of_ble_eq_true rfl) dJx4a65c_grow_92f84_41 (fun H locs hH hS => ?_)
    obtain ⟨M7, hM7⟩ : ∃ z, z = mu M3 a (eO 0 [.int md, .ref u2, .int kk]) := ⟨_, rfl⟩
    have hH : Hw g M7 H := by rw [hM7]; exact hH
    have f8 : M7 a = some (eO 0 [.int md, .ref u2, .int kk]) := by rw [hM7]; exact mu_s
    have f9 : M7 d = some (eQ g 2 n0 row) := by rw [hM7]; exact (mu_n (m_ne f6 f5 (by first | (intro z; cases z; done) | exact ne_IQ | exact ne_IQ.symm | exact ne_LI | exact ne_LI.symm | (intro z; cases z; omega) | (intro z; cases z; contradiction) | exact (fun z => by cases z)))).trans f6
    have f10 : M7 u2 = some (eQ g 2 (gcap n0) (va_cpy row (fun _ => none) 0 0 n0)) := by rw [hM7]; exact (mu_n (m_ne f4 f5 (by first | (intro z; cases z; done) | exact ne_IQ | exact ne_IQ.symm | exact ne_LI | exact ne_LI.symm | (intro z; cases z; omega) | (intro z; cases z; contradiction) | exact (fun z => by cases z)))).trans f4
    exact wr_aret u2 C hr hlocks (by first | exact Or.inl ⟨_, rfl⟩ | exact Or.inr ⟨_, rfl⟩) hH hS rfl (⟨nu2, gu2, by rw [hM7, hM3]⟩) (by decide) (by decide) dJx4a65c_grow_92f84_44
  · exact absurd (by rw [← nI_0]; exact nI_lt hn.1 (by omega)) c7
/-- what adding v as the element kn leaves: md the list's count of changes behind it, d its array before -/
def padd (g : gG) (M : Mp) (a v kn : Nat) (md : Int32) (d : Nat) (row : Nat → Option Nat) (M' : Mp) : Prop := ∃ (d' n' : Nat) (row' : Nat → Option Nat), M' a = some (eO 0 [.int md, .ref d', .int (nI (kn + 1))]) ∧ M' d' = some (eQ g 2 n' row') ∧ kn < n' ∧ n' ≤ 200 ∧ (∀ j, j < kn → row' j = row j) ∧ row' kn = some v ∧ (∀ b, b ≠ a → b ≠ d' → M' b = M b) ∧ (d' = d ∨ (M d' = none ∧ g.1 ≤ d'))
theorem padd_up {g : gG} {M M' : Mp} {a v kn : Nat} {md : Int32} {d : Nat} {row : Nat → Option Nat} {x : List Value} (h : padd g (mu M a (eO 0 x)) a v kn md d row M') : padd g M a v kn md d row M' := by
  obtain ⟨d', n', row', h1, h2, h3, h4, h5, h6, h7, h8⟩ := h
  refine ⟨d', n', row', h1, h2, h3, h4, h5, h6, fun b hb hd => (h7 b hb hd).trans (mu_n hb), h8.imp id (fun z => ⟨?_, z.2⟩)⟩
  by_cases e : d' = a
  · rw [e, mu_s] at z; cases z.1
  · rw [mu_n e] at z; exact z.1
set_option maxHeartbeats 4000000 in
set_option maxRecDepth 100000 in
theorem c_add3A {l : Launch} {g : gG} {M : Mp} {a d v n0 kn ci : Nat} {md : Int32} {row : Nat → Option Nat} {r : vw_C} {vs : List Value} (h0 : M a = some (eO 0 [.int md, .ref d, .int (nI kn)])) (h1 : M d = some (eQ g 2 n0 row)) (h2 : M v = some (eO ci vs)) (hc : vwCl[ci]? = some r) (hcaS : ∀ s : State, gE g s → va_Nw (.castable r.1 "java/lang/Object") s) (hci : ci ≠ 0) (hn : kn < n0 ∧ n0 < 2 ^ 31) (hn2 : n0 ≤ 200) : Met l yJx4a65c_add_72be8 (WY yJx4a65c_add_72be8 cJx4a65c_add_72be8 4 none) { frames := 0, cells := 0, slots := 0, locals := 0 } (Wc g M [.ref a, .ref v, .ref d, .int (nI kn)]) (wrQ (S := Unit) g (fun u_ => none) (fun u_ M_ => padd g M a v kn md d row M_)) 0 0 (gA g) := by
  refine ofM (by decide +kernel) (Nat.le_of_ble_eq_true rfl) (fun p e s m args below meth c ls C hr hlocks hin hE hH hl ea => ?_)
  have hl : lv_has ls 4 [(0, .ref a), (1, .ref v), (2, .ref d), (3, .int (nI kn))] := hl
  have hS : va_S (gA g) s.heap s.heap [] := va_S.rf
  refine lv_iload_n C.1 C.2.1 dJx4a65c_add_72be8_0 rfl (lv_at hl 3 rfl) ?_
  refine lv_aload_n C.1 C.2.1 dJx4a65c_add_72be8_1 rfl (lv_at hl 2 rfl) ?_
  refine malen (k := 2) (v := nI n0) C hE hH h1 rfl rfl dJx4a65c_add_72be8_2 ?_
  refine lv_icmp_ne (tgt := 11) C.1 C.2.1 dJx4a65c_add_72be8_3 (by decide) (fun c3 => ?_) (fun c3 => ?_)
  · refine lv_aload_n C.1 C.2.1 dJx4a65c_add_72be8_11 rfl (lv_at hl 2 rfl) ?_
    refine lv_iload_n C.1 C.2.1 dJx4a65c_add_72be8_12 rfl (lv_at hl 3 rfl) ?_
    refine lv_aload_n C.1 C.2.1 dJx4a65c_add_72be8_13 rfl (lv_at hl 1 rfl) ?_
    refine mastq (k := 2) C hE hH hS h1 rfl (Or.inl (hcaS s hE)) h2 hc (vp_in_nI hn.1 hn.2) dJx4a65c_add_72be8_14 (fun H locs hH hS => ?_)
    rw [nI_clamp (by omega)] at hH
    obtain ⟨M1, hM1⟩ : ∃ z, z = mu M d (eQ g 2 n0 (va_up row kn (some v))) := ⟨_, rfl⟩
    have hH : Hw g M1 H := by rw [hM1]; exact hH
    have f2 : M1 d = some (eQ g 2 n0 (va_up row kn (some v))) := by rw [hM1]; exact mu_s
    have f3 : M1 a = some (eO 0 [.int md, .ref d, .int (nI kn)]) := by rw [hM1]; exact (mu_n (m_ne h0 h1 (by first | (intro z; cases z; done) | exact ne_IQ | exact ne_IQ.symm | exact ne_LI | exact ne_LI.symm | (intro z; cases z; omega) | (intro z; cases z; contradiction) | exact (fun z => by cases z)))).trans h0
    have f4 : M1 v = some (eO ci vs) := by rw [hM1]; exact (mu_n (m_ne h2 h1 (by first | (intro z; cases z; done) | exact ne_IQ | exact ne_IQ.symm | exact ne_LI | exact ne_LI.symm | (intro z; cases z; omega) | (intro z; cases z; contradiction) | exact (fun z => by cases z)))).trans h2
    refine lv_aload_n C.1 C.2.1 dJx4a65c_add_72be8_15 rfl (lv_at hl 0 rfl) ?_
    refine lv_iload_n C.1 C.2.1 dJx4a65c_add_72be8_16 rfl (lv_at hl 3 rfl) ?_
    refine lv_iconst (v := 1) C.1 C.2.1 dJx4a65c_add_72be8_17 rfl ?_
    refine lv_iadd C.1 C.2.1 dJx4a65c_add_72be8_18 ?_
    refine mput (fs' := [.int md, .ref d, .int ((nI kn) + 1)]) C hE hH hS fl_70 f3 rfl rfl rfl (Nat.le_of_ble_eq_true rfl) dJx4a65c_add_72be8_19 (fun H locs hH hS => ?_)
    obtain ⟨M5, hM5⟩ : ∃ z, z = mu M1 a (eO 0 [.int md, .ref d, .int ((nI kn) + 1)]) := ⟨_, rfl⟩
    have hH : Hw g M5 H := by rw [hM5]; exact hH
    have f6 : M5 a = some (eO 0 [.int md, .ref d, .int ((nI kn) + 1)]) := by rw [hM5]; exact mu_s
    have f7 : M5 v = some (eO ci vs) := by rw [hM5]; exact (mu_n (m_ne f4 f3 (by first | (intro z; cases z; done) | exact ne_IQ | exact ne_IQ.symm | exact ne_LI | exact ne_LI.symm | (intro z; cases z; omega) | (intro z; cases z; contradiction) | exact (fun z => by cases z)))).trans f4
    have f8 : M5 d = some (eQ g 2 n0 (va_up row kn (some v))) := by rw [hM5]; exact (mu_n (m_ne f2 f3 (by first | (intro z; cases z; done) | exact ne_IQ | exact ne_IQ.symm | exact ne_LI | exact ne_LI.symm | (intro z; cases z; omega) | (intro z; cases z; contradiction) | exact (fun z => by cases z)))).trans f2
    exact wr_vret () C hr hlocks hH hS rfl (⟨d, n0, va_up row kn (some v), (by rw [← nI_1]; exact f6), f8, hn.1, (by omega), fun j hj => by unfold va_up; rw [if_neg (by omega)], by unfold va_up; rw [if_pos rfl], fun b hb hd => by simp only [hM5, hM1, mu_n hb, mu_n hd], Or.inl rfl⟩) (by decide) (by decide) dJx4a65c_add_72be8_22
  · exact absurd ((nI_eq (by omega) (by omega)).mp c3) (by omega)
set_option maxHeartbeats 4000000 in
set_option maxRecDepth 100000 in
theorem c_addA {l : Launch} {g : gG} {M : Mp} {a d v n0 kn ci : Nat} {md : Int32} {row : Nat → Option Nat} {r : vw_C} {vs : List Value} (h0 : M a = some (eO 0 [.int md, .ref d, .int (nI kn)])) (h1 : M d = some (eQ g 2 n0 row)) (h2 : M v = some (eO ci vs)) (hc : vwCl[ci]? = some r) (hcaS : ∀ s : State, gE g s → va_Nw (.castable r.1 "java/lang/Object") s) (hci : ci ≠ 0) (hn : kn < n0 ∧ n0 < 2 ^ 31) (hn2 : n0 ≤ 200) : Met l yJx4a65c_add_9ea2d (WY yJx4a65c_add_9ea2d cJx4a65c_add_9ea2d 2 (some .boolean)) { frames := 6, cells := 1, slots := 200, locals := 170 } (Wc g M [.ref a, .ref v]) (wrQ (S := Unit) g (fun u_ => (some (.int 1))) (fun u_ M_ => padd g M a v kn (md + 1) d row M_)) 1 200 (gA g) := by
  refine ofM (by decide +kernel) (Nat.le_of_ble_eq_true rfl) (fun p e s m args below meth c ls C hr hlocks hin hE hH hl ea => ?_)
  have hl : lv_has ls 2 [(0, .ref a), (1, .ref v)] := hl
  have hS : va_S (gA g) s.heap s.heap [] := va_S.rf
  refine lv_aload_n C.1 C.2.1 dJx4a65c_add_9ea2d_0 rfl (lv_at hl 0 rfl) ?_
  refine lv_dup C.1 C.2.1 dJx4a65c_add_9ea2d_1 rfl ?_
  refine mget C hE hH fl_72 h0 rfl dJx4a65c_add_9ea2d_2 ?_
  refine lv_iconst (v := 1) C.1 C.2.1 dJx4a65c_add_9ea2d_5 rfl ?_
  refine lv_iadd C.1 C.2.1 dJx4a65c_add_9ea2d_6 ?_
  refine mput (fs' := [.int (md + 1), .ref d, .int (nI kn)]) C hE hH hS fl_72 h0 rfl rfl rfl (Nat.le_of_ble_eq_true rfl) dJx4a65c_add_9ea2d_7 (fun H locs hH hS => ?_)
  obtain ⟨M1, hM1⟩ : ∃ z, z = mu M a (eO 0 [.int (md + 1), .ref d, .int (nI kn)]) := ⟨_, rfl⟩
  have hH : Hw g M1 H := by rw [hM1]; exact hH
  have f2 : M1 a = some (eO 0 [.int (md + 1), .ref d, .int (nI kn)]) := by rw [hM1]; exact mu_s
  have f3 : M1 d = some (eQ g 2 n0 row) := by rw [hM1]; exact (mu_n (m_ne h1 h0 (by first | (intro z; cases z; done) | exact ne_IQ | exact ne_IQ.symm | exact ne_LI | exact ne_LI.symm | (intro z; cases z; omega) | (intro z; cases z; contradiction) | exact (fun z => by cases z)))).trans h1
  have f4 : M1 v = some (eO ci vs) := by rw [hM1]; exact (mu_n (m_ne h2 h0 (by first | (intro z; cases z; done) | exact ne_IQ | exact ne_IQ.symm | exact ne_LI | exact ne_LI.symm | (intro z; cases z; omega) | (intro z; cases z; contradiction) | exact (fun z => by cases z)))).trans h2
  refine lv_aload_n C.1 C.2.1 dJx4a65c_add_9ea2d_10 rfl (lv_at hl 0 rfl) ?_
  refine lv_aload_n C.1 C.2.1 dJx4a65c_add_9ea2d_11 rfl (lv_at hl 1 rfl) ?_
  refine lv_aload_n C.1 C.2.1 dJx4a65c_add_9ea2d_12 rfl (lv_at hl 0 rfl) ?_
  refine mget C hE hH fl_69 f2 rfl dJx4a65c_add_9ea2d_13 ?_
  refine lv_aload_n C.1 C.2.1 dJx4a65c_add_9ea2d_16 rfl (lv_at hl 0 rfl) ?_
  refine mget C hE hH fl_70 f2 rfl dJx4a65c_add_9ea2d_17 ?_
  refine wr_go0 (runV C hE hH hS (c_add3A f2 f3 f4 (hc) (hcaS) (hci) (hn) (hn2)) mv_Jx4a65c_add_72be8 wm_261 f2 rfl rfl hl.1 dJx4a65c_add_9ea2d_20 rfl rfl ⟨rfl, rfl⟩ ⟨Nat.le_of_ble_eq_true rfl, Nat.le_of_ble_eq_true rfl⟩ (Nat.le_of_ble_eq_true rfl) ⟨Nat.le_of_ble_eq_true rfl, Nat.le_of_ble_eq_true rfl⟩) hS (fun u5 M6 H locs hM6 hH hS => ?_)
  refine lv_iconst (v := 1) C.1 C.2.1 dJx4a65c_add_9ea2d_23 rfl ?_
  exact wr_zret () C hr hlocks (rfl) hH hS rfl (by have h9 := hM6; rw [hM1] at h9; exact padd_up h9) (by decide) (by decide) dJx4a65c_add_9ea2d_24
set_option maxHeartbeats 4000000 in
set_option maxRecDepth 100000 in
theorem c_grow0B {l : Launch} {g : gG} {M : Mp} {a : Nat} {md : Int32} (h0 : M a = some (eO 0 [.int md, .ref (g.2.2.2 0), .int 0])) : Met l yJx4a65c_grow_d5877 (WY yJx4a65c_grow_d5877 cJx4a65c_grow_d5877 1 (some (.array (.object "java/lang/Object")))) { frames := 2, cells := 1, slots := 10, locals := 37 } (Wc g M [.ref a]) (wrQ (S := Nat) g (fun u_ => (some (.ref u_))) (fun u_ M_ => M u_ = none ∧ g.1 ≤ u_ ∧ M_ = mu (mu M u_ (eQ g 2 10 (fun _ => none))) a (eO 0 [.int md, .ref u_, .int 0]))) 1 10 (gA g) := by
  refine ofM (by decide +kernel) (Nat.le_of_ble_eq_true rfl) (fun p e s m args below meth c ls C hr hlocks hin hE hH hl ea => ?_)
  have hl : lv_has ls 1 [(0, .ref a)] := hl
  have hS : va_S (gA g) s.heap s.heap [] := va_S.rf
  refine lv_aload_n C.1 C.2.1 dJx4a65c_grow_d5877_0 rfl (lv_at hl 0 rfl) ?_
  refine lv_aload_n C.1 C.2.1 dJx4a65c_grow_d5877_1 rfl (lv_at hl 0 rfl) ?_
  refine mget C hE hH fl_70 h0 rfl dJx4a65c_grow_d5877_2 ?_
  refine lv_iconst (v := 1) C.1 C.2.1 dJx4a65c_grow_d5877_5 rfl ?_
  refine lv_iadd C.1 C.2.1 dJx4a65c_grow_d5877_6 ?_
  refine wr_go1 (runV C hE hH hS (c_growB h0 (rfl)) mv_Jx4a65c_grow_92f84 wm_269 h0 rfl rfl hl.1 dJx4a65c_grow_d5877_7 rfl rfl ⟨rfl, rfl⟩ ⟨Nat.le_of_ble_eq_true rfl, Nat.le_of_ble_eq_true rfl⟩ (Nat.le_of_ble_eq_true rfl) ⟨Nat.le_of_ble_eq_true rfl, Nat.le_of_ble_eq_true rfl⟩) hS (fun u1 M2 H locs hM2 hH hS => ?_)
  obtain ⟨nu1, gu1, hM2⟩ := hM2
  have f3 : M2 a = some (eO 0 [.int md, .ref u1, .int 0]) := by rw [hM2]; exact mu_s
  have f4 : M2 u1 = some (eQ g 2 10 (fun _ => none)) := by rw [hM2]; exact (mu_n (m_new nu1 h0).symm).trans mu_s
  exact wr_aret u1 C hr hlocks (by first | exact Or.inl ⟨_, rfl⟩ | exact Or.inr ⟨_, rfl⟩) hH hS rfl (⟨nu1, gu1, hM2⟩) (by decide) (by decide) dJx4a65c_grow_d5877_10
set_option maxHeartbeats 4000000 in
set_option maxRecDepth 100000 in
theorem c_add3B {l : Launch} {g : gG} {M : Mp} {a v ci : Nat} {md : Int32} {r : vw_C} {vs : List Value} (h0 : M a = some (eO 0 [.int md, .ref (g.2.2.2 0), .int 0])) (h1 : M v = some (eO ci vs)) (hc : vwCl[ci]? = some r) (hcaS : ∀ s : State, gE g s → va_Nw (.castable r.1 "java/lang/Object") s) (hci : ci ≠ 0) : Met l yJx4a65c_add_72be8 (WY yJx4a65c_add_72be8 cJx4a65c_add_72be8 4 none) { frames := 3, cells := 1, slots := 10, locals := 57 } (Wc g M [.ref a, .ref v, .ref (g.2.2.2 0), .int 0]) (wrQ (S := Unit) g (fun u_ => none) (fun u_ M_ => padd g M a v 0 md (g.2.2.2 0) (fun _ => none) M_)) 1 10 (gA g) := by
  refine ofM (by decide +kernel) (Nat.le_of_ble_eq_true rfl) (fun p e s m args below meth c ls C hr hlocks hin hE hH hl ea => ?_)
  have hl : lv_has ls 4 [(0, .ref a), (1, .ref v), (2, .ref (g.2.2.2 0)), (3, .int 0)] := hl
  have hS : va_S (gA g) s.heap s.heap [] := va_S.rf
  refine lv_iload_n C.1 C.2.1 dJx4a65c_add_72be8_0 rfl (lv_at hl 3 rfl) ?_
  refine lv_aload_n C.1 C.2.1 dJx4a65c_add_72be8_1 rfl (lv_at hl 2 rfl) ?_
  refine medlen C hE hS dJx4a65c_add_72be8_2 ?_
  refine lv_icmp_ne (tgt := 11) C.1 C.2.1 dJx4a65c_add_72be8_3 (by decide) (fun c3 => ?_) (fun c3 => ?_)
  · exact absurd rfl c3
  · refine lv_aload_n C.1 C.2.1 dJx4a65c_add_72be8_6 rfl (lv_at hl 0 rfl) ?_
    refine wr_go1 (runV C hE hH hS (c_grow0B h0) mv_Jx4a65c_grow_d5877 wm_265 h0 rfl rfl hl.1 dJx4a65c_add_72be8_7 rfl rfl ⟨rfl, rfl⟩ ⟨Nat.le_of_ble_eq_true rfl, Nat.le_of_ble_eq_true rfl⟩ (Nat.le_of_ble_eq_true rfl) ⟨Nat.le_of_ble_eq_true rfl, Nat.le_of_ble_eq_true rfl⟩) hS (fun u1 M2 H locs hM2 hH hS => ?_)
    obtain ⟨nu1, gu1, hM2⟩ := hM2
    have f3 : M2 a = some (eO 0 [.int md, .ref u1, .int 0]) := by rw [hM2]; exact mu_s
    have f4 : M2 u1 = some (eQ g 2 10 (fun _ => none)) := by rw [hM2]; exact (mu_n (m_new nu1 h0).symm).trans mu_s
    have f5 : M2 v = some (eO ci vs) := by rw [hM2]; exact (mu_n (m_ne h1 h0 (by first | (intro z; cases z; done) | (intro z; cases z; omega)))).trans ((mu_n (m_new nu1 h1)).trans h1)
    refine lv_astore_n (lv' := [(2, .ref u1), (0, .ref a), (1, .ref v), (3, .int 0)]) C.1 C.2.1 dJx4a65c_add_72be8_10 rfl hl (by decide) rfl (fun ls hl => ?_)
    refine lv_aload_n C.1 C.2.1 dJx4a65c_add_72be8_11 rfl (lv_at hl 0 rfl) ?_
    refine lv_iload_n C.1 C.2.1 dJx4a65c_add_72be8_12 rfl (lv_at hl 3 rfl) ?_
    refine lv_aload_n C.1 C.2.1 dJx4a65c_add_72be8_13 rfl (lv_at hl 2 rfl) ?_
    refine mastq (k := 2) C hE hH hS f4 rfl (Or.inl (hcaS s hE)) f5 hc (vp_in_nI (show (0 : Nat) < 10 by decide) (show (10 : Nat) < 2 ^ 31 by decide)) dJx4a65c_add_72be8_14 (fun H locs hH hS => ?_)
    have hH := hH
    obtain ⟨M6, hM6⟩ : ∃ z, z = mu M2 u1 (eQ g 2 10 (va_up (fun _ => none) 0 (some v))) := ⟨_, rfl⟩
    have hH : Hw g M6 H := by rw [hM6]; exact hH
    have f7 : M6 u1 = some (eQ g 2 10 (va_up (fun _ => none) 0 (some v))) := by rw [hM6]; exact mu_s
    have f8 : M6 v = some (eO ci vs) := by rw [hM6]; exact (mu_n (m_new nu1 h1)).trans f5
    have f9 : M6 a = some (eO 0 [.int md, .ref u1, .int 0]) := by rw [hM6]; exact (mu_n (m_new nu1 h0)).trans f3
    refine lv_aload_n C.1 C.2.1 dJx4a65c_add_72be8_15 rfl (lv_at hl 1 rfl) ?_
    refine lv_iload_n C.1 C.2.1 dJx4a65c_add_72be8_16 rfl (lv_at hl 3 rfl) ?_
    refine lv_iconst (v := 1) C.1 C.2.1 dJx4a65c_add_72be8_17 rfl ?_
    refine lv_iadd C.1 C.2.1 dJx4a65c_add_72be8_18 ?_
    refine mput (fs' := [.int md, .ref u1, .int (0 + 1)]) C hE hH hS fl_70 f9 rfl rfl rfl (Nat.le_of_ble_eq_true rfl) dJx4a65c_add_72be8_19 (fun H locs hH hS => ?_)
    obtain ⟨M10, hM10⟩ : ∃ z, z = mu M6 a (eO 0 [.int md, .ref u1, .int (0 + 1)]) := ⟨_, rfl⟩
    have hH : Hw g M10 H := by rw [hM10]; exact hH
    have f11 : M10 a = some (eO 0 [.int md, .ref u1, .int (0 + 1)]) := by rw [hM10]; exact mu_s
    have f12 : M10 v = some (eO ci vs) := by rw [hM10]; exact (mu_n (m_ne f8 f9 (by first | (intro z; cases z; done) | exact ne_IQ | exact ne_IQ.symm | exact ne_LI | exact ne_LI.symm | (intro z; cases z; omega) | (intro z; cases z; contradiction) | exact (fun z => by cases z)))).trans f8
    have f13 : M10 u1 = some (eQ g 2 10 (va_up (fun _ => none) 0 (some v))) := by rw [hM10]; exact (mu_n ((m_new nu1 h0)).symm).trans f7
    exact wr_vret () C hr hlocks hH hS rfl (⟨u1, 10, va_up (fun _ => none) 0 (some v), f11, f13, (by decide), (by decide), fun j hj => absurd hj (Nat.not_lt_zero j), by unfold va_up; rw [if_pos rfl], fun b hb hd => by simp only [hM10, hM6, hM2, mu_n hb, mu_n hd], Or.inr ⟨nu1, gu1⟩⟩) (by decide) (by decide) dJx4a65c_add_72be8_22
set_option maxHeartbeats 4000000 in
set_option maxRecDepth 100000 in
theorem c_addB {l : Launch} {g : gG} {M : Mp} {a v ci : Nat} {md : Int32} {r : vw_C} {vs : List Value} (h0 : M a = some (eO 0 [.int md, .ref (g.2.2.2 0), .int 0])) (h1 : M v = some (eO ci vs)) (hc : vwCl[ci]? = some r) (hcaS : ∀ s : State, gE g s → va_Nw (.castable r.1 "java/lang/Object") s) (hci : ci ≠ 0) : Met l yJx4a65c_add_9ea2d (WY yJx4a65c_add_9ea2d cJx4a65c_add_9ea2d 2 (some .boolean)) { frames := 6, cells := 1, slots := 200, locals := 170 } (Wc g M [.ref a, .ref v]) (wrQ (S := Unit) g (fun u_ => (some (.int 1))) (fun u_ M_ => padd g M a v 0 (md + 1) (g.2.2.2 0) (fun _ => none) M_)) 1 200 (gA g) := by
  refine ofM (by decide +kernel) (Nat.le_of_ble_eq_true rfl) (fun p e s m args below meth c ls C hr hlocks hin hE hH hl ea => ?_)
  have hl : lv_has ls 2 [(0, .ref a), (1, .ref v)] := hl
  have hS : va_S (gA g) s.heap s.heap [] := va_S.rf
  refine lv_aload_n C.1 C.2.1 dJx4a65c_add_9ea2d_0 rfl (lv_at hl 0 rfl) ?_
  refine lv_dup C.1 C.2.1 dJx4a65c_add_9ea2d_1 rfl ?_
  refine mget C hE hH fl_72 h0 rfl dJx4a65c_add_9ea2d_2 ?_
  refine lv_iconst (v := 1) C.1 C.2.1 dJx4a65c_add_9ea2d_5 rfl ?_
  refine lv_iadd C.1 C.2.1 dJx4a65c_add_9ea2d_6 ?_
  refine mput (fs' := [.int (md + 1), .ref (g.2.2.2 0), .int 0]) C hE hH hS fl_72 h0 rfl rfl rfl (Nat.le_of_ble_eq_true rfl) dJx4a65c_add_9ea2d_7 (fun H locs hH hS => ?_)
  obtain ⟨M1, hM1⟩ : ∃ z, z = mu M a (eO 0 [.int (md + 1), .ref (g.2.2.2 0), .int 0]) := ⟨_, rfl⟩
  have hH : Hw g M1 H := by rw [hM1]; exact hH
  have f2 : M1 a = some (eO 0 [.int (md + 1), .ref (g.2.2.2 0), .int 0]) := by rw [hM1]; exact mu_s
  have f3 : M1 v = some (eO ci vs) := by rw [hM1]; exact (mu_n (m_ne h1 h0 (by first | (intro z; cases z; done) | exact ne_IQ | exact ne_IQ.symm | exact ne_LI | exact ne_LI.symm | (intro z; cases z; omega) | (intro z; cases z; contradiction) | exact (fun z => by cases z)))).trans h1
  refine lv_aload_n C.1 C.2.1 dJx4a65c_add_9ea2d_10 rfl (lv_at hl 0 rfl) ?_
  refine lv_aload_n C.1 C.2.1 dJx4a65c_add_9ea2d_11 rfl (lv_at hl 1 rfl) ?_
  refine lv_aload_n C.1 C.2.1 dJx4a65c_add_9ea2d_12 rfl (lv_at hl 0 rfl) ?_
  refine mget C hE hH fl_69 f2 rfl dJx4a65c_add_9ea2d_13 ?_
  refine lv_aload_n C.1 C.2.1 dJx4a65c_add_9ea2d_16 rfl (lv_at hl 0 rfl) ?_
  refine mget C hE hH fl_70 f2 rfl dJx4a65c_add_9ea2d_17 ?_
  refine wr_go0 (runV C hE hH hS (c_add3B f2 f3 (hc) (hcaS) (hci)) mv_Jx4a65c_add_72be8 wm_261 f2 rfl rfl hl.1 dJx4a65c_add_9ea2d_20 rfl rfl ⟨rfl, rfl⟩ ⟨Nat.le_of_ble_eq_true rfl, Nat.le_of_ble_eq_true rfl⟩ (Nat.le_of_ble_eq_true rfl) ⟨Nat.le_of_ble_eq_true rfl, Nat.le_of_ble_eq_true rfl⟩) hS (fun u4 M5 H locs hM5 hH hS => ?_)
  refine lv_iconst (v := 1) C.1 C.2.1 dJx4a65c_add_9ea2d_23 rfl ?_
  exact wr_zret () C hr hlocks (rfl) hH hS rfl (by have h9 := hM5; rw [hM1] at h9; exact padd_up h9) (by decide) (by decide) dJx4a65c_add_9ea2d_24
set_option maxHeartbeats 4000000 in
set_option maxRecDepth 100000 in
theorem c_grow0C {l : Launch} {g : gG} {M : Mp} {a d n0 ci : Nat} {md : Int32} {row : Nat → Option Nat} {r : vw_C} (h0 : M a = some (eO 0 [.int md, .ref d, .int (nI n0)])) (h1 : M d = some (eQ g 2 n0 row)) (hn : 0 < n0 ∧ n0 ≤ 100) (hc : vwCl[ci]? = some r) (hcaS : ∀ s : State, gE g s → va_Nw (.castable r.1 "java/lang/Object") s) (hel : ∀ j, j < n0 → ∃ y vs, row j = some y ∧ M y = some (eO ci vs)) : Met l yJx4a65c_grow_d5877 (WY yJx4a65c_grow_d5877 cJx4a65c_grow_d5877 1 (some (.array (.object "java/lang/Object")))) { frames := 4, cells := 1, slots := 200, locals := 127 } (Wc g M [.ref a]) (wrQ (S := Nat) g (fun u_ => (some (.ref u_))) (fun u_ M_ => M u_ = none ∧ g.1 ≤ u_ ∧ M_ = mu (mu M u_ (eQ g 2 (gcap n0) (va_cpy row (fun _ => none) 0 0 n0))) a (eO 0 [.int md, .ref u_, .int (nI n0)]))) 1 200 (gA g) := by
  refine ofM (by decide +kernel) (Nat.le_of_ble_eq_true rfl) (fun p e s m args below meth c ls C hr hlocks hin hE hH hl ea => ?_)
  have hl : lv_has ls 1 [(0, .ref a)] := hl
  have hS : va_S (gA g) s.heap s.heap [] := va_S.rf
  refine lv_aload_n C.1 C.2.1 dJx4a65c_grow_d5877_0 rfl (lv_at hl 0 rfl) ?_
  refine lv_aload_n C.1 C.2.1 dJx4a65c_grow_d5877_1 rfl (lv_at hl 0 rfl) ?_
  refine mget C hE hH fl_70 h0 rfl dJx4a65c_grow_d5877_2 ?_
  refine lv_iconst (v := 1) C.1 C.2.1 dJx4a65c_grow_d5877_5 rfl ?_
  refine lv_iadd C.1 C.2.1 dJx4a65c_grow_d5877_6 ?_
  refine wr_go1 (runV C hE hH hS (c_growC h0 h1 (nI_1 n0) (hn) (hc) (hcaS) (hel)) mv_Jx4a65c_grow_92f84 wm_269 h0 rfl rfl hl.1 dJx4a65c_grow_d5877_7 rfl rfl ⟨rfl, rfl⟩ ⟨Nat.le_of_ble_eq_true rfl, Nat.le_of_ble_eq_true rfl⟩ (Nat.le_of_ble_eq_true rfl) ⟨Nat.le_of_ble_eq_true rfl, Nat.le_of_ble_eq_true rfl⟩) hS (fun u1 M2 H locs hM2 hH hS => ?_)
  obtain ⟨nu1, gu1, hM2⟩ := hM2
  have f3 : M2 a = some (eO 0 [.int md, .ref u1, .int (nI n0)]) := by rw [hM2]; exact mu_s
  have f4 : M2 u1 = some (eQ g 2 (gcap n0) (va_cpy row (fun _ => none) 0 0 n0)) := by rw [hM2]; exact (mu_n (m_new nu1 h0).symm).trans mu_s
  have f5 : M2 d = some (eQ g 2 n0 row) := by rw [hM2]; exact (mu_n (m_ne h1 h0 (by first | (intro z; cases z; done) | (intro z; cases z; omega)))).trans ((mu_n (m_new nu1 h1)).trans h1)
  exact wr_aret u1 C hr hlocks (by first | exact Or.inl ⟨_, rfl⟩ | exact Or.inr ⟨_, rfl⟩) hH hS rfl (⟨nu1, gu1, hM2⟩) (by decide) (by decide) dJx4a65c_grow_d5877_10
set_option maxHeartbeats 4000000 in
set_option maxRecDepth 100000 in
theorem c_add3C {l : Launch} {g : gG} {M : Mp} {a d v n0 ci : Nat} {md : Int32} {row : Nat → Option Nat} {r : vw_C} {vs : List Value} (h0 : M a = some (eO 0 [.int md, .ref d, .int (nI n0)])) (h1 : M d = some (eQ g 2 n0 row)) (h2 : M v = some (eO ci vs)) (hn : 0 < n0 ∧ n0 ≤ 100) (hc : vwCl[ci]? = some r) (hcaS : ∀ s : State, gE g s → va_Nw (.castable r.1 "java/lang/Object") s) (hci : ci ≠ 0) (hel : ∀ j, j < n0 → ∃ y vs, row j = some y ∧ M y = some (eO ci vs)) : Met l yJx4a65c_add_72be8 (WY yJx4a65c_add_72be8 cJx4a65c_add_72be8 4 none) { frames := 5, cells := 1, slots := 200, locals := 147 } (Wc g M [.ref a, .ref v, .ref d, .int (nI n0)]) (wrQ (S := Unit) g (fun u_ => none) (fun u_ M_ => padd g M a v n0 md d row M_)) 1 200 (gA g) := by
  refine ofM (by decide +kernel) (Nat.le_of_ble_eq_true rfl) (fun p e s m args below meth c ls C hr hlocks hin hE hH hl ea => ?_)
  have hl : lv_has ls 4 [(0, .ref a), (1, .ref v), (2, .ref d), (3, .int (nI n0))] := hl
  have hS : va_S (gA g) s.heap s.heap [] := va_S.rf
  refine lv_iload_n C.1 C.2.1 dJx4a65c_add_72be8_0 rfl (lv_at hl 3 rfl) ?_
  refine lv_aload_n C.1 C.2.1 dJx4a65c_add_72be8_1 rfl (lv_at hl 2 rfl) ?_
  refine malen (k := 2) (v := nI n0) C hE hH h1 rfl rfl dJx4a65c_add_72be8_2 ?_
  refine lv_icmp_ne (tgt := 11) C.1 C.2.1 dJx4a65c_add_72be8_3 (by decide) (fun c3 => ?_) (fun c3 => ?_)
  · exact absurd rfl c3
  · refine lv_aload_n C.1 C.2.1 dJx4a65c_add_72be8_6 rfl (lv_at hl 0 rfl) ?_
    refine wr_go1 (runV C hE hH hS (c_grow0C h0 h1 (hn) (hc) (hcaS) (hel)) mv_Jx4a65c_grow_d5877 wm_265 h0 rfl rfl hl.1 dJx4a65c_add_72be8_7 rfl rfl ⟨rfl, rfl⟩ ⟨Nat.le_of_ble_eq_true rfl, Nat.le_of_ble_eq_true rfl⟩ (Nat.le_of_ble_eq_true rfl) ⟨Nat.le_of_ble_eq_true rfl, Nat.le_of_ble_eq_true rfl⟩) hS (fun u1 M2 H locs hM2 hH hS => ?_)
    obtain ⟨nu1, gu1, hM2⟩ := hM2
    have f3 : M2 a = some (eO 0 [.int md, .ref u1, .int (nI n0)]) := by rw [hM2]; exact mu_s
    have f4 : M2 u1 = some (eQ g 2 (gcap n0) (va_cpy row (fun _ => none) 0 0 n0)) := by rw [hM2]; exact (mu_n (m_new nu1 h0).symm).trans mu_s
    have f5 : M2 d = some (eQ g 2 n0 row) := by rw [hM2]; exact (mu_n (m_ne h1 h0 (by first | (intro z; cases z; done) | (intro z; cases z; omega)))).trans ((mu_n (m_new nu1 h1)).trans h1)
    have f6 : M2 v = some (eO ci vs) := by rw [hM2]; exact (mu_n (m_ne h2 h0 (by first | (intro z; cases z; done) | (intro z; cases z; omega)))).trans ((mu_n (m_new nu1 h2)).trans h2)
    refine lv_astore_n (lv' := [(2, .ref u1), (0, .ref a), (1, .ref v), (3, .int (nI n0))]) C.1 C.2.1 dJx4a65c_add_72be8_10 rfl hl (by decide) rfl (fun ls hl => ?_)
    refine lv_aload_n C.1 C.2.1 dJx4a65c_add_72be8_11 rfl (lv_at hl 0 rfl) ?_
    refine lv_iload_n C.1 C.2.1 dJx4a65c_add_72be8_12 rfl (lv_at hl 3 rfl) ?_
    refine lv_aload_n C.1 C.2.1 dJx4a65c_add_72be8_13 rfl (lv_at hl 2 rfl) ?_
    refine mastq (k := 2) C hE hH hS f4 rfl (Or.inl (hcaS s hE)) f6 hc (vp_in_nI (gcap_b hn.1 hn.2).1 (Nat.lt_of_le_of_lt (gcap_b hn.1 hn.2).2 (by decide))) dJx4a65c_add_72be8_14 (fun H locs hH hS => ?_)
    rw [nI_clamp (by omega)] at hH
    obtain ⟨M7, hM7⟩ : ∃ z, z = mu M2 u1 (eQ g 2 (gcap n0) (va_up (va_cpy row (fun _ => none) 0 0 n0) n0 (some v))) := ⟨_, rfl⟩
    have hH : Hw g M7 H := by rw [hM7]; exact hH
    have f8 : M7 u1 = some (eQ g 2 (gcap n0) (va_up (va_cpy row (fun _ => none) 0 0 n0) n0 (some v))) := by rw [hM7]; exact mu_s
    have f9 : M7 d = some (eQ g 2 n0 row) := by rw [hM7]; exact (mu_n (m_new nu1 h1)).trans f5
    have f10 : M7 v = some (eO ci vs) := by rw [hM7]; exact (mu_n (m_new nu1 h2)).trans f6
    have f11 : M7 a = some (eO 0 [.int md, .ref u1, .int (nI n0)]) := by rw [hM7]; exact (mu_n (m_new nu1 h0)).trans f3
    refine lv_aload_n C.1 C.2.1 dJx4a65c_add_72be8_15 rfl (lv_at hl 1 rfl) ?_
    refine lv_iload_n C.1 C.2.1 dJx4a65c_add_72be8_16 rfl (lv_at hl 3 rfl) ?_
    refine lv_iconst (v := 1) C.1 C.2.1 dJx4a65c_add_72be8_17 rfl ?_
    refine lv_iadd C.1 C.2.1 dJx4a65c_add_72be8_18 ?_
    refine mput (fs' := [.int md, .ref u1, .int ((nI n0) + 1)]) C hE hH hS fl_70 f11 rfl rfl rfl (Nat.le_of_ble_eq_true rfl) dJx4a65c_add_72be8_19 (fun H locs hH hS => ?_)
    obtain ⟨M12, hM12⟩ : ∃ z, z = mu M7 a (eO 0 [.int md, .ref u1, .int ((nI n0) + 1)]) := ⟨_, rfl⟩
    have hH : Hw g M12 H := by rw [hM12]; exact hH
    have f13 : M12 a = some (eO 0 [.int md, .ref u1, .int ((nI n0) + 1)]) := by rw [hM12]; exact mu_s
    have f14 : M12 d = some (eQ g 2 n0 row) := by rw [hM12]; exact (mu_n (m_ne f9 f11 (by first | (intro z; cases z; done) | exact ne_IQ | exact ne_IQ.symm | exact ne_LI | exact ne_LI.symm | (intro z; cases z; omega) | (intro z; cases z; contradiction) | exact (fun z => by cases z)))).trans f9
    have f15 : M12 v = some (eO ci vs) := by rw [hM12]; exact (mu_n (m_ne f10 f11 (by first | (intro z; cases z; done) | exact ne_IQ | exact ne_IQ.symm | exact ne_LI | exact ne_LI.symm | (intro z; cases z; omega) | (intro z; cases z; contradiction) | exact (fun z => by cases z)))).trans f10
    have f16 : M12 u1 = some (eQ g 2 (gcap n0) (va_up (va_cpy row (fun _ => none) 0 0 n0) n0 (some v))) := by rw [hM12]; exact (mu_n ((m_new nu1 h0)).symm).trans f8
    exact wr_vret () C hr hlocks hH hS rfl (⟨u1, (gcap n0), va_up (va_cpy row (fun _ => none) 0 0 n0) n0 (some v), (by rw [← nI_1]; exact f13), f16, (gcap_b hn.1 hn.2).1, (gcap_b hn.1 hn.2).2, fun j hj => by unfold va_up; rw [if_neg (by omega)]; unfold va_cpy; rw [if_pos ⟨Nat.zero_le _, by omega⟩]; simp, by unfold va_up; rw [if_pos rfl], fun b hb hd => by simp only [hM12, hM7, hM2, mu_n hb, mu_n hd], Or.inr ⟨nu1, gu1⟩⟩) (by decide) (by decide) dJx4a65c_add_72be8_22
set_option maxHeartbeats 4000000 in
set_option maxRecDepth 100000 in
theorem c_addC {l : Launch} {g : gG} {M : Mp} {a d v n0 ci : Nat} {md : Int32} {row : Nat → Option Nat} {r : vw_C} {vs : List Value} (h0 : M a = some (eO 0 [.int md, .ref d, .int (nI n0)])) (h1 : M d = some (eQ g 2 n0 row)) (h2 : M v = some (eO ci vs)) (hn : 0 < n0 ∧ n0 ≤ 100) (hc : vwCl[ci]? = some r) (hcaS : ∀ s : State, gE g s → va_Nw (.castable r.1 "java/lang/Object") s) (hci : ci ≠ 0) (hel : ∀ j, j < n0 → ∃ y vs, row j = some y ∧ M y = some (eO ci vs)) : Met l yJx4a65c_add_9ea2d (WY yJx4a65c_add_9ea2d cJx4a65c_add_9ea2d 2 (some .boolean)) { frames := 6, cells := 1, slots := 200, locals := 170 } (Wc g M [.ref a, .ref v]) (wrQ (S := Unit) g (fun u_ => (some (.int 1))) (fun u_ M_ => padd g M a v n0 (md + 1) d row M_)) 1 200 (gA g) := by
  refine ofM (by decide +kernel) (Nat.le_of_ble_eq_true rfl) (fun p e s m args below meth c ls C hr hlocks hin hE hH hl ea => ?_)
  have hl : lv_has ls 2 [(0, .ref a), (1, .ref v)] := hl
  have hS : va_S (gA g) s.heap s.heap [] := va_S.rf
  refine lv_aload_n C.1 C.2.1 dJx4a65c_add_9ea2d_0 rfl (lv_at hl 0 rfl) ?_
  refine lv_dup C.1 C.2.1 dJx4a65c_add_9ea2d_1 rfl ?_
  refine mget C hE hH fl_72 h0 rfl dJx4a65c_add_9ea2d_2 ?_
  refine lv_iconst (v := 1) C.1 C.2.1 dJx4a65c_add_9ea2d_5 rfl ?_
  refine lv_iadd C.1 C.2.1 dJx4a65c_add_9ea2d_6 ?_
  refine mput (fs' := [.int (md + 1), .ref d, .int (nI n0)]) C hE hH hS fl_72 h0 rfl rfl rfl (Nat.le_of_ble_eq_true rfl) dJx4a65c_add_9ea2d_7 (fun H locs hH hS => ?_)
  obtain ⟨M1, hM1⟩ : ∃ z, z = mu M a (eO 0 [.int (md + 1), .ref d, .int (nI n0)]) := ⟨_, rfl⟩
  have hH : Hw g M1 H := by rw [hM1]; exact hH
  have f2 : M1 a = some (eO 0 [.int (md + 1), .ref d, .int (nI n0)]) := by rw [hM1]; exact mu_s
  have f3 : M1 d = some (eQ g 2 n0 row) := by rw [hM1]; exact (mu_n (m_ne h1 h0 (by first | (intro z; cases z; done) | exact ne_IQ | exact ne_IQ.symm | exact ne_LI | exact ne_LI.symm | (intro z; cases z; omega) | (intro z; cases z; contradiction) | exact (fun z => by cases z)))).trans h1
  have f4 : M1 v = some (eO ci vs) := by rw [hM1]; exact (mu_n (m_ne h2 h0 (by first | (intro z; cases z; done) | exact ne_IQ | exact ne_IQ.symm | exact ne_LI | exact ne_LI.symm | (intro z; cases z; omega) | (intro z; cases z; contradiction) | exact (fun z => by cases z)))).trans h2
  refine lv_aload_n C.1 C.2.1 dJx4a65c_add_9ea2d_10 rfl (lv_at hl 0 rfl) ?_
  refine lv_aload_n C.1 C.2.1 dJx4a65c_add_9ea2d_11 rfl (lv_at hl 1 rfl) ?_
  refine lv_aload_n C.1 C.2.1 dJx4a65c_add_9ea2d_12 rfl (lv_at hl 0 rfl) ?_
  refine mget C hE hH fl_69 f2 rfl dJx4a65c_add_9ea2d_13 ?_
  refine lv_aload_n C.1 C.2.1 dJx4a65c_add_9ea2d_16 rfl (lv_at hl 0 rfl) ?_
  refine mget C hE hH fl_70 f2 rfl dJx4a65c_add_9ea2d_17 ?_
  refine wr_go0 (runV C hE hH hS (c_add3C f2 f3 f4 (hn) (hc) (hcaS) (hci) (fun j hj => by obtain ⟨y, vs2, e1, e2⟩ := hel j hj; exact ⟨y, vs2, e1, by rw [hM1, mu_n (fun z => hci (by rw [z, h0] at e2; cases e2; rfl))]; exact e2⟩)) mv_Jx4a65c_add_72be8 wm_261 f2 rfl rfl hl.1 dJx4a65c_add_9ea2d_20 rfl rfl ⟨rfl, rfl⟩ ⟨Nat.le_of_ble_eq_true rfl, Nat.le_of_ble_eq_true rfl⟩ (Nat.le_of_ble_eq_true rfl) ⟨Nat.le_of_ble_eq_true rfl, Nat.le_of_ble_eq_true rfl⟩) hS (fun u5 M6 H locs hM6 hH hS => ?_)
  refine lv_iconst (v := 1) C.1 C.2.1 dJx4a65c_add_9ea2d_23 rfl ?_
  exact wr_zret () C hr hlocks (rfl) hH hS rfl (by have h9 := hM6; rw [hM1] at h9; exact padd_up h9) (by decide) (by decide) dJx4a65c_add_9ea2d_24
end
section
/-! THE LIST AS A SEQUENCE -/
def Lst (g : gG) (M : Mp) (a d k : Nat) (f : Nat → Nat) : Prop := ∃ md : Int32, M a = some (eO 0 [.int md, .ref d, .int (nI k)]) ∧ ((k = 0 ∧ d = g.2.2.2 0 ∧ M d = none) ∨ ∃ (n : Nat) (row : Nat → Option Nat), M d = some (eQ g 2 n row) ∧ k ≤ n ∧ 0 < n ∧ n ≤ 200 ∧ ∀ j, j < k → row j = some (f j))
theorem Lst_at {g : gG} {M : Mp} {d k : Nat} {f : Nat → Nat} {x : Int32} (h : (k = 0 ∧ d = g.2.2.2 0 ∧ M d = none) ∨ ∃ (n : Nat) (row : Nat → Option Nat), M d = some (eQ g 2 n row) ∧ k ≤ n ∧ 0 < n ∧ n ≤ 200 ∧ ∀ j, j < k → row j = some (f j)) (hk : k < 2 ^ 31) (h0 : ¬ x < 0) (h1 : x < nI k) : ∃ (n : Nat) (row : Nat → Option Nat), M d = some (eQ g 2 n row) ∧ vp_in x n ∧ row x.toNatClampNeg = some (f x.toNatClampNeg) ∧ x.toNatClampNeg < k := by
  obtain ⟨j, hj, rfl⟩ := nI_of h0
  have hjk : j < k := (nI_ltI hj hk).mp h1
  rcases h with ⟨rfl, -⟩ | ⟨n, row, h2, h3, -, h4, h5⟩
  · exact absurd hjk (Nat.not_lt_zero j)
  · exact ⟨n, row, h2, vp_in_nI (by omega) (by omega), by rw [nI_clamp hj]; exact h5 j hjk, by rw [nI_clamp hj]; exact hjk⟩
set_option maxHeartbeats 4000000 in
set_option maxRecDepth 100000 in
theorem c_findEntry {l : Launch} {g : gG} {M : Mp} {x eL bL oL wa yf ys bl cl : Nat} {dd k : Nat} {f : Nat → Nat} (hlx : l.stackTraces = false) (h0 : M x = some (eO 6 [.ref eL, .ref bL, .ref oL, .ref wa, .ref yf, .ref ys, .ref bl, .ref cl])) (hL : Lst g M eL dd k f) (hk : k < 2 ^ 31) (hel : ∀ j, j < k → ∃ vs, M (f j) = some (eO 3 vs)) (i : Int32) : vx_Met l yX5_findEntry (WY yX5_findEntry cX5_findEntry 2 (some (.object "DyeRing$Entry"))) { frames := 7, cells := 1, slots := 6, locals := 103 } (Wc g M [.ref x, .int i]) (xrQ (¬ i < 0 ∧ i < nI k) (some (.ref (f i.toNatClampNeg)))) (xQ (fun E_ => E_ = xIO ∧ ¬ (¬ i < 0 ∧ i < nI k))) 1 6 fr0 := by
  refine ofX (by decide +kernel) (Nat.le_of_ble_eq_true rfl) (fun p e s m args below meth c ls C hr hlocks hout hE hH hl ea => ?_)
  have hl : lv_has ls 2 [(0, .ref x), (1, .int i)] := hl
  have hS : va_S (gA g) s.heap s.heap [] := va_S.rf
  obtain ⟨md9, hL0, hL1⟩ := hL
  refine lv_iload_n C.1 C.2.1 dX5_findEntry_0 rfl (lv_at hl 1 rfl) ?_
  refine lv_aload_n C.1 C.2.1 dX5_findEntry_1 rfl (lv_at hl 0 rfl) ?_
  refine mget C hE hH fl_104 h0 rfl dX5_findEntry_2 ?_
  refine rd_go1 (runV C hE hH hS (c_L_size hL0) mv_Jx4a65c_size_8abf5 wm_210 hL0 rfl rfl hl.1 dX5_findEntry_5 rfl rfl ⟨rfl, rfl⟩ ⟨Nat.le_of_ble_eq_true rfl, Nat.le_of_ble_eq_true rfl⟩ (Nat.le_of_ble_eq_true rfl) ⟨Nat.le_of_ble_eq_true rfl, Nat.le_of_ble_eq_true rfl⟩) ?_
  refine xr_go0 (xrunS C hE hH hS (c_reqIndex hlx i (nI k)) mv_X5_requireIndex wm_324 hl.1 dX5_findEntry_8 rfl rfl ⟨rfl, rfl⟩ ⟨Nat.le_of_ble_eq_true rfl, Nat.le_of_ble_eq_true rfl⟩ (Nat.le_of_ble_eq_true rfl) ⟨Nat.le_of_ble_eq_true rfl, Nat.le_of_ble_eq_true rfl⟩) (fun E ce q9 H1 hx9 hz9 ho9 hce hcv hcl => ?_) (fun hp8 => ?_)
  · exact x_pass hout hlocks (hx9) hz9 ho9 hce hcv hcl (by decide) (by decide)
  refine lv_aload_n C.1 C.2.1 dX5_findEntry_11 rfl (lv_at hl 0 rfl) ?_
  refine mget C hE hH fl_104 h0 rfl dX5_findEntry_12 ?_
  refine lv_iload_n C.1 C.2.1 dX5_findEntry_15 rfl (lv_at hl 1 rfl) ?_
  obtain ⟨n9, row9, hd9, hv9, hy9, hk9⟩ := Lst_at hL1 hk hp8.1 hp8.2
  obtain ⟨vs9, he9⟩ := hel _ hk9
  refine rd_go1 (runV C hE hH hS (c_L_get hL0 hd9 (hv9) (hy9) (hp8.1) (hp8.2)) mv_Jx4a65c_get_915e3 wm_361 hL0 rfl rfl hl.1 dX5_findEntry_16 rfl rfl ⟨rfl, rfl⟩ ⟨Nat.le_of_ble_eq_true rfl, Nat.le_of_ble_eq_true rfl⟩ (Nat.le_of_ble_eq_true rfl) ⟨Nat.le_of_ble_eq_true rfl, Nat.le_of_ble_eq_true rfl⟩) ?_
  refine va_castS C.1 C.2.1 C.2.2.2.1 (C.2.2.2.2 _ wm_233) (hE.1.1 3 _ rfl).2 (m_recv hE hH he9 (ci := 3) rfl) dX5_findEntry_19 ?_
  exact xr_aret C hr hlocks (by first | exact Or.inl ⟨_, rfl⟩ | exact Or.inr ⟨_, rfl⟩) (hp8) (rfl) (by decide) (by decide) dX5_findEntry_22
set_option maxHeartbeats 4000000 in
set_option maxRecDepth 100000 in
theorem c_findBath {l : Launch} {g : gG} {M : Mp} {x eL bL oL wa yf ys bl cl : Nat} {dd k : Nat} {f : Nat → Nat} (hlx : l.stackTraces = false) (h0 : M x = some (eO 6 [.ref eL, .ref bL, .ref oL, .ref wa, .ref yf, .ref ys, .ref bl, .ref cl])) (hL : Lst g M bL dd k f) (hk : k < 2 ^ 31) (hel : ∀ j, j < k → ∃ vs, M (f j) = some (eO 1 vs)) (i : Int32) : vx_Met l yX5_findBath (WY yX5_findBath cX5_findBath 2 (some (.object "DyeRing$Bath"))) { frames := 7, cells := 1, slots := 6, locals := 103 } (Wc g M [.ref x, .int i]) (xrQ (¬ i < 0 ∧ i < nI k) (some (.ref (f i.toNatClampNeg)))) (xQ (fun E_ => E_ = xIO ∧ ¬ (¬ i < 0 ∧ i < nI k))) 1 6 fr0 := by
  refine ofX (by decide +kernel) (Nat.le_of_ble_eq_true rfl) (fun p e s m args below meth c ls C hr hlocks hout hE hH hl ea => ?_)
  have hl : lv_has ls 2 [(0, .ref x), (1, .int i)] := hl
  have hS : va_S (gA g) s.heap s.heap [] := va_S.rf
  obtain ⟨md9, hL0, hL1⟩ := hL
  refine lv_iload_n C.1 C.2.1 dX5_findBath_0 rfl (lv_at hl 1 rfl) ?_
  refine lv_aload_n C.1 C.2.1 dX5_findBath_1 rfl (lv_at hl 0 rfl) ?_
  refine mget C hE hH fl_105 h0 rfl dX5_findBath_2 ?_
  refine rd_go1 (runV C hE hH hS (c_L_size hL0) mv_Jx4a65c_size_8abf5 wm_210 hL0 rfl rfl hl.1 dX5_findBath_5 rfl rfl ⟨rfl, rfl⟩ ⟨Nat.le_of_ble_eq_true rfl, Nat.le_of_ble_eq_true rfl⟩ (Nat.le_of_ble_eq_true rfl) ⟨Nat.le_of_ble_eq_true rfl, Nat.le_of_ble_eq_true rfl⟩) ?_
  refine xr_go0 (xrunS C hE hH hS (c_reqIndex hlx i (nI k)) mv_X5_requireIndex wm_324 hl.1 dX5_findBath_8 rfl rfl ⟨rfl, rfl⟩ ⟨Nat.le_of_ble_eq_true rfl, Nat.le_of_ble_eq_true rfl⟩ (Nat.le_of_ble_eq_true rfl) ⟨Nat.le_of_ble_eq_true rfl, Nat.le_of_ble_eq_true rfl⟩) (fun E ce q9 H1 hx9 hz9 ho9 hce hcv hcl => ?_) (fun hp8 => ?_)
  · exact x_pass hout hlocks (hx9) hz9 ho9 hce hcv hcl (by decide) (by decide)
  refine lv_aload_n C.1 C.2.1 dX5_findBath_11 rfl (lv_at hl 0 rfl) ?_
  refine mget C hE hH fl_105 h0 rfl dX5_findBath_12 ?_
  refine lv_iload_n C.1 C.2.1 dX5_findBath_15 rfl (lv_at hl 1 rfl) ?_
  obtain ⟨n9, row9, hd9, hv9, hy9, hk9⟩ := Lst_at hL1 hk hp8.1 hp8.2
  obtain ⟨vs9, he9⟩ := hel _ hk9
  refine rd_go1 (runV C hE hH hS (c_L_get hL0 hd9 (hv9) (hy9) (hp8.1) (hp8.2)) mv_Jx4a65c_get_915e3 wm_361 hL0 rfl rfl hl.1 dX5_findBath_16 rfl rfl ⟨rfl, rfl⟩ ⟨Nat.le_of_ble_eq_true rfl, Nat.le_of_ble_eq_true rfl⟩ (Nat.le_of_ble_eq_true rfl) ⟨Nat.le_of_ble_eq_true rfl, Nat.le_of_ble_eq_true rfl⟩) ?_
  refine va_castS C.1 C.2.1 C.2.2.2.1 (C.2.2.2.2 _ wm_389) (hE.1.1 1 _ rfl).2 (m_recv hE hH he9 (ci := 1) rfl) dX5_findBath_19 ?_
  exact xr_aret C hr hlocks (by first | exact Or.inl ⟨_, rfl⟩ | exact Or.inr ⟨_, rfl⟩) (hp8) (rfl) (by decide) (by decide) dX5_findBath_22
set_option maxHeartbeats 4000000 in
set_option maxRecDepth 100000 in
theorem c_findOrder {l : Launch} {g : gG} {M : Mp} {x eL bL oL wa yf ys bl cl : Nat} {dd k : Nat} {f : Nat → Nat} (hlx : l.stackTraces = false) (h0 : M x = some (eO 6 [.ref eL, .ref bL, .ref oL, .ref wa, .ref yf, .ref ys, .ref bl, .ref cl])) (hL : Lst g M oL dd k f) (hk : k < 2 ^ 31) (hel : ∀ j, j < k → ∃ vs, M (f j) = some (eO 4 vs)) (i : Int32) : vx_Met l yX5_findOrder (WY yX5_findOrder cX5_findOrder 2 (some (.object "DyeRing$Order"))) { frames := 7, cells := 1, slots := 6, locals := 103 } (Wc g M [.ref x, .int i]) (xrQ (¬ i < 0 ∧ i < nI k) (some (.ref (f i.toNatClampNeg)))) (xQ (fun E_ => E_ = xIO ∧ ¬ (¬ i < 0 ∧ i < nI k))) 1 6 fr0 := by
  refine ofX (by decide +kernel) (Nat.le_of_ble_eq_true rfl) (fun p e s m args below meth c ls C hr hlocks hout hE hH hl ea => ?_)
  have hl : lv_has ls 2 [(0, .ref x), (1, .int i)] := hl
  have hS : va_S (gA g) s.heap s.heap [] := va_S.rf
  obtain ⟨md9, hL0, hL1⟩ := hL
  refine lv_iload_n C.1 C.2.1 dX5_findOrder_0 rfl (lv_at hl 1 rfl) ?_
  refine lv_aload_n C.1 C.2.1 dX5_findOrder_1 rfl (lv_at hl 0 rfl) ?_
  refine mget C hE hH fl_106 h0 rfl dX5_findOrder_2 ?_
  refine rd_go1 (runV C hE hH hS (c_L_size hL0) mv_Jx4a65c_size_8abf5 wm_210 hL0 rfl rfl hl.1 dX5_findOrder_5 rfl rfl ⟨rfl, rfl⟩ ⟨Nat.le_of_ble_eq_true rfl, Nat.le_of_ble_eq_true rfl⟩ (Nat.le_of_ble_eq_true rfl) ⟨Nat.le_of_ble_eq_true rfl, Nat.le_of_ble_eq_true rfl⟩) ?_
  refine xr_go0 (xrunS C hE hH hS (c_reqIndex hlx i (nI k)) mv_X5_requireIndex wm_324 hl.1 dX5_findOrder_8 rfl rfl ⟨rfl, rfl⟩ ⟨Nat.le_of_ble_eq_true rfl, Nat.le_of_ble_eq_true rfl⟩ (Nat.le_of_ble_eq_true rfl) ⟨Nat.le_of_ble_eq_true rfl, Nat.le_of_ble_eq_true rfl⟩) (fun E ce q9 H1 hx9 hz9 ho9 hce hcv hcl => ?_) (fun hp8 => ?_)
  · exact x_pass hout hlocks (hx9) hz9 ho9 hce hcv hcl (by decide) (by decide)
  refine lv_aload_n C.1 C.2.1 dX5_findOrder_11 rfl (lv_at hl 0 rfl) ?_
  refine mget C hE hH fl_106 h0 rfl dX5_findOrder_12 ?_
  refine lv_iload_n C.1 C.2.1 dX5_findOrder_15 rfl (lv_at hl 1 rfl) ?_
  obtain ⟨n9, row9, hd9, hv9, hy9, hk9⟩ := Lst_at hL1 hk hp8.1 hp8.2
  obtain ⟨vs9, he9⟩ := hel _ hk9
  refine rd_go1 (runV C hE hH hS (c_L_get hL0 hd9 (hv9) (hy9) (hp8.1) (hp8.2)) mv_Jx4a65c_get_915e3 wm_361 hL0 rfl rfl hl.1 dX5_findOrder_16 rfl rfl ⟨rfl, rfl⟩ ⟨Nat.le_of_ble_eq_true rfl, Nat.le_of_ble_eq_true rfl⟩ (Nat.le_of_ble_eq_true rfl) ⟨Nat.le_of_ble_eq_true rfl, Nat.le_of_ble_eq_true rfl⟩) ?_
  refine va_castS C.1 C.2.1 C.2.2.2.1 (C.2.2.2.2 _ wm_447) (hE.1.1 4 _ rfl).2 (m_recv hE hH he9 (ci := 4) rfl) dX5_findOrder_19 ?_
  exact xr_aret C hr hlocks (by first | exact Or.inl ⟨_, rfl⟩ | exact Or.inr ⟨_, rfl⟩) (hp8) (rfl) (by decide) (by decide) dX5_findOrder_22
theorem Met_imp {l : Launch} {y : MethodName} {ws : List Cond} {rm : Room} {Pc : Array Value → State → Prop} {Qc Qd : Array Value → State → Outcome → State → Prop} {mc ms : Nat} {free : Addr → Prop} (h : Met l y ws rm Pc Qc mc ms free) (hq : ∀ a s o t, Qc a s o t → Qd a s o t) : Met l y ws rm Pc Qd mc ms free := by
  intro p e h1 h2 h3 s m args below h4 h5 h6 h7
  obtain ⟨n, o, a1, a2, a3, a4, a5⟩ := h p e h1 h2 h3 s m args below h4 h5 h6 h7
  exact ⟨n, o, a1, a2, a3, hq _ _ _ _ a4, a5⟩
theorem wrQ_imp {S : Type} {g : gG} {vf : S → Option Value} {P P' : S → Mp → Prop} (h : ∀ u M', P u M' → P' u M') : ∀ a s o t, wrQ g vf P a s o t → wrQ g vf P' a s o t := fun _ _ _ _ ⟨⟨u, M', h1, h2, h3⟩, h4⟩ => ⟨⟨u, M', h1, h _ _ h2, h3⟩, h4⟩
def ladd (g : gG) (M : Mp) (a d k v : Nat) (f : Nat → Nat) (M' : Mp) : Prop := ∃ d', Lst g M' a d' (k + 1) (va_up f k v) ∧ (∀ b, b ≠ a → b ≠ d' → M' b = M b) ∧ (d' = d ∨ (M d' = none ∧ g.1 ≤ d'))
theorem ladd_of {g : gG} {M M' : Mp} {a v k d : Nat} {md : Int32} {row : Nat → Option Nat} {f : Nat → Nat} (h : padd g M a v k md d row M') (hf : ∀ j, j < k → row j = some (f j)) : ladd g M a d k v f M' := by
  obtain ⟨d', n', row', h1, h2, h3, h4, h5, h6, h7, h8⟩ := h
  refine ⟨d', ⟨md, h1, Or.inr ⟨n', row', h2, h3, by omega, h4, fun j hj => ?_⟩⟩, h7, h8⟩
  unfold va_up
  by_cases e : j = k
  · rw [if_pos e, e]; exact h6
  · rw [if_neg e, h5 j (by omega)]; exact hf j (by omega)
theorem c_add {l : Launch} {g : gG} {M : Mp} {a d k v ci : Nat} {f : Nat → Nat} {r : vw_C} {vs : List Value} (hL : Lst g M a d k f) (hk : k ≤ 100) (hv : M v = some (eO ci vs)) (hc : vwCl[ci]? = some r) (hcaS : ∀ s : State, gE g s → va_Nw (.castable r.1 "java/lang/Object") s) (hci : ci ≠ 0) (hel : ∀ j, j < k → ∃ vs, M (f j) = some (eO ci vs)) : Met l yJx4a65c_add_9ea2d (WY yJx4a65c_add_9ea2d cJx4a65c_add_9ea2d 2 (some .boolean)) { frames := 6, cells := 1, slots := 200, locals := 170 } (Wc g M [.ref a, .ref v]) (wrQ (S := Unit) g (fun u_ => (some (.int 1))) (fun u_ M_ => ladd g M a d k v f M_)) 1 200 (gA g) := by
  obtain ⟨md, h0, ⟨rfl, rfl, -⟩ | ⟨n, row, h1, h2, h3, h4, h5⟩⟩ := hL
  · exact Met_imp (c_addB h0 hv hc hcaS hci) (wrQ_imp (fun u M' h => ladd_of h (fun j hj => absurd hj (Nat.not_lt_zero j))))
  · rcases Nat.lt_or_ge k n with q | q
    · exact Met_imp (c_addA h0 h1 hv hc hcaS hci ⟨q, by omega⟩ h4) (wrQ_imp (fun u M' h => ladd_of h h5))
    · have e : k = n := by omega
      subst e
      exact Met_imp (c_addC h0 h1 hv ⟨h3, hk⟩ hc hcaS hci (fun j hj => by obtain ⟨vs2, e2⟩ := hel j hj; exact ⟨f j, vs2, h5 j hj, e2⟩)) (wrQ_imp (fun u M' h => ladd_of h h5))
theorem ladd_keep {g : gG} {M M' : Mp} {a d k v b : Nat} {f : Nat → Nat} {x : va_E} (hL : Lst g M a d k f) (h : ∃ d', Lst g M' a d' (k + 1) (va_up f k v) ∧ (∀ b, b ≠ a → b ≠ d' → M' b = M b) ∧ (d' = d ∨ (M d' = none ∧ g.1 ≤ d'))) (hb : M b = some x) (hx : ∀ fs, x ≠ eO 0 fs) (hx2 : ∀ n r, x ≠ eQ g 2 n r) : M' b = some x := by
  obtain ⟨d', -, h2, h3⟩ := h
  obtain ⟨md, h0, hL⟩ := hL
  refine (h2 b (m_ne hb h0 (hx _)) ?_).trans hb
  rcases h3 with rfl | ⟨h3, -⟩
  · rcases hL with ⟨-, -, hn⟩ | ⟨n, row, hn, -⟩
    · exact m_new hn hb
    · exact m_ne hb hn (hx2 _ _)
  · exact m_new h3 hb
end
section
/-! THE RING'S OWN WORKERS -/
theorem bI_z {Q : Prop} [Decidable Q] : bI (decide Q) = 0 ↔ ¬ Q := by
  by_cases h : Q
  · rw [← bI_t h]; exact ⟨fun z => absurd z (by decide), fun z => absurd h z⟩
  · rw [← bI_f h]; exact ⟨fun _ => h, fun _ => rfl⟩
theorem bI_nz {Q : Prop} [Decidable Q] (h : ¬ bI (decide Q) = 0) : Q := Decidable.not_not.mp (fun z => h (bI_z.mpr z))
theorem bI_z2 {b : Bool} : bI b = 0 ↔ b = false := by cases b <;> simp [bI]
theorem Lst_nI {g : gG} {M : Mp} {a d k : Nat} {f : Nat → Nat} {j : Nat} (h : Lst g M a d k f) (hk : k < 2 ^ 31) (hj : j < k) : ∃ (n : Nat) (row : Nat → Option Nat), M d = some (eQ g 2 n row) ∧ vp_in (nI j) n ∧ row (nI j).toNatClampNeg = some (f j) := by
  obtain ⟨md, -, h⟩ := h
  obtain ⟨n, row, h1, h2, h3, -⟩ := Lst_at h hk (nI_pos (by omega)) ((nI_ltI (by omega) hk).mpr hj)
  rw [nI_clamp (by omega)] at h3
  exact ⟨n, row, h1, h2, by rw [nI_clamp (by omega)]; exact h3⟩
/-- the bath that is right and weakest, the lowest of several -/
def zbest (rt : Nat → Bool) (st : Nat → Int32) : Nat → Int32 × Int32
  | 0 => (-1, 101)
  | i + 1 => if st i < (zbest rt st i).2 ∧ rt i = true then (nI i, st i) else zbest rt st i
/-- the strength behind i pieces; and what the next one meets -/
def zst (pr : Nat → Bool) (pw : Nat → Int32) : Nat → Int32
  | 0 => 100
  | i + 1 => zw (if pr i = true then 100 else zst pr pw i) (pw i)
def zat (pr : Nat → Bool) (pw : Nat → Int32) (i : Nat) : Int32 := if pr i = true then 100 else zst pr pw i
set_option maxHeartbeats 4000000 in
set_option maxRecDepth 100000 in
theorem c_isRight {l : Launch} {g : gG} {M : Mp} {x eL bL oL wa yf ys bl cl : Nat} {b o : Nat} {on ow oy oc : Int32} {oe : Nat} {pv : Value}{bd : Int32} {be : Nat} {bs : Int32} {br : Bool} {bp : Nat} {n f h t n8 f8 q8 t8 : Int32} {fw ff fs : Nat → Int32} (h0 : M x = some (eO 6 [.ref eL, .ref bL, .ref oL, .ref wa, .ref yf, .ref ys, .ref bl, .ref cl])) (h1 : M b = some (eO 1 [.int bd, .ref be, .int bs, .int (bI br), .ref bp])) (h2 : M o = some (eO 4 [.int on, .ref oe, .int ow, .int oy, pv, .int oc])) (h3 : M be = some (eO 3 [.int n, .int f, .int h, .int t])) (h4 : M oe = some (eO 3 [.int n8, .int f8, .int q8, .int t8])) (h5 : M wa = some (eI g 3 fw)) (h6 : M yf = some (eI g 4 ff)) (h7 : M ys = some (eI g 4 fs)) (hbd : vp_in bd 3) (hoy : vp_in oy 4) : Met l yX5_isRight (WY yX5_isRight cX5_isRight 4 (some .boolean)) { frames := 3, cells := 0, slots := 0, locals := 60 } (Wc g M [.ref x, .ref b, .ref o]) (rdQ (some (.int (bI (decide (n = n8 ∧ zod f h bs (fw bd.toNatClampNeg) (ff oy.toNatClampNeg) (fs oy.toNatClampNeg) ≤ t)))))) 0 0 fr0 := by
  refine ofM (by decide +kernel) (Nat.le_of_ble_eq_true rfl) (fun p e s m args below meth c ls C hr hlocks hin hE hH hl ea => ?_)
  have hl : lv_has ls 4 [(0, .ref x), (1, .ref b), (2, .ref o)] := hl
  have hS : va_S (gA g) s.heap s.heap [] := va_S.rf
  refine lv_aload_n C.1 C.2.1 dX5_isRight_0 rfl (lv_at hl 1 rfl) ?_
  refine lv_aload_n C.1 C.2.1 dX5_isRight_1 rfl (lv_at hl 2 rfl) ?_
  refine mget C hE hH fl_457 h2 rfl dX5_isRight_2 ?_
  refine rd_go1 (runV C hE hH hS (c_B_isFor h1 h3 h4) mv_X0_isFor wm_501 h1 rfl rfl hl.1 dX5_isRight_5 rfl rfl ⟨rfl, rfl⟩ ⟨Nat.le_of_ble_eq_true rfl, Nat.le_of_ble_eq_true rfl⟩ (Nat.le_of_ble_eq_true rfl) ⟨Nat.le_of_ble_eq_true rfl, Nat.le_of_ble_eq_true rfl⟩) ?_
  refine lv_if_ne (tgt := 13) C.1 C.2.1 dX5_isRight_8 (by decide) (fun c8 => ?_) (fun c8 => ?_)
  · refine lv_aload_n C.1 C.2.1 dX5_isRight_13 rfl (lv_at hl 1 rfl) ?_
    refine mget C hE hH fl_400 h1 rfl dX5_isRight_14 ?_
    refine lv_aload_n C.1 C.2.1 dX5_isRight_17 rfl (lv_at hl 1 rfl) ?_
    refine mget C hE hH fl_403 h1 rfl dX5_isRight_18 ?_
    refine lv_aload_n C.1 C.2.1 dX5_isRight_21 rfl (lv_at hl 0 rfl) ?_
    refine mget C hE hH fl_107 h0 rfl dX5_isRight_22 ?_
    refine lv_aload_n C.1 C.2.1 dX5_isRight_25 rfl (lv_at hl 1 rfl) ?_
    refine mget C hE hH fl_398 h1 rfl dX5_isRight_26 ?_
    refine mald C hE hH h5 hbd dX5_isRight_29 ?_
    refine lv_aload_n C.1 C.2.1 dX5_isRight_30 rfl (lv_at hl 0 rfl) ?_
    refine mget C hE hH fl_108 h0 rfl dX5_isRight_31 ?_
    refine lv_aload_n C.1 C.2.1 dX5_isRight_34 rfl (lv_at hl 2 rfl) ?_
    refine mget C hE hH fl_461 h2 rfl dX5_isRight_35 ?_
    refine mald C hE hH h6 hoy dX5_isRight_38 ?_
    refine lv_aload_n C.1 C.2.1 dX5_isRight_39 rfl (lv_at hl 0 rfl) ?_
    refine mget C hE hH fl_109 h0 rfl dX5_isRight_40 ?_
    refine lv_aload_n C.1 C.2.1 dX5_isRight_43 rfl (lv_at hl 2 rfl) ?_
    refine mget C hE hH fl_461 h2 rfl dX5_isRight_44 ?_
    refine mald C hE hH h7 hoy dX5_isRight_47 ?_
    refine rd_go1 (runV C hE hH hS (c_E_distanceOfDyed h3 bs (fw bd.toNatClampNeg) (ff oy.toNatClampNeg) (fs oy.toNatClampNeg)) mv_X2_distanceOfDyed wm_505 h3 rfl rfl hl.1 dX5_isRight_48 rfl rfl ⟨rfl, rfl⟩ ⟨Nat.le_of_ble_eq_true rfl, Nat.le_of_ble_eq_true rfl⟩ (Nat.le_of_ble_eq_true rfl) ⟨Nat.le_of_ble_eq_true rfl, Nat.le_of_ble_eq_true rfl⟩) ?_
    refine lv_topi (fun x1 ex1 => ?_)
    refine lv_istore_n (lv' := [(3, .int x1), (0, .ref x), (1, .ref b), (2, .ref o)]) C.1 C.2.1 dX5_isRight_51 rfl hl (by decide) rfl (fun ls hl => ?_)
    refine lv_iload_n C.1 C.2.1 dX5_isRight_52 rfl (lv_at hl 0 rfl) ?_
    refine lv_aload_n C.1 C.2.1 dX5_isRight_53 rfl (lv_at hl 2 rfl) ?_
    refine mget C hE hH fl_400 h1 rfl dX5_isRight_54 ?_
    refine mget C hE hH fl_247 h3 rfl dX5_isRight_57 ?_
    refine lv_icmp_gt (tgt := 67) C.1 C.2.1 dX5_isRight_60 (by decide) (fun c60 => ?_) (fun c60 => ?_)
    · refine lv_iconst (v := 0) C.1 C.2.1 dX5_isRight_67 rfl ?_
      exact rd_zret C hr hlocks (rfl) (bI_f (fun z => absurd c60 (Int32.not_lt.mpr (by rw [ex1]; exact z.2)))) dX5_isRight_68
    · refine lv_iconst (v := 1) C.1 C.2.1 dX5_isRight_63 rfl ?_
      refine lv_goto (tgt := 68) C.1 C.2.1 dX5_isRight_64 (by decide) ?_
      exact rd_zret C hr hlocks (rfl) (bI_t ⟨bI_nz c8, by rw [← ex1]; exact Int32.not_lt.mp c60⟩) dX5_isRight_68
  · refine lv_iconst (v := 0) C.1 C.2.1 dX5_isRight_11 rfl ?_
    exact rd_zret C hr hlocks (rfl) (bI_f (fun z => bI_z.mp c8 z.1)) dX5_isRight_12
set_option maxHeartbeats 4000000 in
set_option maxRecDepth 100000 in
theorem c_weakest {l : Launch} {g : gG} {M : Mp} {x eL bL oL wa yf ys bl cl : Nat} {o dd k : Nat} {f be bp : Nat → Nat} {bd bs bn bf bh bt : Nat → Int32} {br : Nat → Bool} {on ow oy oc : Int32} {oe : Nat} {pv : Value} {n8 f8 q8 t8 : Int32} {fw ff fs : Nat → Int32} (h0 : M x = some (eO 6 [.ref eL, .ref bL, .ref oL, .ref wa, .ref yf, .ref ys, .ref bl, .ref cl])) (h1 : M o = some (eO 4 [.int on, .ref oe, .int ow, .int oy, pv, .int oc])) (h2 : M oe = some (eO 3 [.int n8, .int f8, .int q8, .int t8])) (h3 : M wa = some (eI g 3 fw)) (h4 : M yf = some (eI g 4 ff)) (h5 : M ys = some (eI g 4 fs)) (hL : Lst g M bL dd k f) (hk : k < 2 ^ 31) (hB : ∀ i, i < k → M (f i) = some (eO 1 [.int (bd i), .ref (be i), .int (bs i), .int (bI (br i)), .ref (bp i)])) (hEn : ∀ i, i < k → M (be i) = some (eO 3 [.int (bn i), .int (bf i), .int (bh i), .int (bt i)])) (hbd : ∀ i, i < k → vp_in (bd i) 3) (hoy : vp_in oy 4) : Met l yX5_weakestRightBath (WY yX5_weakestRightBath cX5_weakestRightBath 6 (some .int)) { frames := 4, cells := 0, slots := 0, locals := 83 } (Wc g M [.ref x, .ref o]) (rdQ (some (.int ((zbest (fun i => decide (bn i = n8 ∧ zod (bf i) (bh i) (bs i) (fw (bd i).toNatClampNeg) (ff oy.toNatClampNeg) (fs oy.toNatClampNeg) ≤ bt i)) bs k).1)))) 0 0 fr0 := by
  refine ofM (by decide +kernel) (Nat.le_of_ble_eq_true rfl) (fun p e s m args below meth c ls C hr hlocks hin hE hH hl ea => ?_)
  have hl : lv_has ls 6 [(0, .ref x), (1, .ref o)] := hl
  have hS : va_S (gA g) s.heap s.heap [] := va_S.rf
  obtain ⟨md9, hL0, hL1⟩ := id hL
  refine lv_iconst (v := -1) C.1 C.2.1 dX5_weakestRightBath_0 rfl ?_
  refine lv_istore_n (lv' := [(2, .int (-1)), (0, .ref x), (1, .ref o)]) C.1 C.2.1 dX5_weakestRightBath_1 rfl hl (by decide) rfl (fun ls hl => ?_)
  refine lv_bipush (v := 101) C.1 C.2.1 dX5_weakestRightBath_2 rfl ?_
  refine lv_istore_n (lv' := [(3, .int 101), (2, .int (-1)), (0, .ref x), (1, .ref o)]) C.1 C.2.1 dX5_weakestRightBath_4 rfl hl (by decide) rfl (fun ls hl => ?_)
  refine lv_iconst (v := 0) C.1 C.2.1 dX5_weakestRightBath_5 rfl ?_
  refine lv_istore (lv' := [(4, .int 0), (3, .int 101), (2, .int (-1)), (0, .ref x), (1, .ref o)]) C.1 C.2.1 dX5_weakestRightBath_6 hl (by decide) rfl (fun ls hl => ?_)
  have loop8 : ∀ (fu : Nat) (i : Nat) (b2 b3 : Int32), (i ≤ k) → (k < i + fu) → (b2 = (zbest (fun i => decide (bn i = n8 ∧ zod (bf i) (bh i) (bs i) (fw (bd i).toNatClampNeg) (ff oy.toNatClampNeg) (fs oy.toNatClampNeg) ≤ bt i)) bs i).1) → (b3 = (zbest (fun i => decide (bn i = n8 ∧ zod (bf i) (bh i) (bs i) (fw (bd i).toNatClampNeg) (ff oy.toNatClampNeg) (fs oy.toNatClampNeg) ≤ bt i)) bs i).2) →  ∀ (ls : Array Slot), lv_has ls 6 [(0, .ref x), (1, .ref o), (2, .int b2), (3, .int b3), (4, .int (nI i))] → W p l e { frames := 4, cells := 0, slots := 0, locals := 83 } s m args below meth c s.heap [] 0 0 (MQ below (rdQ (some (.int ((zbest (fun i => decide (bn i = n8 ∧ zod (bf i) (bh i) (bs i) (fw (bd i).toNatClampNeg) (ff oy.toNatClampNeg) (fs oy.toNatClampNeg) ≤ bt i)) bs k).1)))) args s 0 0 fr0) (F0 m 8 ls []) := by
    intro fu
    induction fu with
    | zero => intro i b2 b3 hi hfu hw1 hw2; exact absurd hfu (by omega)
    | succ fu ih =>
      intro i b2 b3 hi hfu hw1 hw2 ls hl
      refine lv_iload C.1 C.2.1 dX5_weakestRightBath_8 (lv_at hl 4 rfl) ?_
      refine lv_aload_n C.1 C.2.1 dX5_weakestRightBath_10 rfl (lv_at hl 0 rfl) ?_
      refine mget C hE hH fl_105 h0 rfl dX5_weakestRightBath_11 ?_
      refine rd_go1 (runV C hE hH hS (c_L_size hL0) mv_Jx4a65c_size_8abf5 wm_210 hL0 rfl rfl hl.1 dX5_weakestRightBath_14 rfl rfl ⟨rfl, rfl⟩ ⟨Nat.le_of_ble_eq_true rfl, Nat.le_of_ble_eq_true rfl⟩ (Nat.le_of_ble_eq_true rfl) ⟨Nat.le_of_ble_eq_true rfl, Nat.le_of_ble_eq_true rfl⟩) ?_
      refine lv_icmp_ge (tgt := 68) C.1 C.2.1 dX5_weakestRightBath_17 (by decide) (fun c17 => ?_) (fun c17 => ?_)
      · refine lv_iload_n C.1 C.2.1 dX5_weakestRightBath_68 rfl (lv_at hl 2 rfl) ?_
        exact rd_iret C hr hlocks (by rw [hw1, show i = k from Nat.le_antisymm hi (Nat.not_lt.mp (fun z => absurd ((nI_ltI (by omega) hk).mpr z) (Int32.not_lt.mpr c17)))]) dX5_weakestRightBath_69
      · refine lv_aload_n C.1 C.2.1 dX5_weakestRightBath_20 rfl (lv_at hl 0 rfl) ?_
        refine mget C hE hH fl_105 h0 rfl dX5_weakestRightBath_21 ?_
        refine lv_iload C.1 C.2.1 dX5_weakestRightBath_24 (lv_at hl 4 rfl) ?_
        have hi9 : i < k := (nI_ltI (by omega) hk).mp (Int32.not_le.mp c17)
        obtain ⟨n9, row9, hd9, hv9, hy9⟩ := Lst_nI hL hk hi9
        have hB9 := hB i hi9
        have hEn9 := hEn i hi9
        refine rd_go1 (runV C hE hH hS (c_L_get hL0 hd9 (hv9) (hy9) (nI_pos (by omega)) ((nI_ltI (by omega) hk).mpr hi9)) mv_Jx4a65c_get_915e3 wm_361 hL0 rfl rfl hl.1 dX5_weakestRightBath_26 rfl rfl ⟨rfl, rfl⟩ ⟨Nat.le_of_ble_eq_true rfl, Nat.le_of_ble_eq_true rfl⟩ (Nat.le_of_ble_eq_true rfl) ⟨Nat.le_of_ble_eq_true rfl, Nat.le_of_ble_eq_true rfl⟩) ?_
        refine va_castS C.1 C.2.1 C.2.2.2.1 (C.2.2.2.2 _ wm_389) (hE.1.1 1 _ rfl).2 (m_recv hE hH hB9 (ci := 1) rfl) dX5_weakestRightBath_29 ?_
        refine lv_astore (lv' := [(5, .ref (f i)), (0, .ref x), (1, .ref o), (2, .int b2), (3, .int b3), (4, .int (nI i))]) C.1 C.2.1 dX5_weakestRightBath_32 hl (by decide) rfl (fun ls hl => ?_)
        refine lv_aload C.1 C.2.1 dX5_weakestRightBath_34 (lv_at hl 0 rfl) ?_
        refine mget C hE hH fl_403 hB9 rfl dX5_weakestRightBath_36 ?_
        refine lv_iload_n C.1 C.2.1 dX5_weakestRightBath_39 rfl (lv_at hl 4 rfl) ?_
        refine lv_icmp_ge (tgt := 62) C.1 C.2.1 dX5_weakestRightBath_40 (by decide) (fun c40 => ?_) (fun c40 => ?_)
        · refine lv_iinc (v := nI (i + 1)) (lv' := [(4, .int (nI (i + 1))), (5, .ref (f i)), (0, .ref x), (1, .ref o), (2, .int b2), (3, .int b3)]) C.1 C.2.1 dX5_weakestRightBath_62 hl (k := 5) rfl (nI_1 i) (by decide) rfl (fun ls hl => ?_)
          refine lv_goto (tgt := 8) C.1 C.2.1 dX5_weakestRightBath_65 (by decide) ?_
          exact ih (i + 1) b2 b3 (by omega) (by omega) (by rw [zbest, if_neg (fun z => absurd z.1 (Int32.not_lt.mpr (by rw [← hw2]; exact c40)))]; exact hw1) (by rw [zbest, if_neg (fun z => absurd z.1 (Int32.not_lt.mpr (by rw [← hw2]; exact c40)))]; exact hw2) ls (lv_sub hl [2, 3, 4, 5, 0] rfl)
        · refine lv_aload_n C.1 C.2.1 dX5_weakestRightBath_43 rfl (lv_at hl 1 rfl) ?_
          refine lv_aload C.1 C.2.1 dX5_weakestRightBath_44 (lv_at hl 0 rfl) ?_
          refine lv_aload_n C.1 C.2.1 dX5_weakestRightBath_46 rfl (lv_at hl 2 rfl) ?_
          refine rd_go1 (runV C hE hH hS (c_isRight h0 hB9 h1 hEn9 h2 h3 h4 h5 (hbd i hi9) (hoy)) mv_X5_isRight wm_497 h0 rfl rfl hl.1 dX5_weakestRightBath_47 rfl rfl ⟨rfl, rfl⟩ ⟨Nat.le_of_ble_eq_true rfl, Nat.le_of_ble_eq_true rfl⟩ (Nat.le_of_ble_eq_true rfl) ⟨Nat.le_of_ble_eq_true rfl, Nat.le_of_ble_eq_true rfl⟩) ?_
          refine lv_if_eq (tgt := 62) C.1 C.2.1 dX5_weakestRightBath_50 (by decide) (fun c50 => ?_) (fun c50 => ?_)
          · refine lv_iinc (v := nI (i + 1)) (lv' := [(4, .int (nI (i + 1))), (5, .ref (f i)), (0, .ref x), (1, .ref o), (2, .int b2), (3, .int b3)]) C.1 C.2.1 dX5_weakestRightBath_62 hl (k := 5) rfl (nI_1 i) (by decide) rfl (fun ls hl => ?_)
            refine lv_goto (tgt := 8) C.1 C.2.1 dX5_weakestRightBath_65 (by decide) ?_
            exact ih (i + 1) b2 b3 (by omega) (by omega) (by rw [zbest, if_neg (fun z => bI_z.mp c50 (of_decide_eq_true z.2))]; exact hw1) (by rw [zbest, if_neg (fun z => bI_z.mp c50 (of_decide_eq_true z.2))]; exact hw2) ls (lv_sub hl [2, 3, 4, 5, 0] rfl)
          · refine lv_iload C.1 C.2.1 dX5_weakestRightBath_53 (lv_at hl 5 rfl) ?_
            refine lv_istore_n (lv' := [(2, .int (nI i)), (5, .ref (f i)), (0, .ref x), (1, .ref o), (3, .int b3), (4, .int (nI i))]) C.1 C.2.1 dX5_weakestRightBath_55 rfl hl (by decide) rfl (fun ls hl => ?_)
            refine lv_aload C.1 C.2.1 dX5_weakestRightBath_56 (lv_at hl 1 rfl) ?_
            refine mget C hE hH fl_403 hB9 rfl dX5_weakestRightBath_58 ?_
            refine lv_istore_n (lv' := [(3, .int (bs i)), (2, .int (nI i)), (5, .ref (f i)), (0, .ref x), (1, .ref o), (4, .int (nI i))]) C.1 C.2.1 dX5_weakestRightBath_61 rfl hl (by decide) rfl (fun ls hl => ?_)
            refine lv_iinc (v := nI (i + 1)) (lv' := [(4, .int (nI (i + 1))), (3, .int (bs i)), (2, .int (nI i)), (5, .ref (f i)), (0, .ref x), (1, .ref o)]) C.1 C.2.1 dX5_weakestRightBath_62 hl (k := 5) rfl (nI_1 i) (by decide) rfl (fun ls hl => ?_)
            refine lv_goto (tgt := 8) C.1 C.2.1 dX5_weakestRightBath_65 (by decide) ?_
            exact ih (i + 1) (nI i) (bs i) (by omega) (by omega) (by rw [zbest, if_pos ⟨by rw [← hw2]; exact Int32.not_le.mp c40, decide_eq_true (bI_nz c50)⟩]) (by rw [zbest, if_pos ⟨by rw [← hw2]; exact Int32.not_le.mp c40, decide_eq_true (bI_nz c50)⟩]) ls (lv_sub hl [4, 5, 2, 1, 0] rfl)
  exact loop8 (k + 1) 0 (-1) 101 (Nat.zero_le k) (by omega) (rfl) (rfl) _ (lv_sub hl [3, 4, 2, 1, 0] rfl)
set_option maxHeartbeats 4000000 in
set_option maxRecDepth 100000 in
theorem c_followedTo {l : Launch} {g : gG} {M : Mp} {a dd k j0 : Nat} {x : Int32} {f pe pb : Nat → Nat} {pn pw ps wt y1 y2 : Nat → Int32} {pr : Nat → Bool} {bd : Int32} {be : Nat} {bs : Int32} {br : Bool} {bp : Nat} (h0 : M a = some (eO 1 [.int bd, .ref be, .int bs, .int (bI br), .ref bp])) (hL : Lst g M bp dd k f) (hk : k < 2 ^ 31) (hP : ∀ i, i < k → M (f i) = some (eO 5 [.int (pn i), .ref (pe i), .int (pw i), .ref (pb i), .int (bI (pr i)), .int (ps i), .int (wt i), .int (y1 i), .int (y2 i)])) (hj : j0 < k) (he : pn j0 = x) (hne : ∀ j, j < j0 → pn j ≠ x) : Met l yX0_followedTo (WY yX0_followedTo cX0_followedTo 5 (some .int)) { frames := 3, cells := 0, slots := 0, locals := 64 } (Wc g M [.ref a, .int x]) (rdQ (some (.int (zat pr pw j0)))) 0 0 fr0 := by
  refine ofM (by decide +kernel) (Nat.le_of_ble_eq_true rfl) (fun p e s m args below meth c ls C hr hlocks hin hE hH hl ea => ?_)
  have hl : lv_has ls 5 [(0, .ref a), (1, .int x)] := hl
  have hS : va_S (gA g) s.heap s.heap [] := va_S.rf
  obtain ⟨md9, hL0, hL1⟩ := id hL
  refine lv_bipush (v := 100) C.1 C.2.1 dX0_followedTo_0 rfl ?_
  refine lv_istore_n (lv' := [(2, .int 100), (0, .ref a), (1, .int x)]) C.1 C.2.1 dX0_followedTo_2 rfl hl (by decide) rfl (fun ls hl => ?_)
  refine lv_iconst (v := 0) C.1 C.2.1 dX0_followedTo_3 rfl ?_
  refine lv_istore_n (lv' := [(3, .int 0), (2, .int 100), (0, .ref a), (1, .int x)]) C.1 C.2.1 dX0_followedTo_4 rfl hl (by decide) rfl (fun ls hl => ?_)
  have loop5 : ∀ (fu : Nat) (i : Nat) (b2 : Int32), (i ≤ j0) → (k < i + fu) → (b2 = zst pr pw i) →  ∀ (ls : Array Slot), lv_has ls 5 [(0, .ref a), (1, .int x), (2, .int b2), (3, .int (nI i))] → W p l e { frames := 3, cells := 0, slots := 0, locals := 64 } s m args below meth c s.heap [] 0 0 (MQ below (rdQ (some (.int (zat pr pw j0)))) args s 0 0 fr0) (F0 m 5 ls []) := by
    intro fu
    induction fu with
    | zero => intro i b2 hi hfu hst; exact absurd hfu (by omega)
    | succ fu ih =>
      intro i b2 hi hfu hst ls hl
      refine lv_iload_n C.1 C.2.1 dX0_followedTo_5 rfl (lv_at hl 3 rfl) ?_
      refine lv_aload_n C.1 C.2.1 dX0_followedTo_6 rfl (lv_at hl 0 rfl) ?_
      refine mget C hE hH fl_406 h0 rfl dX0_followedTo_7 ?_
      refine rd_go1 (runV C hE hH hS (c_L_size hL0) mv_Jx4a65c_size_8abf5 wm_651 hL0 rfl rfl hl.1 dX0_followedTo_10 rfl rfl ⟨rfl, rfl⟩ ⟨Nat.le_of_ble_eq_true rfl, Nat.le_of_ble_eq_true rfl⟩ (Nat.le_of_ble_eq_true rfl) ⟨Nat.le_of_ble_eq_true rfl, Nat.le_of_ble_eq_true rfl⟩) ?_
      refine lv_icmp_ge (tgt := 67) C.1 C.2.1 dX0_followedTo_13 (by decide) (fun c13 => ?_) (fun c13 => ?_)
      · exact absurd ((nI_leI (by omega) (by omega)).mp c13) (by omega)
      · refine lv_aload_n C.1 C.2.1 dX0_followedTo_16 rfl (lv_at hl 0 rfl) ?_
        refine mget C hE hH fl_406 h0 rfl dX0_followedTo_17 ?_
        refine lv_iload_n C.1 C.2.1 dX0_followedTo_20 rfl (lv_at hl 3 rfl) ?_
        have hi9 : i < k := by omega
        obtain ⟨n9, row9, hd9, hv9, hy9⟩ := Lst_nI hL hk hi9
        have hP9 := hP i hi9
        refine rd_go1 (runV C hE hH hS (c_L_get hL0 hd9 (hv9) (hy9) (nI_pos (by omega)) ((nI_ltI (by omega) hk).mpr hi9)) mv_Jx4a65c_get_915e3 wm_652 hL0 rfl rfl hl.1 dX0_followedTo_21 rfl rfl ⟨rfl, rfl⟩ ⟨Nat.le_of_ble_eq_true rfl, Nat.le_of_ble_eq_true rfl⟩ (Nat.le_of_ble_eq_true rfl) ⟨Nat.le_of_ble_eq_true rfl, Nat.le_of_ble_eq_true rfl⟩) ?_
        refine va_castS C.1 C.2.1 C.2.2.2.1 (C.2.2.2.2 _ wm_653) (hE.1.1 5 _ rfl).2 (m_recv hE hH hP9 (ci := 5) rfl) dX0_followedTo_24 ?_
        refine lv_astore (lv' := [(4, .ref (f i)), (0, .ref a), (1, .int x), (2, .int b2), (3, .int (nI i))]) C.1 C.2.1 dX0_followedTo_27 hl (by decide) rfl (fun ls hl => ?_)
        refine lv_aload C.1 C.2.1 dX0_followedTo_29 (lv_at hl 0 rfl) ?_
        refine mget C hE hH fl_552 hP9 rfl dX0_followedTo_31 ?_
        refine lv_if_eq (tgt := 40) C.1 C.2.1 dX0_followedTo_34 (by decide) (fun c34 => ?_) (fun c34 => ?_)
        · refine lv_aload C.1 C.2.1 dX0_followedTo_40 (lv_at hl 0 rfl) ?_
          refine mget C hE hH fl_545 hP9 rfl dX0_followedTo_42 ?_
          refine lv_iload_n C.1 C.2.1 dX0_followedTo_45 rfl (lv_at hl 2 rfl) ?_
          refine lv_icmp_ne (tgt := 51) C.1 C.2.1 dX0_followedTo_46 (by decide) (fun c46 => ?_) (fun c46 => ?_)
          · refine lv_iload_n C.1 C.2.1 dX0_followedTo_51 rfl (lv_at hl 3 rfl) ?_
            refine lv_aload C.1 C.2.1 dX0_followedTo_52 (lv_at hl 0 rfl) ?_
            refine mget C hE hH fl_548 hP9 rfl dX0_followedTo_54 ?_
            refine rd_go1 (runSN C hE hH hS (c_weakened b2 (pw i)) mv_X5_weakened hE.2.2.2.2.2.2.2.2.1.2 hl.1 dX0_followedTo_57 rfl rfl ⟨rfl, rfl⟩ ⟨Nat.le_of_ble_eq_true rfl, Nat.le_of_ble_eq_true rfl⟩ (Nat.le_of_ble_eq_true rfl) ⟨Nat.le_of_ble_eq_true rfl, Nat.le_of_ble_eq_true rfl⟩) ?_
            refine lv_istore_n (lv' := [(2, .int (zw b2 (pw i))), (4, .ref (f i)), (0, .ref a), (1, .int x), (3, .int (nI i))]) C.1 C.2.1 dX0_followedTo_60 rfl hl (by decide) rfl (fun ls hl => ?_)
            refine lv_iinc (v := nI (i + 1)) (lv' := [(3, .int (nI (i + 1))), (2, .int (zw b2 (pw i))), (4, .ref (f i)), (0, .ref a), (1, .int x)]) C.1 C.2.1 dX0_followedTo_61 hl (k := 4) rfl (nI_1 i) (by decide) rfl (fun ls hl => ?_)
            refine lv_goto (tgt := 5) C.1 C.2.1 dX0_followedTo_64 (by decide) ?_
            have hlt : i < j0 := by
              rcases Nat.lt_or_ge i j0 with q | q
              · exact q
              · exact absurd (by rw [show i = j0 by omega]; exact he) c46
            exact ih (i + 1) (zw b2 (pw i)) (by omega) (by omega) (by rw [zst, if_neg (by intro z; rw [bI_z2.mp c34] at z; cases z), ← hst]) ls (lv_sub hl [3, 4, 1, 0] rfl)
          · refine lv_iload_n C.1 C.2.1 dX0_followedTo_49 rfl (lv_at hl 3 rfl) ?_
            exact rd_iret C hr hlocks (by have e0 : i = j0 := Decidable.byContradiction (fun z => hne i (by omega) c46); subst e0; rw [zat, if_neg (by intro z; rw [bI_z2.mp c34] at z; cases z)]; exact hst) dX0_followedTo_50
        · refine lv_bipush (v := 100) C.1 C.2.1 dX0_followedTo_37 rfl ?_
          refine lv_istore_n (lv' := [(2, .int 100), (4, .ref (f i)), (0, .ref a), (1, .int x), (3, .int (nI i))]) C.1 C.2.1 dX0_followedTo_39 rfl hl (by decide) rfl (fun ls hl => ?_)
          refine lv_aload C.1 C.2.1 dX0_followedTo_40 (lv_at hl 1 rfl) ?_
          refine mget C hE hH fl_545 hP9 rfl dX0_followedTo_42 ?_
          refine lv_iload_n C.1 C.2.1 dX0_followedTo_45 rfl (lv_at hl 3 rfl) ?_
          refine lv_icmp_ne (tgt := 51) C.1 C.2.1 dX0_followedTo_46 (by decide) (fun c46 => ?_) (fun c46 => ?_)
          · refine lv_iload_n C.1 C.2.1 dX0_followedTo_51 rfl (lv_at hl 0 rfl) ?_
            refine lv_aload C.1 C.2.1 dX0_followedTo_52 (lv_at hl 1 rfl) ?_
            refine mget C hE hH fl_548 hP9 rfl dX0_followedTo_54 ?_
            refine rd_go1 (runSN C hE hH hS (c_weakened 100 (pw i)) mv_X5_weakened hE.2.2.2.2.2.2.2.2.1.2 hl.1 dX0_followedTo_57 rfl rfl ⟨rfl, rfl⟩ ⟨Nat.le_of_ble_eq_true rfl, Nat.le_of_ble_eq_true rfl⟩ (Nat.le_of_ble_eq_true rfl) ⟨Nat.le_of_ble_eq_true rfl, Nat.le_of_ble_eq_true rfl⟩) ?_
            refine lv_istore_n (lv' := [(2, .int (zw 100 (pw i))), (4, .ref (f i)), (0, .ref a), (1, .int x), (3, .int (nI i))]) C.1 C.2.1 dX0_followedTo_60 rfl hl (by decide) rfl (fun ls hl => ?_)
            refine lv_iinc (v := nI (i + 1)) (lv' := [(3, .int (nI (i + 1))), (2, .int (zw 100 (pw i))), (4, .ref (f i)), (0, .ref a), (1, .int x)]) C.1 C.2.1 dX0_followedTo_61 hl (k := 4) rfl (nI_1 i) (by decide) rfl (fun ls hl => ?_)
            refine lv_goto (tgt := 5) C.1 C.2.1 dX0_followedTo_64 (by decide) ?_
            have hlt : i < j0 := by
              rcases Nat.lt_or_ge i j0 with q | q
              · exact q
              · exact absurd (by rw [show i = j0 by omega]; exact he) c46
            exact ih (i + 1) (zw 100 (pw i)) (by omega) (by omega) (by rw [zst, if_pos (by cases e : pr i with | true => rfl | false => exact absurd (bI_z2.mpr e) c34)]) ls (lv_sub hl [3, 4, 1, 0] rfl)
          · refine lv_iload_n C.1 C.2.1 dX0_followedTo_49 rfl (lv_at hl 0 rfl) ?_
            exact rd_iret C hr hlocks (by have e0 : i = j0 := Decidable.byContradiction (fun z => hne i (by omega) c46); subst e0; rw [zat, if_pos (by cases e : pr i with | true => rfl | false => exact absurd (bI_z2.mpr e) c34)]) dX0_followedTo_50
  exact loop5 (k + 1) 0 100 (Nat.zero_le _) (by omega) (rfl) _ (lv_sub hl [2, 3, 1, 0] rfl)
set_option maxHeartbeats 4000000 in
set_option maxRecDepth 100000 in
theorem c_reqWait {l : Launch} {g : gG} {M : Mp} {o : Nat} {on ow oy oc : Int32} {oe : Nat} {po : Option Nat} (hlx : l.stackTraces = false) (h0 : M o = some (eO 4 [.int on, .ref oe, .int ow, .int oy, (va_rf po), .int oc])) : vx_Met l yX5_requireWaiting (WY yX5_requireWaiting cX5_requireWaiting 1 none) { frames := 6, cells := 1, slots := 6, locals := 82 } (Wc g M [.ref o]) (xrQ (po = none) none) (xQ (fun E_ => E_ = xIS ∧ ¬ po = none)) 1 6 fr0 := by
  refine ofX (by decide +kernel) (Nat.le_of_ble_eq_true rfl) (fun p e s m args below meth c ls C hr hlocks hout hE hH hl ea => ?_)
  have hl : lv_has ls 1 [(0, .ref o)] := hl
  have hS : va_S (gA g) s.heap s.heap [] := va_S.rf
  cases po with
  | none =>
    refine lv_aload_n C.1 C.2.1 dX5_requireWaiting_0 rfl (lv_at hl 0 rfl) ?_
    refine mget C hE hH fl_462 h0 rfl dX5_requireWaiting_1 ?_
    refine lv_ifnullN (tgt := 17) C.1 C.2.1 dX5_requireWaiting_4 (by decide) ?_
    exact xr_vret C hr hlocks (rfl)  (by decide) (by decide) dX5_requireWaiting_17
  | some q9 =>
    refine lv_aload_n C.1 C.2.1 dX5_requireWaiting_0 rfl (lv_at hl 0 rfl) ?_
    refine mget C hE hH fl_462 h0 rfl dX5_requireWaiting_1 ?_
    refine lv_ifnull C.1 C.2.1 dX5_requireWaiting_4 ?_
    exact x_throw C hlx hout hlocks hE tw_156_214_160 hl.1 (⟨rfl, fun z => by cases z⟩) dX5_requireWaiting_7 dX5_requireWaiting_10 dX5_requireWaiting_11 dX5_requireWaiting_13 dX5_requireWaiting_16 (by decide) (Nat.le_of_ble_eq_true rfl) (by decide) (by decide) (by decide) (by decide)
set_option maxHeartbeats 4000000 in
set_option maxRecDepth 100000 in
theorem c_pieceOf {l : Launch} {g : gG} {M : Mp} {o : Nat} {on ow oy oc : Int32} {oe : Nat} {po : Option Nat} (hlx : l.stackTraces = false) (h0 : M o = some (eO 4 [.int on, .ref oe, .int ow, .int oy, (va_rf po), .int oc])) : vx_Met l yX5_pieceOf (WY yX5_pieceOf cX5_pieceOf 2 (some (.object "DyeRing$Piece"))) { frames := 6, cells := 1, slots := 6, locals := 82 } (Wc g M [.ref o]) (xrQ (po ≠ none) (some (.ref (po.getD 0)))) (xQ (fun E_ => E_ = xIS ∧ ¬ po ≠ none)) 1 6 fr0 := by
  refine ofX (by decide +kernel) (Nat.le_of_ble_eq_true rfl) (fun p e s m args below meth c ls C hr hlocks hout hE hH hl ea => ?_)
  have hl : lv_has ls 2 [(0, .ref o)] := hl
  have hS : va_S (gA g) s.heap s.heap [] := va_S.rf
  cases po with
  | none =>
    refine lv_aload_n C.1 C.2.1 dX5_pieceOf_0 rfl (lv_at hl 0 rfl) ?_
    refine mget C hE hH fl_462 h0 rfl dX5_pieceOf_1 ?_
    refine lv_astore_nN (lv' := [(1, .null), (0, .ref o)]) C.1 C.2.1 dX5_pieceOf_4 rfl hl (by decide) rfl (fun ls hl => ?_)
    refine lv_aload_nN C.1 C.2.1 dX5_pieceOf_5 rfl (lv_at hl 0 rfl) ?_
    refine lv_ifnonnullN C.1 C.2.1 dX5_pieceOf_6 ?_
    exact x_throw C hlx hout hlocks hE tw_156_216_160 hl.1 (⟨rfl, fun z => z rfl⟩) dX5_pieceOf_9 dX5_pieceOf_12 dX5_pieceOf_13 dX5_pieceOf_15 dX5_pieceOf_18 (by decide) (Nat.le_of_ble_eq_true rfl) (by decide) (by decide) (by decide) (by decide)
  | some q9 =>
    refine lv_aload_n C.1 C.2.1 dX5_pieceOf_0 rfl (lv_at hl 0 rfl) ?_
    refine mget C hE hH fl_462 h0 rfl dX5_pieceOf_1 ?_
    refine lv_astore_n (lv' := [(1, .ref q9), (0, .ref o)]) C.1 C.2.1 dX5_pieceOf_4 rfl hl (by decide) rfl (fun ls hl => ?_)
    refine lv_aload_n C.1 C.2.1 dX5_pieceOf_5 rfl (lv_at hl 0 rfl) ?_
    refine lv_ifnonnull (tgt := 19) C.1 C.2.1 dX5_pieceOf_6 (by decide) ?_
    refine lv_aload_n C.1 C.2.1 dX5_pieceOf_19 rfl (lv_at hl 0 rfl) ?_
    exact xr_aret C hr hlocks (by first | exact Or.inl ⟨_, rfl⟩ | exact Or.inr ⟨_, rfl⟩) (fun z => by cases z) (rfl) (by decide) (by decide) dX5_pieceOf_20
theorem gE_ed {g : gG} {s : State} (h : gE g s) : ¬ g.1 ≤ g.2.2.2 0 := h.2.2.1.out
theorem gE_cas {g : gG} {x : String} (hx : x ∈ gOb) : ∀ s : State, gE g s → va_Nw (.castable x "java/lang/Object") s := fun s h => h.2.2.2.2.2.2.2.2.2.2.2.2.1 x hx
theorem Lst_keep {g : gG} {M M' : Mp} {a d k : Nat} {f : Nat → Nat} (h : Lst g M a d k f) (ha : M' a = M a) (hd : M' d = M d) : Lst g M' a d k f := by
  obtain ⟨md, h1, h2⟩ := h
  exact ⟨md, ha.trans h1, h2.imp (fun z => ⟨z.1, z.2.1, hd.trans z.2.2⟩) (fun ⟨n, row, z⟩ => ⟨n, row, hd.trans z.1, z.2⟩)⟩
theorem Lst_new {g : gG} {M : Mp} {a d k q : Nat} {f : Nat → Nat} {e : va_E} (h : Lst g M a d k f) (hq : M q = none) (hg : g.1 ≤ q) (hed : ¬ g.1 ≤ g.2.2.2 0) : Lst g (mu M q e) a d k f := by
  obtain ⟨md, h1, h2⟩ := id h
  refine Lst_keep h (mu_n (m_new hq h1)) (mu_n ?_)
  rcases h2 with ⟨-, rfl, -⟩ | ⟨n, row, z, -⟩
  · exact fun z => hed (z ▸ hg)
  · exact m_new hq z
theorem Lst_mu {g : gG} {M : Mp} {a d k b : Nat} {f : Nat → Nat} {x e : va_E} (h : Lst g M a d k f) (hb : M b = some x) (hx : ∀ fs, x ≠ eO 0 fs) (hx2 : ∀ n r, x ≠ eQ g 2 n r) : Lst g (mu M b e) a d k f := by
  obtain ⟨md, h1, h2⟩ := id h
  refine Lst_keep h (mu_n (m_ne hb h1 (hx _)).symm) (mu_n ?_)
  rcases h2 with ⟨-, -, hn⟩ | ⟨n, row, z, -⟩
  · exact (m_new hn hb).symm
  · exact (m_ne hb z (hx2 _ _)).symm
set_option maxHeartbeats 4000000 in
set_option maxRecDepth 100000 in
theorem c_take {l : Launch} {g : gG} {M : Mp} {a p0 dd k : Nat} {f : Nat → Nat} {pn : Int32} {pe : Nat} {pw : Int32} {pb : Nat} {pr : Bool} {ps wt y1 y2 : Int32}{bd : Int32} {be : Nat} {bs : Int32} {br : Bool} {bp : Nat} (h0 : M a = some (eO 1 [.int bd, .ref be, .int bs, .int (bI br), .ref bp])) (h1 : M p0 = some (eO 5 [.int pn, .ref pe, .int pw, .ref pb, .int (bI pr), .int ps, .int wt, .int y1, .int y2])) (hL : Lst g M bp dd k f) (hk : k ≤ 100) (hel : ∀ j, j < k → ∃ vs, M (f j) = some (eO 5 vs)) : Met l yX0_take (WY yX0_take cX0_take 2 none) { frames := 7, cells := 1, slots := 200, locals := 191 } (Wc g M [.ref a, .ref p0]) (wrQ (S := Unit) g (fun u_ => none) (fun u_ M_ => ∃ M1, ladd g M bp dd k p0 f M1 ∧ M_ = mu M1 a (eO 1 [.int bd, .ref be, .int (zw bs pw), .int 0, .ref bp]))) 1 200 (gA g) := by
  refine ofM (by decide +kernel) (Nat.le_of_ble_eq_true rfl) (fun p e s m args below meth c ls C hr hlocks hin hE hH hl ea => ?_)
  have hl : lv_has ls 2 [(0, .ref a), (1, .ref p0)] := hl
  have hS : va_S (gA g) s.heap s.heap [] := va_S.rf
  obtain ⟨md9, hL0, -⟩ := id hL
  refine lv_aload_n C.1 C.2.1 dX0_take_0 rfl (lv_at hl 0 rfl) ?_
  refine mget C hE hH fl_406 h0 rfl dX0_take_1 ?_
  refine lv_aload_n C.1 C.2.1 dX0_take_4 rfl (lv_at hl 1 rfl) ?_
  refine wr_go1 (runV C hE hH hS (c_add (r := (RX4, TX4, 9)) hL hk h1 rfl (gE_cas (x := "DyeRing$Piece") (by decide)) (by decide) hel) mv_Jx4a65c_add_9ea2d wm_581 hL0 rfl rfl hl.1 dX0_take_5 rfl rfl ⟨rfl, rfl⟩ ⟨Nat.le_of_ble_eq_true rfl, Nat.le_of_ble_eq_true rfl⟩ (Nat.le_of_ble_eq_true rfl) ⟨Nat.le_of_ble_eq_true rfl, Nat.le_of_ble_eq_true rfl⟩) hS (fun u1 M2 H locs hM2 hH hS => ?_)
  have f3 : M2 a = some (eO 1 [.int bd, .ref be, .int bs, .int (bI br), .ref bp]) := ladd_keep hL hM2 h0 (by intro fs z; cases z) (by intro n r z; cases z)
  have f4 : M2 p0 = some (eO 5 [.int pn, .ref pe, .int pw, .ref pb, .int (bI pr), .int ps, .int wt, .int y1, .int y2]) := ladd_keep hL hM2 h1 (by intro fs z; cases z) (by intro n r z; cases z)
  refine lv_pop C.1 C.2.1 dX0_take_8 rfl ?_
  refine lv_aload_n C.1 C.2.1 dX0_take_9 rfl (lv_at hl 0 rfl) ?_
  refine lv_aload_n C.1 C.2.1 dX0_take_10 rfl (lv_at hl 0 rfl) ?_
  refine mget C hE hH fl_401 f3 rfl dX0_take_11 ?_
  refine lv_aload_n C.1 C.2.1 dX0_take_14 rfl (lv_at hl 1 rfl) ?_
  refine mget C hE hH fl_548 f4 rfl dX0_take_15 ?_
  refine rd_go1 (runSN C hE hH hS (c_weakened bs pw) mv_X5_weakened hE.2.2.2.2.2.2.2.2.1.2 hl.1 dX0_take_18 rfl rfl ⟨rfl, rfl⟩ ⟨Nat.le_of_ble_eq_true rfl, Nat.le_of_ble_eq_true rfl⟩ (Nat.le_of_ble_eq_true rfl) ⟨Nat.le_of_ble_eq_true rfl, Nat.le_of_ble_eq_true rfl⟩) ?_
  refine mput (fs' := [.int bd, .ref be, .int (zw bs pw), .int (bI br), .ref bp]) C hE hH hS fl_401 f3 rfl rfl rfl (Nat.le_of_ble_eq_true rfl) dX0_take_21 (fun H locs hH hS => ?_)
  obtain ⟨M5, hM5⟩ : ∃ z, z = mu M2 a (eO 1 [.int bd, .ref be, .int (zw bs pw), .int (bI br), .ref bp]) := ⟨_, rfl⟩
  have hH : Hw g M5 H := by rw [hM5]; exact hH
  have f6 : M5 a = some (eO 1 [.int bd, .ref be, .int (zw bs pw), .int (bI br), .ref bp]) := by rw [hM5]; exact mu_s
  have f7 : M5 p0 = some (eO 5 [.int pn, .ref pe, .int pw, .ref pb, .int (bI pr), .int ps, .int wt, .int y1, .int y2]) := by rw [hM5]; exact (mu_n (m_ne f4 f3 (by first | (intro z; cases z; done) | exact ne_IQ | exact ne_IQ.symm | exact ne_LI | exact ne_LI.symm | (intro z; cases z; omega) | (intro z; cases z; contradiction) | exact (fun z => by cases z)))).trans f4
  refine lv_aload_n C.1 C.2.1 dX0_take_24 rfl (lv_at hl 0 rfl) ?_
  refine lv_iconst (v := 0) C.1 C.2.1 dX0_take_25 rfl ?_
  refine mput (fs' := [.int bd, .ref be, .int (zw bs pw), .int 0, .ref bp]) C hE hH hS fl_405 f6 rfl rfl rfl (Nat.le_of_ble_eq_true rfl) dX0_take_26 (fun H locs hH hS => ?_)
  obtain ⟨M8, hM8⟩ : ∃ z, z = mu M5 a (eO 1 [.int bd, .ref be, .int (zw bs pw), .int 0, .ref bp]) := ⟨_, rfl⟩
  have hH : Hw g M8 H := by rw [hM8]; exact hH
  have f9 : M8 a = some (eO 1 [.int bd, .ref be, .int (zw bs pw), .int 0, .ref bp]) := by rw [hM8]; exact mu_s
  have f10 : M8 p0 = some (eO 5 [.int pn, .ref pe, .int pw, .ref pb, .int (bI pr), .int ps, .int wt, .int y1, .int y2]) := by rw [hM8]; exact (mu_n (m_ne f7 f6 (by first | (intro z; cases z; done) | exact ne_IQ | exact ne_IQ.symm | exact ne_LI | exact ne_LI.symm | (intro z; cases z; omega) | (intro z; cases z; contradiction) | exact (fun z => by cases z)))).trans f7
  exact wr_vret () C hr hlocks hH hS rfl (⟨M2, hM2, by (rw [hM8, hM5]) <;> simp only [mu_mu]⟩) (by decide) (by decide) dX0_take_29
set_option maxHeartbeats 4000000 in
set_option maxRecDepth 100000 in
theorem c_dyeIn {l : Launch} {g : gG} {M : Mp} {x eL bL oL wa yf ys bl cl : Nat} {o b dd k : Nat} {f : Nat → Nat} {on ow oy : Int32} {oe : Nat} {oc : Bool} {bd : Int32} {be : Nat} {bs : Int32} {br : Bool} {bp : Nat}{fw ff fs : Nat → Int32} (h0 : M x = some (eO 6 [.ref eL, .ref bL, .ref oL, .ref wa, .ref yf, .ref ys, .ref bl, .ref cl])) (h1 : M o = some (eO 4 [.int on, .ref oe, .int ow, .int oy, .null, .int (bI oc)])) (h2 : M b = some (eO 1 [.int bd, .ref be, .int bs, .int (bI br), .ref bp])) (h3 : M wa = some (eI g 3 fw)) (h4 : M yf = some (eI g 4 ff)) (h5 : M ys = some (eI g 4 fs)) (hbd : vp_in bd 3) (hoy : vp_in oy 4) (hL : Lst g M bp dd k f) (hk : k ≤ 100) (hel : ∀ j, j < k → ∃ vs, M (f j) = some (eO 5 vs)) : Met l yX5_dyeIn (WY yX5_dyeIn cX5_dyeIn 4 (some (.object "DyeRing$Piece"))) { frames := 8, cells := 2, slots := 209, locals := 212 } (Wc g M [.ref x, .ref o, .ref b]) (wrQ (S := Nat) g (fun u_ => (some (.ref u_))) (fun u_ M_ => M u_ = none ∧ g.1 ≤ u_ ∧ ∃ M1, ladd g (mu (mu M u_ (eO 5 [.int on, .ref oe, .int ow, .ref b, .int (bI br), .int bs, .int (fw bd.toNatClampNeg), .int (ff oy.toNatClampNeg), .int (fs oy.toNatClampNeg)])) o (eO 4 [.int on, .ref oe, .int ow, .int oy, .ref u_, .int (bI oc)])) bp dd k u_ f M1 ∧ M_ = mu M1 b (eO 1 [.int bd, .ref be, .int (zw bs ow), .int 0, .ref bp]))) 2 209 (gA g) := by
  refine ofM (by decide +kernel) (Nat.le_of_ble_eq_true rfl) (fun p e s m args below meth c ls C hr hlocks hin hE hH hl ea => ?_)
  have hl : lv_has ls 4 [(0, .ref x), (1, .ref o), (2, .ref b)] := hl
  have hS : va_S (gA g) s.heap s.heap [] := va_S.rf
  refine mnew (C := C) (hE := hE) (hH := hH) (hS := hS) (F := cb_RX4) (h1 := wm_538) (h2 := wm_539) (h3 := wm_46) (by decide) (by decide) dX5_dyeIn_0 (fun q1 H nq1 gq1 hH hS => ?_)
  obtain ⟨M2, hM2⟩ : ∃ z, z = mu M q1 (eO 5 [.int 0, .null, .int 0, .null, .int 0, .int 0, .int 0, .int 0, .int 0]) := ⟨_, rfl⟩
  have hH : Hw g M2 H := by rw [hM2]; exact hH
  have f3 : M2 q1 = some (eO 5 [.int 0, .null, .int 0, .null, .int 0, .int 0, .int 0, .int 0, .int 0]) := by rw [hM2]; exact mu_s
  have f4 : M2 x = some (eO 6 [.ref eL, .ref bL, .ref oL, .ref wa, .ref yf, .ref ys, .ref bl, .ref cl]) := by rw [hM2]; exact (mu_n (m_new nq1 h0)).trans h0
  have f5 : M2 o = some (eO 4 [.int on, .ref oe, .int ow, .int oy, .null, .int (bI oc)]) := by rw [hM2]; exact (mu_n (m_new nq1 h1)).trans h1
  have f6 : M2 b = some (eO 1 [.int bd, .ref be, .int bs, .int (bI br), .ref bp]) := by rw [hM2]; exact (mu_n (m_new nq1 h2)).trans h2
  have f7 : M2 wa = some (eI g 3 fw) := by rw [hM2]; exact (mu_n (m_new nq1 h3)).trans h3
  have f8 : M2 yf = some (eI g 4 ff) := by rw [hM2]; exact (mu_n (m_new nq1 h4)).trans h4
  have f9 : M2 ys = some (eI g 4 fs) := by rw [hM2]; exact (mu_n (m_new nq1 h5)).trans h5
  refine lv_dup C.1 C.2.1 dX5_dyeIn_3 rfl ?_
  refine lv_aload_n C.1 C.2.1 dX5_dyeIn_4 rfl (lv_at hl 1 rfl) ?_
  refine lv_aload_n C.1 C.2.1 dX5_dyeIn_5 rfl (lv_at hl 2 rfl) ?_
  refine lv_aload_n C.1 C.2.1 dX5_dyeIn_6 rfl (lv_at hl 0 rfl) ?_
  refine mget C hE hH fl_107 f4 rfl dX5_dyeIn_7 ?_
  refine lv_aload_n C.1 C.2.1 dX5_dyeIn_10 rfl (lv_at hl 2 rfl) ?_
  refine mget C hE hH fl_398 f6 rfl dX5_dyeIn_11 ?_
  refine mald C hE hH f7 hbd dX5_dyeIn_14 ?_
  refine lv_aload_n C.1 C.2.1 dX5_dyeIn_15 rfl (lv_at hl 0 rfl) ?_
  refine mget C hE hH fl_108 f4 rfl dX5_dyeIn_16 ?_
  refine lv_aload_n C.1 C.2.1 dX5_dyeIn_19 rfl (lv_at hl 1 rfl) ?_
  refine mget C hE hH fl_461 f5 rfl dX5_dyeIn_20 ?_
  refine mald C hE hH f8 hoy dX5_dyeIn_23 ?_
  refine lv_aload_n C.1 C.2.1 dX5_dyeIn_24 rfl (lv_at hl 0 rfl) ?_
  refine mget C hE hH fl_109 f4 rfl dX5_dyeIn_25 ?_
  refine lv_aload_n C.1 C.2.1 dX5_dyeIn_28 rfl (lv_at hl 1 rfl) ?_
  refine mget C hE hH fl_461 f5 rfl dX5_dyeIn_29 ?_
  refine mald C hE hH f9 hoy dX5_dyeIn_32 ?_
  refine wr_go0 (runI C hE hH hS (c_P_init f3 f5 f6 (fw bd.toNatClampNeg) (ff oy.toNatClampNeg) (fs oy.toNatClampNeg)) mv_X4_init wm_540 hl.1 dX5_dyeIn_33 rfl rfl ⟨rfl, rfl⟩ ⟨Nat.le_of_ble_eq_true rfl, Nat.le_of_ble_eq_true rfl⟩ (Nat.le_of_ble_eq_true rfl) ⟨Nat.le_of_ble_eq_true rfl, Nat.le_of_ble_eq_true rfl⟩) hS (fun u10 M11 H locs hM11 hH hS => ?_)
  have f12 : M11 q1 = some (eO 5 [.int on, .ref oe, .int ow, .ref b, .int (bI br), .int bs, .int (fw bd.toNatClampNeg), .int (ff oy.toNatClampNeg), .int (fs oy.toNatClampNeg)]) := by rw [hM11]; exact mu_s
  have f13 : M11 x = some (eO 6 [.ref eL, .ref bL, .ref oL, .ref wa, .ref yf, .ref ys, .ref bl, .ref cl]) := by rw [hM11]; exact (mu_n (m_new nq1 h0)).trans f4
  have f14 : M11 o = some (eO 4 [.int on, .ref oe, .int ow, .int oy, .null, .int (bI oc)]) := by rw [hM11]; exact (mu_n (m_new nq1 h1)).trans f5
  have f15 : M11 b = some (eO 1 [.int bd, .ref be, .int bs, .int (bI br), .ref bp]) := by rw [hM11]; exact (mu_n (m_new nq1 h2)).trans f6
  have f16 : M11 wa = some (eI g 3 fw) := by rw [hM11]; exact (mu_n (m_new nq1 h3)).trans f7
  have f17 : M11 yf = some (eI g 4 ff) := by rw [hM11]; exact (mu_n (m_new nq1 h4)).trans f8
  have f18 : M11 ys = some (eI g 4 fs) := by rw [hM11]; exact (mu_n (m_new nq1 h5)).trans f9
  refine lv_astore_n (lv' := [(3, .ref q1), (0, .ref x), (1, .ref o), (2, .ref b)]) C.1 C.2.1 dX5_dyeIn_36 rfl hl (by decide) rfl (fun ls hl => ?_)
  refine lv_aload_n C.1 C.2.1 dX5_dyeIn_37 rfl (lv_at hl 2 rfl) ?_
  refine lv_aload_n C.1 C.2.1 dX5_dyeIn_38 rfl (lv_at hl 0 rfl) ?_
  refine mput (fs' := [.int on, .ref oe, .int ow, .int oy, .ref q1, .int (bI oc)]) C hE hH hS fl_462 f14 rfl rfl rfl (Nat.le_of_ble_eq_true rfl) dX5_dyeIn_39 (fun H locs hH hS => ?_)
  obtain ⟨M19, hM19⟩ : ∃ z, z = mu M11 o (eO 4 [.int on, .ref oe, .int ow, .int oy, .ref q1, .int (bI oc)]) := ⟨_, rfl⟩
  have hH : Hw g M19 H := by rw [hM19]; exact hH
  have f20 : M19 o = some (eO 4 [.int on, .ref oe, .int ow, .int oy, .ref q1, .int (bI oc)]) := by rw [hM19]; exact mu_s
  have f21 : M19 x = some (eO 6 [.ref eL, .ref bL, .ref oL, .ref wa, .ref yf, .ref ys, .ref bl, .ref cl]) := by rw [hM19]; exact (mu_n (m_ne f13 f14 (by first | (intro z; cases z; done) | exact ne_IQ | exact ne_IQ.symm | exact ne_LI | exact ne_LI.symm | (intro z; cases z; omega) | (intro z; cases z; contradiction) | exact (fun z => by cases z)))).trans f13
  have f22 : M19 b = some (eO 1 [.int bd, .ref be, .int bs, .int (bI br), .ref bp]) := by rw [hM19]; exact (mu_n (m_ne f15 f14 (by first | (intro z; cases z; done) | exact ne_IQ | exact ne_IQ.symm | exact ne_LI | exact ne_LI.symm | (intro z; cases z; omega) | (intro z; cases z; contradiction) | exact (fun z => by cases z)))).trans f15
  have f23 : M19 wa = some (eI g 3 fw) := by rw [hM19]; exact (mu_n (m_ne f16 f14 (by first | (intro z; cases z; done) | exact ne_IQ | exact ne_IQ.symm | exact ne_LI | exact ne_LI.symm | (intro z; cases z; omega) | (intro z; cases z; contradiction) | exact (fun z => by cases z)))).trans f16
  have f24 : M19 yf = some (eI g 4 ff) := by rw [hM19]; exact (mu_n (m_ne f17 f14 (by first | (intro z; cases z; done) | exact ne_IQ | exact ne_IQ.symm | exact ne_LI | exact ne_LI.symm | (intro z; cases z; omega) | (intro z; cases z; contradiction) | exact (fun z => by cases z)))).trans f17
  have f25 : M19 ys = some (eI g 4 fs) := by rw [hM19]; exact (mu_n (m_ne f18 f14 (by first | (intro z; cases z; done) | exact ne_IQ | exact ne_IQ.symm | exact ne_LI | exact ne_LI.symm | (intro z; cases z; omega) | (intro z; cases z; contradiction) | exact (fun z => by cases z)))).trans f18
  have f26 : M19 q1 = some (eO 5 [.int on, .ref oe, .int ow, .ref b, .int (bI br), .int bs, .int (fw bd.toNatClampNeg), .int (ff oy.toNatClampNeg), .int (fs oy.toNatClampNeg)]) := by rw [hM19]; exact (mu_n ((m_new nq1 h1)).symm).trans f12
  refine lv_aload_n C.1 C.2.1 dX5_dyeIn_42 rfl (lv_at hl 3 rfl) ?_
  refine lv_aload_n C.1 C.2.1 dX5_dyeIn_43 rfl (lv_at hl 0 rfl) ?_
  have hL2 := Lst_new (e := eO 5 [.int 0, .null, .int 0, .null, .int 0, .int 0, .int 0, .int 0, .int 0]) hL nq1 gq1 (gE_ed hE)
  rw [← hM2] at hL2
  have hM5 : M11 = mu M q1 (eO 5 [.int on, .ref oe, .int ow, .ref b, .int (bI br), .int bs, .int (fw bd.toNatClampNeg), .int (ff oy.toNatClampNeg), .int (fs oy.toNatClampNeg)]) := by rw [hM11, hM2, mu_mu]
  have hL3 : Lst g M11 bp dd k f := by rw [hM5]; exact Lst_new hL nq1 gq1 (gE_ed hE)
  have hL4 : Lst g M19 bp dd k f := by rw [hM19]; exact Lst_mu hL3 f14 (by intro fs z; cases z) (by intro n r z; cases z)
  have hel4 : ∀ j, j < k → ∃ vs, M19 (f j) = some (eO 5 vs) := fun j hj => by obtain ⟨vs, hv⟩ := hel j hj; exact ⟨vs, by rw [hM19, mu_n (m_ne (by rw [hM5, mu_n (m_new nq1 hv)]; exact hv) f14 (by intro z; cases z)), hM5, mu_n (m_new nq1 hv)]; exact hv⟩
  refine wr_go0 (runV C hE hH hS (c_take f22 f26 (hL4) (hk) (hel4)) mv_X0_take wm_577 f22 rfl rfl hl.1 dX5_dyeIn_44 rfl rfl ⟨rfl, rfl⟩ ⟨Nat.le_of_ble_eq_true rfl, Nat.le_of_ble_eq_true rfl⟩ (Nat.le_of_ble_eq_true rfl) ⟨Nat.le_of_ble_eq_true rfl, Nat.le_of_ble_eq_true rfl⟩) hS (fun u27 M28 H locs hM28 hH hS => ?_)
  refine lv_aload_n C.1 C.2.1 dX5_dyeIn_47 rfl (lv_at hl 0 rfl) ?_
  exact wr_aret q1 C hr hlocks (by first | exact Or.inl ⟨_, rfl⟩ | exact Or.inr ⟨_, rfl⟩) hH hS rfl (⟨nq1, gq1, by have h9 := hM28; rw [hM19, hM5] at h9; exact h9⟩) (by decide) (by decide) dX5_dyeIn_48
end
section
/-! CLOTH: balances and settling -/
def zbal (D : Nat → Nat → Int32) (j : Nat) : Nat → Int32
  | 0 => 0
  | i + 1 => zbal D j i + (D i j - D j i)
def zlow (U : Nat → Int32) (sg : Int32) : Nat → Nat → Int32
  | 0, _ => -1
  | r + 1, i => if U i * sg ≤ 0 then zlow U sg r (i + 1) else nI i
theorem zlow_j (U : Nat → Int32) (sg : Int32) : ∀ (r i : Nat), zlow U sg r i = -1 ∨ ∃ j, i ≤ j ∧ j < i + r ∧ zlow U sg r i = nI j ∧ ¬ U j * sg ≤ 0
  | 0, _ => Or.inl rfl
  | r + 1, i => by
    unfold zlow
    by_cases h : U i * sg ≤ 0
    · rw [if_pos h]
      exact (zlow_j U sg r (i + 1)).imp id (fun ⟨j, a, b, c⟩ => ⟨j, by omega, by omega, c⟩)
    · rw [if_neg h]
      exact Or.inr ⟨i, Nat.le_refl i, by omega, rfl, h⟩
def zam (x y : Int32) : Int32 := if y < -x then y else -x
theorem five_lt {i : Nat} (hi : i ≤ 5) (h : ¬ (5 : Int32) ≤ nI i) : i < 5 := by
  rcases Nat.lt_or_ge i 5 with q | q
  · exact q
  · exact absurd (by rw [show i = 5 by omega]; decide) h
theorem five_eq {i : Nat} (hi : i ≤ 5) (h : (5 : Int32) ≤ nI i) : i = 5 := by
  rcases Nat.lt_or_ge i 5 with q | q
  · exact absurd h (nI_ge (b := 5) q (by decide))
  · omega
set_option maxHeartbeats 4000000 in
set_option maxRecDepth 100000 in
theorem c_balanceOf {l : Launch} {g : gG} {M : Mp} {a d u : Nat} {sh : Int32} {orow : Nat → Option Nat} {dr : Nat → Nat} {D : Nat → Nat → Int32} {j : Nat} (h0 : M a = some (eO 2 [.int sh, .ref d, .ref u])) (h1 : M d = some (eQ g 4 5 orow)) (hrow : ∀ i, i < 5 → orow i = some (dr i)) (hD : ∀ i, i < 5 → M (dr i) = some (eI g 5 (D i))) (hj : j < 5) : Met l yX1_balanceOf (WY yX1_balanceOf cX1_balanceOf 4 (some .int)) { frames := 0, cells := 0, slots := 0, locals := 0 } (Wc g M [.ref a, .int (nI j)]) (rdQ (some (.int (zbal D j 5)))) 0 0 fr0 := by
  refine ofM (by decide +kernel) (Nat.le_of_ble_eq_true rfl) (fun p e s m args below meth c ls C hr hlocks hin hE hH hl ea => ?_)
  have hl : lv_has ls 4 [(0, .ref a), (1, .int (nI j))] := hl
  have hS : va_S (gA g) s.heap s.heap [] := va_S.rf
  refine lv_iconst (v := 0) C.1 C.2.1 dX1_balanceOf_0 rfl ?_
  refine lv_istore_n (lv' := [(2, .int 0), (0, .ref a), (1, .int (nI j))]) C.1 C.2.1 dX1_balanceOf_1 rfl hl (by decide) rfl (fun ls hl => ?_)
  refine lv_iconst (v := 0) C.1 C.2.1 dX1_balanceOf_2 rfl ?_
  refine lv_istore_n (lv' := [(3, .int 0), (2, .int 0), (0, .ref a), (1, .int (nI j))]) C.1 C.2.1 dX1_balanceOf_3 rfl hl (by decide) rfl (fun ls hl => ?_)
  have loop4 : ∀ (fu : Nat) (i : Nat) (b2 : Int32), (i ≤ 5) → (5 < i + fu) → (b2 = zbal D j i) →  ∀ (ls : Array Slot), lv_has ls 4 [(0, .ref a), (1, .int (nI j)), (2, .int b2), (3, .int (nI i))] → W p l e { frames := 0, cells := 0, slots := 0, locals := 0 } s m args below meth c s.heap [] 0 0 (MQ below (rdQ (some (.int (zbal D j 5)))) args s 0 0 fr0) (F0 m 4 ls []) := by
    intro fu
    induction fu with
    | zero => intro i b2 hi hfu hb; exact absurd hfu (by omega)
    | succ fu ih =>
      intro i b2 hi hfu hb ls hl
      refine lv_iload_n C.1 C.2.1 dX1_balanceOf_4 rfl (lv_at hl 3 rfl) ?_
      refine lv_iconst (v := 5) C.1 C.2.1 dX1_balanceOf_5 rfl ?_
      refine lv_icmp_ge (tgt := 35) C.1 C.2.1 dX1_balanceOf_6 (by decide) (fun c6 => ?_) (fun c6 => ?_)
      · refine lv_iload_n C.1 C.2.1 dX1_balanceOf_35 rfl (lv_at hl 2 rfl) ?_
        exact rd_iret C hr hlocks (by rw [hb, five_eq hi c6]) dX1_balanceOf_36
      · have hi5 : i < 5 := five_lt hi c6
        refine lv_iload_n C.1 C.2.1 dX1_balanceOf_9 rfl (lv_at hl 2 rfl) ?_
        refine lv_aload_n C.1 C.2.1 dX1_balanceOf_10 rfl (lv_at hl 0 rfl) ?_
        refine mget C hE hH fl_93 h0 rfl dX1_balanceOf_11 ?_
        refine lv_iload_n C.1 C.2.1 dX1_balanceOf_14 rfl (lv_at hl 3 rfl) ?_
        refine maldq (k := 4) (y := (dr i)) C hE hH h1 rfl rfl (vp_in_nI hi5 (by decide)) (by rw [nI_clamp (by omega)]; exact hrow i hi5) dX1_balanceOf_15 ?_
        refine lv_iload_n C.1 C.2.1 dX1_balanceOf_16 rfl (lv_at hl 1 rfl) ?_
        refine mald C hE hH (hD i hi5) (vp_in_nI hj (by decide)) dX1_balanceOf_17 ?_
        rw [nI_clamp (show j < 2 ^ 31 by omega)]
        refine lv_aload_n C.1 C.2.1 dX1_balanceOf_18 rfl (lv_at hl 0 rfl) ?_
        refine mget C hE hH fl_93 h0 rfl dX1_balanceOf_19 ?_
        refine lv_iload_n C.1 C.2.1 dX1_balanceOf_22 rfl (lv_at hl 1 rfl) ?_
        refine maldq (k := 4) (y := (dr j)) C hE hH h1 rfl rfl (vp_in_nI hj (by decide)) (by rw [nI_clamp (by omega)]; exact hrow j hj) dX1_balanceOf_23 ?_
        refine lv_iload_n C.1 C.2.1 dX1_balanceOf_24 rfl (lv_at hl 3 rfl) ?_
        refine mald C hE hH (hD j hj) (vp_in_nI hi5 (by decide)) dX1_balanceOf_25 ?_
        rw [nI_clamp (show i < 2 ^ 31 by omega)]
        refine lv_isub C.1 C.2.1 dX1_balanceOf_26 ?_
        refine lv_iadd C.1 C.2.1 dX1_balanceOf_27 ?_
        refine lv_istore_n (lv' := [(2, .int (b2 + ((D i j) - (D j i)))), (0, .ref a), (1, .int (nI j)), (3, .int (nI i))]) C.1 C.2.1 dX1_balanceOf_28 rfl hl (by decide) rfl (fun ls hl => ?_)
        refine lv_iinc (v := nI (i + 1)) (lv' := [(3, .int (nI (i + 1))), (2, .int (b2 + ((D i j) - (D j i)))), (0, .ref a), (1, .int (nI j))]) C.1 C.2.1 dX1_balanceOf_29 hl (k := 3) rfl (nI_1 i) (by decide) rfl (fun ls hl => ?_)
        refine lv_goto (tgt := 4) C.1 C.2.1 dX1_balanceOf_32 (by decide) ?_
        exact ih (i + 1) (b2 + ((D i j) - (D j i))) (by omega) (by omega) (by rw [zbal, ← hb]) ls (lv_sub hl [2, 3, 1, 0] rfl)
  exact loop4 (6) 0 0 (by omega) (by omega) (rfl) _ (lv_sub hl [2, 3, 1, 0] rfl)
set_option maxHeartbeats 4000000 in
set_option maxRecDepth 100000 in
theorem c_lowest {l : Launch} {g : gG} {M : Mp} {a d u : Nat} {sh : Int32} {U : Nat → Int32} (h0 : M a = some (eO 2 [.int sh, .ref d, .ref u])) (h1 : M u = some (eI g 5 U)) (sg : Int32) : Met l yX1_lowest (WY yX1_lowest cX1_lowest 3 (some .int)) { frames := 0, cells := 0, slots := 0, locals := 0 } (Wc g M [.ref a, .int sg]) (rdQ (some (.int (zlow U sg 5 0)))) 0 0 fr0 := by
  refine ofM (by decide +kernel) (Nat.le_of_ble_eq_true rfl) (fun p e s m args below meth c ls C hr hlocks hin hE hH hl ea => ?_)
  have hl : lv_has ls 3 [(0, .ref a), (1, .int sg)] := hl
  have hS : va_S (gA g) s.heap s.heap [] := va_S.rf
  refine lv_iconst (v := 0) C.1 C.2.1 dX1_lowest_0 rfl ?_
  refine lv_istore_n (lv' := [(2, .int 0), (0, .ref a), (1, .int sg)]) C.1 C.2.1 dX1_lowest_1 rfl hl (by decide) rfl (fun ls hl => ?_)
  have loop2 : ∀ (fu : Nat) (i r : Nat), (i ≤ 5) → (i + r = 5) → (5 < i + fu) → (zlow U sg 5 0 = zlow U sg r i) →  ∀ (ls : Array Slot), lv_has ls 3 [(0, .ref a), (1, .int sg), (2, .int (nI i))] → W p l e { frames := 0, cells := 0, slots := 0, locals := 0 } s m args below meth c s.heap [] 0 0 (MQ below (rdQ (some (.int (zlow U sg 5 0)))) args s 0 0 fr0) (F0 m 2 ls []) := by
    intro fu
    induction fu with
    | zero => intro i r hi hir hfu hz; exact absurd hfu (by omega)
    | succ fu ih =>
      intro i r hi hir hfu hz ls hl
      refine lv_iload_n C.1 C.2.1 dX1_lowest_2 rfl (lv_at hl 2 rfl) ?_
      refine lv_iconst (v := 5) C.1 C.2.1 dX1_lowest_3 rfl ?_
      refine lv_icmp_ge (tgt := 26) C.1 C.2.1 dX1_lowest_4 (by decide) (fun c4 => ?_) (fun c4 => ?_)
      · refine lv_iconst (v := -1) C.1 C.2.1 dX1_lowest_26 rfl ?_
        exact rd_iret C hr hlocks (by rw [hz, show r = 0 by have := five_eq hi c4; omega]; rfl) dX1_lowest_27
      · have hi5 : i < 5 := five_lt hi c4
        obtain ⟨r9, rfl⟩ : ∃ z, r = z + 1 := ⟨r - 1, by omega⟩
        refine lv_aload_n C.1 C.2.1 dX1_lowest_7 rfl (lv_at hl 0 rfl) ?_
        refine mget C hE hH fl_95 h0 rfl dX1_lowest_8 ?_
        refine lv_iload_n C.1 C.2.1 dX1_lowest_11 rfl (lv_at hl 2 rfl) ?_
        refine mald C hE hH h1 (vp_in_nI hi5 (by decide)) dX1_lowest_12 ?_
        rw [nI_clamp (show i < 2 ^ 31 by omega)]
        refine lv_iload_n C.1 C.2.1 dX1_lowest_13 rfl (lv_at hl 1 rfl) ?_
        refine lv_imul C.1 C.2.1 dX1_lowest_14 ?_
        refine lv_if_le (tgt := 20) C.1 C.2.1 dX1_lowest_15 (by decide) (fun c15 => ?_) (fun c15 => ?_)
        · refine lv_iinc (v := nI (i + 1)) (lv' := [(2, .int (nI (i + 1))), (0, .ref a), (1, .int sg)]) C.1 C.2.1 dX1_lowest_20 hl (k := 2) rfl (nI_1 i) (by decide) rfl (fun ls hl => ?_)
          refine lv_goto (tgt := 2) C.1 C.2.1 dX1_lowest_23 (by decide) ?_
          exact ih (i + 1) r9 (by omega) (by omega) (by omega) (by rw [hz, zlow, if_pos c15]) ls (lv_sub hl [1, 2, 0] rfl)
        · refine lv_iload_n C.1 C.2.1 dX1_lowest_18 rfl (lv_at hl 2 rfl) ?_
          exact rd_iret C hr hlocks (by rw [hz, zlow, if_neg c15]) dX1_lowest_19
  exact loop2 (6) 0 5 (by omega) (by omega) (by omega) (rfl) _ (lv_sub hl [1, 2, 0] rfl)
def zfound (U : Nat → Int32) : Bool := decide (¬ zlow U (-1) 5 0 = -1 ∧ ¬ zlow U 1 5 0 = -1)
/-- what one step of settling does -/
def zstepD (U : Nat → Int32) (D : Nat → Nat → Int32) (j k : Nat) : Nat → Nat → Int32 := fun i => if i = j then upd (D j) k (zam (U j) (U k)) else D i
def zstepU (U : Nat → Int32) (j k : Nat) : Nat → Int32 := upd (upd U j (U j + zam (U j) (U k))) k (upd U j (U j + zam (U j) (U k)) k - zam (U j) (U k))
theorem zlow_5 {U : Nat → Int32} {sg : Int32} (h : ¬ zlow U sg 5 0 = -1) : ∃ j, j < 5 ∧ zlow U sg 5 0 = nI j ∧ ¬ U j * sg ≤ 0 := by
  rcases zlow_j U sg 5 0 with q | ⟨j, -, a, b, c⟩
  · exact absurd q h
  · exact ⟨j, by omega, b, c⟩
theorem nI_nm1 {j : Nat} (h : j < 5) : ¬ nI j = -1 := by
  rcases (show j = 0 ∨ j = 1 ∨ j = 2 ∨ j = 3 ∨ j = 4 by omega) with rfl | rfl | rfl | rfl | rfl <;> decide
set_option maxHeartbeats 4000000 in
set_option maxRecDepth 100000 in
theorem c_settleLowest {l : Launch} {g : gG} {M : Mp} {a d u : Nat} {sh : Int32} {orow : Nat → Option Nat} {dr : Nat → Nat} {D : Nat → Nat → Int32} {U : Nat → Int32} (h0 : M a = some (eO 2 [.int sh, .ref d, .ref u])) (h1 : M d = some (eQ g 4 5 orow)) (h2 : M u = some (eI g 5 U)) (hrow : ∀ i, i < 5 → orow i = some (dr i)) (hD : ∀ i, i < 5 → M (dr i) = some (eI g 5 (D i))) (hun : ∀ i, i < 5 → dr i ≠ u) : Met l yX1_settleLowest (WY yX1_settleLowest cX1_settleLowest 4 (some .boolean)) { frames := 1, cells := 0, slots := 0, locals := 22 } (Wc g M [.ref a]) (wrQ (S := Unit) g (fun u_ => (some (.int (bI (zfound U))))) (fun u_ M_ => (zfound U = false ∧ M_ = M) ∨ (zfound U = true ∧ ∃ j k, j < 5 ∧ k < 5 ∧ zlow U (-1) 5 0 = nI j ∧ zlow U 1 5 0 = nI k ∧ ¬ U j * -1 ≤ 0 ∧ ¬ U k * 1 ≤ 0 ∧ M_ = mu (mu M (dr j) (eI g 5 (upd (D j) k (zam (U j) (U k))))) u (eI g 5 (zstepU U j k))))) 0 0 (gA g) := by
  refine ofM (by decide +kernel) (Nat.le_of_ble_eq_true rfl) (fun p e s m args below meth c ls C hr hlocks hin hE hH hl ea => ?_)
  have hl : lv_has ls 4 [(0, .ref a)] := hl
  have hS : va_S (gA g) s.heap s.heap [] := va_S.rf
  refine lv_aload_n C.1 C.2.1 dX1_settleLowest_0 rfl (lv_at hl 0 rfl) ?_
  refine lv_iconst (v := -1) C.1 C.2.1 dX1_settleLowest_1 rfl ?_
  refine rd_go1 (runV C hE hH hS (c_lowest h0 h2 (-1)) mv_X1_lowest wm_719 h0 rfl rfl hl.1 dX1_settleLowest_2 rfl rfl ⟨rfl, rfl⟩ ⟨Nat.le_of_ble_eq_true rfl, Nat.le_of_ble_eq_true rfl⟩ (Nat.le_of_ble_eq_true rfl) ⟨Nat.le_of_ble_eq_true rfl, Nat.le_of_ble_eq_true rfl⟩) ?_
  refine lv_topi (fun x1 ex1 => ?_)
  refine lv_istore_n (lv' := [(1, .int x1), (0, .ref a)]) C.1 C.2.1 dX1_settleLowest_5 rfl hl (by decide) rfl (fun ls hl => ?_)
  refine lv_aload_n C.1 C.2.1 dX1_settleLowest_6 rfl (lv_at hl 1 rfl) ?_
  refine lv_iconst (v := 1) C.1 C.2.1 dX1_settleLowest_7 rfl ?_
  refine rd_go1 (runV C hE hH hS (c_lowest h0 h2 1) mv_X1_lowest wm_719 h0 rfl rfl hl.1 dX1_settleLowest_8 rfl rfl ⟨rfl, rfl⟩ ⟨Nat.le_of_ble_eq_true rfl, Nat.le_of_ble_eq_true rfl⟩ (Nat.le_of_ble_eq_true rfl) ⟨Nat.le_of_ble_eq_true rfl, Nat.le_of_ble_eq_true rfl⟩) ?_
  refine lv_topi (fun x2 ex2 => ?_)
  refine lv_istore_n (lv' := [(2, .int x2), (1, .int x1), (0, .ref a)]) C.1 C.2.1 dX1_settleLowest_11 rfl hl (by decide) rfl (fun ls hl => ?_)
  refine lv_iload_n C.1 C.2.1 dX1_settleLowest_12 rfl (lv_at hl 1 rfl) ?_
  refine lv_iconst (v := -1) C.1 C.2.1 dX1_settleLowest_13 rfl ?_
  refine lv_icmp_eq (tgt := 22) C.1 C.2.1 dX1_settleLowest_14 (by decide) (fun c14 => ?_) (fun c14 => ?_)
  · refine lv_iconst (v := 0) C.1 C.2.1 dX1_settleLowest_22 rfl ?_
    exact wr_zret () C hr hlocks (rfl) hH hS (congrArg (fun z => some (Value.int z)) (by rw [show zfound U = false from decide_eq_false (fun z => z.1 (by rw [← ex1]; exact c14))]; rfl)) (Or.inl ⟨by unfold zfound; exact decide_eq_false (fun z => z.1 (by rw [← ex1]; exact c14)), rfl⟩) (by decide) (by decide) dX1_settleLowest_23
  · refine lv_iload_n C.1 C.2.1 dX1_settleLowest_17 rfl (lv_at hl 0 rfl) ?_
    refine lv_iconst (v := -1) C.1 C.2.1 dX1_settleLowest_18 rfl ?_
    refine lv_icmp_ne (tgt := 24) C.1 C.2.1 dX1_settleLowest_19 (by decide) (fun c19 => ?_) (fun c19 => ?_)
    · obtain ⟨j, hj, ej, nj⟩ := zlow_5 (U := U) (sg := -1) (by rw [← ex1]; exact c14)
      obtain ⟨k, hk, ek, nk⟩ := zlow_5 (U := U) (sg := 1) (by rw [← ex2]; exact c19)
      obtain rfl : x1 = nI j := ex1.trans ej
      obtain rfl : x2 = nI k := ex2.trans ek
      refine lv_aload_n C.1 C.2.1 dX1_settleLowest_24 rfl (lv_at hl 2 rfl) ?_
      refine mget C hE hH fl_95 h0 rfl dX1_settleLowest_25 ?_
      refine lv_iload_n C.1 C.2.1 dX1_settleLowest_28 rfl (lv_at hl 1 rfl) ?_
      refine mald C hE hH h2 (vp_in_nI hj (by decide)) dX1_settleLowest_29 ?_
      rw [nI_clamp (show j < 2 ^ 31 by omega)]
      refine lv_ineg C.1 C.2.1 dX1_settleLowest_30 ?_
      refine lv_aload_n C.1 C.2.1 dX1_settleLowest_31 rfl (lv_at hl 2 rfl) ?_
      refine mget C hE hH fl_95 h0 rfl dX1_settleLowest_32 ?_
      refine lv_iload_n C.1 C.2.1 dX1_settleLowest_35 rfl (lv_at hl 0 rfl) ?_
      refine mald C hE hH h2 (vp_in_nI hk (by decide)) dX1_settleLowest_36 ?_
      rw [nI_clamp (show k < 2 ^ 31 by omega)]
      refine va_mmin C.1 C.2.1 (C.2.2.1.trans hl.1.symm) C.2.2.2.1 (C.2.2.2.2 _ wm_723) (C.2.2.2.2 _ wm_309) (C.2.2.2.2 _ wm_37) (C.2.2.2.2 _ wm_310) (Nat.le_of_ble_eq_true rfl) (Nat.le_of_ble_eq_true rfl) (by decide) (by decide) dX1_settleLowest_37 ?_
      refine lv_topi (fun x3 ex3 => ?_)
      refine lv_istore_n (lv' := [(3, .int x3), (2, .int (nI k)), (1, .int (nI j)), (0, .ref a)]) C.1 C.2.1 dX1_settleLowest_40 rfl hl (by decide) rfl (fun ls hl => ?_)
      obtain rfl : x3 = zam (U j) (U k) := ex3
      refine lv_aload_n C.1 C.2.1 dX1_settleLowest_41 rfl (lv_at hl 3 rfl) ?_
      refine mget C hE hH fl_93 h0 rfl dX1_settleLowest_42 ?_
      refine lv_iload_n C.1 C.2.1 dX1_settleLowest_45 rfl (lv_at hl 2 rfl) ?_
      refine maldq (k := 4) (y := (dr j)) C hE hH h1 rfl rfl (vp_in_nI hj (by decide)) (by rw [nI_clamp (by omega)]; exact hrow j hj) dX1_settleLowest_46 ?_
      refine lv_iload_n C.1 C.2.1 dX1_settleLowest_47 rfl (lv_at hl 1 rfl) ?_
      refine lv_iload_n C.1 C.2.1 dX1_settleLowest_48 rfl (lv_at hl 0 rfl) ?_
      refine mast C hE hH hS (hD j hj) (vp_in_nI hk (by decide)) dX1_settleLowest_49 (fun H locs hH hS => ?_)
      rw [nI_clamp (show k < 2 ^ 31 by omega)] at hH
      obtain ⟨M4, hM4⟩ : ∃ z, z = mu M (dr j) (eI g 5 (upd (D j) k (zam (U j) (U k)))) := ⟨_, rfl⟩
      have hH : Hw g M4 H := by rw [hM4]; exact hH
      have f5 : M4 (dr j) = some (eI g 5 (upd (D j) k (zam (U j) (U k)))) := by rw [hM4]; exact mu_s
      have f6 : M4 a = some (eO 2 [.int sh, .ref d, .ref u]) := by rw [hM4]; exact (mu_n (m_ne h0 (hD j hj) (by first | (intro z; cases z; done) | exact ne_IQ | exact ne_IQ.symm | exact ne_LI | exact ne_LI.symm | (intro z; cases z; omega) | (intro z; cases z; contradiction) | exact (fun z => by cases z)))).trans h0
      have f7 : M4 d = some (eQ g 4 5 orow) := by rw [hM4]; exact (mu_n (m_ne h1 (hD j hj) (by first | (intro z; cases z; done) | exact ne_IQ | exact ne_IQ.symm | exact ne_LI | exact ne_LI.symm | (intro z; cases z; omega) | (intro z; cases z; contradiction) | exact (fun z => by cases z)))).trans h1
      have f8 : M4 u = some (eI g 5 U) := by rw [hM4]; exact (mu_n (hun j hj).symm).trans h2
      refine lv_aload_n C.1 C.2.1 dX1_settleLowest_50 rfl (lv_at hl 3 rfl) ?_
      refine mget C hE hH fl_95 f6 rfl dX1_settleLowest_51 ?_
      refine lv_iload_n C.1 C.2.1 dX1_settleLowest_54 rfl (lv_at hl 2 rfl) ?_
      refine lv_dup2_11 C.1 C.2.1 dX1_settleLowest_55 rfl rfl ?_
      refine mald C hE hH f8 (vp_in_nI hj (by decide)) dX1_settleLowest_56 ?_
      rw [nI_clamp (show j < 2 ^ 31 by omega)]
      refine lv_iload_n C.1 C.2.1 dX1_settleLowest_57 rfl (lv_at hl 0 rfl) ?_
      refine lv_iadd C.1 C.2.1 dX1_settleLowest_58 ?_
      refine mast C hE hH hS f8 (vp_in_nI hj (by decide)) dX1_settleLowest_59 (fun H locs hH hS => ?_)
      rw [nI_clamp (show j < 2 ^ 31 by omega)] at hH
      obtain ⟨M9, hM9⟩ : ∃ z, z = mu M4 u (eI g 5 (upd U j ((U j) + (zam (U j) (U k))))) := ⟨_, rfl⟩
      have hH : Hw g M9 H := by rw [hM9]; exact hH
      have f10 : M9 u = some (eI g 5 (upd U j ((U j) + (zam (U j) (U k))))) := by rw [hM9]; exact mu_s
      have f11 : M9 a = some (eO 2 [.int sh, .ref d, .ref u]) := by rw [hM9]; exact (mu_n (m_ne f6 f8 (by first | (intro z; cases z; done) | exact ne_IQ | exact ne_IQ.symm | exact ne_LI | exact ne_LI.symm | (intro z; cases z; omega) | (intro z; cases z; contradiction) | exact (fun z => by cases z)))).trans f6
      have f12 : M9 d = some (eQ g 4 5 orow) := by rw [hM9]; exact (mu_n (m_ne f7 f8 (by first | (intro z; cases z; done) | exact ne_IQ | exact ne_IQ.symm | exact ne_LI | exact ne_LI.symm | (intro z; cases z; omega) | (intro z; cases z; contradiction) | exact (fun z => by cases z)))).trans f7
      have f13 : M9 (dr j) = some (eI g 5 (upd (D j) k (zam (U j) (U k)))) := by rw [hM9]; exact (mu_n (hun j hj)).trans f5
      refine lv_aload_n C.1 C.2.1 dX1_settleLowest_60 rfl (lv_at hl 3 rfl) ?_
      refine mget C hE hH fl_95 f11 rfl dX1_settleLowest_61 ?_
      refine lv_iload_n C.1 C.2.1 dX1_settleLowest_64 rfl (lv_at hl 1 rfl) ?_
      refine lv_dup2_11 C.1 C.2.1 dX1_settleLowest_65 rfl rfl ?_
      refine mald C hE hH f10 (vp_in_nI hk (by decide)) dX1_settleLowest_66 ?_
      rw [nI_clamp (show k < 2 ^ 31 by omega)]
      refine lv_iload_n C.1 C.2.1 dX1_settleLowest_67 rfl (lv_at hl 0 rfl) ?_
      refine lv_isub C.1 C.2.1 dX1_settleLowest_68 ?_
      refine mast C hE hH hS f10 (vp_in_nI hk (by decide)) dX1_settleLowest_69 (fun H locs hH hS => ?_)
      rw [nI_clamp (show k < 2 ^ 31 by omega)] at hH
      obtain ⟨M14, hM14⟩ : ∃ z, z = mu M9 u (eI g 5 (upd (upd U j ((U j) + (zam (U j) (U k)))) k (((upd U j ((U j) + (zam (U j) (U k)))) k) - (zam (U j) (U k))))) := ⟨_, rfl⟩
      have hH : Hw g M14 H := by rw [hM14]; exact hH
      have f15 : M14 u = some (eI g 5 (upd (upd U j ((U j) + (zam (U j) (U k)))) k (((upd U j ((U j) + (zam (U j) (U k)))) k) - (zam (U j) (U k))))) := by rw [hM14]; exact mu_s
      have f16 : M14 a = some (eO 2 [.int sh, .ref d, .ref u]) := by rw [hM14]; exact (mu_n (m_ne f11 f10 (by first | (intro z; cases z; done) | exact ne_IQ | exact ne_IQ.symm | exact ne_LI | exact ne_LI.symm | (intro z; cases z; omega) | (intro z; cases z; contradiction) | exact (fun z => by cases z)))).trans f11
      have f17 : M14 d = some (eQ g 4 5 orow) := by rw [hM14]; exact (mu_n (m_ne f12 f10 (by first | (intro z; cases z; done) | exact ne_IQ | exact ne_IQ.symm | exact ne_LI | exact ne_LI.symm | (intro z; cases z; omega) | (intro z; cases z; contradiction) | exact (fun z => by cases z)))).trans f12
      have f18 : M14 (dr j) = some (eI g 5 (upd (D j) k (zam (U j) (U k)))) := by rw [hM14]; exact (mu_n (hun j hj)).trans f13
      refine lv_iconst (v := 1) C.1 C.2.1 dX1_settleLowest_70 rfl ?_
      exact wr_zret () C hr hlocks (rfl) hH hS (congrArg (fun z => some (Value.int z)) (by rw [show zfound U = true from decide_eq_true ⟨by rw [ej]; exact fun z => absurd z (nI_nm1 hj), by rw [ek]; exact fun z => absurd z (nI_nm1 hk)⟩]; rfl)) (Or.inr ⟨by unfold zfound; exact decide_eq_true ⟨by rw [ej]; exact fun z => absurd z (nI_nm1 hj), by rw [ek]; exact fun z => absurd z (nI_nm1 hk)⟩, j, k, hj, hk, ej, ek, nj, nk, by rw [hM14, hM9, hM4, mu_mu]; rfl⟩) (by decide) (by decide) dX1_settleLowest_71
    · refine lv_iconst (v := 0) C.1 C.2.1 dX1_settleLowest_22 rfl ?_
      exact wr_zret () C hr hlocks (rfl) hH hS (congrArg (fun z => some (Value.int z)) (by rw [show zfound U = false from decide_eq_false (fun z => z.2 (by rw [← ex2]; exact c19))]; rfl)) (Or.inl ⟨by unfold zfound; exact decide_eq_false (fun z => z.2 (by rw [← ex2]; exact c19)), rfl⟩) (by decide) (by decide) dX1_settleLowest_23
end
