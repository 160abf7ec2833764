/-! METHODS OVER THE MAP WORLD: their heads and their ends -/
theorem ofM {l : Launch} {y : MethodName} {cc : ByteArray} {maxL : Nat} {ret : Option FieldType} {rm : Room} {g : gG} {M : Mp} {As : List Value} {Qc : Array Value → State → Outcome → State → Prop} {mc ms : Nat} {free : Addr → Prop} (hy : plainName y.cls = true) (hA : (lg_sl As).length ≤ maxL)
    (body : ∀ (p : Program) (e : Env) (s : State) (m : MethodId) (args : Array Value) (below : List Frame) (meth : Method) (c : Code) (ls : Array Slot), CallFix p m c cc maxL s args WA y.cls → meth.sig.returnType = ret → meth.locks = false → meth.name = y.name → gE g s → Hw g M s.heap → lv_has ls maxL (lv_args 0 As) → args = As.toArray → W p l e rm s m args below meth c s.heap [] 0 0 (MQ below Qc args s mc ms free) (F0 m 0 ls [])) : Met l y (WY y cc maxL ret) rm (Wc g M As) Qc mc ms free := by
  refine Met.ofW (cc := cc) (maxL := maxL) (ret := ret) hy rfl ?_
  intro p e s m args below meth c s₁ B hml hv
  obtain ⟨rfl, hE, hH⟩ := hv
  have hts := atoms_spec (ws := WY y cc maxL ret) B.pre
  have hl := lv_entry As (n := maxL) hA
  rw [lg_entry_eq]
  exact body p e s m _ below meth c _ ⟨B.exec, B.bytes, hml, findClass_of_methodNamed B.named, fun w h => hts w (List.mem_cons_of_mem _ h)⟩ B.returns B.notSynchronized (name_of_methodNamed B.named B.method).1 hE hH hl rfl
theorem ofX {l : Launch} {y : MethodName} {cc : ByteArray} {maxL : Nat} {ret : Option FieldType} {rm : Room} {g : gG} {M : Mp} {As : List Value} {Qc : Array Value → State → Outcome → State → Prop} {XC : String → State → State → Prop} {mc ms : Nat} {free : Addr → Prop} (hy : plainName y.cls = true) (hA : (lg_sl As).length ≤ maxL)
    (body : ∀ (p : Program) (e : Env) (s : State) (m : MethodId) (args : Array Value) (below : List Frame) (meth : Method) (c : Code) (ls : Array Slot), CallFix p m c cc maxL s args WA y.cls → meth.sig.returnType = ret → meth.locks = false → (∀ x ∈ c.exceptionTable.toList, False) → gE g s → Hw g M s.heap → lv_has ls maxL (lv_args 0 As) → args = As.toArray → W p l e rm s m args below meth c s.heap [] 0 0 (vx_MQ below Qc XC args s mc ms free) (F0 m 0 ls [])) : vx_Met l y (WY y cc maxL ret) rm (Wc g M As) Qc XC mc ms free := by
  refine vx_ofW (cc := cc) (maxL := maxL) (ret := ret) hy rfl ?_
  intro p e s m args below meth c s₁ B hml hout hv
  obtain ⟨rfl, hE, hH⟩ := hv
  have hts := atoms_spec (ws := WY y cc maxL ret) B.pre
  have hl := lv_entry As (n := maxL) hA
  rw [lg_entry_eq]
  exact body p e s m _ below meth c _ ⟨B.exec, B.bytes, hml, findClass_of_methodNamed B.named, fun w h => hts w (List.mem_cons_of_mem _ h)⟩ B.returns B.notSynchronized hout hE hH hl rfl
section MER
variable {p : Program} {l : Launch} {e : Env} {R : Room} {s : State} {m : MethodId} {args : Array Value} {below : List Frame} {meth : Method} {c : Code} {H : Heap} {locs : List Loc} {cells slots : Nat}
variable {cc : ByteArray} {nL mc ms : Nat} {own : String} {pc : Nat} {ls : Array Slot} {rest : List Value} {g : gG} {M : Mp} {Ts : List Cond}
theorem rd_iret {v w : Int32} (C : CallFix p m c cc nL s args Ts own) (hr : meth.sig.returnType = some .int) (hk : meth.locks = false) (hv : v = w) (hdg : decode cc pc = .ok (.ireturn, 1)) : W p l e R s m args below meth c s.heap [] 0 0 (MQ below (rdQ (some (.int w))) args s 0 0 fr0) (F0 m pc ls [.int v]) := by
  subst hv
  exact W.iret C.1 C.2.1 hr (fun t ht _ => ⟨rfl, ht⟩) (fun _ h => by cases h) hdg hk
theorem rd_zret {v w : Int32} (C : CallFix p m c cc nL s args Ts own) (hr : meth.sig.returnType = some .boolean) (hk : meth.locks = false) (hn : narrow .boolean (.int v) = .int v) (hv : v = w) (hdg : decode cc pc = .ok (.ireturn, 1)) : W p l e R s m args below meth c s.heap [] 0 0 (MQ below (rdQ (some (.int w))) args s 0 0 fr0) (F0 m pc ls [.int v]) := by
  subst hv
  exact W.zret C.1 C.2.1 hr hn (fun t ht _ => ⟨rfl, ht⟩) (fun _ h => by cases h) hdg hk
theorem rd_aret {v w : Nat} {rt : FieldType} (C : CallFix p m c cc nL s args Ts own) (hr : meth.sig.returnType = some rt) (hk : meth.locks = false) (hrt : (∃ n, rt = .object n) ∨ ∃ t, rt = .array t) (hv : v = w) (hdg : decode cc pc = .ok (.areturn, 1)) : W p l e R s m args below meth c s.heap [] 0 0 (MQ below (rdQ (some (.ref w))) args s 0 0 fr0) (F0 m pc ls [.ref v]) := by
  subst hv
  exact W.aret C.1 C.2.1 hr hrt (Or.inr ⟨v, rfl⟩) (fun t ht _ => ⟨rfl, ht⟩) (fun _ h => by cases h) hdg hk
theorem rd_vret (C : CallFix p m c cc nL s args Ts own) (hr : meth.sig.returnType = none) (hk : meth.locks = false) (hdg : decode cc pc = .ok (.return_, 1)) : W p l e R s m args below meth c s.heap [] 0 0 (MQ below (rdQ none) args s 0 0 fr0) (F0 m pc ls []) :=
  W.vret C.1 C.2.1 hr (fun t ht _ => ⟨rfl, ht⟩) (fun _ h => by cases h) hdg hk
-- ends of a method that writes
theorem wr_iret {S : Type} {vf : S → Option Value} {P : S → Mp → Prop} (u : S) {v : Int32} (C : CallFix p m c cc nL s args Ts own) (hr : meth.sig.returnType = some .int) (hk : meth.locks = false) (hH : Hw g M H) (hS : va_S (gA g) s.heap H locs) (hv : vf u = some (.int v)) (hp : P u M) (h1 : cells ≤ mc) (h2 : slots ≤ ms) (hdg : decode cc pc = .ok (.ireturn, 1)) : W p l e R s m args below meth c H locs cells slots (MQ below (wrQ g vf P) args s mc ms (gA g)) (F0 m pc ls [.int v]) :=
  W.widen h1 h2 (W.iret C.1 C.2.1 hr (fun t ht _ => ⟨⟨u, M, by rw [hv], hp, by rw [ht]; exact hH⟩, hS.F ht⟩) hS.2.2 hdg hk)
theorem wr_zret {S : Type} {vf : S → Option Value} {P : S → Mp → Prop} (u : S) {v : Int32} (C : CallFix p m c cc nL s args Ts own) (hr : meth.sig.returnType = some .boolean) (hk : meth.locks = false) (hn : narrow .boolean (.int v) = .int v) (hH : Hw g M H) (hS : va_S (gA g) s.heap H locs) (hv : vf u = some (.int v)) (hp : P u M) (h1 : cells ≤ mc) (h2 : slots ≤ ms) (hdg : decode cc pc = .ok (.ireturn, 1)) : W p l e R s m args below meth c H locs cells slots (MQ below (wrQ g vf P) args s mc ms (gA g)) (F0 m pc ls [.int v]) :=
  W.widen h1 h2 (W.zret C.1 C.2.1 hr hn (fun t ht _ => ⟨⟨u, M, by rw [hv], hp, by rw [ht]; exact hH⟩, hS.F ht⟩) hS.2.2 hdg hk)
theorem wr_aret {S : Type} {vf : S → Option Value} {P : S → Mp → Prop} (u : S) {v : Nat} {rt : FieldType} (C : CallFix p m c cc nL s args Ts own) (hr : meth.sig.returnType = some rt) (hk : meth.locks = false) (hrt : (∃ n, rt = .object n) ∨ ∃ t, rt = .array t) (hH : Hw g M H) (hS : va_S (gA g) s.heap H locs) (hv : vf u = some (.ref v)) (hp : P u M) (h1 : cells ≤ mc) (h2 : slots ≤ ms) (hdg : decode cc pc = .ok (.areturn, 1)) : W p l e R s m args below meth c H locs cells slots (MQ below (wrQ g vf P) args s mc ms (gA g)) (F0 m pc ls [.ref v]) :=
  W.widen h1 h2 (W.aret C.1 C.2.1 hr hrt (Or.inr ⟨v, rfl⟩) (fun t ht _ => ⟨⟨u, M, by rw [hv], hp, by rw [ht]; exact hH⟩, hS.F ht⟩) hS.2.2 hdg hk)
theorem wr_vret {S : Type} {vf : S → Option Value} {P : S → Mp → Prop} (u : S) (C : CallFix p m c cc nL s args Ts own) (hr : meth.sig.returnType = none) (hk : meth.locks = false) (hH : Hw g M H) (hS : va_S (gA g) s.heap H locs) (hv : vf u = none) (hp : P u M) (h1 : cells ≤ mc) (h2 : slots ≤ ms) (hdg : decode cc pc = .ok (.return_, 1)) : W p l e R s m args below meth c H locs cells slots (MQ below (wrQ g vf P) args s mc ms (gA g)) (F0 m pc ls []) :=
  W.widen h1 h2 (W.vret C.1 C.2.1 hr (fun t ht _ => ⟨⟨u, M, by rw [hv], hp, by rw [ht]; exact hH⟩, hS.F ht⟩) hS.2.2 hdg hk)
-- ends of a method that may throw and else reads
theorem xr_iret {P : Prop} {XC : String → State → State → Prop} {v w : Int32} (C : CallFix p m c cc nL s args Ts own) (hr : meth.sig.returnType = some .int) (hk : meth.locks = false) (hp : P) (hv : v = w) (h1 : cells ≤ mc) (h2 : slots ≤ ms) (hdg : decode cc pc = .ok (.ireturn, 1)) : W p l e R s m args below meth c s.heap [] cells slots (vx_MQ below (xrQ P (some (.int w))) XC args s mc ms fr0) (F0 m pc ls [.int v]) := by
  subst hv
  exact vx_ret (W.widen h1 h2 (W.iret C.1 C.2.1 hr (fun t ht _ => ⟨hp, rfl, ht⟩) (fun _ h => by cases h) hdg hk))
theorem xr_aret {P : Prop} {XC : String → State → State → Prop} {v w : Nat} {rt : FieldType} (C : CallFix p m c cc nL s args Ts own) (hr : meth.sig.returnType = some rt) (hk : meth.locks = false) (hrt : (∃ n, rt = .object n) ∨ ∃ t, rt = .array t) (hp : P) (hv : v = w) (h1 : cells ≤ mc) (h2 : slots ≤ ms) (hdg : decode cc pc = .ok (.areturn, 1)) : W p l e R s m args below meth c s.heap [] cells slots (vx_MQ below (xrQ P (some (.ref w))) XC args s mc ms fr0) (F0 m pc ls [.ref v]) := by
  subst hv
  exact vx_ret (W.widen h1 h2 (W.aret C.1 C.2.1 hr hrt (Or.inr ⟨v, rfl⟩) (fun t ht _ => ⟨hp, rfl, ht⟩) (fun _ h => by cases h) hdg hk))
theorem xr_vret {P : Prop} {XC : String → State → State → Prop} (C : CallFix p m c cc nL s args Ts own) (hr : meth.sig.returnType = none) (hk : meth.locks = false) (hp : P) (h1 : cells ≤ mc) (h2 : slots ≤ ms) (hdg : decode cc pc = .ok (.return_, 1)) : W p l e R s m args below meth c s.heap [] cells slots (vx_MQ below (xrQ P none) XC args s mc ms fr0) (F0 m pc ls []) :=
  vx_ret (W.widen h1 h2 (W.vret C.1 C.2.1 hr (fun t ht _ => ⟨hp, rfl, ht⟩) (fun _ h => by cases h) hdg hk))
/-- an exception that passes through a method that has written nothing -/
theorem x_pass {Qc : Array Value → State → Outcome → State → Prop} {X : String → Prop} {free : Addr → Prop} {E : String} {ce : Cell} {q : Addr} {H1 : Heap} (hout : ∀ x ∈ c.exceptionTable.toList, False) (hk : meth.locks = false) (hx : X E) (hz : s.heap.size ≤ H1.size) (ho : ∀ q : Nat, q < s.heap.size → H1[q]? = s.heap[q]?) (hcell : H1[q]? = some ce) (hv : ce.vm = .none) (hcl : s.vm.findClass E = some ce.cls) (h1 : cells ≤ mc) (h2 : slots ≤ ms) : vx_W p l e R s m args below meth c H1 [] cells slots (vx_MQ below Qc (xQ X) args s mc ms free) (F0 m pc ls rest) q :=
  vx_out (fun x h => (hout x h).elim) hk hcell hv hcl (fun t ht _ => ⟨hx, by rw [ht]; exact hz, fun q9 h9 => by rw [ht]; exact ho q9 h9⟩) (fun _ h => by cases h) h1 h2
def xNm : List String := ["java/lang/RuntimeException", "java/lang/Exception"]
/-- what the tables say of 'throw new cls(text)' in class own -/
def Tw (own : String) (ik is ic : Nat) (cls text : String) : Prop := Bundle.fit cls = true ∧ (∀ n ∈ xNm, Bundle.fit n = true) ∧ Cond.classLink own ik cls ∈ WA ∧ Cond.initialized cls ∈ WA ∧ (own, is, text) ∈ gStr ∧ (∀ w ∈ vx_atS own ic cls xNm, w ∈ WA ∨ w = .castable cls cls ∨ w ∈ gDcl) ∧ (∀ w ∈ Cond.classLink own ik cls :: Cond.initialized cls :: vx_atS own ic cls xNm, vx_ot w = true) ∧ cls ∈ gXs
theorem gDcl_ot {w : Cond} (h : w ∈ gDcl) : w.onTables = true := by
  rcases List.mem_cons.mp h with rfl | h
  · rfl
  rcases List.mem_cons.mp h with rfl | h
  · rfl
  rcases List.mem_cons.mp h with rfl | h
  · rfl
  exact absurd h List.not_mem_nil
theorem x_throw {Qc : Array Value → State → Outcome → State → Prop} {X : String → Prop} {free : Addr → Prop} {ik is ic : Nat} {cls text : String} (C : CallFix p m c cc nL s args WA own) (hl : l.stackTraces = false) (hout : ∀ x ∈ c.exceptionTable.toList, False) (hk : meth.locks = false) (hE : gE g s) (F : Tw own ik is ic cls text) (hsz : ls.size = nL) (hx : X cls)
    (d0 : decode cc pc = .ok (.new ik, 3)) (d3 : decode cc (pc + 3) = .ok (.dup, 1)) (d4 : decode cc (pc + 4) = .ok (.ldc is, 2)) (d6 : decode cc (pc + 6) = .ok (.invokespecial ic, 3)) (d9 : decode cc (pc + 9) = .ok (.athrow, 1))
    (hRf : 5 < R.frames) (hRl : (rest.map fun v => v.category).sum + 82 ≤ R.locals) (hRc : cells + 1 ≤ R.cells) (hRs : slots + 6 ≤ R.slots) (h1 : cells + 1 ≤ mc) (h2 : slots + 6 ≤ ms) : W p l e R s m args below meth c s.heap [] cells slots (vx_MQ below Qc (xQ X) args s mc ms free) (F0 m pc ls rest) := by
  obtain ⟨f1, f2, f3, f4, f5, f6, f7, f8⟩ := F
  obtain ⟨sa, hstr⟩ := hE.2.2.2.1 _ f5
  refine vx_throwS (names := xNm) (A := gA g) C.1 C.2.1 hl C.2.2.2.1 f1 f2 (C.2.2.2.2 _ f3) (C.2.2.2.2 _ f4) hstr (fun w hw => ?_) f7 hE.2.2.2.2.1.1 hE.2.2.2.2.1.2 va_S.rf (hsz.trans C.2.2.1.symm) d0 d3 d4 d6 d9 (fun x h => (hout x h).elim) hRf hRl hRc hRs hk (fun t _ hz ho => ⟨hx, hz, ho⟩) (fun _ h => by cases h) h1 h2
  rcases f6 w hw with h | rfl | h
  · exact C.2.2.2.2 _ h
  · exact (hE.2.2.2.2.2.2.2.1 _ f8).use rfl
  · exact (hE.2.2.2.2.2.2.2.2.2.2.2.2.2 w h).use (gDcl_ot h)
end MER
