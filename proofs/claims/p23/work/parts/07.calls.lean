/-! CALLS OVER THE MAP WORLD -/
abbrev MVx (y : MethodName) (n : Nat) : Prop := y.cls ≠ "java/lang/invoke/MethodHandle" ∧ y.cls ≠ "java/lang/invoke/VarHandle" ∧ (parseMethodDescriptor y.desc).map (fun d => d.parameters.length) = some n
/-- what the tables say of a method of objects, of a static one, of a constructor, of a static one with a table of its own -/
def MVi (y : MethodName) (cc : ByteArray) (maxL : Nat) (ret : Option FieldType) (n : Nat) : Prop := Cond.code y cc maxL ret ∈ WA ∧ MVx y n ∧ Cond.initialized y.cls ∈ WA ∧ Cond.instanceMethod y ∈ WA ∧ Cond.selects y.cls y y ∈ WA
def MVs (y : MethodName) (cc : ByteArray) (maxL : Nat) (ret : Option FieldType) (n : Nat) : Prop := Cond.code y cc maxL ret ∈ WA ∧ MVx y n ∧ Cond.initialized y.cls ∈ WA ∧ Cond.static y ∈ WA
def MVc (y : MethodName) (cc : ByteArray) (maxL : Nat) (n : Nat) : Prop := Cond.code y cc maxL none ∈ WA ∧ MVx y n ∧ Cond.initialized y.cls ∈ WA ∧ Cond.instanceMethod y ∈ WA ∧ y.name = "<init>"
def MVt (y : MethodName) (cc : ByteArray) (maxL : Nat) (ret : Option FieldType) (hh : List (Nat × Nat × Nat × Nat)) (n : Nat) : Prop := Cond.codeWith y cc maxL ret hh ∈ WA ∧ MVx y n ∧ Cond.initialized y.cls ∈ WA ∧ Cond.static y ∈ WA
abbrev WY (y : MethodName) (cc : ByteArray) (maxL : Nat) (ret : Option FieldType) : List Cond := Cond.code y cc maxL ret :: WA
theorem gi_app {a b : List Cond} (ha : ∀ w ∈ a, w ∈ WA) (hb : GoodIn WA b) : GoodIn WA (a ++ b) := fun w h => (List.mem_append.mp h).elim (fun q => goodIn_W (ha w q)) (hb w)
theorem gi_V {own : String} {idx : Nat} {y : MethodName} {b : List Cond} (h1 : Cond.methodLink own idx y ∈ WA) (h2 : Cond.instanceMethod y ∈ WA) (h3 : Cond.selects y.cls y y ∈ WA) (h4 : Cond.initialized y.cls ∈ WA) (hb : GoodIn WA b) : GoodIn WA (wsV own idx y.cls y b) := gi_app (fun w h => by
  rcases List.mem_cons.mp h with rfl | h
  · exact h1
  rcases List.mem_cons.mp h with rfl | h
  · exact h2
  rcases List.mem_cons.mp h with rfl | h
  · exact h3
  rcases List.mem_cons.mp h with rfl | h
  · exact h4
  exact absurd h List.not_mem_nil) hb
theorem gi_S {own : String} {idx : Nat} {y : MethodName} {b : List Cond} (h1 : Cond.methodLink own idx y ∈ WA) (h2 : Cond.static y ∈ WA) (h4 : Cond.initialized y.cls ∈ WA) (hb : GoodIn WA b) : GoodIn WA (va_wsS own idx y b) := gi_app (fun w h => by
  rcases List.mem_cons.mp h with rfl | h
  · exact h1
  rcases List.mem_cons.mp h with rfl | h
  · exact h2
  rcases List.mem_cons.mp h with rfl | h
  · exact h4
  exact absurd h List.not_mem_nil) hb
/-- a method that may throw and else only reads -/
def xrQ (P : Prop) (v : Option Value) : Array Value → State → Outcome → State → Prop := fun a st o t => P ∧ rdQ v a st o t
section MCR
variable {p : Program} {l : Launch} {e : Env} {R : Room} {s : State} {m : MethodId} {args : Array Value} {below : List Frame} {meth : Method} {c : Code} {H : Heap} {locs : List Loc} {cells slots : Nat} {Q : State → Prop}
variable {cc bytes : ByteArray} {nL maxL n idx mc ms ci : Nat} {own : String} {pc : Nat} {ls : Array Slot} {rest st0 As : List Value} {g : gG} {M : Mp} {a : Nat} {a9 : Array Value} {y : MethodName} {rm : Room} {ret : Option FieldType} {v : Option Value} {fs : List Value} {q : vw_C} {hh : List (Nat × Nat × Nat × Nat)}
theorem rd_go (hr : va_Run p l e R s m args below meth c H locs cells slots 0 0 (F0 m pc ls st0) rest (rdQ v a9) fr0) (kk : W p l e R s m args below meth c H locs cells slots Q (F0 m (pc + 3) ls (v.toList ++ rest))) : W p l e R s m args below meth c H locs cells slots Q (F0 m pc ls st0) := by
  intro T hT X
  obtain ⟨v', st₀, t, T', L, h0, X', hL, e1, e2, ⟨hv, hheap⟩, st⟩ := hr T hT X
  have hL0 : L = [] := by
    cases L with
    | nil => rfl
    | cons z L => exact (hL z List.mem_cons_self).elim
  subst hL0
  rw [List.append_nil] at X'
  cases hv
  obtain ⟨t2, a1, b1⟩ := kk T' (e1.trans (hheap.trans h0)) X'
  exact ⟨t2, st t2 a1, b1⟩
theorem wr_go {S : Type} {vf : S → Option Value} {P : S → Mp → Prop} (hr : va_Run p l e R s m args below meth c H locs cells slots mc ms (F0 m pc ls st0) rest (wrQ g vf P a9) (gA g)) (hS : va_S (gA g) s.heap H locs) (kk : ∀ (u : S) (M' : Mp) (H1 : Heap) (locs1 : List Loc), P u M' → Hw g M' H1 → va_S (gA g) s.heap H1 locs1 → W p l e R s m args below meth c H1 locs1 (cells + mc) (slots + ms) Q (F0 m (pc + 3) ls ((vf u).toList ++ rest))) : W p l e R s m args below meth c H locs cells slots Q (F0 m pc ls st0) := by
  intro T hT X
  obtain ⟨v', st₀, t, T', L, h0, X', hL, e1, e2, ⟨⟨u, M', hv, hp, hH⟩, hF⟩, st⟩ := hr T hT X
  cases hv
  obtain ⟨-, -, k3⟩ := vx_keep (A0 := gA g) h0 e1 hS (fun _ _ z => z) (fun _ z => z) hL hF
  obtain ⟨t2, a1, b1⟩ := kk u M' T'.heap (locs ++ L) hp (by rw [e1]; exact hH) k3 T' rfl X'
  exact ⟨t2, st t2 a1, b1⟩
theorem xr_go {P : Prop} {X : String → Prop} (hr : vx_Run p l e R s m args below meth c H locs cells slots mc ms (F0 m pc ls st0) rest (xrQ P v a9) (xQ X) fr0)
    (kx : ∀ (E : String) (ce : Cell) (q9 : Addr) (H1 : Heap), X E → H.size ≤ H1.size → (∀ q : Nat, q < H.size → H1[q]? = H[q]?) → H1[q9]? = some ce → ce.vm = .none → s.vm.findClass E = some ce.cls → vx_W p l e R s m args below meth c H1 locs (cells + mc) (slots + ms) Q (F0 m pc ls rest) q9)
    (kk : P → W p l e R s m args below meth c H locs (cells + mc) (slots + ms) Q (F0 m (pc + 3) ls (v.toList ++ rest))) : W p l e R s m args below meth c H locs cells slots Q (F0 m pc ls st0) := by
  intro T hT X
  rcases hr T hT X with ⟨v', st₀, t, T', L, h0, X', hL, e1, e2, ⟨hP, hv, hheap⟩, st⟩ | ⟨q, st₀, t, T', L, E, ce, h0, X', hL, e1, e2, ⟨hx, hz, hk⟩, hce, hcv, hcl, st⟩
  all_goals
    have hL0 : L = [] := by
      cases L with
      | nil => rfl
      | cons z L => exact (hL z List.mem_cons_self).elim
    subst hL0
    rw [List.append_nil] at X'
  · cases hv
    obtain ⟨t2, a1, b1⟩ := kk hP T' (e1.trans (hheap.trans h0)) X'
    exact ⟨t2, st t2 a1, b1⟩
  · obtain ⟨t2, a1, b1⟩ := kx E ce q T'.heap hx (by rw [e1, ← h0]; exact hz) (fun q9 h9 => by rw [e1, ← h0]; exact hk q9 (by rw [h0]; exact h9)) (by rw [e1]; exact hce) hcv hcl T' rfl X'
    exact ⟨t2, st.trans a1, b1⟩
theorem xw_go {S : Type} {vf : S → Option Value} {P : S → Mp → Prop} {X : String → Prop} (hr : vx_Run p l e R s m args below meth c H locs cells slots mc ms (F0 m pc ls st0) rest (wrQ g vf P a9) (xQ X) (gA g)) (hS : va_S (gA g) s.heap H locs)
    (kx : ∀ (E : String) (ce : Cell) (q9 : Addr) (H1 : Heap) (locs1 : List Loc), X E → H.size ≤ H1.size → (∀ q : Nat, q < H.size → H1[q]? = H[q]?) → va_S (gA g) s.heap H1 locs1 → H1[q9]? = some ce → ce.vm = .none → s.vm.findClass E = some ce.cls → vx_W p l e R s m args below meth c H1 locs1 (cells + mc) (slots + ms) Q (F0 m pc ls rest) q9)
    (kk : ∀ (u : S) (M' : Mp) (H1 : Heap) (locs1 : List Loc), P u M' → Hw g M' H1 → va_S (gA g) s.heap H1 locs1 → W p l e R s m args below meth c H1 locs1 (cells + mc) (slots + ms) Q (F0 m (pc + 3) ls ((vf u).toList ++ rest))) : W p l e R s m args below meth c H locs cells slots Q (F0 m pc ls st0) := by
  intro T hT X
  rcases hr T hT X with ⟨v', st₀, t, T', L, h0, X', hL, e1, e2, ⟨⟨u, M', hv, hp, hH⟩, hF⟩, st⟩ | ⟨q, st₀, t, T', L, E, ce, h0, X', hL, e1, e2, ⟨hx, hz, hk⟩, hce, hcv, hcl, st⟩
  · cases hv
    obtain ⟨-, -, k3⟩ := vx_keep (A0 := gA g) h0 e1 hS (fun _ _ z => z) (fun _ z => z) hL hF
    obtain ⟨t2, a1, b1⟩ := kk u M' T'.heap (locs ++ L) hp (by rw [e1]; exact hH) k3 T' rfl X'
    exact ⟨t2, st t2 a1, b1⟩
  · obtain ⟨-, -, k3⟩ := vx_keep (A0 := gA g) (A1 := gA g) h0 e1 hS (fun _ _ z => z) (fun _ z => z) hL ⟨hz, fun q9 h9 _ => hk q9 h9⟩
    obtain ⟨t2, a1, b1⟩ := kx E ce q T'.heap (locs ++ L) hx (by rw [e1, ← h0]; exact hz) (fun q9 h9 => by rw [e1, ← h0]; exact hk q9 (by rw [h0]; exact h9)) k3 (by rw [e1]; exact hce) hcv hcl T' rfl X'
    exact ⟨t2, st.trans a1, b1⟩
theorem m_recv (hE : gE g s) (hH : Hw g M H) (ho : M a = some (eO ci fs)) (hc : vwCl[ci]? = some q) : ∃ cell : Cell, H[a]? = some cell ∧ cell.vm.isStatics = false ∧ s.vm.findClass q.1 = some cell.cls := va_recv hE.1 (mw_one hH.1 ho) hc (q0 := 0) rfl
abbrev RmOk (rm R : Room) (maxL : Nat) : Prop := rm.frames + 1 ≤ R.frames ∧ 8 + (maxL + 11) + rm.locals ≤ R.locals
-- calls of methods that never throw: V on an object, S static, I a constructor
theorem runV {Qc : Array Value → State → Outcome → State → Prop} {free : Addr → Prop} (C : CallFix p m c cc nL s args WA own) (hE : gE g s) (hH : Hw g M H) (hS : va_S (gA g) s.heap H locs) (hM : Met l y (WY y bytes maxL ret) rm (Wc g M (.ref a :: As)) Qc mc ms free) (B : MVi y bytes maxL ret n) (h1 : Cond.methodLink own idx y ∈ WA) (ho : M a = some (eO ci fs)) (hc : vwCl[ci]? = some q) (hq : q.1 = y.cls) (hsz : ls.size = nL) (hdg : decode cc pc = .ok (.invokevirtual idx, 3)) (hn : As.length = n) (hst : st0 = As.reverse ++ .ref a :: rest) (hrm : rm.cells = mc ∧ rm.slots = ms) (hR : RmOk rm R maxL) (hW : (rest.map fun v => v.category).sum ≤ 8) (hf : cells + mc ≤ R.cells ∧ slots + ms ≤ R.slots) : va_Run p l e R s m args below meth c H locs cells slots mc ms (F0 m pc ls st0) rest (Qc (Value.ref a :: As).toArray) free := by
  obtain ⟨b1, b2, b3, b4, b5⟩ := B
  exact va_runV C hM (cwV n C.2.2.2.2 (gi_V h1 b4 b5 b3 (goodIn_c b1)) rfl hrm.1 hrm.2 ⟨rfl, b2⟩ hR) ⟨Wc_blind, by obtain ⟨cell, z1, z2, z3⟩ := m_recv hE hH ho hc; exact ⟨cell, z1, z2, by rw [← hq]; exact z3⟩, Wc_at hE hH hS (.ref a :: As)⟩ rfl hn hsz hst (lv_room hW) hdg hf
theorem runS {Qc : Array Value → State → Outcome → State → Prop} {free : Addr → Prop} (C : CallFix p m c cc nL s args WA own) (hE : gE g s) (hH : Hw g M H) (hS : va_S (gA g) s.heap H locs) (hM : Met l y (WY y bytes maxL ret) rm (Wc g M As) Qc mc ms free) (B : MVs y bytes maxL ret n) (h1 : Cond.methodLink own idx y ∈ WA) (hsz : ls.size = nL) (hdg : decode cc pc = .ok (.invokestatic idx, 3)) (hn : As.length = n) (hst : st0 = As.reverse ++ rest) (hrm : rm.cells = mc ∧ rm.slots = ms) (hR : RmOk rm R maxL) (hW : (rest.map fun v => v.category).sum ≤ 8) (hf : cells + mc ≤ R.cells ∧ slots + ms ≤ R.slots) : va_Run p l e R s m args below meth c H locs cells slots mc ms (F0 m pc ls st0) rest (Qc As.toArray) free := by
  obtain ⟨b1, b2, b3, b4⟩ := B
  exact va_runS C hM (va_cwS n C.2.2.2.2 (gi_S h1 b4 b3 (goodIn_c b1)) rfl hrm.1 hrm.2 b2 hR) ⟨Wc_blind, Wc_at hE hH hS As⟩ rfl hn hsz hst (lv_room hW) hdg hf
theorem runI {Qc : Array Value → State → Outcome → State → Prop} {free : Addr → Prop} (C : CallFix p m c cc nL s args WA own) (hE : gE g s) (hH : Hw g M H) (hS : va_S (gA g) s.heap H locs) (hM : Met l y (WY y bytes maxL none) rm (Wc g M (.ref a :: As)) Qc mc ms free) (B : MVc y bytes maxL n) (h1 : Cond.methodLink own idx y ∈ WA) (hsz : ls.size = nL) (hdg : decode cc pc = .ok (.invokespecial idx, 3)) (hn : As.length = n) (hst : st0 = As.reverse ++ .ref a :: rest) (hrm : rm.cells = mc ∧ rm.slots = ms) (hR : RmOk rm R maxL) (hW : (rest.map fun v => v.category).sum ≤ 8) (hf : cells + mc ≤ R.cells ∧ slots + ms ≤ R.slots) : va_Run p l e R s m args below meth c H locs cells slots mc ms (F0 m pc ls st0) rest (Qc (Value.ref a :: As).toArray) free := by
  obtain ⟨b1, b2, b3, b4, b5⟩ := B
  exact va_runI C hM (cwI n C.2.2.2.2 (goodIn_c b1) rfl hrm.1 hrm.2 (C.2.2.2.2 _ b3) (C.2.2.2.2 _ h1) (C.2.2.2.2 _ b4) b5 b2 hR) ⟨Wc_blind, Wc_at hE hH hS (.ref a :: As)⟩ rfl hn hsz hst (lv_room hW) hdg hf
theorem runIN {host : String} {Qc : Array Value → State → Outcome → State → Prop} {free : Addr → Prop} (C : CallFix p m c cc nL s args WA own) (hE : gE g s) (hH : Hw g M H) (hS : va_S (gA g) s.heap H locs) (hM : Met l y (WY y bytes maxL none) rm (Wc g M (.ref a :: As)) Qc mc ms free) (B : MVc y bytes maxL n) (h1 : va_Nw (.methodLinkNest own idx y host) s) (hsz : ls.size = nL) (hdg : decode cc pc = .ok (.invokespecial idx, 3)) (hn : As.length = n) (hst : st0 = As.reverse ++ .ref a :: rest) (hrm : rm.cells = mc ∧ rm.slots = ms) (hR : RmOk rm R maxL) (hW : (rest.map fun v => v.category).sum ≤ 8) (hf : cells + mc ≤ R.cells ∧ slots + ms ≤ R.slots) : va_Run p l e R s m args below meth c H locs cells slots mc ms (F0 m pc ls st0) rest (Qc (Value.ref a :: As).toArray) free := by
  obtain ⟨b1, b2, b3, b4, b5⟩ := B
  exact va_runIN C hM ⟨va_cnB n C.2.2.2.2 (goodIn_c b1) rfl hrm.1 hrm.2 h1 (C.2.2.2.2 _ b3) b2 hR, b5, C.2.2.2.2 _ b4⟩ ⟨Wc_blind, Wc_at hE hH hS (.ref a :: As)⟩ rfl hn hsz hst (lv_room hW) hdg hf
theorem runSN {host : String} {Qc : Array Value → State → Outcome → State → Prop} {free : Addr → Prop} (C : CallFix p m c cc nL s args WA own) (hE : gE g s) (hH : Hw g M H) (hS : va_S (gA g) s.heap H locs) (hM : Met l y (WY y bytes maxL ret) rm (Wc g M As) Qc mc ms free) (B : MVs y bytes maxL ret n) (h1 : va_Nw (.methodLinkNest own idx y host) s) (hsz : ls.size = nL) (hdg : decode cc pc = .ok (.invokestatic idx, 3)) (hn : As.length = n) (hst : st0 = As.reverse ++ rest) (hrm : rm.cells = mc ∧ rm.slots = ms) (hR : RmOk rm R maxL) (hW : (rest.map fun v => v.category).sum ≤ 8) (hf : cells + mc ≤ R.cells ∧ slots + ms ≤ R.slots) : va_Run p l e R s m args below meth c H locs cells slots mc ms (F0 m pc ls st0) rest (Qc As.toArray) free := by
  obtain ⟨b1, b2, b3, b4⟩ := B
  exact va_runSN C hM ⟨va_cnB n C.2.2.2.2 (goodIn_c b1) rfl hrm.1 hrm.2 h1 (C.2.2.2.2 _ b3) b2 hR, C.2.2.2.2 _ b4, trivial⟩ ⟨Wc_blind, Wc_at hE hH hS As⟩ rfl hn hsz hst (lv_room hW) hdg hf
theorem runT {Qc : Array Value → State → Outcome → State → Prop} {free : Addr → Prop} (C : CallFix p m c cc nL s args WA own) (hE : gE g s) (hH : Hw g M H) (hS : va_S (gA g) s.heap H locs) (hM : Met l y (Cond.codeWith y bytes maxL ret hh :: WA) rm (Wc g M As) Qc mc ms free) (B : MVt y bytes maxL ret hh n) (h1 : Cond.methodLink own idx y ∈ WA) (hsz : ls.size = nL) (hdg : decode cc pc = .ok (.invokestatic idx, 3)) (hn : As.length = n) (hst : st0 = As.reverse ++ rest) (hrm : rm.cells = mc ∧ rm.slots = ms) (hR : RmOk rm R maxL) (hW : (rest.map fun v => v.category).sum ≤ 8) (hf : cells + mc ≤ R.cells ∧ slots + ms ≤ R.slots) : va_Run p l e R s m args below meth c H locs cells slots mc ms (F0 m pc ls st0) rest (Qc As.toArray) free := by
  obtain ⟨b1, b2, b3, b4⟩ := B
  exact vx_runSW C hM (vx_cwSW n C.2.2.2.2 (gi_S h1 b4 b3 (goodIn_t b1)) rfl hrm.1 hrm.2 b2 hR) ⟨Wc_blind, Wc_at hE hH hS As⟩ rfl hn hsz hst (lv_room hW) hdg hf
-- calls of methods that may throw
theorem xrunV {Qc : Array Value → State → Outcome → State → Prop} {XC : String → State → State → Prop} {free : Addr → Prop} (C : CallFix p m c cc nL s args WA own) (hE : gE g s) (hH : Hw g M H) (hS : va_S (gA g) s.heap H locs) (hM : vx_Met l y (WY y bytes maxL ret) rm (Wc g M (.ref a :: As)) Qc XC mc ms free) (B : MVi y bytes maxL ret n) (h1 : Cond.methodLink own idx y ∈ WA) (ho : M a = some (eO ci fs)) (hc : vwCl[ci]? = some q) (hq : q.1 = y.cls) (hsz : ls.size = nL) (hdg : decode cc pc = .ok (.invokevirtual idx, 3)) (hn : As.length = n) (hst : st0 = As.reverse ++ .ref a :: rest) (hrm : rm.cells = mc ∧ rm.slots = ms) (hR : RmOk rm R maxL) (hW : (rest.map fun v => v.category).sum ≤ 8) (hf : cells + mc ≤ R.cells ∧ slots + ms ≤ R.slots) : vx_Run p l e R s m args below meth c H locs cells slots mc ms (F0 m pc ls st0) rest (Qc (Value.ref a :: As).toArray) XC free := by
  obtain ⟨b1, b2, b3, b4, b5⟩ := B
  exact vx_runV C hM (cwV n C.2.2.2.2 (gi_V h1 b4 b5 b3 (goodIn_c b1)) rfl hrm.1 hrm.2 ⟨rfl, b2⟩ hR) ⟨Wc_blind, by obtain ⟨cell, z1, z2, z3⟩ := m_recv hE hH ho hc; exact ⟨cell, z1, z2, by rw [← hq]; exact z3⟩, Wc_at hE hH hS (.ref a :: As)⟩ rfl hn hsz hst (lv_room hW) hdg hf
theorem xrunS {Qc : Array Value → State → Outcome → State → Prop} {XC : String → State → State → Prop} {free : Addr → Prop} (C : CallFix p m c cc nL s args WA own) (hE : gE g s) (hH : Hw g M H) (hS : va_S (gA g) s.heap H locs) (hM : vx_Met l y (WY y bytes maxL ret) rm (Wc g M As) Qc XC mc ms free) (B : MVs y bytes maxL ret n) (h1 : Cond.methodLink own idx y ∈ WA) (hsz : ls.size = nL) (hdg : decode cc pc = .ok (.invokestatic idx, 3)) (hn : As.length = n) (hst : st0 = As.reverse ++ rest) (hrm : rm.cells = mc ∧ rm.slots = ms) (hR : RmOk rm R maxL) (hW : (rest.map fun v => v.category).sum ≤ 8) (hf : cells + mc ≤ R.cells ∧ slots + ms ≤ R.slots) : vx_Run p l e R s m args below meth c H locs cells slots mc ms (F0 m pc ls st0) rest (Qc As.toArray) XC free := by
  obtain ⟨b1, b2, b3, b4⟩ := B
  exact vx_runS C hM (va_cwS n C.2.2.2.2 (gi_S h1 b4 b3 (goodIn_c b1)) rfl hrm.1 hrm.2 b2 hR) ⟨Wc_blind, Wc_at hE hH hS As⟩ rfl hn hsz hst (lv_room hW) hdg hf
theorem rd_go1 {v1 : Value} (hr : va_Run p l e R s m args below meth c H locs cells slots 0 0 (F0 m pc ls st0) rest (rdQ (some v1) a9) fr0) (kk : W p l e R s m args below meth c H locs cells slots Q (F0 m (pc + 3) ls (v1 :: rest))) : W p l e R s m args below meth c H locs cells slots Q (F0 m pc ls st0) := rd_go hr kk
theorem rd_go0 (hr : va_Run p l e R s m args below meth c H locs cells slots 0 0 (F0 m pc ls st0) rest (rdQ none a9) fr0) (kk : W p l e R s m args below meth c H locs cells slots Q (F0 m (pc + 3) ls rest)) : W p l e R s m args below meth c H locs cells slots Q (F0 m pc ls st0) := rd_go hr kk
theorem wr_go1 {S : Type} {vf : S → Value} {P : S → Mp → Prop} (hr : va_Run p l e R s m args below meth c H locs cells slots mc ms (F0 m pc ls st0) rest (wrQ g (fun u => some (vf u)) P a9) (gA g)) (hS : va_S (gA g) s.heap H locs) (kk : ∀ (u : S) (M' : Mp) (H1 : Heap) (locs1 : List Loc), P u M' → Hw g M' H1 → va_S (gA g) s.heap H1 locs1 → W p l e R s m args below meth c H1 locs1 (cells + mc) (slots + ms) Q (F0 m (pc + 3) ls (vf u :: rest))) : W p l e R s m args below meth c H locs cells slots Q (F0 m pc ls st0) := wr_go hr hS kk
theorem wr_go0 {S : Type} {P : S → Mp → Prop} (hr : va_Run p l e R s m args below meth c H locs cells slots mc ms (F0 m pc ls st0) rest (wrQ g (fun _ => none) P a9) (gA g)) (hS : va_S (gA g) s.heap H locs) (kk : ∀ (u : S) (M' : Mp) (H1 : Heap) (locs1 : List Loc), P u M' → Hw g M' H1 → va_S (gA g) s.heap H1 locs1 → W p l e R s m args below meth c H1 locs1 (cells + mc) (slots + ms) Q (F0 m (pc + 3) ls rest)) : W p l e R s m args below meth c H locs cells slots Q (F0 m pc ls st0) := wr_go hr hS kk
theorem xr_go1 {P : Prop} {X : String → Prop} {v1 : Value} (hr : vx_Run p l e R s m args below meth c H locs cells slots mc ms (F0 m pc ls st0) rest (xrQ P (some v1) a9) (xQ X) fr0)
    (kx : ∀ (E : String) (ce : Cell) (q9 : Addr) (H1 : Heap), X E → H.size ≤ H1.size → (∀ q : Nat, q < H.size → H1[q]? = H[q]?) → H1[q9]? = some ce → ce.vm = .none → s.vm.findClass E = some ce.cls → vx_W p l e R s m args below meth c H1 locs (cells + mc) (slots + ms) Q (F0 m pc ls rest) q9)
    (kk : P → W p l e R s m args below meth c H locs (cells + mc) (slots + ms) Q (F0 m (pc + 3) ls (v1 :: rest))) : W p l e R s m args below meth c H locs cells slots Q (F0 m pc ls st0) := xr_go hr kx kk
theorem xr_go0 {P : Prop} {X : String → Prop} (hr : vx_Run p l e R s m args below meth c H locs cells slots mc ms (F0 m pc ls st0) rest (xrQ P none a9) (xQ X) fr0)
    (kx : ∀ (E : String) (ce : Cell) (q9 : Addr) (H1 : Heap), X E → H.size ≤ H1.size → (∀ q : Nat, q < H.size → H1[q]? = H[q]?) → H1[q9]? = some ce → ce.vm = .none → s.vm.findClass E = some ce.cls → vx_W p l e R s m args below meth c H1 locs (cells + mc) (slots + ms) Q (F0 m pc ls rest) q9)
    (kk : P → W p l e R s m args below meth c H locs (cells + mc) (slots + ms) Q (F0 m (pc + 3) ls rest)) : W p l e R s m args below meth c H locs cells slots Q (F0 m pc ls st0) := xr_go hr kx kk
theorem xw_go1 {S : Type} {vf : S → Value} {P : S → Mp → Prop} {X : String → Prop} (hr : vx_Run p l e R s m args below meth c H locs cells slots mc ms (F0 m pc ls st0) rest (wrQ g (fun u => some (vf u)) P a9) (xQ X) (gA g)) (hS : va_S (gA g) s.heap H locs)
    (kx : ∀ (E : String) (ce : Cell) (q9 : Addr) (H1 : Heap) (locs1 : List Loc), X E → H.size ≤ H1.size → (∀ q : Nat, q < H.size → H1[q]? = H[q]?) → va_S (gA g) s.heap H1 locs1 → H1[q9]? = some ce → ce.vm = .none → s.vm.findClass E = some ce.cls → vx_W p l e R s m args below meth c H1 locs1 (cells + mc) (slots + ms) Q (F0 m pc ls rest) q9)
    (kk : ∀ (u : S) (M' : Mp) (H1 : Heap) (locs1 : List Loc), P u M' → Hw g M' H1 → va_S (gA g) s.heap H1 locs1 → W p l e R s m args below meth c H1 locs1 (cells + mc) (slots + ms) Q (F0 m (pc + 3) ls (vf u :: rest))) : W p l e R s m args below meth c H locs cells slots Q (F0 m pc ls st0) := xw_go hr hS kx kk
end MCR
