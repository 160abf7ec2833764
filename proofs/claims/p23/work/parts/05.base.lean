/-! THE MAP WORLD: M says what each cell of the system holds; the heap holds M -/
abbrev Mp : Type := Nat → Option va_E
abbrev gG : Type := Nat × va_G × (Nat → ClassId) × (Nat → Nat)
abbrev gA (g : gG) : Nat → Prop := fun q => g.1 ≤ q
abbrev gT (g : gG) : List (ClassId × FieldType) := [(g.2.2.1 0, .int), (g.2.2.1 1, .int), (g.2.2.1 2, .object "java/lang/Object"), (g.2.2.1 3, .object "DyeRing$Cloth"), (g.2.2.1 4, .array .int)]
abbrev eI (g : gG) (n : Nat) (f : Nat → Int32) : va_E := .inl (g.2.2.1 0, n, .inl f)
abbrev eL (g : gG) (n : Nat) (f : Nat → Int64) : va_E := .inl (g.2.2.1 1, n, .inr (.inl f))
abbrev eQ (g : gG) (k n : Nat) (f : Nat → Option Nat) : va_E := .inl (g.2.2.1 k, n, .inr (.inr (.inr (.inr f))))
abbrev eO (ci : Nat) (fs : List Value) : va_E := .inr (ci, fs)
def mu (M : Mp) (a : Nat) (e : va_E) : Mp := fun b => if b = a then some e else M b
theorem mu_s {M : Mp} {a : Nat} {e : va_E} : mu M a e a = some e := if_pos rfl
theorem mu_n {M : Mp} {a b : Nat} {e : va_E} (h : b ≠ a) : mu M a e b = M b := if_neg h
theorem mu_mu {M : Mp} {a : Nat} {e e' : va_E} : mu (mu M a e) a e' = mu M a e' := funext fun b => by
  unfold mu; by_cases h : b = a <;> simp [h]
theorem m_ne {M : Mp} {a b : Nat} {x y : va_E} (ha : M a = some x) (hb : M b = some y) (h : x ≠ y) : a ≠ b := fun q => h (Option.some.inj (ha.symm.trans (q ▸ hb)))
theorem m_new {M : Mp} {q b : Nat} {y : va_E} (hq : M q = none) (hb : M b = some y) : b ≠ q := fun h => by rw [h, hq] at hb; cases hb
def mw (D : va_G) (M : Mp) (H : Heap) : Prop := ∀ a e, M a = some e → va_at D vwCl (a, e) H
def Hw (g : gG) (M : Mp) (H : Heap) : Prop := mw g.2.1 M H ∧ ∀ a e, M a = some e → g.1 ≤ a
theorem mw_lt {D : va_G} {M : Mp} {H : Heap} (h : mw D M H) {a : Nat} {e : va_E} (ha : M a = some e) : a < H.size := (h a e ha).lt
theorem mw_none {D : va_G} {M : Mp} {H : Heap} (h : mw D M H) {a : Nat} (ha : H.size ≤ a) : M a = none := by
  cases hm : M a with
  | none => rfl
  | some e => exact absurd (mw_lt h hm) (Nat.not_lt.mpr ha)
theorem mw_ext {D : va_G} {M : Mp} {H H1 : Heap} (h : mw D M H) (hx : ∀ q, q < H.size → H1[q]? = H[q]?) : mw D M H1 := fun a e ha => (h a e ha).kept (hx a (mw_lt h ha))
theorem Hw_ext {g : gG} {M : Mp} {H H1 : Heap} (h : Hw g M H) (hx : ∀ q, q < H.size → H1[q]? = H[q]?) : Hw g M H1 := ⟨mw_ext h.1 hx, h.2⟩
theorem mw_one {D : va_G} {M : Mp} {H : Heap} (h : mw D M H) {a : Nat} {e : va_E} (ha : M a = some e) : va_P D vwCl [(a, e)] H := fun k q hk => by
  have hz : k < 1 := (List.getElem?_eq_some_iff.mp hk).1
  rw [show k = 0 by omega] at hk
  cases hk
  exact h a e ha
-- the map as a list of cells
def mL (M : Mp) (n : Nat) : List Nat := (List.range n).filter fun a => (M a).isSome
def mf (M : Mp) : Nat → va_E := fun a => (M a).getD (.inr (0, []))
theorem mL_mem {M : Mp} {n a : Nat} : a ∈ mL M n ↔ a < n ∧ (M a).isSome = true := by
  unfold mL; rw [List.mem_filter, List.mem_range]
theorem mL_in {M : Mp} {n a : Nat} {e : va_E} (h : M a = some e) (hn : a < n) : a ∈ mL M n := mL_mem.mpr ⟨hn, by rw [h]; rfl⟩
theorem mf_at {M : Mp} {a : Nat} {e : va_E} (h : M a = some e) : mf M a = e := by unfold mf; rw [h]; rfl
theorem mL_P {D : va_G} {M : Mp} {H : Heap} {n : Nat} (h : mw D M H) : va_P D vwCl ([] ++ va_pl (mL M n) (mf M)) H := fun k q hk => by
  have h1 := List.mem_of_getElem? hk
  rw [List.nil_append] at h1
  obtain ⟨a, ha, rfl⟩ := List.mem_map.mp h1
  obtain ⟨-, h2⟩ := mL_mem.mp ha
  obtain ⟨e, he⟩ := Option.isSome_iff_exists.mp h2
  rw [mf_at he]
  exact h a e he
theorem mL_D {A : Nat → Prop} {M : Mp} {n : Nat} (h : ∀ a e, M a = some e → A a) : va_D A ([] ++ va_pl (mL M n) (mf M)) := by
  have at' : ∀ (i : Nat) (q : Nat × va_E), ([] ++ va_pl (mL M n) (mf M))[i]? = some q → (mL M n)[i]? = some q.1 := fun i q hi => by
    rw [List.nil_append] at hi
    unfold va_pl at hi
    rw [List.getElem?_map] at hi
    cases hl : (mL M n)[i]? with
    | none => rw [hl] at hi; cases hi
    | some a => rw [hl] at hi; cases hi; rfl
  refine ⟨fun i j p q hi hj hpq => ?_, fun k q hk => ?_⟩
  · have h1 := at' i p hi
    have h2 := at' j q hj
    rw [hpq] at h1
    exact (List.getElem?_inj (List.getElem?_eq_some_iff.mp h1).1 (List.Pairwise.filter _ List.nodup_range)).mp (h1.trans h2.symm)
  · obtain ⟨-, h2⟩ := mL_mem.mp (List.mem_of_getElem? (at' k q hk))
    obtain ⟨e, he⟩ := Option.isSome_iff_exists.mp h2
    exact h _ e he
theorem mL_get {M : Mp} {n a : Nat} {e : va_E} (h : M a = some e) (hn : a < n) : ∃ k : Nat, ([] ++ va_pl (mL M n) (mf M))[k]? = some (a, e) := by
  obtain ⟨k, hk⟩ := va_pl_get (X := []) (f := mf M) (mL_in h hn)
  exact ⟨k, by rw [hk, mf_at h]⟩
theorem mL_set {D : va_G} {A : Nat → Prop} {M : Mp} {H H1 : Heap} {a k : Nat} {e e' : va_E} (hM : mw D M H) (hD : va_D A ([] ++ va_pl (mL M H.size) (mf M))) (h : M a = some e) (hk : ([] ++ va_pl (mL M H.size) (mf M))[k]? = some (a, e)) (hP : va_P D vwCl (([] ++ va_pl (mL M H.size) (mf M)).set k (a, e')) H1) : mw D (mu M a e') H1 := by
  rw [va_pl_set hD (mL_in h (mw_lt hM h)) (by rw [hk, mf_at h])] at hP
  intro b e2 hb
  by_cases hba : b = a
  · subst hba
    rw [mu_s] at hb
    cases hb
    obtain ⟨j, hj⟩ := va_pl_get (X := []) (f := va_up (mf M) b e') (mL_in h (mw_lt hM h))
    have := hP j _ hj
    simpa [va_up] using this
  · rw [mu_n hba] at hb
    obtain ⟨j, hj⟩ := va_pl_get (X := []) (f := va_up (mf M) a e') (mL_in hb (mw_lt hM hb))
    have := hP j _ hj
    rw [va_up, if_neg hba, mf_at hb] at this
    exact this
theorem mL_push {D : va_G} {A : Nat → Prop} {M : Mp} {H H1 : Heap} {q : Nat} {e : va_E} (hM : mw D M H) (hP : va_P D vwCl (([] ++ va_pl (mL M H.size) (mf M)) ++ [(q, e)]) H1) (hD : va_D A (([] ++ va_pl (mL M H.size) (mf M)) ++ [(q, e)])) : M q = none ∧ mw D (mu M q e) H1 ∧ A q := by
  have hq : q ∉ mL M H.size := va_pl_fresh2 hD
  have hn : M q = none := by
    cases hm : M q with
    | none => rfl
    | some e0 => exact absurd (mL_in hm (mw_lt hM hm)) hq
  refine ⟨hn, fun b e2 hb => ?_, ?_⟩
  · by_cases hba : b = q
    · subst hba
      rw [mu_s] at hb
      cases hb
      have := hP ([] ++ va_pl (mL M H.size) (mf M)).length (b, e) (by rw [List.getElem?_append_right (Nat.le_refl _), Nat.sub_self]; rfl)
      exact this
    · rw [mu_n hba] at hb
      obtain ⟨j, hj⟩ := mL_get hb (mw_lt hM hb)
      exact hP j _ (by rw [List.getElem?_append_left (List.getElem?_eq_some_iff.mp hj).1]; exact hj)
  · exact hD.2 ([] ++ va_pl (mL M H.size) (mf M)).length (q, e) (by rw [List.getElem?_append_right (Nat.le_refl _), Nat.sub_self]; rfl)
-- what the launch gives, and what stays of it
def gStr : List (String × Nat × String) := [("DyeRing", 210, "a value is out of its range"), ("DyeRing", 212, "there is no room for one more"), ("DyeRing", 207, "there is no such number"), ("DyeRing", 214, "the order is dyed already"), ("DyeRing", 117, "no bath is right for the order"), ("DyeRing", 136, "the bath is for another entry"), ("DyeRing", 216, "the order is still waiting"), ("DyeRing", 158, "the piece is claimed already, or not off"), ("DyeRing", 188, "nobody gives to themselves"), ("DyeRing", 197, "the debt would be too large")]
def xIA : String := "java/lang/IllegalArgumentException"
def xIS : String := "java/lang/IllegalStateException"
def xIO : String := "java/lang/IndexOutOfBoundsException"
def xNE : String := "java/util/NoSuchElementException"
def gXs : List String := [xIA, xIS, xIO, xNE]
def gNc : List (String × String) := [(xIA, xIO), (xIS, xIO), (xIS, xIA), (xNE, xIO), (xNE, xIS), (xIO, xIA), (xIO, xIS), (xIA, xIS)]
def gNest : List Cond := [.methodLinkNest "DyeRing" 43 ⟨"DyeRing$Cloth", "<init>", "()V"⟩ "DyeRing", .methodLinkNest "DyeRing$Bath" 47 ⟨"DyeRing", "weakened", "(II)I"⟩ "DyeRing"]
def gOb : List String := ["DyeRing$Entry", "DyeRing$Bath", "DyeRing$Order", "DyeRing$Piece"]
def gDcl : List Cond := [.declares ⟨"java/lang/RuntimeException", "<init>", "(Ljava/lang/String;)V"⟩, .declares ⟨"java/lang/Exception", "<init>", "(Ljava/lang/String;)V"⟩, .declares ⟨"java/lang/Throwable", "<init>", "(Ljava/lang/String;)V"⟩]
def gE (g : gG) (U : State) : Prop :=
  va_K g.2.1 vwCl (gT g) U ∧
  va_Z "java/util/ArrayList" "DEFAULTCAPACITY_EMPTY_ELEMENTDATA" "[Ljava/lang/Object;" (.ref (g.2.2.2 0)) (gA g) U U.heap ∧
  va_T (.object "java/lang/Object") (g.2.2.2 0) 0 (fun _ => .null) (gA g) U U.heap ∧
  (∀ q ∈ gStr, ∃ a, vk_R q.1 q.2.1 q.2.2 a U) ∧
  (vx_Zq Bundle.tN "UNASSIGNED_STACK" Bundle.steD (gA g) U U.heap ∧ vx_Zq Bundle.tN "SUPPRESSED_SENTINEL" Bundle.listD (gA g) U U.heap) ∧
  va_Mi "[Ljava/lang/Object;" (g.2.2.2 1) U ∧
  (∀ q ∈ gNc, va_Nc q.1 q.2 U) ∧ (∀ x ∈ gXs, va_Nw (.castable x x) U) ∧
  (va_Nw (.methodLinkNest "DyeRing" 43 ⟨"DyeRing$Cloth", "<init>", "()V"⟩ "DyeRing") U ∧ va_Nw (.methodLinkNest "DyeRing$Bath" 47 ⟨"DyeRing", "weakened", "(II)I"⟩ "DyeRing") U) ∧
  (va_AO "java/lang/Object" U ∧ va_AO "DyeRing$Cloth" U ∧ va_AOA .int U) ∧ va_Dc U ∧ g.1 ≤ U.heap.size ∧ (∀ x ∈ gOb, va_Nw (.castable x "java/lang/Object") U) ∧ ∀ w ∈ gDcl, va_Nw w U
theorem va_AOA_moved {ty : FieldType} {u U : State} (hvm : u.vm.Alike U.vm) (h : va_AOA ty u) : va_AOA ty U := by
  obtain ⟨comp, c, k, h1, h2, h3, h4, h5⟩ := arrayOverA_spec h
  obtain ⟨k', hk', he⟩ := hvm.2.2 _ _ h3
  have hi : (U.vm.classes.findIdx? fun (x : Class) => match x.kind with | .array component _ => component == comp | _ => false) = some c := by
    have e1 := va_idx_bare U.vm comp
    have e2 := va_idx_bare u.vm comp
    have hbe : U.vm.bare = u.vm.bare := by first | exact hvm.bare_eq | exact hvm.bare_eq.symm
    rw [hbe] at e1
    exact (e1.symm.trans e2).trans h2
  have hkind : k'.kind = .array comp (.array ty) := by rw [he]; exact h4
  have f1 : U.vm.findClass (FieldType.array ty).toString = some comp := by rw [hvm.findClass]; exact h1
  have f2 : U.vm.findClass ("[" ++ (FieldType.array ty).toString) = some c := by rw [hvm.findClass]; exact h5
  unfold va_AOA Cond.before Cond.holds
  simp only [Cond.value]
  rw [f1, Option.bind_some]
  refine (congrArg (fun o : Option Nat => (o.bind (fun c => (U.vm.classes[c]?).map fun (k : Class) => match k.kind with | .array _ t => decide (t = FieldType.array ty) && decide (U.vm.findClass ("[" ++ (FieldType.array ty).toString) = some c) | _ => false) == some true)) hi).trans ?_
  simp [hk', hkind, f2]
theorem gE_warm {g : gG} {s U : State} (h : gE g s) (hW : s.WarmedH U.vm) (hz : s.heap.size ≤ U.heap.size) (hq : ∀ q : Nat, q < s.heap.size → ¬ gA g q → U.heap[q]? = s.heap[q]?) : gE g U := by
  obtain ⟨h1, h2, h3, h4, ⟨h5, h6⟩, h7, h8, h9, ⟨h10, h11⟩, ⟨h12, h13, h14⟩, h15, h16, h17, h18⟩ := h
  have hA := hW.alike
  exact ⟨h1.moved hA, (h2.moved hA).kept hq, (h3.moved hA).kept hq, fun q m => (h4 q m).elim fun a ha => ⟨a, ha.warm hW⟩, ⟨(h5.moved hA).kept hq, (h6.moved hA).kept hq⟩, h7.moved hA, fun q m => (h8 q m).moved hA, fun x m => (h9 x m).warmC hW, ⟨h10.warmM hW, h11.warmM hW⟩, ⟨h12.moved hA, h13.moved hA, va_AOA_moved hA h14⟩, h15.moved hA, Nat.le_trans h16 hz, fun x m => (h17 x m).warmC hW, fun w m => by
    have h := h18 w m
    rcases List.mem_cons.mp m with rfl | m
    · exact h.warmD hW
    rcases List.mem_cons.mp m with rfl | m
    · exact h.warmD hW
    rcases List.mem_cons.mp m with rfl | m
    · exact h.warmD hW
    exact absurd m List.not_mem_nil⟩
theorem gE_blind {g : gG} {U : State} {f : JFrame} {mk : MethodId} {a : Array Value} (h : gE g U) : gE g (U.calling f mk a) := gE_warm (U := U.calling f mk a) h (State.WarmedH.refl U) (Nat.le_refl _) (fun _ _ _ => rfl)
/-- a method's start: what the launch gives, and the map -/
def Wd (g : gG) (M : Mp) (U : State) : Prop := gE g U ∧ Hw g M U.heap
def Wc (g : gG) (M : Mp) (av : List Value) : Array Value → State → Prop := va_Pc av (Wd g M)
theorem Wc_blind {g : gG} {M : Mp} {av : List Value} : FrameBlind (Wc g M av) := fun _ _ _ _ h => ⟨h.1, gE_blind h.2.1, h.2.2⟩
theorem Wc_at {g : gG} {M : Mp} {s : State} {H : Heap} {locs : List Loc} (hE : gE g s) (hH : Hw g M H) (hS : va_S (gA g) s.heap H locs) (av : List Value) : ∀ U : State, U.heap = H → s.WarmedH U.vm → Wc g M av av.toArray U := fun U hU hW => ⟨rfl, gE_warm hE hW (by rw [hU]; exact hS.1) (fun q h1 h2 => by rw [hU]; exact hS.2.1 q h1 h2), by rw [hU]; exact hH⟩
/-- a method that only reads: its answer, and the heap as it was -/
def rdQ (v : Option Value) : Array Value → State → Outcome → State → Prop := fun _ st oc t => oc = .returned v ∧ t.heap = st.heap
def fr0 : Nat → Prop := fun _ => False
/-- a method that writes: its answer, and the map behind it -/
def wrQ {S : Type} (g : gG) (v : S → Option Value) (P : S → Mp → Prop) : Array Value → State → Outcome → State → Prop := fun _ st oc t => (∃ (u : S) (M' : Mp), oc = .returned (v u) ∧ P u M' ∧ Hw g M' t.heap) ∧ va_F (gA g) st t
/-- a throw: which, and the heap but for new cells as it was -/
def xQ (X : String → Prop) : String → State → State → Prop := fun E st t => X E ∧ st.heap.size ≤ t.heap.size ∧ ∀ q : Nat, q < st.heap.size → t.heap[q]? = st.heap[q]?
