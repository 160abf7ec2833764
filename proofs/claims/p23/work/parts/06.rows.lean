/-! ROWS OVER THE MAP WORLD -/
/-- a field as an instruction of class 'own' links it -/
def Fl (own : String) (idx ci k : Nat) (fin : Bool) (d : FieldType) : Prop := ∃ (C : String) (T : u_T) (N : Nat) (ty : Nat → FieldType) (ref : String), vwCl[ci]? = some (C, T, N) ∧ k < N ∧ (∀ w ∈ u_ws C T N, w ∈ WA) ∧ Cond.fieldLink own idx ref (T k).2.1 (T k).2.2.1 ∈ WA ∧ (ref = (T k).1 ∨ Cond.sameField ref (T k).1 (T k).2.1 (T k).2.2.1 ∈ WA) ∧ (∀ j, j < N → parseFieldDescriptor (T j).2.2.1 = some (ty j)) ∧ (∀ a, a < N → ∀ b, b < N → a ≠ b → (T a).2.1 ≠ (T b).2.1) ∧ (T k).2.2.2 = fin ∧ ty k = d
def Fp (own : String) (idx ci k : Nat) (d : FieldType) : Prop := ∃ (C : String) (T : u_T) (N : Nat) (ty : Nat → FieldType) (ref : String), vwCl[ci]? = some (C, T, N) ∧ k < N ∧ (∀ w ∈ u_ws C T N, w ∈ WA) ∧ Cond.fieldLink own idx ref (T k).2.1 (T k).2.2.1 ∈ WA ∧ ref = (T k).1 ∧ (∀ j, j < N → parseFieldDescriptor (T j).2.2.1 = some (ty j)) ∧ (∀ a, a < N → ∀ b, b < N → a ≠ b → (T a).2.1 ≠ (T b).2.1) ∧ (T k).2.2.2 = true ∧ ty k = d ∧ (T k).1 = own
def Cb (ci : Nat) (C : String) (N : Nat) (fs : List Value) : Prop := ∃ (T : u_T) (ty : Nat → FieldType), vwCl[ci]? = some (C, T, N) ∧ (∀ w ∈ u_ws C T N, w ∈ WA) ∧ (∀ j, j < N → parseFieldDescriptor (T j).2.2.1 = some (ty j)) ∧ ∀ j, j < N → defaultValue (ty j) = vp_V fs j
theorem mu_dom {g : gG} {M : Mp} {a : Nat} {e : va_E} (h : ∀ a e, M a = some e → g.1 ≤ a) (ha : g.1 ≤ a) : ∀ b e', mu M a e b = some e' → g.1 ≤ b := fun b e' hb => by
  by_cases q : b = a
  · rw [q]; exact ha
  · rw [mu_n q] at hb; exact h b e' hb
theorem Hw_set {g : gG} {M : Mp} {H H1 : Heap} {a k : Nat} {e e' : va_E} (hH : Hw g M H) (h : M a = some e) (hk : ([] ++ va_pl (mL M H.size) (mf M))[k]? = some (a, e)) (hP : va_P g.2.1 vwCl (([] ++ va_pl (mL M H.size) (mf M)).set k (a, e')) H1) : Hw g (mu M a e') H1 := ⟨mL_set hH.1 (mL_D hH.2) h hk hP, mu_dom hH.2 (hH.2 a e h)⟩
theorem RA_one {U : State} {c1 c2 : ClassId} {ty : FieldType} (h1 : va_RA U c1 ty) (h2 : va_RA U c2 ty) : c1 = c2 := by
  cases ty with
  | object C =>
    obtain ⟨_, _, _, _, _, a⟩ := h1
    obtain ⟨_, _, _, _, _, b⟩ := h2
    exact Option.some.inj (a.symm.trans b)
  | _ => exact Option.some.inj ((show U.vm.findClass _ = some c1 from h1).symm.trans (show U.vm.findClass _ = some c2 from h2))
theorem K_last {D : va_G} {cl : List vw_C} {tys : List (ClassId × FieldType)} {U : State} {c1 c2 : ClassId} {ty : FieldType} {k : Nat} (h : va_K D cl (tys ++ [(c2, ty)]) U) (hk : tys[k]? = some (c1, ty)) : c2 = c1 := by
  have a := (h.2 k (c1, ty) (by rw [List.getElem?_append_left (List.getElem?_eq_some_iff.mp hk).1]; exact hk)).2
  have b := (h.2 tys.length (c2, ty) (by rw [List.getElem?_append_right (Nat.le_refl _), Nat.sub_self]; rfl)).2
  exact RA_one b a
theorem gE_A {g : gG} {s : State} (h : gE g s) : ∀ q, s.heap.size ≤ q → gA g q := fun q hq => Nat.le_trans h.2.2.2.2.2.2.2.2.2.2.2.1 hq
theorem goodIn_W {w : Cond} (h : w ∈ WA) : w ∈ WA ∧ ((w.onTables && w.keeps) = true ∨ ∃ ty, w = .arrayClass ty) := ⟨h, good_of_word (List.mem_filter.mp h).2⟩
theorem goodIn_c {y : MethodName} {cc : ByteArray} {n : Nat} {r : Option FieldType} (h : Cond.code y cc n r ∈ WA) : GoodIn WA (Cond.code y cc n r :: WA) := fun w hw => goodIn_W ((List.mem_cons.mp hw).elim (fun e => e ▸ h) id)
theorem goodIn_t {y : MethodName} {cc : ByteArray} {n : Nat} {r : Option FieldType} {hh : List (Nat × Nat × Nat × Nat)} (h : Cond.codeWith y cc n r hh ∈ WA) : GoodIn WA (Cond.codeWith y cc n r hh :: WA) := fun w hw => goodIn_W ((List.mem_cons.mp hw).elim (fun e => e ▸ h) id)
section MWR
variable {p : Program} {l : Launch} {e : Env} {R : Room} {s : State} {m : MethodId} {args : Array Value} {below : List Frame} {meth : Method} {c : Code} {H : Heap} {locs : List Loc} {cells slots : Nat} {Q : State → Prop}
variable {cc : ByteArray} {nL : Nat} {own : String} {pc : Nat} {ls : Array Slot} {rest : List Value} {g : gG} {M : Mp} {a : Nat}
theorem mget {idx ci k : Nat} {fin : Bool} {d : FieldType} {fs : List Value} {v : Value} (C : CallFix p m c cc nL s args WA own) (hE : gE g s) (hH : Hw g M H) (F : Fl own idx ci k fin d) (h : M a = some (eO ci fs)) (hv : fs[k]? = some v) (hdg : decode cc pc = .ok (.getfield idx, 3)) (kk : W p l e R s m args below meth c H locs cells slots Q (F0 m (pc + 3) ls (v :: rest))) : W p l e R s m args below meth c H locs cells slots Q (F0 m pc ls (.ref a :: rest)) := by
  obtain ⟨hx, hb, -, hown, hts⟩ := C
  obtain ⟨CN, T, N, ty, ref, hc, hk, hin, hl, hs, -, -, -, -⟩ := F
  refine va_get (Ts := WA) hx hb hts hin hown hE.1 (mw_one hH.1 h) 0 rfl hc k hk (hts _ hl) (fun x hx9 => ?_) hv hdg kk
  rcases hs with rfl | hs
  · exact hx9
  · exact u_same (hts _ hs) x hx9
theorem mput {idx ci k : Nat} {d : FieldType} {fs fs' : List Value} {v : Value} (C : CallFix p m c cc nL s args WA own) (hE : gE g s) (hH : Hw g M H) (hS : va_S (gA g) s.heap H locs) (F : Fl own idx ci k false d) (h : M a = some (eO ci fs)) (hn : narrow d v = v) (hfit : fits d v = true) (hfs : fs.set k v = fs') (hlen : k < fs.length) (hdg : decode cc pc = .ok (.putfield idx, 3)) (kk : ∀ (H1 : Heap) (locs1 : List Loc), Hw g (mu M a (eO ci fs')) H1 → va_S (gA g) s.heap H1 locs1 → W p l e R s m args below meth c H1 locs1 cells slots Q (F0 m (pc + 3) ls rest)) : W p l e R s m args below meth c H locs cells slots Q (F0 m pc ls (v :: .ref a :: rest)) := by
  subst hfs
  obtain ⟨hx, hb, -, hown, hts⟩ := C
  obtain ⟨CN, T, N, ty, ref, hc, hk, hin, hl, hs, hty, hnm, hfin, hd⟩ := F
  obtain ⟨j, hj⟩ := mL_get h (mw_lt hH.1 h)
  refine va_put (Ts := WA) hx hb hts hin ty hty hnm hown hE.1 (mL_P hH.1) (mL_D hH.2) hS j hj hc k hk (hts _ hl) (fun x hx9 => ?_) hfin ((hty k hk).trans (congrArg some hd)) hn hfit hlen hdg (fun H1 locs1 hP1 _ hS1 => kk H1 locs1 (Hw_set hH h hj hP1) hS1)
  rcases hs with rfl | hs
  · exact hx9
  · exact u_same (hts _ hs) x hx9
theorem mputF {idx ci k : Nat} {d : FieldType} {fs fs' : List Value} {v : Value} (C : CallFix p m c cc nL s args WA own) (hE : gE g s) (hH : Hw g M H) (hS : va_S (gA g) s.heap H locs) (F : Fp own idx ci k d) (h : M a = some (eO ci fs)) (hi : meth.name = "<init>") (hn : narrow d v = v) (hfit : fits d v = true) (hfs : fs.set k v = fs') (hlen : k < fs.length) (hdg : decode cc pc = .ok (.putfield idx, 3)) (kk : ∀ (H1 : Heap) (locs1 : List Loc), Hw g (mu M a (eO ci fs')) H1 → va_S (gA g) s.heap H1 locs1 → W p l e R s m args below meth c H1 locs1 cells slots Q (F0 m (pc + 3) ls rest)) : W p l e R s m args below meth c H locs cells slots Q (F0 m pc ls (v :: .ref a :: rest)) := by
  subst hfs
  obtain ⟨hx, hb, -, hown, hts⟩ := C
  obtain ⟨CN, T, N, ty, ref, hc, hk, hin, hl, hs, hty, hnm, hfin, hd, hdecl⟩ := F
  obtain ⟨j, hj⟩ := mL_get h (mw_lt hH.1 h)
  exact va_putF (Ts := WA) hx hb hts hin ty hty hnm hown hE.1 (mL_P hH.1) (mL_D hH.2) hS j hj hc k hk (hts _ hl) (fun x hx9 => by rw [hs]; exact hx9) hfin hi hdecl ((hty k hk).trans (congrArg some hd)) hn hfit hlen hdg (fun H1 locs1 hP1 _ hS1 => kk H1 locs1 (Hw_set hH h hj hP1) hS1)
theorem mnew {idx ci N : Nat} {CN : String} {fs : List Value} (C : CallFix p m c cc nL s args WA own) (hE : gE g s) (hH : Hw g M H) (hS : va_S (gA g) s.heap H locs) (F : Cb ci CN N fs) (h1 : Cond.classLink own idx CN ∈ WA) (h2 : Cond.instantiable CN N ∈ WA) (h3 : Cond.initialized CN ∈ WA) (hcells : cells + 1 ≤ R.cells) (hslots : slots + N ≤ R.slots) (hdg : decode cc pc = .ok (.new idx, 3)) (kk : ∀ (q : Nat) (H1 : Heap), M q = none → g.1 ≤ q → Hw g (mu M q (eO ci fs)) H1 → va_S (gA g) s.heap H1 locs → W p l e R s m args below meth c H1 locs (cells + 1) (slots + N) Q (F0 m (pc + 3) ls (.ref q :: rest))) : W p l e R s m args below meth c H locs cells slots Q (F0 m pc ls rest) := by
  obtain ⟨hx, hb, -, hown, hts⟩ := C
  obtain ⟨T, ty, hc, hin, hty, hfs⟩ := F
  exact va_new (Ts := WA) hx hb hts hin ty hty hown (hts _ h1) (hts _ h2) (hts _ h3) hE.1 (mL_P (n := H.size) hH.1) (mL_D hH.2) hS (gE_A hE) hc hfs hcells hslots hdg (fun q H1 hP1 hD1 hS1 => by
    obtain ⟨a1, a2, a3⟩ := mL_push hH.1 hP1 hD1
    exact kk q H1 a1 a3 ⟨a2, mu_dom hH.2 a3⟩ hS1)
theorem mald {n : Nat} {f : Nat → Int32} {i : Int32} (C : CallFix p m c cc nL s args WA own) (hE : gE g s) (hH : Hw g M H) (h : M a = some (eI g n f)) (hin : vp_in i n) (hdg : decode cc pc = .ok (.iaload, 1)) (kk : W p l e R s m args below meth c H locs cells slots Q (F0 m (pc + 1) ls (.int (f i.toNatClampNeg) :: rest))) : W p l e R s m args below meth c H locs cells slots Q (F0 m pc ls (.int i :: .ref a :: rest)) :=
  va_iald C.1 C.2.1 hE.1 (mw_one hH.1 h) 0 0 rfl rfl hin hdg kk
theorem mast {n : Nat} {f : Nat → Int32} {i x : Int32} (C : CallFix p m c cc nL s args WA own) (hE : gE g s) (hH : Hw g M H) (hS : va_S (gA g) s.heap H locs) (h : M a = some (eI g n f)) (hin : vp_in i n) (hdg : decode cc pc = .ok (.iastore, 1)) (kk : ∀ (H1 : Heap) (locs1 : List Loc), Hw g (mu M a (eI g n (upd f i.toNatClampNeg x))) H1 → va_S (gA g) s.heap H1 locs1 → W p l e R s m args below meth c H1 locs1 cells slots Q (F0 m (pc + 1) ls rest)) : W p l e R s m args below meth c H locs cells slots Q (F0 m pc ls (.int x :: .int i :: .ref a :: rest)) := by
  obtain ⟨j, hj⟩ := mL_get h (mw_lt hH.1 h)
  exact va_iast C.1 C.2.1 hE.1 (mL_P hH.1) (mL_D hH.2) hS j 0 hj rfl hin hdg (fun H1 locs1 hP1 _ hS1 => kk H1 locs1 (Hw_set hH h hj hP1) hS1)
theorem malen {k : Nat} {x : vp_A} {ty : FieldType} {v : Int32} (C : CallFix p m c cc nL s args WA own) (hE : gE g s) (hH : Hw g M H) (h : M a = some (.inl (g.2.2.1 k, x))) (ht : (gT g)[k]? = some (g.2.2.1 k, ty)) (hv : Int32.ofNat x.1 = v) (hdg : decode cc pc = .ok (.arraylength, 1)) (kk : W p l e R s m args below meth c H locs cells slots Q (F0 m (pc + 1) ls (.int v :: rest))) : W p l e R s m args below meth c H locs cells slots Q (F0 m pc ls (.ref a :: rest)) :=
  va_alen C.1 C.2.1 hE.1 (mw_one hH.1 h) 0 k rfl ht hv hdg kk
theorem maldq {k n y : Nat} {f : Nat → Option Nat} {ty : FieldType} {i : Int32} (C : CallFix p m c cc nL s args WA own) (hE : gE g s) (hH : Hw g M H) (h : M a = some (eQ g k n f)) (ht : (gT g)[k]? = some (g.2.2.1 k, ty)) (hty : ty.isReference = true) (hin : vp_in i n) (hv : f i.toNatClampNeg = some y) (hdg : decode cc pc = .ok (.aaload, 1)) (kk : W p l e R s m args below meth c H locs cells slots Q (F0 m (pc + 1) ls (.ref y :: rest))) : W p l e R s m args below meth c H locs cells slots Q (F0 m pc ls (.int i :: .ref a :: rest)) := by
  have hlt : i.toNatClampNeg < n := Nat.not_le.mp fun q => hin (Or.inr q)
  exact W.aald (v := .ref y) (ty := ty) C.1 C.2.1 (mw_one hH.1 h 0 _ rfl) ((hE.1.2 k _ ht).1 n (fun j => va_rf (f j))) hty (fun q => by cases q) (by show ¬ (i < 0 ∨ (arrV _ _ _).slots.size ≤ _); rw [arrV_size]; exact hin) (by show (arrV _ _ _).slots[_]? = _; rw [arrV_read _ _ hlt, hv]; rfl) rfl rfl hdg kk
theorem mastq {k n v ci : Nat} {r : vw_C} {E : String} {f : Nat → Option Nat} {vs : List Value} {i : Int32} (C : CallFix p m c cc nL s args WA own) (hE : gE g s) (hH : Hw g M H) (hS : va_S (gA g) s.heap H locs) (h : M a = some (eQ g k n f)) (ht : (gT g)[k]? = some (g.2.2.1 k, .object E)) (hca : va_Nw (.castable r.1 E) s ∨ r.1 = E) (hv : M v = some (eO ci vs)) (hc : vwCl[ci]? = some r) (hin : vp_in i n) (hdg : decode cc pc = .ok (.aastore, 1)) (kk : ∀ (H1 : Heap) (locs1 : List Loc), Hw g (mu M a (eQ g k n (va_up f i.toNatClampNeg (some v)))) H1 → va_S (gA g) s.heap H1 locs1 → W p l e R s m args below meth c H1 locs1 cells slots Q (F0 m (pc + 1) ls rest)) : W p l e R s m args below meth c H locs cells slots Q (F0 m pc ls (.ref v :: .int i :: .ref a :: rest)) := by
  obtain ⟨j, hj⟩ := mL_get h (mw_lt hH.1 h)
  obtain ⟨j2, hj2⟩ := mL_get hv (mw_lt hH.1 hv)
  rcases hca with hca | rfl
  · exact va_astqO C.1 C.2.1 hE.1 (mL_P hH.1) (mL_D hH.2) hS j k j2 ci hj ht hca hj2 hc hin hdg (fun H1 locs1 hP1 _ hS1 => kk H1 locs1 (Hw_set hH h hj hP1) hS1)
  · exact va_astq C.1 C.2.1 hE.1 (mL_P hH.1) (mL_D hH.2) hS j k j2 ci hj ht hj2 hc hin hdg (fun H1 locs1 hP1 _ hS1 => kk H1 locs1 (Hw_set hH h hj hP1) hS1)
theorem mnewI {n : Int32} {N : Nat} (C : CallFix p m c cc nL s args WA own) (hE : gE g s) (hH : Hw g M H) (hS : va_S (gA g) s.heap H locs) (harr : Cond.arrayClass .int ∈ WA) (hn : ¬ n < 0) (hN : n.toNatClampNeg = N) (hbytes : N * 4 ≤ 536870912) (hcells : cells + 1 ≤ R.cells) (hslots : slots + N ≤ R.slots) (hdg : decode cc pc = .ok (.newarray .int, 2)) (kk : ∀ (q : Nat) (H1 : Heap), M q = none → g.1 ≤ q → Hw g (mu M q (eI g N (fun _ => 0))) H1 → va_S (gA g) s.heap H1 locs → W p l e R s m args below meth c H1 locs (cells + 1) (slots + N) Q (F0 m (pc + 2) ls (.ref q :: rest))) : W p l e R s m args below meth c H locs cells slots Q (F0 m pc ls (.int n :: rest)) :=
  va_newa (atype := .int) (ty := .int) (a0 := (N, .inl (fun _ => 0))) C.1 C.2.1 (C.2.2.2.2 _ harr) rfl hE.1 (mL_P (n := H.size) hH.1) (mL_D hH.2) hS (gE_A hE) (fun _ => rfl) hn hN hbytes hcells hslots hdg (fun q cA H1 hK1 hP1 hD1 hS1 => by
    obtain rfl := K_last (k := 0) hK1 rfl
    obtain ⟨a1, a2, a3⟩ := mL_push hH.1 hP1 hD1
    exact kk q H1 a1 a3 ⟨a2, mu_dom hH.2 a3⟩ hS1)
theorem mnewQ {idx k N : Nat} {CN : String} {n : Int32} (C : CallFix p m c cc nL s args WA own) (hE : gE g s) (hH : Hw g M H) (hS : va_S (gA g) s.heap H locs) (h1 : Cond.classLink own idx CN ∈ WA) (hover : va_AO CN s) (ht : (gT g)[k]? = some (g.2.2.1 k, .object CN)) (hn : ¬ n < 0) (hN : n.toNatClampNeg = N) (hbytes : N * 4 ≤ 536870912) (hcells : cells + 1 ≤ R.cells) (hslots : slots + N ≤ R.slots) (hdg : decode cc pc = .ok (.anewarray idx, 3)) (kk : ∀ (q : Nat) (H1 : Heap), M q = none → g.1 ≤ q → Hw g (mu M q (eQ g k N (fun _ => none))) H1 → va_S (gA g) s.heap H1 locs → W p l e R s m args below meth c H1 locs (cells + 1) (slots + N) Q (F0 m (pc + 3) ls (.ref q :: rest))) : W p l e R s m args below meth c H locs cells slots Q (F0 m pc ls (.int n :: rest)) :=
  va_newq C.1 C.2.1 C.2.2.2.1 (C.2.2.2.2 _ h1) hover hE.1 (mL_P (n := H.size) hH.1) (mL_D hH.2) hS (gE_A hE) hn hN hbytes hcells hslots hdg (fun q cA H1 hK1 hP1 hD1 hS1 => by
    obtain rfl := K_last (k := k) hK1 ht
    obtain ⟨a1, a2, a3⟩ := mL_push hH.1 hP1 hD1
    exact kk q H1 a1 a3 ⟨a2, mu_dom hH.2 a3⟩ hS1)
/-- n new rows: at r 0 .. r (n-1) -/
def muR (M : Mp) (n : Nat) (r : Nat → Nat) (e : va_E) : Mp := fun b => if b ∈ (List.range n).map r then some e else M b
theorem mmna {idx N K : Nat} {n k : Int32} (C : CallFix p m c cc nL s args WA own) (hE : gE g s) (hH : Hw g M H) (hS : va_S (gA g) s.heap H locs) (h1 : Cond.classLink own idx "[[I" ∈ WA) (harr : Cond.arrayClass .int ∈ WA) (hn : ¬ n < 0) (hk : ¬ k < 0) (hN : n.toNatClampNeg = N) (hK : k.toNatClampNeg = K) (hb1 : N * 4 ≤ 536870912) (hb2 : K * 4 ≤ 536870912) (hb3 : K ≤ 536870912) (hcells : cells + (1 + N) ≤ R.cells) (hslots : slots + (N + N * K) ≤ R.slots) (hdg : decode cc pc = .ok (.multianewarray idx 2, 4))
    (kk : ∀ (q : Nat) (r : Nat → Nat) (H1 : Heap), (∀ i j : Nat, i < N → j < N → r i = r j → i = j) → M q = none → g.1 ≤ q → (∀ i, i < N → M (r i) = none ∧ g.1 ≤ r i ∧ r i ≠ q) → Hw g (muR (mu M q (eQ g 4 N (fun i => if i < N then some (r i) else none))) N r (eI g K (fun _ => 0))) H1 → va_S (gA g) s.heap H1 locs → W p l e R s m args below meth c H1 locs (cells + 1 + N) (slots + N + N * K) Q (F0 m (pc + 4) ls (.ref q :: rest))) : W p l e R s m args below meth c H locs cells slots Q (F0 m pc ls (.int k :: .int n :: rest)) := by
  have hcy : s.vm.findClass (FieldType.array .int).toString = some (g.2.2.1 0) := (hE.1.2 0 _ rfl).2
  have hPn : va_P g.2.1 vwCl (([] ++ va_pl (mL M H.size) (mf M)) ++ va_pl [] (mf M)) H := by
    show va_P g.2.1 vwCl (([] ++ va_pl (mL M H.size) (mf M)) ++ []) H
    rw [List.append_nil]; exact mL_P hH.1
  have hDn : va_D (gA g) (([] ++ va_pl (mL M H.size) (mf M)) ++ va_pl [] (mf M)) := by
    show va_D (gA g) (([] ++ va_pl (mL M H.size) (mf M)) ++ [])
    rw [List.append_nil]; exact mL_D hH.2
  refine va_mna (ty := .int) (z := (K, .inl (fun _ => 0))) C.1 C.2.1 C.2.2.2.1 (C.2.2.2.2 _ h1) hE.2.2.2.2.2.2.2.2.2.1.2.2 (C.2.2.2.2 _ harr) hcy hE.1 hPn hDn hS (gE_A hE) hn hk hN hK hb1 hb2 hb3 rfl rfl hcells hslots (fun c9 => by show ({ cls := c9, slots := Array.replicate K (Value.int 0), vm := .none } : Cell) = _; rw [arrV_new]; rfl) hdg (fun q r cA H1 hinj _ hK1 hP1 hD1 hS1 => ?_)
  obtain rfl := K_last (k := 4) hK1 rfl
  rw [List.nil_append] at hP1 hD1
  have hL1 : ∀ j : Nat, j < N → ∃ t : Nat, t ≥ (([] ++ va_pl (mL M H.size) (mf M)).length + 1) ∧ ((([] ++ va_pl (mL M H.size) (mf M)) ++ [(q, eQ g 4 N (fun i => if i < N then some (r i) else none))]) ++ va_pl ((List.range N).map r) (vr_up (mf M) ((List.range N).map r) (eI g K (fun _ => 0))))[t]? = some (r j, eI g K (fun _ => 0)) := fun j hj => by
    obtain ⟨t, ht⟩ := va_pl_get (X := []) (L := (List.range N).map r) (f := vr_up (mf M) ((List.range N).map r) (eI g K (fun _ => 0))) (a := r j) (List.mem_map.mpr ⟨j, List.mem_range.mpr hj, rfl⟩)
    rw [List.nil_append, vr_up_in (List.mem_map.mpr ⟨j, List.mem_range.mpr hj, rfl⟩)] at ht
    refine ⟨(([] ++ va_pl (mL M H.size) (mf M)) ++ [(q, eQ g 4 N (fun i => if i < N then some (r i) else none))]).length + t, by simp only [List.length_append, List.length_cons, List.length_nil]; omega, ?_⟩
    rw [List.getElem?_append_right (by omega), Nat.add_sub_cancel_left]
    exact ht
  have hq1 : ((([] ++ va_pl (mL M H.size) (mf M)) ++ [(q, eQ g 4 N (fun i => if i < N then some (r i) else none))]) ++ va_pl ((List.range N).map r) (vr_up (mf M) ((List.range N).map r) (eI g K (fun _ => 0))))[([] ++ va_pl (mL M H.size) (mf M)).length]? = some (q, eQ g 4 N (fun i => if i < N then some (r i) else none)) := by
    rw [List.getElem?_append_left (by simp only [List.length_append, List.length_cons, List.length_nil]; omega), List.getElem?_append_right (Nat.le_refl _), Nat.sub_self]; rfl
  have hold : ∀ b e2, M b = some e2 → ∃ t : Nat, t < ([] ++ va_pl (mL M H.size) (mf M)).length ∧ ((([] ++ va_pl (mL M H.size) (mf M)) ++ [(q, eQ g 4 N (fun i => if i < N then some (r i) else none))]) ++ va_pl ((List.range N).map r) (vr_up (mf M) ((List.range N).map r) (eI g K (fun _ => 0))))[t]? = some (b, e2) := fun b e2 hb => by
    obtain ⟨t, ht⟩ := mL_get hb (mw_lt hH.1 hb)
    have hl := (List.getElem?_eq_some_iff.mp ht).1
    refine ⟨t, hl, ?_⟩
    rw [List.getElem?_append_left (by simp only [List.length_append, List.length_cons, List.length_nil] at hl ⊢; omega), List.getElem?_append_left hl]
    exact ht
  have hqn : M q = none := by
    cases hm : M q with
    | none => rfl
    | some e2 =>
      obtain ⟨t, hl, ht⟩ := hold q e2 hm
      have := hD1.1 _ _ _ _ ht hq1 rfl
      omega
  have hrn : ∀ i, i < N → M (r i) = none := fun i hi => by
    cases hm : M (r i) with
    | none => rfl
    | some e2 =>
      obtain ⟨t, hl, ht⟩ := hold (r i) e2 hm
      obtain ⟨t2, hl2, ht2⟩ := hL1 i hi
      have := hD1.1 _ _ _ _ ht ht2 rfl
      omega
  have hrq : ∀ i, i < N → r i ≠ q := fun i hi h => by
    obtain ⟨t2, hl2, ht2⟩ := hL1 i hi
    have := hD1.1 _ _ _ _ ht2 hq1 h
    omega
  have hgq : g.1 ≤ q := hD1.2 _ _ hq1
  have hgr : ∀ i, i < N → g.1 ≤ r i := fun i hi => by
    obtain ⟨t2, -, ht2⟩ := hL1 i hi
    exact hD1.2 _ _ ht2
  refine kk q r H1 hinj hqn hgq (fun i hi => ⟨hrn i hi, hgr i hi, hrq i hi⟩) ⟨fun b e2 hb => ?_, fun b e2 hb => ?_⟩ hS1
  · unfold muR at hb
    by_cases hm : b ∈ (List.range N).map r
    · rw [if_pos hm] at hb
      cases hb
      obtain ⟨i, hi, rfl⟩ := List.mem_map.mp hm
      obtain ⟨t2, -, ht2⟩ := hL1 i (List.mem_range.mp hi)
      exact hP1 _ _ ht2
    · rw [if_neg hm] at hb
      by_cases hbq : b = q
      · subst hbq
        rw [mu_s] at hb
        cases hb
        exact hP1 _ _ hq1
      · rw [mu_n hbq] at hb
        obtain ⟨t, -, ht⟩ := hold b e2 hb
        exact hP1 _ _ ht
  · unfold muR at hb
    by_cases hm : b ∈ (List.range N).map r
    · obtain ⟨i, hi, rfl⟩ := List.mem_map.mp hm
      exact hgr i (List.mem_range.mp hi)
    · rw [if_neg hm] at hb
      by_cases hbq : b = q
      · rw [hbq]; exact hgq
      · rw [mu_n hbq] at hb
        exact hH.2 b e2 hb
end MWR
