/-! WHAT THE LAUNCH GIVES -/
theorem gE_in : (∀ q ∈ gNc, Cond.not (.castable q.1 q.2) ∈ flatC (Jvm.Cond.and given_1 narrow_1)) ∧ (∀ x ∈ gXs, Cond.castable x x ∈ lw_tbl) ∧ (∀ x ∈ gOb, Cond.castable x "java/lang/Object" ∈ lw_tbl) ∧ (∀ w ∈ gDcl, w ∈ lw_tbl) ∧ ∀ q ∈ gStr, Cond.stringRef q.1 q.2.1 q.2.2 ∈ lw_tbl := by decide +kernel
theorem gE_arr {s : State} {args : Array Value} (hts : ∀ w ∈ lw_tbl, w.before args s = true) : ∃ dA : Nat → ClassId, ∀ (k : Nat) (q : ClassId × FieldType), ([(dA 0, .int), (dA 1, .int), (dA 2, .object "java/lang/Object"), (dA 3, .object "DyeRing$Cloth"), (dA 4, .array .int)] : List (ClassId × FieldType))[k]? = some q → ArrOfT s q.1 q.2 ∧ va_RA s q.1 q.2 := by
  obtain ⟨cI, kI, oI, i1, i2, i3⟩ := Cond.arrayClass_spec (hts (.arrayClass .int) (List.mem_of_getElem? (i := 91) (by decide +kernel)))
  obtain ⟨oO, cO, kO, o1, -, o3, o4, o5⟩ := Cond.arrayOver_spec (hts (.arrayOver (.object "java/lang/Object")) (List.mem_of_getElem? (i := 303) (by decide +kernel)))
  obtain ⟨oC, cC, kC, c1, -, c3, c4, c5⟩ := Cond.arrayOver_spec (hts (.arrayOver (.object "DyeRing$Cloth")) (List.mem_of_getElem? (i := 72) (by decide +kernel)))
  obtain ⟨oA, cA, kA, a1, -, a3, a4, a5⟩ := arrayOverA_spec (hts (.arrayOver (.array .int)) (List.mem_of_getElem? (i := 70) (by decide +kernel)))
  refine ⟨fun k => match k with | 0 => cI | 1 => cI | 2 => cO | 3 => cC | _ => cA, fun k q hq => ?_⟩
  rcases (show k = 0 ∨ k = 1 ∨ k = 2 ∨ k = 3 ∨ k = 4 ∨ 5 ≤ k by omega) with rfl | rfl | rfl | rfl | rfl | hk
  · cases hq; exact ⟨fun n z => ⟨fun k h => (by cases h), kI, i2, oI, i3⟩, i1⟩
  · cases hq; exact ⟨fun n z => ⟨fun k h => (by cases h), kI, i2, oI, i3⟩, i1⟩
  · cases hq; exact ⟨fun n z => ⟨fun k h => (by cases h), kO, o3, oO, o4⟩, kO, oO, o3, o4, o1, o5⟩
  · cases hq; exact ⟨fun n z => ⟨fun k h => (by cases h), kC, c3, oC, c4⟩, kC, oC, c3, c4, c1, c5⟩
  · cases hq; exact ⟨fun n z => ⟨fun k h => (by cases h), kA, a3, oA, a4⟩, a5⟩
  · rw [List.getElem?_eq_none (by simpa using hk)] at hq
    cases hq
theorem gE_cls {s : State} {args : Array Value} (hts : ∀ w ∈ WA, w.before args s = true) : ∃ (dC : Nat → ClassId) (dI : Nat → Nat → Nat), ∀ (k : Nat) (q : vw_C), vwCl[k]? = some q → u_Kn s q.1 q.2.1 q.2.2 (dC k) (dI k) := by
  obtain ⟨c0, i0, k0⟩ := u_known (C := RJx4a65c) (T := TJx4a65c) (N := 3) (n := 3) hts iw_RJx4a65c (hts _ wm_44)
  obtain ⟨c1, i1, k1⟩ := u_known (C := RX0) (T := TX0) (N := 5) (n := 5) hts iw_RX0 (hts _ wm_363)
  obtain ⟨c2, i2, k2⟩ := u_known (C := RX1) (T := TX1) (N := 3) (n := 3) hts iw_RX1 (hts _ wm_73)
  obtain ⟨c3, i3, k3⟩ := u_known (C := RX2) (T := TX2) (N := 4) (n := 4) hts iw_RX2 (hts _ wm_232)
  obtain ⟨c4, i4, k4⟩ := u_known (C := RX3) (T := TX3) (N := 6) (n := 6) hts iw_RX3 (hts _ wm_561)
  obtain ⟨c5, i5, k5⟩ := u_known (C := RX4) (T := TX4) (N := 9) (n := 9) hts iw_RX4 (hts _ wm_418)
  obtain ⟨c6, i6, k6⟩ := u_known (C := RX5) (T := TX5) (N := 8) (n := 8) hts iw_RX5 (hts _ wm_36)
  refine ⟨fun k => match k with | 0 => c0 | 1 => c1 | 2 => c2 | 3 => c3 | 4 => c4 | 5 => c5 | _ => c6, fun k => match k with | 0 => i0 | 1 => i1 | 2 => i2 | 3 => i3 | 4 => i4 | 5 => i5 | _ => i6, fun k q hq => ?_⟩
  rcases (show k = 0 ∨ k = 1 ∨ k = 2 ∨ k = 3 ∨ k = 4 ∨ k = 5 ∨ k = 6 ∨ 7 ≤ k by omega) with rfl | rfl | rfl | rfl | rfl | rfl | rfl | hk
  · cases hq; exact k0
  · cases hq; exact k1
  · cases hq; exact k2
  · cases hq; exact k3
  · cases hq; exact k4
  · cases hq; exact k5
  · cases hq; exact k6
  · rw [List.getElem?_eq_none (by simpa using hk)] at hq
    cases hq
theorem gE_start {s : State} {b : Nat} (hts : ∀ w ∈ lw_tbl, w.before #[Value.ref b] s = true) (hgv : (Jvm.Cond.and given_1 narrow_1).before #[Value.ref b] s = true) : ∃ g : gG, g.1 = s.heap.size ∧ gE g s := by
  have hf := flat_of_before _ hgv
  obtain ⟨e1, e2, e3, e4, e5⟩ := gE_in
  obtain ⟨dA, hA⟩ := gE_arr hts
  obtain ⟨dC, dI, hC⟩ := gE_cls (fun w h => hts w (List.mem_filter.mp h).1)
  have hn : ∀ a : Nat, a < s.heap.size → ¬ (fun q : Nat => s.heap.size ≤ q) a := fun a h => Nat.not_le.mpr h
  obtain ⟨t, ht, hT⟩ := va_Tof (args := #[Value.ref b]) (tm := .static "java/util/ArrayList" "DEFAULTCAPACITY_EMPTY_ELEMENTDATA" "[Ljava/lang/Object;") (ty := .object "java/lang/Object") (N := 0) (f := fun _ => .null) (A := fun q : Nat => s.heap.size ≤ q) (by decide) (hf _ (by decide +kernel)) (va_eqt (hf (Cond.eq (.length (.static "java/util/ArrayList" "DEFAULTCAPACITY_EMPTY_ELEMENTDATA" "[Ljava/lang/Object;")) (.int 0)) (by decide +kernel))) (fun j hj => absurd hj (Nat.not_lt_zero j)) hn
  obtain ⟨mi, hmi⟩ := va_Mi.of (hf (Cond.isRef (.mirror "[Ljava/lang/Object;")) (by decide +kernel))
  refine ⟨(s.heap.size, (dC, dI), dA, fun k => match k with | 0 => t | _ => mi), rfl, ⟨hC, hA⟩, va_Zof (hts _ (List.mem_of_getElem? (i := 56) (by decide +kernel))) (hts _ (List.mem_of_getElem? (i := 16) (by decide +kernel))) ht hn, hT, fun q hq => ?_, ⟨vx_Zqof (hts _ (List.mem_of_getElem? (i := 166) (by decide +kernel))) (hts _ (List.mem_of_getElem? (i := 18) (by decide +kernel))) (hf _ (by decide +kernel)) hn, vx_Zqof (hts _ (List.mem_of_getElem? (i := 168) (by decide +kernel))) (hts _ (List.mem_of_getElem? (i := 18) (by decide +kernel))) (hf _ (by decide +kernel)) hn⟩, hmi, fun q hq => va_Nc.of (hf _ (e1 q hq)), fun x hx => va_Nw.of rfl (hts _ (e2 x hx)), ⟨va_Nw.of rfl (hts _ (List.mem_of_getElem? (i := 74) (by decide +kernel))), va_Nw.of rfl (hts _ (List.mem_of_getElem? (i := 461) (by decide +kernel)))⟩, ⟨va_AO.of (hts _ (List.mem_of_getElem? (i := 303) (by decide +kernel))), va_AO.of (hts _ (List.mem_of_getElem? (i := 72) (by decide +kernel))), va_AOA.of (hts _ (List.mem_of_getElem? (i := 70) (by decide +kernel)))⟩, va_Dc.of (hts _ (List.mem_of_getElem? (i := 730) (by decide +kernel))), Nat.le_refl _, fun x hx => va_Nw.of rfl (hts _ (e3 x hx)), fun w hw => va_Nw.of (gDcl_ot hw) (hts _ (e4 w hw))⟩
  have h := hts _ (e5 q hq)
  have hcur : ∃ cur, s.vm.findClass q.1 = some cur := by
    have h1 := h
    simp only [Cond.before, Cond.holds, Cond.value] at h1
    cases hc : s.vm.findClass q.1 with
    | none => simp [hc] at h1
    | some cur => exact ⟨cur, rfl⟩
  obtain ⟨cur, hcur⟩ := hcur
  obtain ⟨_, _, _, a, -, -, -, -, -, he⟩ := Cond.stringRef_spec hcur h
  exact ⟨a, vk_R.of h he⟩
