/-! THE RING'S PUBLIC METHODS -/
abbrev inx (x : Int32) (n : Nat) : Prop := ¬ x < 0 ∧ x < nI n
abbrev inr (x lo hi : Int32) : Prop := ¬ x < lo ∧ x ≤ hi
theorem inx_lt {x : Int32} {n : Nat} (h : inx x n) (hn : n < 2 ^ 31) : x.toNatClampNeg < n := by
  obtain ⟨j, hj, rfl⟩ := nI_of h.1
  rw [nI_clamp hj]
  exact (nI_ltI hj hn).mp h.2
theorem inx_in {x : Int32} {n : Nat} (h : inx x n) (hn : n < 2 ^ 31) : vp_in x n := by
  obtain ⟨j, hj, rfl⟩ := nI_of h.1
  exact vp_in_nI ((nI_ltI hj hn).mp h.2) hn
set_option maxHeartbeats 4000000 in
set_option maxRecDepth 100000 in
theorem r_apart {l : Launch} {g : gG} {M : Mp} {x : Nat} {tg : Nat → Nat} {A : Nat → Nat → Nat} {pr br : Nat → Bool} {np : Nat → Nat} {hh : Nat → Nat → Nat} {ne nb no : Nat} {sc : Nat → Int32} {ar : Nat → Nat → Int32} (hlx : l.stackTraces = false) (hI : RI g M x tg A pr br np hh ne nb no sc ar) (p0 p1 : Int32) : vx_Met l yX5_apart (WY yX5_apart cX5_apart 5 (some .int)) { frames := 8, cells := 2, slots := 12, locals := 124 } (Wc g M [.ref x, .int p0, .int p1]) (xrQ (inx p0 ne ∧ inx p1 ne) (some (.int (zd (ar 1 (2 * p0.toNatClampNeg)) (ar 1 (2 * p0.toNatClampNeg + 1)) (ar 1 (2 * p1.toNatClampNeg)) (ar 1 (2 * p1.toNatClampNeg + 1)))))) (xQ (fun E_ => E_ = xIO ∧ ¬ (inx p0 ne ∧ inx p1 ne))) 2 12 fr0 := by
  refine ofX (by decide +kernel) (Nat.le_of_ble_eq_true rfl) (fun p e s m args below meth c ls C hr hlocks hout hE hH hl ea => ?_)
  have hl : lv_has ls 5 [(0, .ref x), (1, .int p0), (2, .int p1)] := hl
  have hS : va_S (gA g) s.heap s.heap [] := va_S.rf
  obtain ⟨-, iX, iE, iB, iO, iW, iL, iC⟩ := id hI
  have hne : ne < 2 ^ 31 := Nat.lt_of_le_of_lt iE.1 (by decide)
  have hnb : nb < 2 ^ 31 := Nat.lt_of_le_of_lt iB.1 (by decide)
  have hno : no < 2 ^ 31 := Nat.lt_of_le_of_lt iO.1 (by decide)
  refine lv_aload_n C.1 C.2.1 dX5_apart_0 rfl (lv_at hl 0 rfl) ?_
  refine lv_iload_n C.1 C.2.1 dX5_apart_1 rfl (lv_at hl 1 rfl) ?_
  refine xr_go1 (xrunV C hE hH hS (c_findEntry hlx iX.1 (iE.2.1.1) (hne) (fun j hj => ⟨_, (iE.2.2 j hj).1.1⟩) p0) mv_X5_findEntry wm_344 iX.1 rfl rfl hl.1 dX5_apart_2 rfl rfl ⟨rfl, rfl⟩ ⟨Nat.le_of_ble_eq_true rfl, Nat.le_of_ble_eq_true rfl⟩ (Nat.le_of_ble_eq_true rfl) ⟨Nat.le_of_ble_eq_true rfl, Nat.le_of_ble_eq_true rfl⟩) (fun E ce q9 H1 hx9 hz9 ho9 hce hcv hcl => ?_) (fun hp2 => ?_)
  · exact x_pass hout hlocks (⟨hx9.1, fun z => hx9.2 z.1⟩) hz9 ho9 hce hcv hcl (by decide) (by decide)
  obtain ⟨j, ej⟩ : ∃ z : Nat, z = p0.toNatClampNeg := ⟨_, rfl⟩
  have hj : j < ne := by rw [ej]; exact inx_lt hp2 hne
  rw [← ej]
  refine lv_astore_n (lv' := [(3, .ref (A 3 j)), (0, .ref x), (1, .int p0), (2, .int p1)]) C.1 C.2.1 dX5_apart_5 rfl hl (by decide) rfl (fun ls hl => ?_)
  refine lv_aload_n C.1 C.2.1 dX5_apart_6 rfl (lv_at hl 1 rfl) ?_
  refine lv_iload_n C.1 C.2.1 dX5_apart_7 rfl (lv_at hl 3 rfl) ?_
  refine xr_go1 (xrunV C hE hH hS (c_findEntry hlx iX.1 (iE.2.1.1) (hne) (fun j hj => ⟨_, (iE.2.2 j hj).1.1⟩) p1) mv_X5_findEntry wm_344 iX.1 rfl rfl hl.1 dX5_apart_8 rfl rfl ⟨rfl, rfl⟩ ⟨Nat.le_of_ble_eq_true rfl, Nat.le_of_ble_eq_true rfl⟩ (Nat.le_of_ble_eq_true rfl) ⟨Nat.le_of_ble_eq_true rfl, Nat.le_of_ble_eq_true rfl⟩) (fun E ce q9 H1 hx9 hz9 ho9 hce hcv hcl => ?_) (fun hp8 => ?_)
  · exact x_pass hout hlocks (⟨hx9.1, fun z => hx9.2 z.2⟩) hz9 ho9 hce hcv hcl (by decide) (by decide)
  obtain ⟨k, ek⟩ : ∃ z : Nat, z = p1.toNatClampNeg := ⟨_, rfl⟩
  have hk : k < ne := by rw [ek]; exact inx_lt hp8 hne
  rw [← ek]
  refine lv_astore (lv' := [(4, .ref (A 3 k)), (3, .ref (A 3 j)), (0, .ref x), (1, .int p0), (2, .int p1)]) C.1 C.2.1 dX5_apart_11 hl (by decide) rfl (fun ls hl => ?_)
  refine lv_aload_n C.1 C.2.1 dX5_apart_13 rfl (lv_at hl 1 rfl) ?_
  refine lv_aload C.1 C.2.1 dX5_apart_14 (lv_at hl 0 rfl) ?_
  refine mget C hE hH fl_240 (iE.2.2 k hk).1.1 rfl dX5_apart_16 ?_
  refine lv_aload C.1 C.2.1 dX5_apart_19 (lv_at hl 0 rfl) ?_
  refine mget C hE hH fl_242 (iE.2.2 k hk).1.1 rfl dX5_apart_21 ?_
  refine rd_go1 (runV C hE hH hS (c_E_distanceTo (iE.2.2 j hj).1.1 (ar 1 (2 * k)) (ar 1 (2 * k + 1))) mv_X2_distanceTo wm_500 (iE.2.2 j hj).1.1 rfl rfl hl.1 dX5_apart_24 rfl rfl ⟨rfl, rfl⟩ ⟨Nat.le_of_ble_eq_true rfl, Nat.le_of_ble_eq_true rfl⟩ (Nat.le_of_ble_eq_true rfl) ⟨Nat.le_of_ble_eq_true rfl, Nat.le_of_ble_eq_true rfl⟩) ?_
  exact xr_iret C hr hlocks (⟨hp2, hp8⟩) (by rw [ej, ek]) (by decide) (by decide) dX5_apart_27
set_option maxHeartbeats 4000000 in
set_option maxRecDepth 100000 in
theorem r_strength {l : Launch} {g : gG} {M : Mp} {x : Nat} {tg : Nat → Nat} {A : Nat → Nat → Nat} {pr br : Nat → Bool} {np : Nat → Nat} {hh : Nat → Nat → Nat} {ne nb no : Nat} {sc : Nat → Int32} {ar : Nat → Nat → Int32} (hlx : l.stackTraces = false) (hI : RI g M x tg A pr br np hh ne nb no sc ar) (p0 : Int32) : vx_Met l yX5_strength (WY yX5_strength cX5_strength 2 (some .int)) { frames := 8, cells := 1, slots := 6, locals := 124 } (Wc g M [.ref x, .int p0]) (xrQ (inx p0 nb) (some (.int (ar 8 p0.toNatClampNeg)))) (xQ (fun E_ => E_ = xIO ∧ ¬ inx p0 nb)) 1 6 fr0 := by
  refine ofX (by decide +kernel) (Nat.le_of_ble_eq_true rfl) (fun p e s m args below meth c ls C hr hlocks hout hE hH hl ea => ?_)
  have hl : lv_has ls 2 [(0, .ref x), (1, .int p0)] := hl
  have hS : va_S (gA g) s.heap s.heap [] := va_S.rf
  obtain ⟨-, iX, iE, iB, iO, iW, iL, iC⟩ := id hI
  have hne : ne < 2 ^ 31 := Nat.lt_of_le_of_lt iE.1 (by decide)
  have hnb : nb < 2 ^ 31 := Nat.lt_of_le_of_lt iB.1 (by decide)
  have hno : no < 2 ^ 31 := Nat.lt_of_le_of_lt iO.1 (by decide)
  refine lv_aload_n C.1 C.2.1 dX5_strength_0 rfl (lv_at hl 0 rfl) ?_
  refine lv_iload_n C.1 C.2.1 dX5_strength_1 rfl (lv_at hl 1 rfl) ?_
  refine xr_go1 (xrunV C hE hH hS (c_findBath hlx iX.1 (iB.2.1.1) (hnb) (fun j hj => by obtain ⟨⟨e, -, -, c1⟩, -⟩ := iB.2.2 j hj; exact ⟨_, c1.1⟩) p0) mv_X5_findBath wm_400 iX.1 rfl rfl hl.1 dX5_strength_2 rfl rfl ⟨rfl, rfl⟩ ⟨Nat.le_of_ble_eq_true rfl, Nat.le_of_ble_eq_true rfl⟩ (Nat.le_of_ble_eq_true rfl) ⟨Nat.le_of_ble_eq_true rfl, Nat.le_of_ble_eq_true rfl⟩) (fun E ce q9 H1 hx9 hz9 ho9 hce hcv hcl => ?_) (fun hp2 => ?_)
  · exact x_pass hout hlocks (hx9) hz9 ho9 hce hcv hcl (by decide) (by decide)
  obtain ⟨j, ej⟩ : ∃ z : Nat, z = p0.toNatClampNeg := ⟨_, rfl⟩
  have hj : j < nb := by rw [ej]; exact inx_lt hp2 hnb
  rw [← ej]
  obtain ⟨⟨ej9, hej9, h7j, cj⟩, ⟨ybj, hybj, e6j⟩, hr8j, hlj, hHj⟩ := iB.2.2 j hj
  refine mget C hE hH fl_376 cj.1 rfl dX5_strength_5 ?_
  exact xr_iret C hr hlocks (hp2) (by rw [ej]) (by decide) (by decide) dX5_strength_8
def zE (ar : Nat → Nat → Int32) (o : Nat) : Nat := (ar 10 o).toNatClampNeg
def zcol (ar : Nat → Nat → Int32) (o : Nat) (ax : Int32) : Int32 := if ax = 0 then zf (ar 1 (2 * zE ar o)) (ar 15 o) (ar 16 o) (ar 17 o) else zs (ar 1 (2 * zE ar o + 1)) (ar 15 o) (ar 18 o)
def zdst (ar : Nat → Nat → Int32) (o : Nat) (k w y1 y2 : Int32) : Int32 := zod (ar 1 (2 * zE ar o)) (ar 1 (2 * zE ar o + 1)) k w y1 y2
theorem zE_at {ar : Nat → Nat → Int32} {o e : Nat} (h : ar 10 o = nI e) (he : e < 2 ^ 31) : zE ar o = e := by unfold zE; rw [h, nI_clamp he]
theorem ite_no {c : Prop} [Decidable c] {x : Nat} (h : ¬ (if c then none else some x) ≠ none) : c := by
  by_cases hc : c
  · exact hc
  · rw [if_neg hc] at h
    exact absurd (fun z => by cases z) h
theorem ch5 {β : Type} [Inhabited β] {n : Nat} {P : Nat → β → Prop} (h : ∀ i, i < n → ∃ f, P i f) : ∃ D : Nat → β, ∀ i, i < n → P i (D i) := ⟨fun i => if hi : i < n then (h i hi).choose else default, fun i hi => by show P i (if hi : i < n then (h i hi).choose else default); rw [dif_pos hi]; exact (h i hi).choose_spec⟩
theorem zbal_congr {D E : Nat → Nat → Int32} {j : Nat} : ∀ {n : Nat}, (∀ i, i < n → D i j = E i j ∧ D j i = E j i) → zbal D j n = zbal E j n
  | 0, _ => rfl
  | n + 1, h => by
    unfold zbal
    rw [zbal_congr (fun i hi => h i (by omega)), (h n (by omega)).1, (h n (by omega)).2]
theorem inr_inx {x : Int32} (h : ¬ x < 0 ∧ x ≤ 2) : inx x 3 := by
  refine ⟨h.1, ?_⟩
  have h2 := h.2
  rw [Int32.le_iff_toInt_le] at h2
  rw [Int32.lt_iff_toInt_lt]
  have e1 : (2 : Int32).toInt = 2 := by decide
  have e2 : (nI 3).toInt = 3 := by decide
  omega
theorem inx_nI {x : Int32} {n : Nat} (h : inx x n) (hn : n < 2 ^ 31) : x.toNatClampNeg < n ∧ x = nI x.toNatClampNeg := by
  refine ⟨inx_lt h hn, ?_⟩
  obtain ⟨j, hj, rfl⟩ := nI_of h.1
  rw [nI_clamp hj]
theorem nI_inj {a b : Nat} (ha : a < 2 ^ 31) (hb : b < 2 ^ 31) (h : nI a = nI b) : a = b := by rw [← nI_clamp ha, ← nI_clamp hb, h]
theorem pig : ∀ (m n : Nat) (f : Nat → Nat), (∀ j, j < n → f j < m) → (∀ j t, j < n → t < n → f j = f t → j = t) → n ≤ m
  | 0, n, f, h, _ => by
    rcases Nat.eq_zero_or_pos n with q | q
    · omega
    · exact absurd (h 0 q) (by omega)
  | m + 1, n, f, h, hi => by
    rcases Classical.em (∃ j0, j0 < n ∧ f j0 = m) with ⟨j0, h0, e0⟩ | q
    · have := pig m (n - 1) (fun j => if j < j0 then f j else f (j + 1)) (fun j hj => by
        show (if j < j0 then f j else f (j + 1)) < m
        split
        · have a := h j (by omega)
          have b : f j ≠ m := fun z => absurd (hi j j0 (by omega) h0 (z.trans e0.symm)) (by omega)
          omega
        · have a := h (j + 1) (by omega)
          have b : f (j + 1) ≠ m := fun z => absurd (hi (j + 1) j0 (by omega) h0 (z.trans e0.symm)) (by omega)
          omega) (fun j t hj ht hq => by
        have hq : (if j < j0 then f j else f (j + 1)) = (if t < j0 then f t else f (t + 1)) := hq
        split at hq <;> split at hq
        · exact hi j t (by omega) (by omega) hq
        · have := hi j (t + 1) (by omega) (by omega) hq; omega
        · have := hi (j + 1) t (by omega) (by omega) hq; omega
        · have := hi (j + 1) (t + 1) (by omega) (by omega) hq; omega)
      omega
    · exact Nat.le_succ_of_le (pig m n f (fun j hj => by
        have a := h j hj
        have b : f j ≠ m := fun z => q ⟨j, hj, z⟩
        omega) hi)
theorem np_le {pr br : Nat → Bool} {np : Nat → Nat} {hh : Nat → Nat → Nat} {no i : Nat} {ar : Nat → Nat → Int32} (h : RH pr br np hh no ar i) (hn : no ≤ 40) : np i ≤ 40 := Nat.le_trans (pig no (np i) (hh i) (fun j hj => (h.1 j hj).1) h.2.1) hn
abbrev hcell (A : Nat → Nat → Nat) (pr : Nat → Bool) (ar : Nat → Nat → Int32) (o : Nat) : va_E := eO 5 [.int (nI o), .ref (A 3 (zE ar o)), .int (ar 11 o), .ref (A 4 (ar 14 o).toNatClampNeg), .int (bI (pr o)), .int (ar 15 o), .int (ar 16 o), .int (ar 17 o), .int (ar 18 o)]
theorem hist_cells {g : gG} {M : Mp} {tg : Nat → Nat} {A : Nat → Nat → Nat} {pr br : Nat → Bool} {np : Nat → Nat} {hh : Nat → Nat → Nat} {ne nb no b : Nat} {ar : Nat → Nat → Int32} (hO : RO g M tg A pr np hh ne nb no ar) (hH : RH pr br np hh no ar b) (hne : ne < 2 ^ 31) (hnb : nb < 2 ^ 31) : ∀ i, i < np b → M (A 6 (hh b i)) = some (hcell A pr ar (hh b i)) := fun i hi => by
  obtain ⟨h1, h2, -⟩ := hH.1 i hi
  obtain ⟨e, y, he, h10, -, -, -, -, -, hP⟩ := hO.2.2.2 _ h1
  obtain ⟨b2, t, hb2, h14, -, -, hc, -⟩ := hP h2
  rw [hcell, zE_at h10 (by omega), h14, nI_clamp (by omega)]
  exact hc.1
theorem hist_ne {pr br : Nat → Bool} {np : Nat → Nat} {hh : Nat → Nat → Nat} {no b t j : Nat} {x : Int32} {ar : Nat → Nat → Int32} (hH : RH pr br np hh no ar b) (hn : no ≤ 40) (ht : t < np b) (ej : hh b t = j) (ex : x = nI j) : ∀ i, i < t → nI (hh b i) ≠ x := fun i hi z => by
  have h1 := (hH.1 i (by omega)).1
  have h2 := (hH.1 t ht).1
  rw [ex, ← ej] at z
  exact absurd (hH.2.1 i t (by omega) ht (nI_inj (by omega) (by omega) z)) (by omega)
set_option maxHeartbeats 4000000 in
set_option maxRecDepth 100000 in
theorem r_stateOf {l : Launch} {g : gG} {M : Mp} {x : Nat} {tg : Nat → Nat} {A : Nat → Nat → Nat} {pr br : Nat → Bool} {np : Nat → Nat} {hh : Nat → Nat → Nat} {ne nb no : Nat} {sc : Nat → Int32} {ar : Nat → Nat → Int32} (hlx : l.stackTraces = false) (hI : RI g M x tg A pr br np hh ne nb no sc ar) (p0 : Int32) : vx_Met l yX5_stateOf (WY yX5_stateOf cX5_stateOf 3 (some .int)) { frames := 8, cells := 1, slots := 6, locals := 124 } (Wc g M [.ref x, .int p0]) (xrQ (inx p0 no) (some (.int (ar 13 p0.toNatClampNeg)))) (xQ (fun E_ => E_ = xIO ∧ ¬ inx p0 no)) 1 6 fr0 := by
  refine ofX (by decide +kernel) (Nat.le_of_ble_eq_true rfl) (fun p e s m args below meth c ls C hr hlocks hout hE hH hl ea => ?_)
  have hl : lv_has ls 3 [(0, .ref x), (1, .int p0)] := hl
  have hS : va_S (gA g) s.heap s.heap [] := va_S.rf
  obtain ⟨-, iX, iE, iB, iO, iW, iL, iC⟩ := id hI
  have hne : ne < 2 ^ 31 := Nat.lt_of_le_of_lt iE.1 (by decide)
  have hnb : nb < 2 ^ 31 := Nat.lt_of_le_of_lt iB.1 (by decide)
  have hno : no < 2 ^ 31 := Nat.lt_of_le_of_lt iO.1 (by decide)
  refine lv_aload_n C.1 C.2.1 dX5_stateOf_0 rfl (lv_at hl 0 rfl) ?_
  refine lv_iload_n C.1 C.2.1 dX5_stateOf_1 rfl (lv_at hl 1 rfl) ?_
  refine xr_go1 (xrunV C hE hH hS (c_findOrder hlx iX.1 (iO.2.1.1) (hno) (fun j hj => by obtain ⟨e, y, -, -, -, -, -, -, c1, -⟩ := iO.2.2.2 j hj; exact ⟨_, c1.1⟩) p0) mv_X5_findOrder wm_395 iX.1 rfl rfl hl.1 dX5_stateOf_2 rfl rfl ⟨rfl, rfl⟩ ⟨Nat.le_of_ble_eq_true rfl, Nat.le_of_ble_eq_true rfl⟩ (Nat.le_of_ble_eq_true rfl) ⟨Nat.le_of_ble_eq_true rfl, Nat.le_of_ble_eq_true rfl⟩) (fun E ce q9 H1 hx9 hz9 ho9 hce hcv hcl => ?_) (fun hp2 => ?_)
  · exact x_pass hout hlocks (hx9) hz9 ho9 hce hcv hcl (by decide) (by decide)
  obtain ⟨j, ej⟩ : ∃ z : Nat, z = p0.toNatClampNeg := ⟨_, rfl⟩
  have hj : j < no := by rw [ej]; exact inx_lt hp2 hno
  rw [← ej]
  obtain ⟨ej9, yj9, hej9, h10j, hr11j, hyj9, h12j, h13j, cj, hPj⟩ := iO.2.2.2 j hj
  refine lv_astore_n (lv' := [(2, .ref (A 5 j)), (0, .ref x), (1, .int p0)]) C.1 C.2.1 dX5_stateOf_5 rfl hl (by decide) rfl (fun ls hl => ?_)
  have cz := cj.1
  rcases Decidable.em (ar 13 j = 0) with hz | hz
  · rw [if_pos hz] at cz
    refine lv_aload_n C.1 C.2.1 dX5_stateOf_6 rfl (lv_at hl 0 rfl) ?_
    refine mget C hE hH fl_575 cz rfl dX5_stateOf_7 ?_
    refine lv_ifnonnullN C.1 C.2.1 dX5_stateOf_10 ?_
    refine lv_iconst (v := 0) C.1 C.2.1 dX5_stateOf_13 rfl ?_
    exact xr_iret C hr hlocks (hp2) (hz.symm) (by decide) (by decide) dX5_stateOf_14
  · rw [if_neg hz] at cz
    refine lv_aload_n C.1 C.2.1 dX5_stateOf_6 rfl (lv_at hl 0 rfl) ?_
    refine mget C hE hH fl_575 cz rfl dX5_stateOf_7 ?_
    refine lv_ifnonnull (tgt := 15) C.1 C.2.1 dX5_stateOf_10 (by decide) ?_
    refine lv_aload_n C.1 C.2.1 dX5_stateOf_15 rfl (lv_at hl 0 rfl) ?_
    refine mget C hE hH fl_576 cz rfl dX5_stateOf_16 ?_
    refine lv_if_eq (tgt := 26) C.1 C.2.1 dX5_stateOf_19 (by decide) (fun c19 => ?_) (fun c19 => ?_)
    · refine lv_iconst (v := 1) C.1 C.2.1 dX5_stateOf_26 rfl ?_
      exact xr_iret C hr hlocks (hp2) (((h13j.resolve_left hz).resolve_right (bI_z.mp c19)).symm) (by decide) (by decide) dX5_stateOf_27
    · refine lv_iconst (v := 2) C.1 C.2.1 dX5_stateOf_22 rfl ?_
      refine lv_goto (tgt := 27) C.1 C.2.1 dX5_stateOf_23 (by decide) ?_
      exact xr_iret C hr hlocks (hp2) ((bI_nz c19).symm) (by decide) (by decide) dX5_stateOf_27
set_option maxHeartbeats 4000000 in
set_option maxRecDepth 100000 in
theorem r_colour {l : Launch} {g : gG} {M : Mp} {x : Nat} {tg : Nat → Nat} {A : Nat → Nat → Nat} {pr br : Nat → Bool} {np : Nat → Nat} {hh : Nat → Nat → Nat} {ne nb no : Nat} {sc : Nat → Int32} {ar : Nat → Nat → Int32} (hlx : l.stackTraces = false) (hI : RI g M x tg A pr br np hh ne nb no sc ar) (p0 p1 : Int32) : vx_Met l yX5_colour (WY yX5_colour cX5_colour 5 (some .int)) { frames := 8, cells := 3, slots := 18, locals := 124 } (Wc g M [.ref x, .int p0, .int p1]) (xrQ ((inx p0 no ∧ inx p1 2) ∧ ¬ ar 13 p0.toNatClampNeg = 0) (some (.int (zcol ar p0.toNatClampNeg p1)))) (xQ (fun E_ => E_ = xIO ∧ ¬ (inx p0 no ∧ inx p1 2) ∨ E_ = xIS ∧ (inx p0 no ∧ inx p1 2) ∧ ¬ ¬ ar 13 p0.toNatClampNeg = 0)) 3 18 fr0 := by
  refine ofX (by decide +kernel) (Nat.le_of_ble_eq_true rfl) (fun p e s m args below meth c ls C hr hlocks hout hE hH hl ea => ?_)
  have hl : lv_has ls 5 [(0, .ref x), (1, .int p0), (2, .int p1)] := hl
  have hS : va_S (gA g) s.heap s.heap [] := va_S.rf
  obtain ⟨-, iX, iE, iB, iO, iW, iL, iC⟩ := id hI
  have hne : ne < 2 ^ 31 := Nat.lt_of_le_of_lt iE.1 (by decide)
  have hnb : nb < 2 ^ 31 := Nat.lt_of_le_of_lt iB.1 (by decide)
  have hno : no < 2 ^ 31 := Nat.lt_of_le_of_lt iO.1 (by decide)
  refine lv_aload_n C.1 C.2.1 dX5_colour_0 rfl (lv_at hl 0 rfl) ?_
  refine lv_iload_n C.1 C.2.1 dX5_colour_1 rfl (lv_at hl 1 rfl) ?_
  refine xr_go1 (xrunV C hE hH hS (c_findOrder hlx iX.1 (iO.2.1.1) (hno) (fun j hj => by obtain ⟨e, y, -, -, -, -, -, -, c1, -⟩ := iO.2.2.2 j hj; exact ⟨_, c1.1⟩) p0) mv_X5_findOrder wm_395 iX.1 rfl rfl hl.1 dX5_colour_2 rfl rfl ⟨rfl, rfl⟩ ⟨Nat.le_of_ble_eq_true rfl, Nat.le_of_ble_eq_true rfl⟩ (Nat.le_of_ble_eq_true rfl) ⟨Nat.le_of_ble_eq_true rfl, Nat.le_of_ble_eq_true rfl⟩) (fun E ce q9 H1 hx9 hz9 ho9 hce hcv hcl => ?_) (fun hp2 => ?_)
  · exact x_pass hout hlocks (Or.inl ⟨hx9.1, fun z => hx9.2 z.1⟩) hz9 ho9 hce hcv hcl (by decide) (by decide)
  obtain ⟨j, ej⟩ : ∃ z : Nat, z = p0.toNatClampNeg := ⟨_, rfl⟩
  have hj : j < no := by rw [ej]; exact inx_lt hp2 hno
  rw [← ej]
  obtain ⟨ej9, yj9, hej9, h10j, hr11j, hyj9, h12j, h13j, cj, hPj⟩ := iO.2.2.2 j hj
  refine lv_astore_n (lv' := [(3, .ref (A 5 j)), (0, .ref x), (1, .int p0), (2, .int p1)]) C.1 C.2.1 dX5_colour_5 rfl hl (by decide) rfl (fun ls hl => ?_)
  refine lv_iload_n C.1 C.2.1 dX5_colour_6 rfl (lv_at hl 3 rfl) ?_
  refine lv_iconst (v := 2) C.1 C.2.1 dX5_colour_7 rfl ?_
  refine xr_go0 (xrunS C hE hH hS (c_reqIndex hlx p1 2) mv_X5_requireIndex wm_321 hl.1 dX5_colour_8 rfl rfl ⟨rfl, rfl⟩ ⟨Nat.le_of_ble_eq_true rfl, Nat.le_of_ble_eq_true rfl⟩ (Nat.le_of_ble_eq_true rfl) ⟨Nat.le_of_ble_eq_true rfl, Nat.le_of_ble_eq_true rfl⟩) (fun E ce q9 H1 hx9 hz9 ho9 hce hcv hcl => ?_) (fun hp8 => ?_)
  · exact x_pass hout hlocks (Or.inl ⟨hx9.1, fun z => hx9.2 z.2⟩) hz9 ho9 hce hcv hcl (by decide) (by decide)
  refine lv_aload_n C.1 C.2.1 dX5_colour_11 rfl (lv_at hl 0 rfl) ?_
  refine xr_go1 (xrunS C hE hH hS (c_pieceOf hlx cj.1) mv_X5_pieceOf wm_642 hl.1 dX5_colour_12 rfl rfl ⟨rfl, rfl⟩ ⟨Nat.le_of_ble_eq_true rfl, Nat.le_of_ble_eq_true rfl⟩ (Nat.le_of_ble_eq_true rfl) ⟨Nat.le_of_ble_eq_true rfl, Nat.le_of_ble_eq_true rfl⟩) (fun E ce q9 H1 hx9 hz9 ho9 hce hcv hcl => ?_) (fun hp12 => ?_)
  · exact x_pass hout hlocks (Or.inr ⟨hx9.1, ⟨hp2, hp8⟩, fun z => z (ite_no hx9.2)⟩) hz9 ho9 hce hcv hcl (by decide) (by decide)
  have hsj : ¬ ar 13 j = 0 := fun z => hp12 (if_pos z)
  rw [if_neg hsj]
  obtain ⟨bj9, tj9, hbj9, h14j, htj9, hhj9, cpj, hqj⟩ := hPj hsj
  refine lv_astore (lv' := [(4, .ref (A 6 j)), (3, .ref (A 5 j)), (0, .ref x), (1, .int p0), (2, .int p1)]) C.1 C.2.1 dX5_colour_15 hl (by decide) rfl (fun ls hl => ?_)
  refine lv_aload C.1 C.2.1 dX5_colour_17 (lv_at hl 0 rfl) ?_
  refine lv_iload_n C.1 C.2.1 dX5_colour_19 rfl (lv_at hl 4 rfl) ?_
  refine lv_aload C.1 C.2.1 dX5_colour_20 (lv_at hl 0 rfl) ?_
  refine mget C hE hH fl_433 cpj.1 rfl dX5_colour_22 ?_
  refine rd_go1 (runV C hE hH hS (c_P_colourAt cpj.1 (iE.2.2 ej9 hej9).1.1 p1 (ar 15 j)) mv_X4_colourAt wm_660 cpj.1 rfl rfl hl.1 dX5_colour_25 rfl rfl ⟨rfl, rfl⟩ ⟨Nat.le_of_ble_eq_true rfl, Nat.le_of_ble_eq_true rfl⟩ (Nat.le_of_ble_eq_true rfl) ⟨Nat.le_of_ble_eq_true rfl, Nat.le_of_ble_eq_true rfl⟩) ?_
  exact xr_iret C hr hlocks (⟨⟨hp2, hp8⟩, hsj⟩) (by rw [zcol, zE_at h10j (by omega)]) (by decide) (by decide) dX5_colour_28
set_option maxHeartbeats 4000000 in
set_option maxRecDepth 100000 in
theorem r_colourByBath {l : Launch} {g : gG} {M : Mp} {x : Nat} {tg : Nat → Nat} {A : Nat → Nat → Nat} {pr br : Nat → Bool} {np : Nat → Nat} {hh : Nat → Nat → Nat} {ne nb no : Nat} {sc : Nat → Int32} {ar : Nat → Nat → Int32} (hlx : l.stackTraces = false) (hI : RI g M x tg A pr br np hh ne nb no sc ar) (p0 p1 : Int32) : vx_Met l yX5_colourByBath (WY yX5_colourByBath cX5_colourByBath 5 (some .int)) { frames := 8, cells := 3, slots := 18, locals := 124 } (Wc g M [.ref x, .int p0, .int p1]) (xrQ ((inx p0 no ∧ inx p1 2) ∧ ¬ ar 13 p0.toNatClampNeg = 0) (some (.int (zcol ar p0.toNatClampNeg p1)))) (xQ (fun E_ => E_ = xIO ∧ ¬ (inx p0 no ∧ inx p1 2) ∨ E_ = xIS ∧ (inx p0 no ∧ inx p1 2) ∧ ¬ ¬ ar 13 p0.toNatClampNeg = 0)) 3 18 fr0 := by
  refine ofX (by decide +kernel) (Nat.le_of_ble_eq_true rfl) (fun p e s m args below meth c ls C hr hlocks hout hE hH hl ea => ?_)
  have hl : lv_has ls 5 [(0, .ref x), (1, .int p0), (2, .int p1)] := hl
  have hS : va_S (gA g) s.heap s.heap [] := va_S.rf
  obtain ⟨-, iX, iE, iB, iO, iW, iL, iC⟩ := id hI
  have hne : ne < 2 ^ 31 := Nat.lt_of_le_of_lt iE.1 (by decide)
  have hnb : nb < 2 ^ 31 := Nat.lt_of_le_of_lt iB.1 (by decide)
  have hno : no < 2 ^ 31 := Nat.lt_of_le_of_lt iO.1 (by decide)
  refine lv_aload_n C.1 C.2.1 dX5_colourByBath_0 rfl (lv_at hl 0 rfl) ?_
  refine lv_iload_n C.1 C.2.1 dX5_colourByBath_1 rfl (lv_at hl 1 rfl) ?_
  refine xr_go1 (xrunV C hE hH hS (c_findOrder hlx iX.1 (iO.2.1.1) (hno) (fun j hj => by obtain ⟨e, y, -, -, -, -, -, -, c1, -⟩ := iO.2.2.2 j hj; exact ⟨_, c1.1⟩) p0) mv_X5_findOrder wm_395 iX.1 rfl rfl hl.1 dX5_colourByBath_2 rfl rfl ⟨rfl, rfl⟩ ⟨Nat.le_of_ble_eq_true rfl, Nat.le_of_ble_eq_true rfl⟩ (Nat.le_of_ble_eq_true rfl) ⟨Nat.le_of_ble_eq_true rfl, Nat.le_of_ble_eq_true rfl⟩) (fun E ce q9 H1 hx9 hz9 ho9 hce hcv hcl => ?_) (fun hp2 => ?_)
  · exact x_pass hout hlocks (Or.inl ⟨hx9.1, fun z => hx9.2 z.1⟩) hz9 ho9 hce hcv hcl (by decide) (by decide)
  obtain ⟨j, ej⟩ : ∃ z : Nat, z = p0.toNatClampNeg := ⟨_, rfl⟩
  have hj : j < no := by rw [ej]; exact inx_lt hp2 hno
  rw [← ej]
  obtain ⟨ej9, yj9, hej9, h10j, hr11j, hyj9, h12j, h13j, cj, hPj⟩ := iO.2.2.2 j hj
  refine lv_astore_n (lv' := [(3, .ref (A 5 j)), (0, .ref x), (1, .int p0), (2, .int p1)]) C.1 C.2.1 dX5_colourByBath_5 rfl hl (by decide) rfl (fun ls hl => ?_)
  refine lv_iload_n C.1 C.2.1 dX5_colourByBath_6 rfl (lv_at hl 3 rfl) ?_
  refine lv_iconst (v := 2) C.1 C.2.1 dX5_colourByBath_7 rfl ?_
  refine xr_go0 (xrunS C hE hH hS (c_reqIndex hlx p1 2) mv_X5_requireIndex wm_321 hl.1 dX5_colourByBath_8 rfl rfl ⟨rfl, rfl⟩ ⟨Nat.le_of_ble_eq_true rfl, Nat.le_of_ble_eq_true rfl⟩ (Nat.le_of_ble_eq_true rfl) ⟨Nat.le_of_ble_eq_true rfl, Nat.le_of_ble_eq_true rfl⟩) (fun E ce q9 H1 hx9 hz9 ho9 hce hcv hcl => ?_) (fun hp8 => ?_)
  · exact x_pass hout hlocks (Or.inl ⟨hx9.1, fun z => hx9.2 z.2⟩) hz9 ho9 hce hcv hcl (by decide) (by decide)
  refine lv_aload_n C.1 C.2.1 dX5_colourByBath_11 rfl (lv_at hl 0 rfl) ?_
  refine xr_go1 (xrunS C hE hH hS (c_pieceOf hlx cj.1) mv_X5_pieceOf wm_642 hl.1 dX5_colourByBath_12 rfl rfl ⟨rfl, rfl⟩ ⟨Nat.le_of_ble_eq_true rfl, Nat.le_of_ble_eq_true rfl⟩ (Nat.le_of_ble_eq_true rfl) ⟨Nat.le_of_ble_eq_true rfl, Nat.le_of_ble_eq_true rfl⟩) (fun E ce q9 H1 hx9 hz9 ho9 hce hcv hcl => ?_) (fun hp12 => ?_)
  · exact x_pass hout hlocks (Or.inr ⟨hx9.1, ⟨hp2, hp8⟩, fun z => z (ite_no hx9.2)⟩) hz9 ho9 hce hcv hcl (by decide) (by decide)
  have hsj : ¬ ar 13 j = 0 := fun z => hp12 (if_pos z)
  rw [if_neg hsj]
  obtain ⟨bj9, tj9, hbj9, h14j, htj9, hhj9, cpj, hqj⟩ := hPj hsj
  refine lv_astore (lv' := [(4, .ref (A 6 j)), (3, .ref (A 5 j)), (0, .ref x), (1, .int p0), (2, .int p1)]) C.1 C.2.1 dX5_colourByBath_15 hl (by decide) rfl (fun ls hl => ?_)
  obtain ⟨⟨eb9, heb9, -, cbj⟩, -, -, lbj, hHj⟩ := iB.2.2 bj9 hbj9
  have hnp : np bj9 < 2 ^ 31 := Nat.lt_of_le_of_lt (np_le hHj iO.1) (by decide)
  have hP := hist_cells iO hHj hne hnb
  have ez : ar 15 j = zat (fun t => pr (hh bj9 t)) (fun t => ar 11 (hh bj9 t)) tj9 := by have h9 := (hHj.1 _ htj9).2.2; rw [hhj9] at h9; exact h9
  have ep0 : p0 = nI j := by rw [ej]; exact (inx_nI hp2 hno).2
  refine lv_aload C.1 C.2.1 dX5_colourByBath_17 (lv_at hl 0 rfl) ?_
  refine lv_iload_n C.1 C.2.1 dX5_colourByBath_19 rfl (lv_at hl 4 rfl) ?_
  refine lv_aload C.1 C.2.1 dX5_colourByBath_20 (lv_at hl 0 rfl) ?_
  refine mget C hE hH fl_429 cpj.1 rfl dX5_colourByBath_22 ?_
  refine lv_iload_n C.1 C.2.1 dX5_colourByBath_25 rfl (lv_at hl 3 rfl) ?_
  refine rd_go1 (runV C hE hH hS (c_followedTo cbj.1 (lbj.1) (hnp) (hP) (htj9) (by rw [hhj9]; exact ep0.symm) (hist_ne hHj iO.1 htj9 (hhj9.trans rfl) ep0)) mv_X0_followedTo wm_670 cbj.1 rfl rfl hl.1 dX5_colourByBath_26 rfl rfl ⟨rfl, rfl⟩ ⟨Nat.le_of_ble_eq_true rfl, Nat.le_of_ble_eq_true rfl⟩ (Nat.le_of_ble_eq_true rfl) ⟨Nat.le_of_ble_eq_true rfl, Nat.le_of_ble_eq_true rfl⟩) ?_
  refine rd_go1 (runV C hE hH hS (c_P_colourAt cpj.1 (iE.2.2 ej9 hej9).1.1 p1 (zat (fun t => pr (hh bj9 t)) (fun t => ar 11 (hh bj9 t)) tj9)) mv_X4_colourAt wm_660 cpj.1 rfl rfl hl.1 dX5_colourByBath_29 rfl rfl ⟨rfl, rfl⟩ ⟨Nat.le_of_ble_eq_true rfl, Nat.le_of_ble_eq_true rfl⟩ (Nat.le_of_ble_eq_true rfl) ⟨Nat.le_of_ble_eq_true rfl, Nat.le_of_ble_eq_true rfl⟩) ?_
  exact xr_iret C hr hlocks (⟨⟨hp2, hp8⟩, hsj⟩) (by rw [zcol, zE_at h10j (by omega), ← ez]) (by decide) (by decide) dX5_colourByBath_32
set_option maxHeartbeats 4000000 in
set_option maxRecDepth 100000 in
theorem r_blamed {l : Launch} {g : gG} {M : Mp} {x : Nat} {tg : Nat → Nat} {A : Nat → Nat → Nat} {pr br : Nat → Bool} {np : Nat → Nat} {hh : Nat → Nat → Nat} {ne nb no : Nat} {sc : Nat → Int32} {ar : Nat → Nat → Int32} (hlx : l.stackTraces = false) (hI : RI g M x tg A pr br np hh ne nb no sc ar) (p0 p1 : Int32) : vx_Met l yX5_blamed (WY yX5_blamed cX5_blamed 3 (some .int)) { frames := 7, cells := 2, slots := 12, locals := 104 } (Wc g M [.ref x, .int p0, .int p1]) (xrQ (inx p0 3 ∧ inr p1 0 2) (some (.int (ar 19 (3 * p0.toNatClampNeg + p1.toNatClampNeg))))) (xQ (fun E_ => E_ = xIO ∧ ¬ inx p0 3 ∨ E_ = xIA ∧ inx p0 3 ∧ ¬ inr p1 0 2)) 2 12 fr0 := by
  refine ofX (by decide +kernel) (Nat.le_of_ble_eq_true rfl) (fun p e s m args below meth c ls C hr hlocks hout hE hH hl ea => ?_)
  have hl : lv_has ls 3 [(0, .ref x), (1, .int p0), (2, .int p1)] := hl
  have hS : va_S (gA g) s.heap s.heap [] := va_S.rf
  obtain ⟨-, iX, iE, iB, iO, iW, iL, iC⟩ := id hI
  have hne : ne < 2 ^ 31 := Nat.lt_of_le_of_lt iE.1 (by decide)
  have hnb : nb < 2 ^ 31 := Nat.lt_of_le_of_lt iB.1 (by decide)
  have hno : no < 2 ^ 31 := Nat.lt_of_le_of_lt iO.1 (by decide)
  refine lv_iload_n C.1 C.2.1 dX5_blamed_0 rfl (lv_at hl 1 rfl) ?_
  refine lv_iconst (v := 3) C.1 C.2.1 dX5_blamed_1 rfl ?_
  refine xr_go0 (xrunS C hE hH hS (c_reqIndex hlx p0 3) mv_X5_requireIndex wm_321 hl.1 dX5_blamed_2 rfl rfl ⟨rfl, rfl⟩ ⟨Nat.le_of_ble_eq_true rfl, Nat.le_of_ble_eq_true rfl⟩ (Nat.le_of_ble_eq_true rfl) ⟨Nat.le_of_ble_eq_true rfl, Nat.le_of_ble_eq_true rfl⟩) (fun E ce q9 H1 hx9 hz9 ho9 hce hcv hcl => ?_) (fun hp2 => ?_)
  · exact x_pass hout hlocks (Or.inl ⟨hx9.1, hx9.2⟩) hz9 ho9 hce hcv hcl (by decide) (by decide)
  refine lv_iload_n C.1 C.2.1 dX5_blamed_5 rfl (lv_at hl 2 rfl) ?_
  refine lv_iconst (v := 0) C.1 C.2.1 dX5_blamed_6 rfl ?_
  refine lv_iconst (v := 2) C.1 C.2.1 dX5_blamed_7 rfl ?_
  refine xr_go0 (xrunS C hE hH hS (c_reqRange hlx p1 0 2) mv_X5_requireRange wm_136 hl.1 dX5_blamed_8 rfl rfl ⟨rfl, rfl⟩ ⟨Nat.le_of_ble_eq_true rfl, Nat.le_of_ble_eq_true rfl⟩ (Nat.le_of_ble_eq_true rfl) ⟨Nat.le_of_ble_eq_true rfl, Nat.le_of_ble_eq_true rfl⟩) (fun E ce q9 H1 hx9 hz9 ho9 hce hcv hcl => ?_) (fun hp8 => ?_)
  · exact x_pass hout hlocks (Or.inr ⟨hx9.1, hp2, hx9.2⟩) hz9 ho9 hce hcv hcl (by decide) (by decide)
  obtain ⟨⟨orow, a1, b1⟩, h2⟩ := id iL
  have hi := inx_lt (n := 3) hp2 (by decide)
  have hj := inx_lt (inr_inx hp8) (by decide)
  obtain ⟨f, d1, d2⟩ := h2 _ hi
  refine lv_aload_n C.1 C.2.1 dX5_blamed_11 rfl (lv_at hl 0 rfl) ?_
  refine mget C hE hH fl_98 iX.1 rfl dX5_blamed_12 ?_
  refine lv_iload_n C.1 C.2.1 dX5_blamed_15 rfl (lv_at hl 1 rfl) ?_
  refine maldq (k := 4) (y := (A 7 (3 + p0.toNatClampNeg))) C hE hH a1.1 rfl rfl (inx_in (n := 3) hp2 (by decide)) (b1 _ hi) dX5_blamed_16 ?_
  refine lv_iload_n C.1 C.2.1 dX5_blamed_17 rfl (lv_at hl 2 rfl) ?_
  refine mald C hE hH d1.1 (inx_in (inr_inx hp8) (by decide)) dX5_blamed_18 ?_
  exact xr_iret C hr hlocks (⟨hp2, hp8⟩) ((d2 _ hj)) (by decide) (by decide) dX5_blamed_19
set_option maxHeartbeats 4000000 in
set_option maxRecDepth 100000 in
theorem r_owes {l : Launch} {g : gG} {M : Mp} {x : Nat} {tg : Nat → Nat} {A : Nat → Nat → Nat} {pr br : Nat → Bool} {np : Nat → Nat} {hh : Nat → Nat → Nat} {ne nb no : Nat} {sc : Nat → Int32} {ar : Nat → Nat → Int32} (hlx : l.stackTraces = false) (hI : RI g M x tg A pr br np hh ne nb no sc ar) (p0 p1 p2 : Int32) : vx_Met l yX5_owes (WY yX5_owes cX5_owes 4 (some .int)) { frames := 7, cells := 3, slots := 18, locals := 103 } (Wc g M [.ref x, .int p0, .int p1, .int p2]) (xrQ ((inx p0 5 ∧ inx p1 5) ∧ inx p2 3) (some (.int (ar 21 (25 * p2.toNatClampNeg + 5 * p0.toNatClampNeg + p1.toNatClampNeg))))) (xQ (fun E_ => E_ = xIO ∧ ¬ ((inx p0 5 ∧ inx p1 5) ∧ inx p2 3))) 3 18 fr0 := by
  refine ofX (by decide +kernel) (Nat.le_of_ble_eq_true rfl) (fun p e s m args below meth c ls C hr hlocks hout hE hH hl ea => ?_)
  have hl : lv_has ls 4 [(0, .ref x), (1, .int p0), (2, .int p1), (3, .int p2)] := hl
  have hS : va_S (gA g) s.heap s.heap [] := va_S.rf
  obtain ⟨-, iX, iE, iB, iO, iW, iL, iC⟩ := id hI
  have hne : ne < 2 ^ 31 := Nat.lt_of_le_of_lt iE.1 (by decide)
  have hnb : nb < 2 ^ 31 := Nat.lt_of_le_of_lt iB.1 (by decide)
  have hno : no < 2 ^ 31 := Nat.lt_of_le_of_lt iO.1 (by decide)
  refine lv_iload_n C.1 C.2.1 dX5_owes_0 rfl (lv_at hl 1 rfl) ?_
  refine lv_iconst (v := 5) C.1 C.2.1 dX5_owes_1 rfl ?_
  refine xr_go0 (xrunS C hE hH hS (c_reqIndex hlx p0 5) mv_X5_requireIndex wm_321 hl.1 dX5_owes_2 rfl rfl ⟨rfl, rfl⟩ ⟨Nat.le_of_ble_eq_true rfl, Nat.le_of_ble_eq_true rfl⟩ (Nat.le_of_ble_eq_true rfl) ⟨Nat.le_of_ble_eq_true rfl, Nat.le_of_ble_eq_true rfl⟩) (fun E ce q9 H1 hx9 hz9 ho9 hce hcv hcl => ?_) (fun hp2 => ?_)
  · exact x_pass hout hlocks (⟨hx9.1, fun z => hx9.2 z.1.1⟩) hz9 ho9 hce hcv hcl (by decide) (by decide)
  refine lv_iload_n C.1 C.2.1 dX5_owes_5 rfl (lv_at hl 2 rfl) ?_
  refine lv_iconst (v := 5) C.1 C.2.1 dX5_owes_6 rfl ?_
  refine xr_go0 (xrunS C hE hH hS (c_reqIndex hlx p1 5) mv_X5_requireIndex wm_321 hl.1 dX5_owes_7 rfl rfl ⟨rfl, rfl⟩ ⟨Nat.le_of_ble_eq_true rfl, Nat.le_of_ble_eq_true rfl⟩ (Nat.le_of_ble_eq_true rfl) ⟨Nat.le_of_ble_eq_true rfl, Nat.le_of_ble_eq_true rfl⟩) (fun E ce q9 H1 hx9 hz9 ho9 hce hcv hcl => ?_) (fun hp7 => ?_)
  · exact x_pass hout hlocks (⟨hx9.1, fun z => hx9.2 z.1.2⟩) hz9 ho9 hce hcv hcl (by decide) (by decide)
  refine lv_iload_n C.1 C.2.1 dX5_owes_10 rfl (lv_at hl 3 rfl) ?_
  refine lv_iconst (v := 3) C.1 C.2.1 dX5_owes_11 rfl ?_
  refine xr_go0 (xrunS C hE hH hS (c_reqIndex hlx p2 3) mv_X5_requireIndex wm_321 hl.1 dX5_owes_12 rfl rfl ⟨rfl, rfl⟩ ⟨Nat.le_of_ble_eq_true rfl, Nat.le_of_ble_eq_true rfl⟩ (Nat.le_of_ble_eq_true rfl) ⟨Nat.le_of_ble_eq_true rfl, Nat.le_of_ble_eq_true rfl⟩) (fun E ce q9 H1 hx9 hz9 ho9 hce hcv hcl => ?_) (fun hp12 => ?_)
  · exact x_pass hout hlocks (⟨hx9.1, fun z => hx9.2 z.2⟩) hz9 ho9 hce hcv hcl (by decide) (by decide)
  obtain ⟨⟨crow, cr1, cr2⟩, iCk⟩ := id iC
  obtain ⟨k, ek⟩ : ∃ z : Nat, z = p2.toNatClampNeg := ⟨_, rfl⟩
  have hk : k < 3 := by rw [ek]; exact inx_lt (n := 3) hp12 (by decide)
  obtain ⟨ck1, ck2, ⟨orow, or1, or2⟩, de0, U, un1⟩ := iCk k hk
  obtain ⟨D, de⟩ := ch5 de0
  have hi := inx_lt (n := 5) hp2 (by decide)
  have hj := inx_lt (n := 5) hp7 (by decide)
  refine lv_aload_n C.1 C.2.1 dX5_owes_15 rfl (lv_at hl 0 rfl) ?_
  refine mget C hE hH fl_99 iX.1 rfl dX5_owes_16 ?_
  refine lv_iload_n C.1 C.2.1 dX5_owes_19 rfl (lv_at hl 3 rfl) ?_
  refine maldq (k := 3) (y := (A 10 k)) C hE hH cr1.1 rfl rfl (inx_in (n := 3) hp12 (by decide)) (by rw [← ek]; exact cr2 _ hk) dX5_owes_20 ?_
  refine mget C hE hH fl_82 ck1.1 rfl dX5_owes_21 ?_
  refine lv_iload_n C.1 C.2.1 dX5_owes_24 rfl (lv_at hl 1 rfl) ?_
  refine maldq (k := 4) (y := (A 7 (10 + 5 * k + p0.toNatClampNeg))) C hE hH or1.1 rfl rfl (inx_in (n := 5) hp2 (by decide)) (or2 _ hi) dX5_owes_25 ?_
  refine lv_iload_n C.1 C.2.1 dX5_owes_26 rfl (lv_at hl 2 rfl) ?_
  refine mald C hE hH (de _ hi).1.1 (inx_in (n := 5) hp7 (by decide)) dX5_owes_27 ?_
  exact xr_iret C hr hlocks (⟨⟨hp2, hp7⟩, hp12⟩) (by rw [← ek]; exact ((de _ hi).2 _ hj)) (by decide) (by decide) dX5_owes_28
def zD (ar : Nat → Nat → Int32) (k : Nat) : Nat → Nat → Int32 := fun i j => ar 21 (25 * k + 5 * i + j)
set_option maxHeartbeats 4000000 in
set_option maxRecDepth 100000 in
theorem r_position {l : Launch} {g : gG} {M : Mp} {x : Nat} {tg : Nat → Nat} {A : Nat → Nat → Nat} {pr br : Nat → Bool} {np : Nat → Nat} {hh : Nat → Nat → Nat} {ne nb no : Nat} {sc : Nat → Int32} {ar : Nat → Nat → Int32} (hlx : l.stackTraces = false) (hI : RI g M x tg A pr br np hh ne nb no sc ar) (p0 p1 : Int32) : vx_Met l yX5_position (WY yX5_position cX5_position 3 (some .int)) { frames := 7, cells := 2, slots := 12, locals := 103 } (Wc g M [.ref x, .int p0, .int p1]) (xrQ (inx p0 5 ∧ inx p1 3) (some (.int (zbal (zD ar p1.toNatClampNeg) p0.toNatClampNeg 5)))) (xQ (fun E_ => E_ = xIO ∧ ¬ (inx p0 5 ∧ inx p1 3))) 2 12 fr0 := by
  refine ofX (by decide +kernel) (Nat.le_of_ble_eq_true rfl) (fun p e s m args below meth c ls C hr hlocks hout hE hH hl ea => ?_)
  have hl : lv_has ls 3 [(0, .ref x), (1, .int p0), (2, .int p1)] := hl
  have hS : va_S (gA g) s.heap s.heap [] := va_S.rf
  obtain ⟨-, iX, iE, iB, iO, iW, iL, iC⟩ := id hI
  have hne : ne < 2 ^ 31 := Nat.lt_of_le_of_lt iE.1 (by decide)
  have hnb : nb < 2 ^ 31 := Nat.lt_of_le_of_lt iB.1 (by decide)
  have hno : no < 2 ^ 31 := Nat.lt_of_le_of_lt iO.1 (by decide)
  refine lv_iload_n C.1 C.2.1 dX5_position_0 rfl (lv_at hl 1 rfl) ?_
  refine lv_iconst (v := 5) C.1 C.2.1 dX5_position_1 rfl ?_
  refine xr_go0 (xrunS C hE hH hS (c_reqIndex hlx p0 5) mv_X5_requireIndex wm_321 hl.1 dX5_position_2 rfl rfl ⟨rfl, rfl⟩ ⟨Nat.le_of_ble_eq_true rfl, Nat.le_of_ble_eq_true rfl⟩ (Nat.le_of_ble_eq_true rfl) ⟨Nat.le_of_ble_eq_true rfl, Nat.le_of_ble_eq_true rfl⟩) (fun E ce q9 H1 hx9 hz9 ho9 hce hcv hcl => ?_) (fun hp2 => ?_)
  · exact x_pass hout hlocks (⟨hx9.1, fun z => hx9.2 z.1⟩) hz9 ho9 hce hcv hcl (by decide) (by decide)
  refine lv_iload_n C.1 C.2.1 dX5_position_5 rfl (lv_at hl 2 rfl) ?_
  refine lv_iconst (v := 3) C.1 C.2.1 dX5_position_6 rfl ?_
  refine xr_go0 (xrunS C hE hH hS (c_reqIndex hlx p1 3) mv_X5_requireIndex wm_321 hl.1 dX5_position_7 rfl rfl ⟨rfl, rfl⟩ ⟨Nat.le_of_ble_eq_true rfl, Nat.le_of_ble_eq_true rfl⟩ (Nat.le_of_ble_eq_true rfl) ⟨Nat.le_of_ble_eq_true rfl, Nat.le_of_ble_eq_true rfl⟩) (fun E ce q9 H1 hx9 hz9 ho9 hce hcv hcl => ?_) (fun hp7 => ?_)
  · exact x_pass hout hlocks (⟨hx9.1, fun z => hx9.2 z.2⟩) hz9 ho9 hce hcv hcl (by decide) (by decide)
  obtain ⟨⟨crow, cr1, cr2⟩, iCk⟩ := id iC
  obtain ⟨k, ek⟩ : ∃ z : Nat, z = p1.toNatClampNeg := ⟨_, rfl⟩
  have hk : k < 3 := by rw [ek]; exact inx_lt (n := 3) hp7 (by decide)
  obtain ⟨ck1, ck2, ⟨orow, or1, or2⟩, de0, U, un1⟩ := iCk k hk
  obtain ⟨D, de⟩ := ch5 de0
  obtain ⟨j, ej, epj⟩ : ∃ z : Nat, z = p0.toNatClampNeg ∧ p0 = nI z := ⟨_, rfl, (inx_nI (n := 5) hp2 (by decide)).2⟩
  have hj : j < 5 := by rw [ej]; exact inx_lt (n := 5) hp2 (by decide)
  rw [epj] at hl
  refine lv_aload_n C.1 C.2.1 dX5_position_10 rfl (lv_at hl 0 rfl) ?_
  refine mget C hE hH fl_99 iX.1 rfl dX5_position_11 ?_
  refine lv_iload_n C.1 C.2.1 dX5_position_14 rfl (lv_at hl 2 rfl) ?_
  refine maldq (k := 3) (y := (A 10 k)) C hE hH cr1.1 rfl rfl (inx_in (n := 3) hp7 (by decide)) (by rw [← ek]; exact cr2 _ hk) dX5_position_15 ?_
  refine lv_iload_n C.1 C.2.1 dX5_position_16 rfl (lv_at hl 1 rfl) ?_
  refine rd_go1 (runV C hE hH hS (c_balanceOf ck1.1 or1.1 (or2) (fun i hi => (de i hi).1.1) (hj)) mv_X1_balanceOf wm_711 ck1.1 rfl rfl hl.1 dX5_position_17 rfl rfl ⟨rfl, rfl⟩ ⟨Nat.le_of_ble_eq_true rfl, Nat.le_of_ble_eq_true rfl⟩ (Nat.le_of_ble_eq_true rfl) ⟨Nat.le_of_ble_eq_true rfl, Nat.le_of_ble_eq_true rfl⟩) ?_
  exact xr_iret C hr hlocks (⟨hp2, hp7⟩) (by rw [← ek, ← ej]; exact zbal_congr (fun i hi => ⟨(de i hi).2 j hj, (de j hj).2 i hi⟩)) (by decide) (by decide) dX5_position_20
