/-! WHAT HOLDS OF THE RING: its cells, read off the reference's rows ar (place k of the object: a row) -/
def rng (x : Int32) (lo hi : Int) : Prop := lo ≤ x.toInt ∧ x.toInt ≤ hi
def cel (M : Mp) (tg : Nat → Nat) (A : Nat → Nat → Nat) (k i : Nat) (e : va_E) : Prop := M (A k i) = some e ∧ tg (A k i) = 1000 * k + i
def lstc (g : gG) (M : Mp) (tg : Nat → Nat) (A : Nat → Nat → Nat) (j n : Nat) (f : Nat → Nat) : Prop := Lst g M (A 1 j) (A 2 j) n f ∧ tg (A 1 j) = 1000 + j ∧ (M (A 2 j) ≠ none → tg (A 2 j) = 2000 + j)
def RX (M : Mp) (x : Nat) (tg : Nat → Nat) (A : Nat → Nat → Nat) : Prop := M x = some (eO 6 [.ref (A 1 0), .ref (A 1 1), .ref (A 1 2), .ref (A 7 0), .ref (A 7 1), .ref (A 7 2), .ref (A 8 0), .ref (A 9 0)]) ∧ tg x = 0
def RE (g : gG) (M : Mp) (tg : Nat → Nat) (A : Nat → Nat → Nat) (ne : Nat) (ar : Nat → Nat → Int32) : Prop := ne ≤ 12 ∧ lstc g M tg A 0 ne (A 3) ∧ ∀ i, i < ne → cel M tg A 3 i (eO 3 [.int (nI i), .int (ar 1 (2 * i)), .int (ar 1 (2 * i + 1)), .int (ar 2 i)]) ∧ rng (ar 1 (2 * i)) 0 60 ∧ rng (ar 1 (2 * i + 1)) 0 60 ∧ rng (ar 2 i) 0 20
/-- the history of bath i: its pieces' orders hh i 0 .. -/
def RH (pr : Nat → Bool) (br : Nat → Bool) (np : Nat → Nat) (hh : Nat → Nat → Nat) (no : Nat) (ar : Nat → Nat → Int32) (i : Nat) : Prop := (∀ j, j < np i → hh i j < no ∧ ¬ ar 13 (hh i j) = 0 ∧ ar 15 (hh i j) = zat (fun t => pr (hh i t)) (fun t => ar 11 (hh i t)) j) ∧ (∀ j t, j < np i → t < np i → hh i j = hh i t → j = t) ∧ ar 8 i = if br i = true then 100 else zst (fun t => pr (hh i t)) (fun t => ar 11 (hh i t)) (np i)
def RB (g : gG) (M : Mp) (tg : Nat → Nat) (A : Nat → Nat → Nat) (pr br : Nat → Bool) (np : Nat → Nat) (hh : Nat → Nat → Nat) (ne nb no : Nat) (ar : Nat → Nat → Int32) : Prop := nb ≤ 10 ∧ lstc g M tg A 1 nb (A 4) ∧ ∀ i, i < nb → (∃ e, e < ne ∧ ar 7 i = nI e ∧ cel M tg A 4 i (eO 1 [.int (ar 6 i), .ref (A 3 e), .int (ar 8 i), .int (bI (br i)), .ref (A 1 (3 + i))])) ∧ (∃ y, y < 3 ∧ ar 6 i = nI y) ∧ rng (ar 8 i) 0 100 ∧ lstc g M tg A (3 + i) (np i) (fun j => A 6 (hh i j)) ∧ RH pr br np hh no ar i
def RP (M : Mp) (tg : Nat → Nat) (A : Nat → Nat → Nat) (pr : Nat → Bool) (np : Nat → Nat) (hh : Nat → Nat → Nat) (nb : Nat) (ar : Nat → Nat → Int32) (j e : Nat) : Prop := ∃ b t, b < nb ∧ ar 14 j = nI b ∧ t < np b ∧ hh b t = j ∧ cel M tg A 6 j (eO 5 [.int (nI j), .ref (A 3 e), .int (ar 11 j), .ref (A 4 b), .int (bI (pr j)), .int (ar 15 j), .int (ar 16 j), .int (ar 17 j), .int (ar 18 j)]) ∧ rng (ar 15 j) 0 100 ∧ rng (ar 16 j) (-10) 10 ∧ rng (ar 17 j) (-10) 10 ∧ rng (ar 18 j) (-10) 10
def RO (g : gG) (M : Mp) (tg : Nat → Nat) (A : Nat → Nat → Nat) (pr : Nat → Bool) (np : Nat → Nat) (hh : Nat → Nat → Nat) (ne nb no : Nat) (ar : Nat → Nat → Int32) : Prop := no ≤ 40 ∧ lstc g M tg A 2 no (A 5) ∧ (∀ j, no ≤ j → ar 13 j = 0) ∧ ∀ j, j < no → ∃ e y, e < ne ∧ ar 10 j = nI e ∧ rng (ar 11 j) 1 40 ∧ y < 4 ∧ ar 12 j = nI y ∧ (ar 13 j = 0 ∨ ar 13 j = 1 ∨ ar 13 j = 2) ∧ cel M tg A 5 j (eO 4 [.int (nI j), .ref (A 3 e), .int (ar 11 j), .int (ar 12 j), va_rf (if ar 13 j = 0 then none else some (A 6 j)), .int (bI (decide (ar 13 j = 2)))]) ∧ (¬ ar 13 j = 0 → RP M tg A pr np hh nb ar j e)
def RW (g : gG) (M : Mp) (tg : Nat → Nat) (A : Nat → Nat → Nat) (ar : Nat → Nat → Int32) : Prop := (∃ f, cel M tg A 7 0 (eI g 3 f) ∧ ∀ i, i < 3 → f i = ar 3 i ∧ rng (ar 3 i) (-10) 10) ∧ (∃ f, cel M tg A 7 1 (eI g 4 f) ∧ ∀ i, i < 4 → f i = ar 4 (2 * i) ∧ rng (ar 4 (2 * i)) (-10) 10) ∧ ∃ f, cel M tg A 7 2 (eI g 4 f) ∧ ∀ i, i < 4 → f i = ar 4 (2 * i + 1) ∧ rng (ar 4 (2 * i + 1)) (-10) 10
def RBl (g : gG) (M : Mp) (tg : Nat → Nat) (A : Nat → Nat → Nat) (ar : Nat → Nat → Int32) : Prop := (∃ orow, cel M tg A 8 0 (eQ g 4 3 orow) ∧ ∀ i, i < 3 → orow i = some (A 7 (3 + i))) ∧ ∀ i, i < 3 → ∃ f, cel M tg A 7 (3 + i) (eI g 3 f) ∧ ∀ j, j < 3 → f j = ar 19 (3 * i + j)
def RC1 (g : gG) (M : Mp) (tg : Nat → Nat) (A : Nat → Nat → Nat) (ar : Nat → Nat → Int32) (k : Nat) : Prop := cel M tg A 10 k (eO 2 [.int (ar 20 k), .ref (A 8 (1 + k)), .ref (A 7 (6 + k))]) ∧ rng (ar 20 k) 0 90 ∧ (∃ orow, cel M tg A 8 (1 + k) (eQ g 4 5 orow) ∧ ∀ i, i < 5 → orow i = some (A 7 (10 + 5 * k + i))) ∧ (∀ i, i < 5 → ∃ f, cel M tg A 7 (10 + 5 * k + i) (eI g 5 f) ∧ ∀ j, j < 5 → f j = ar 21 (25 * k + 5 * i + j)) ∧ ∃ U, cel M tg A 7 (6 + k) (eI g 5 U)
def RC (g : gG) (M : Mp) (tg : Nat → Nat) (A : Nat → Nat → Nat) (ar : Nat → Nat → Int32) : Prop := (∃ crow, cel M tg A 9 0 (eQ g 3 3 crow) ∧ ∀ k, k < 3 → crow k = some (A 10 k)) ∧ ∀ k, k < 3 → RC1 g M tg A ar k
def RI (g : gG) (M : Mp) (x : Nat) (tg : Nat → Nat) (A : Nat → Nat → Nat) (pr br : Nat → Bool) (np : Nat → Nat) (hh : Nat → Nat → Nat) (ne nb no : Nat) (sc : Nat → Int32) (ar : Nat → Nat → Int32) : Prop := (sc 0 = nI ne ∧ sc 5 = nI nb ∧ sc 9 = nI no) ∧ RX M x tg A ∧ RE g M tg A ne ar ∧ RB g M tg A pr br np hh ne nb no ar ∧ RO g M tg A pr np hh ne nb no ar ∧ RW g M tg A ar ∧ RBl g M tg A ar ∧ RC g M tg A ar
/-! FRAMES: only cells with a tag in T change -/
def FR (g : gG) (M M' : Mp) (tg tg' : Nat → Nat) (A A' : Nat → Nat → Nat) (T : Nat → Prop) : Prop := (∀ b, M b ≠ none → ¬ T (tg b) → M' b = M b ∧ tg' b = tg b) ∧ (∀ k i, ¬ T (1000 * k + i) → A' k i = A k i) ∧ M' (g.2.2.2 0) = none
section FRA
variable {g : gG} {M M' : Mp} {tg tg' : Nat → Nat} {A A' : Nat → Nat → Nat} {T : Nat → Prop} {pr pr' br br' : Nat → Bool} {np np' : Nat → Nat} {hh hh' : Nat → Nat → Nat} {ne ne' nb no : Nat} {ar ar' : Nat → Nat → Int32}
theorem cel_keep {k i : Nat} {e : va_E} (h : cel M tg A k i e) (hF : FR g M M' tg tg' A A' T) (ht : ¬ T (1000 * k + i)) : cel M' tg' A' k i e := by
  obtain ⟨h1, h2⟩ := hF.1 (A k i) (by rw [h.1]; exact fun z => by cases z) (by rw [h.2]; exact ht)
  exact ⟨by rw [hF.2.1 k i ht, h1]; exact h.1, by rw [hF.2.1 k i ht, h2]; exact h.2⟩
theorem lstc_keep {j n : Nat} {f f' : Nat → Nat} (h : lstc g M tg A j n f) (hF : FR g M M' tg tg' A A' T) (h1 : ¬ T (1000 + j)) (h2 : ¬ T (2000 + j)) (hf : ∀ t, t < n → f' t = f t) : lstc g M' tg' A' j n f' := by
  obtain ⟨⟨md, ha, hd⟩, t1, t2⟩ := h
  have e1 : A' 1 j = A 1 j := hF.2.1 1 j (by rw [show 1000 * 1 + j = 1000 + j by omega]; exact h1)
  have e2 : A' 2 j = A 2 j := hF.2.1 2 j (by rw [show 1000 * 2 + j = 2000 + j by omega]; exact h2)
  obtain ⟨k1, k2⟩ := hF.1 (A 1 j) (by rw [ha]; exact fun z => by cases z) (by rw [t1]; exact h1)
  unfold lstc Lst
  rw [e1, e2, k1, k2]
  rcases hd with ⟨rfl, d1, d2⟩ | ⟨m, row, d1, d2, d3, d4, d5⟩
  · exact ⟨⟨md, ha, Or.inl ⟨rfl, d1, by rw [d1]; exact hF.2.2⟩⟩, t1, fun z => absurd (by rw [d1]; exact hF.2.2) z⟩
  · have hn : M (A 2 j) ≠ none := by rw [d1]; exact fun z => by cases z
    obtain ⟨k3, k4⟩ := hF.1 (A 2 j) hn (by rw [t2 hn]; exact h2)
    rw [k3, k4]
    exact ⟨⟨md, ha, Or.inr ⟨m, row, d1, d2, d3, d4, fun t ht => by rw [hf t ht]; exact d5 t ht⟩⟩, t1, t2⟩
theorem RX_keep {x : Nat} (h : RX M x tg A) (hF : FR g M M' tg tg' A A' T) (h0 : ¬ T 0) (hT : ∀ t, t = 1000 ∨ t = 1001 ∨ t = 1002 ∨ t = 7000 ∨ t = 7001 ∨ t = 7002 ∨ t = 8000 ∨ t = 9000 → A' (t / 1000) (t % 1000) = A (t / 1000) (t % 1000)) : RX M' x tg' A' := by
  obtain ⟨h1, h2⟩ := h
  obtain ⟨k1, k2⟩ := hF.1 x (by rw [h1]; exact fun z => by cases z) (by rw [h2]; exact h0)
  have e0 : A' 1 0 = A 1 0 := hT 1000 (by omega)
  have e1 : A' 1 1 = A 1 1 := hT 1001 (by omega)
  have e2 : A' 1 2 = A 1 2 := hT 1002 (by omega)
  have e3 : A' 7 0 = A 7 0 := hT 7000 (by omega)
  have e4 : A' 7 1 = A 7 1 := hT 7001 (by omega)
  have e5 : A' 7 2 = A 7 2 := hT 7002 (by omega)
  have e6 : A' 8 0 = A 8 0 := hT 8000 (by omega)
  have e7 : A' 9 0 = A 9 0 := hT 9000 (by omega)
  unfold RX
  rw [k1, k2, e0, e1, e2, e3, e4, e5, e6, e7]
  exact ⟨h1, h2⟩
theorem RE_keep (h : RE g M tg A ne ar) (hF : FR g M M' tg tg' A A' T) (hT : ∀ t, t = 1000 ∨ t = 2000 ∨ (3000 ≤ t ∧ t < 3000 + ne) → ¬ T t) (h1 : ∀ i, i < 2 * ne → ar' 1 i = ar 1 i) (h2 : ∀ i, i < ne → ar' 2 i = ar 2 i) : RE g M' tg' A' ne ar' := by
  obtain ⟨hn, hl, hc⟩ := h
  refine ⟨hn, lstc_keep hl hF (hT _ (by omega)) (hT _ (by omega)) (fun t ht => hF.2.1 3 t (hT _ (by omega))), fun i hi => ?_⟩
  obtain ⟨c1, c2, c3, c4⟩ := hc i hi
  rw [h1 _ (by omega), h1 _ (by omega), h2 _ hi]
  exact ⟨cel_keep c1 hF (hT _ (by omega)), c2, c3, c4⟩
theorem zst_congr {p q : Nat → Bool} {u w : Nat → Int32} : ∀ {n : Nat}, (∀ t, t < n → p t = q t ∧ u t = w t) → zst p u n = zst q w n
  | 0, _ => rfl
  | n + 1, h => by
    unfold zst
    rw [zst_congr (fun t ht => h t (by omega)), (h n (by omega)).1, (h n (by omega)).2]
theorem zat_congr {p q : Nat → Bool} {u w : Nat → Int32} {n : Nat} (h : ∀ t, t ≤ n → p t = q t ∧ u t = w t) : zat p u n = zat q w n := by
  unfold zat
  rw [zst_congr (fun t ht => h t (by omega)), (h n (Nat.le_refl n)).1]
/-- a bath's history stays, where its rows do -/
theorem RH_keep {i no' : Nat} (h : RH pr br np hh no ar i) (hn : no ≤ no') (e1 : np' i = np i) (e2 : br' i = br i) (e3 : ∀ j, j < np i → hh' i j = hh i j) (e4 : ∀ j, j < no → ¬ ar 13 j = 0 → pr' j = pr j ∧ ar' 11 j = ar 11 j ∧ ar' 15 j = ar 15 j ∧ ¬ ar' 13 j = 0) (e5 : ar' 8 i = ar 8 i) : RH pr' br' np' hh' no' ar' i := by
  obtain ⟨h1, h2, h3⟩ := h
  have cg : ∀ t, t < np i → (fun t => pr (hh i t)) t = (fun t => pr' (hh' i t)) t ∧ (fun t => ar 11 (hh i t)) t = (fun t => ar' 11 (hh' i t)) t := fun t ht => by
    obtain ⟨a, b, -⟩ := h1 t ht
    obtain ⟨c1, c2, -⟩ := e4 _ a b
    show pr (hh i t) = pr' (hh' i t) ∧ ar 11 (hh i t) = ar' 11 (hh' i t)
    rw [e3 t ht, c1, c2]
    exact ⟨rfl, rfl⟩
  unfold RH
  rw [e1, e2, e5]
  refine ⟨fun j hj => ?_, fun j t hj ht => by rw [e3 j hj, e3 t ht]; exact h2 j t hj ht, ?_⟩
  · obtain ⟨a, b, c⟩ := h1 j hj
    obtain ⟨c1, c2, c3, c4⟩ := e4 _ a b
    rw [e3 j hj]
    refine ⟨by omega, c4, ?_⟩
    rw [c3, c]
    exact zat_congr (fun t ht => cg t (by omega))
  · rw [h3, zst_congr cg]
theorem RB_keep {no' : Nat} (h : RB g M tg A pr br np hh ne nb no ar) (hF : FR g M M' tg tg' A A' T) (hne : ne ≤ ne') (hn : no ≤ no') (hT : ∀ t, t = 1001 ∨ t = 2001 ∨ (3000 ≤ t ∧ t < 3000 + ne) ∨ (4000 ≤ t ∧ t < 4000 + nb) ∨ (1003 ≤ t ∧ t < 1003 + nb) ∨ (2003 ≤ t ∧ t < 2003 + nb) → ¬ T t) (h6 : ∀ j, j < no → ¬ ar 13 j = 0 → A' 6 j = A 6 j) (e1 : ∀ i, i < nb → np' i = np i ∧ br' i = br i ∧ ∀ j, j < np i → hh' i j = hh i j) (e4 : ∀ j, j < no → ¬ ar 13 j = 0 → pr' j = pr j ∧ ar' 11 j = ar 11 j ∧ ar' 15 j = ar 15 j ∧ ¬ ar' 13 j = 0) (e5 : ∀ i, i < nb → ar' 6 i = ar 6 i ∧ ar' 7 i = ar 7 i ∧ ar' 8 i = ar 8 i) : RB g M' tg' A' pr' br' np' hh' ne' nb no' ar' := by
  obtain ⟨hb, hl, hc⟩ := h
  refine ⟨hb, lstc_keep hl hF (hT _ (by omega)) (hT _ (by omega)) (fun t ht => hF.2.1 4 t (hT _ (by omega))), fun i hi => ?_⟩
  obtain ⟨⟨e, he, h7, c1⟩, c2, c3, c4, c5⟩ := hc i hi
  obtain ⟨n1, n2, n3⟩ := e1 i hi
  obtain ⟨a6, a7, a8⟩ := e5 i hi
  have hp : ∀ t, t < np i → (fun j => A' 6 (hh' i j)) t = (fun j => A 6 (hh i j)) t := fun t ht => by
    obtain ⟨a, b, -⟩ := c5.1 t ht
    show A' 6 (hh' i t) = A 6 (hh i t)
    rw [n3 t ht, h6 _ a b]
  rw [a6, a7, a8, n1, n2]
  refine ⟨⟨e, by omega, h7, ?_⟩, c2, c3, lstc_keep c4 hF (hT _ (by omega)) (hT _ (by omega)) hp, RH_keep c5 hn n1 n2 n3 e4 a8⟩
  have := cel_keep c1 hF (hT _ (by omega))
  rw [hF.2.1 3 e (hT _ (by omega)), hF.2.1 1 (3 + i) (hT _ (by omega))]
  exact this
theorem RP_keep {j e nb' : Nat} (h : RP M tg A pr np hh nb ar j e) (hF : FR g M M' tg tg' A A' T) (hnb : nb ≤ nb') (h3 : A' 3 e = A 3 e) (h4 : ∀ b, b < nb → A' 4 b = A 4 b) (hT : ¬ T (6000 + j)) (hp : pr' j = pr j) (e1 : ∀ i, i < nb → np i ≤ np' i ∧ ∀ t, t < np i → hh' i t = hh i t) (e2 : ar' 14 j = ar 14 j ∧ ar' 11 j = ar 11 j ∧ ar' 15 j = ar 15 j ∧ ar' 16 j = ar 16 j ∧ ar' 17 j = ar 17 j ∧ ar' 18 j = ar 18 j) : RP M' tg' A' pr' np' hh' nb' ar' j e := by
  obtain ⟨b, t, k1, k2, k3, k4, k5, k6⟩ := h
  obtain ⟨a1, a2, a3, a4, a5, a6⟩ := e2
  obtain ⟨n1, n2⟩ := e1 b k1
  unfold RP
  rw [a1, a2, a3, a4, a5, a6, hp, h3]
  refine ⟨b, t, by omega, k2, by omega, by rw [n2 t k3]; exact k4, ?_, k6⟩
  rw [h4 b k1]
  exact cel_keep k5 hF hT
theorem RO_keep {ne' nb' : Nat} (h : RO g M tg A pr np hh ne nb no ar) (hF : FR g M M' tg tg' A A' T) (hne : ne ≤ ne') (hnb : nb ≤ nb') (hT : ∀ t, t = 1002 ∨ t = 2002 ∨ (3000 ≤ t ∧ t < 3000 + ne) ∨ (5000 ≤ t ∧ t < 5000 + no) ∨ (6000 ≤ t ∧ t < 6000 + no) → ¬ T t) (h4 : ∀ b, b < nb → A' 4 b = A 4 b) (hp : ∀ j, j < no → pr' j = pr j) (e1 : ∀ i, i < nb → np i ≤ np' i ∧ ∀ t, t < np i → hh' i t = hh i t) (e2 : ∀ k, (10 ≤ k ∧ k ≤ 18) → ∀ j, j < no → ar' k j = ar k j) (e3 : ∀ j, no ≤ j → ar' 13 j = ar 13 j) : RO g M' tg' A' pr' np' hh' ne' nb' no ar' := by
  obtain ⟨hn, hl, h0, hc⟩ := h
  refine ⟨hn, lstc_keep hl hF (hT _ (by omega)) (hT _ (by omega)) (fun t ht => hF.2.1 5 t (hT _ (by omega))), fun j hj => (e3 j hj).trans (h0 j hj), fun j hj => ?_⟩
  obtain ⟨e, y, k1, k2, k3, k4, k5, k6, k7, k8⟩ := hc j hj
  rw [e2 10 (by omega) j hj, e2 11 (by omega) j hj, e2 12 (by omega) j hj, e2 13 (by omega) j hj]
  refine ⟨e, y, by omega, k2, k3, k4, k5, k6, ?_, fun z => RP_keep (k8 z) hF hnb (hF.2.1 3 e (hT _ (by omega))) h4 (hT _ (by omega)) (hp j hj) e1 ⟨e2 14 (by omega) j hj, e2 11 (by omega) j hj, e2 15 (by omega) j hj, e2 16 (by omega) j hj, e2 17 (by omega) j hj, e2 18 (by omega) j hj⟩⟩
  rw [hF.2.1 3 e (hT _ (by omega)), hF.2.1 6 j (hT _ (by omega))]
  exact cel_keep k7 hF (hT _ (by omega))
theorem RW_keep (h : RW g M tg A ar) (hF : FR g M M' tg tg' A A' T) (hT : ∀ t, 7000 ≤ t ∧ t < 7003 → ¬ T t) (e3 : ∀ i, i < 3 → ar' 3 i = ar 3 i) (e4 : ∀ i, i < 8 → ar' 4 i = ar 4 i) : RW g M' tg' A' ar' := by
  obtain ⟨⟨f1, a1, b1⟩, ⟨f2, a2, b2⟩, f3, a3, b3⟩ := h
  exact ⟨⟨f1, cel_keep a1 hF (hT _ (by omega)), fun i hi => by rw [e3 i hi]; exact b1 i hi⟩, ⟨f2, cel_keep a2 hF (hT _ (by omega)), fun i hi => by rw [e4 _ (by omega)]; exact b2 i hi⟩, f3, cel_keep a3 hF (hT _ (by omega)), fun i hi => by rw [e4 _ (by omega)]; exact b3 i hi⟩
theorem RBl_keep (h : RBl g M tg A ar) (hF : FR g M M' tg tg' A A' T) (hT : ∀ t, t = 8000 ∨ (7003 ≤ t ∧ t < 7006) → ¬ T t) (e : ∀ i, i < 9 → ar' 19 i = ar 19 i) : RBl g M' tg' A' ar' := by
  obtain ⟨⟨f1, a1, b1⟩, h2⟩ := h
  refine ⟨⟨f1, cel_keep a1 hF (hT _ (by omega)), fun i hi => by rw [hF.2.1 7 (3 + i) (hT _ (by omega))]; exact b1 i hi⟩, fun i hi => ?_⟩
  obtain ⟨f, c1, c2⟩ := h2 i hi
  exact ⟨f, cel_keep c1 hF (hT _ (by omega)), fun j hj => by rw [e _ (by omega)]; exact c2 j hj⟩
theorem RC1_keep {k : Nat} (h : RC1 g M tg A ar k) (hF : FR g M M' tg tg' A A' T) (hT : ∀ t, t = 10000 + k ∨ t = 8001 + k ∨ t = 7006 + k ∨ (7010 + 5 * k ≤ t ∧ t < 7015 + 5 * k) → ¬ T t) (e0 : ar' 20 k = ar 20 k) (e : ∀ i, i < 25 → ar' 21 (25 * k + i) = ar 21 (25 * k + i)) : RC1 g M' tg' A' ar' k := by
  obtain ⟨h1, h2, ⟨f1, a1, b1⟩, h4, U, h5⟩ := h
  unfold RC1
  rw [e0]
  refine ⟨?_, h2, ⟨f1, cel_keep a1 hF (hT _ (by omega)), fun i hi => by rw [hF.2.1 7 (10 + 5 * k + i) (hT _ (by omega))]; exact b1 i hi⟩, fun i hi => ?_, U, cel_keep h5 hF (hT _ (by omega))⟩
  · rw [hF.2.1 8 (1 + k) (hT _ (by omega)), hF.2.1 7 (6 + k) (hT _ (by omega))]
    exact cel_keep h1 hF (hT _ (by omega))
  · obtain ⟨f, c1, c2⟩ := h4 i hi
    exact ⟨f, cel_keep c1 hF (hT _ (by omega)), fun j hj => by rw [show 25 * k + 5 * i + j = 25 * k + (5 * i + j) by omega, e _ (by omega), show 25 * k + (5 * i + j) = 25 * k + 5 * i + j by omega]; exact c2 j hj⟩
theorem RC_keep (h : RC g M tg A ar) (hF : FR g M M' tg tg' A A' T) (hT : ∀ t, t = 9000 ∨ (10000 ≤ t ∧ t < 10003) ∨ (8001 ≤ t ∧ t < 8004) ∨ (7006 ≤ t ∧ t < 7009) ∨ (7010 ≤ t ∧ t < 7025) → ¬ T t) (e0 : ∀ k, k < 3 → ar' 20 k = ar 20 k) (e : ∀ i, i < 75 → ar' 21 i = ar 21 i) : RC g M' tg' A' ar' := by
  obtain ⟨⟨f1, a1, b1⟩, h2⟩ := h
  exact ⟨⟨f1, cel_keep a1 hF (hT _ (by omega)), fun k hk => by rw [hF.2.1 10 k (hT _ (by omega))]; exact b1 k hk⟩, fun k hk => RC1_keep (h2 k hk) hF (fun t ht => hT t (by omega)) (e0 k hk) (fun i hi => e _ (by omega))⟩
end FRA

theorem RI_keep {g : gG} {M M' : Mp} {x : Nat} {tg tg' : Nat → Nat} {A A' : Nat → Nat → Nat} {pr br : Nat → Bool} {np : Nat → Nat} {hh : Nat → Nat → Nat} {ne nb no : Nat} {sc : Nat → Int32} {ar : Nat → Nat → Int32} {T : Nat → Prop} (h : RI g M x tg A pr br np hh ne nb no sc ar) (hF : FR g M M' tg tg' A A' T) (hT : ∀ t, t < 30000 → ¬ T t) : RI g M' x tg' A' pr br np hh ne nb no sc ar := by
  obtain ⟨h0, h1, h2, h3, h4, h5, h6, h7⟩ := h
  have n1 := h2.1
  have n2 := h3.1
  have n3 := h4.1
  refine ⟨h0, RX_keep h1 hF (hT _ (by omega)) (fun t ht => hF.2.1 _ _ (hT _ (by omega))), RE_keep h2 hF (fun t ht => hT _ (by omega)) (fun _ _ => rfl) (fun _ _ => rfl), ?_, ?_, RW_keep h5 hF (fun t ht => hT _ (by omega)) (fun _ _ => rfl) (fun _ _ => rfl), RBl_keep h6 hF (fun t ht => hT _ (by omega)) (fun _ _ => rfl), RC_keep h7 hF (fun t ht => hT _ (by omega)) (fun _ _ => rfl) (fun _ _ => rfl)⟩
  · exact RB_keep h3 hF (Nat.le_refl _) (Nat.le_refl _) (fun t ht => hT _ (by omega)) (fun j hj _ => hF.2.1 6 j (hT _ (by omega))) (fun _ _ => ⟨rfl, rfl, fun _ _ => rfl⟩) (fun j _ q => ⟨rfl, rfl, rfl, q⟩) (fun _ _ => ⟨rfl, rfl, rfl⟩)
  · exact RO_keep h4 hF (Nat.le_refl _) (Nat.le_refl _) (fun t ht => hT _ (by omega)) (fun b hb => hF.2.1 4 b (hT _ (by omega))) (fun _ _ => rfl) (fun _ _ => ⟨Nat.le_refl _, fun _ _ => rfl⟩) (fun _ _ _ _ => rfl) (fun _ _ => rfl)
