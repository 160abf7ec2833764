/-! CLOTH: a gift, and netting by going to and fro -/
theorem ua_id {ar : Nat → Nat → Int32} {k : Nat} : ua ar k (ar k) = ar := funext fun k' => by
  unfold ua
  by_cases e : k' = k
  · rw [if_pos e, e]
  · rw [if_neg e]
theorem ucnt_n {U : Nat → Int32} : ∀ (n : Nat), ucnt U n ≤ n
  | 0 => Nat.le_refl _
  | n + 1 => by
    have := ucnt_n (U := U) n
    unfold ucnt
    split <;> omega
theorem nI_rng {a : Nat} {l h : Int} (ha : a < 2 ^ 31) (h1 : l ≤ a) (h2 : (a : Int) ≤ h) : rng (nI a) l h := by
  unfold rng
  rw [nI_toInt ha]
  exact ⟨h1, h2⟩
theorem give_eq {x k : Int32} (hx : rng x 1 1000) (hk : rng k 0 90) : (x * (100 - k) - (x * (100 - k) - x * (100 - k) / 100 * 100)) / 100 = zsh x k := by
  have e100 : (100 : Int32).toInt = 100 := by decide
  have e99 : (99 : Int32).toInt = 99 := by decide
  obtain ⟨x1, x2⟩ := hx
  obtain ⟨k1, k2⟩ := hk
  have s : (100 - k).toInt = 100 - k.toInt := by rw [Int32.toInt_sub, e100, Int.bmod_eq_of_le (by omega) (by omega)]
  have m1 : 0 ≤ x.toInt * k.toInt := Int.mul_nonneg (by omega) k1
  have m2 : x.toInt * k.toInt ≤ x.toInt * 90 := Int.mul_le_mul_of_nonneg_left k2 (by omega)
  have m3 : x.toInt * (100 - k.toInt) = 100 * x.toInt - x.toInt * k.toInt := by rw [Int.mul_sub, Int.mul_comm x.toInt 100]
  have m : (x * (100 - k)).toInt = 100 * x.toInt - x.toInt * k.toInt := by rw [Int32.toInt_mul, s, m3, Int.bmod_eq_of_le (by omega) (by omega)]
  rw [zq_eq (by rw [m]; omega) (by rw [m]; omega)]
  have em : (x * k).toInt = x.toInt * k.toInt := by rw [Int32.toInt_mul, Int.bmod_eq_of_le (by omega) (by omega)]
  have ea : (x * k + 99).toInt = x.toInt * k.toInt + 99 := by rw [Int32.toInt_add, em, e99, Int.bmod_eq_of_le (by omega) (by omega)]
  have ed : ((x * k + 99) / 100).toInt = (x.toInt * k.toInt + 99) / 100 := by rw [dv100 (by rw [ea]; omega), ea]
  refine Int32.toInt_inj.mp ?_
  unfold zsh
  rw [dv100 (by rw [m]; omega), m, Int32.toInt_sub, ed, Int.bmod_eq_of_le (by omega) (by omega)]
  omega
theorem deb_le {n : Nat} {ar : Nat → Nat → Int32} {c i j : Nat} {d : Int32} (hN : krN n ar) (hn : n ≤ 98) (hc : c < 3) (hi : i < 5) (hj : j < 5) (h0 : 0 ≤ d.toInt) (h1 : d.toInt ≤ 1000) : ar 21 (25 * c + 5 * i + j) + d ≤ 100000 := by
  have e : (100000 : Int32).toInt = 100000 := by decide
  have hz := hN c hc
  have a0 : 0 ≤ (ar 21 (25 * c + 5 * i + j)).toInt := hz.1 i j hi hj
  have a1 : (ar 21 (25 * c + 5 * i + j)).toInt ≤ 1000 * (n : Int) := Int.le_trans (isum_ge (f := fun j => (zD ar c i j).toInt) hj (fun t ht => hz.1 i t hi ht)) (hz.2.1 i hi)
  rw [Int32.le_iff_toInt_le, e, Int32.toInt_add, Int.bmod_eq_of_le (by omega) (by omega)]
  omega
theorem zps_zbal {D : Nat → Int32} {c p : Nat} (hp : p < 5) : zps D c p 25 = zbal (fun i j => D (25 * c + 5 * i + j)) p 5 := by
  rcases (show p = 0 ∨ p = 1 ∨ p = 2 ∨ p = 3 ∨ p = 4 by omega) with rfl | rfl | rfl | rfl | rfl <;> simp [zps, zbal, Nat.add_assoc] <;> grind
theorem zbal_cg {D E : Nat → Nat → Int32} {p : Nat} (hp : p < 5) : ∀ {n : Nat}, n ≤ 5 → (∀ i j, i < 5 → j < 5 → D i j = E i j) → zbal D p n = zbal E p n
  | 0, _, _ => rfl
  | n + 1, hn, h => by
    unfold zbal
    rw [zbal_cg hp (n := n) (by omega) h, h n p (by omega) hp, h p n hp (by omega)]
theorem zps_zU {lf ar : Nat → Nat → Int32} {c p : Nat} (rD : ∀ i, i < 50 → lf 8 i = ar 21 i) (hc : c < 2) (hp : p < 5) : zps (lf 8) c p 25 = zU ar c p := by
  rw [zps_zbal hp]
  unfold zU
  exact zbal_cg hp (Nat.le_refl 5) (fun i j hi hj => rD _ (by omega))
theorem mbo_1 {x y : Int32} (hx : rgU x) (hy : rgU y) (h0 : x < 0) (h1 : 0 < y) (h : ¬ y + x ≤ 0) : -x = mbo x y := by
  have z0 : (0 : Int32).toInt = 0 := by decide
  have nx := ti_neg hx
  obtain ⟨x1, x2⟩ := hx
  obtain ⟨y1, y2⟩ := hy
  rw [Int32.lt_iff_toInt_lt, z0] at h0 h1
  have e : (y + x).toInt = y.toInt + x.toInt := by rw [Int32.toInt_add, Int.bmod_eq_of_le (by omega) (by omega)]
  rw [Int32.le_iff_toInt_le, e, z0] at h
  unfold mbo
  rw [if_pos (by rw [Int32.lt_iff_toInt_lt, nx]; omega)]
theorem mbo_2 {x y : Int32} (hx : rgU x) (hy : rgU y) (h0 : x < 0) (h1 : 0 < y) (h : y + x ≤ 0) : y = mbo x y := by
  have z0 : (0 : Int32).toInt = 0 := by decide
  have nx := ti_neg hx
  obtain ⟨x1, x2⟩ := hx
  obtain ⟨y1, y2⟩ := hy
  rw [Int32.lt_iff_toInt_lt, z0] at h0 h1
  have e : (y + x).toInt = y.toInt + x.toInt := by rw [Int32.toInt_add, Int.bmod_eq_of_le (by omega) (by omega)]
  rw [Int32.le_iff_toInt_le, e, z0] at h
  unfold mbo
  rw [if_neg (by rw [Int32.lt_iff_toInt_lt, nx]; omega)]
/-- the law's netting at (k, j): what is still to come leads to R; or all is done -/
def NL (c cnt k j : Nat) (D U : Nat → Int32) (R : Nat × (Nat → Nat → Int32)) : Prop := (∀ t, t < 5 → rgU (U t)) ∧ (∀ a b, a < 5 → b < 5 → (k < a ∨ k = a ∧ j ≤ b) → D (25 * c + 5 * a + b) = 0) ∧ ((∃ r, NV c cnt k 0 D U R r ∧ (U k < 0 → ∀ t, t < j → U t ≤ 0)) ∨ (cnt = R.1 ∧ (∀ a b, a < 5 → b < 5 → D (25 * c + 5 * a + b) = R.2 a b) ∧ ∀ t, t < 5 → U t ≤ 0))
section NLS
variable {c cnt k j : Nat} {D U : Nat → Int32} {R : Nat × (Nat → Nat → Int32)}
theorem NL_z (h : NL c cnt k j D U R) (hk : k < 5) (hj : j < 5) (hz : ¬ (U k < 0 ∧ 0 < U j)) : NL c cnt k (j + 1) (upd D (25 * c + 5 * k + j) 0) (upd (upd U k (U k + 0)) j (upd U k (U k + 0) j - 0)) R := by
  obtain ⟨h1, h2, h3⟩ := h
  have eD : upd D (25 * c + 5 * k + j) 0 = D := funext fun t => by
    by_cases e : t = 25 * c + 5 * k + j
    · rw [e, upd_s, h2 k j hk hj (Or.inr ⟨rfl, Nat.le_refl j⟩)]
    · exact upd_n e
  have eU1 : upd U k (U k + 0) = U := funext fun t => by
    by_cases e : t = k
    · rw [e, upd_s, Int32.add_zero]
    · exact upd_n e
  have eU : upd U j (U j - 0) = U := funext fun t => by
    by_cases e : t = j
    · rw [e, upd_s, Int32.sub_zero]
    · exact upd_n e
  rw [eD, eU1, eU]
  refine ⟨h1, fun a b ha hb q => h2 a b ha hb (by omega), ?_⟩
  rcases h3 with ⟨r, n1, n2⟩ | q
  · refine Or.inl ⟨r, n1, fun q t ht => ?_⟩
    by_cases e : t = j
    · rw [e]; exact Int32.not_lt.mp (fun z => hz ⟨q, z⟩)
    · exact n2 q t (by omega)
  · exact Or.inr q
theorem NL_p {b : Int32} (h : NL c cnt k j D U R) (hk : k < 5) (hj : j < 5) (h0 : U k < 0) (h1 : 0 < U j) (hb : b = mbo (U k) (U j)) : NL c (cnt + 1) k (j + 1) (upd D (25 * c + 5 * k + j) b) (upd (upd U k (U k + b)) j (upd U k (U k + b) j - b)) R ∧ 0 < b := by
  obtain ⟨g1, g2, g3⟩ := h
  have z0 : (0 : Int32).toInt = 0 := by decide
  rcases g3 with ⟨r, n1, n2⟩ | ⟨-, -, q⟩
  · have hN : NV c cnt k j D U R r := ⟨n1.1, n2 h0, n1.2.2⟩
    obtain ⟨r', hN', -⟩ := NV_step hN hk hj (Int32.not_le.mpr h0) (Int32.not_le.mpr h1)
    rw [← hb] at hN'
    have gx := g1 k hk
    have gy := g1 j hj
    have nx := ti_neg gx
    obtain ⟨x1, x2⟩ := gx
    obtain ⟨y1, y2⟩ := gy
    have h0' := h0
    have h1' := h1
    rw [Int32.lt_iff_toInt_lt, z0] at h0' h1'
    have hne : j ≠ k := fun e => by rw [e] at h1'; omega
    have hbt : (b.toInt = -(U k).toInt ∨ b.toInt = (U j).toInt) ∧ 0 < b.toInt ∧ b.toInt ≤ -(U k).toInt ∧ b.toInt ≤ (U j).toInt := by
      rw [hb]
      unfold mbo
      by_cases q : -U k < U j
      · rw [if_pos q]
        rw [Int32.lt_iff_toInt_lt] at q
        omega
      · rw [if_neg q]
        rw [Int32.lt_iff_toInt_lt] at q
        omega
    have ex : (U k + b).toInt = (U k).toInt + b.toInt := by rw [Int32.toInt_add, Int.bmod_eq_of_le (by omega) (by omega)]
    have ey : (U j - b).toInt = (U j).toInt - b.toInt := by rw [Int32.toInt_sub, Int.bmod_eq_of_le (by omega) (by omega)]
    refine ⟨⟨hN'.2.2.1, fun a b2 ha hb2 q => ?_, Or.inl ⟨r', ⟨hN'.1, fun t ht => absurd ht (Nat.not_lt_zero t), hN'.2.2⟩, fun q t ht => ?_⟩⟩, ?_⟩
    · rw [upd_n (by omega)]
      exact g2 a b2 ha hb2 (by omega)
    · rw [upd_n hne.symm, upd_s, Int32.lt_iff_toInt_lt, ex, z0] at q
      by_cases e1 : t = j
      · rw [e1, upd_s, upd_n hne, Int32.le_iff_toInt_le, ey, z0]
        omega
      · rw [upd_n e1]
        by_cases e2 : t = k
        · rw [e2, upd_s, Int32.le_iff_toInt_le, ex, z0]
          omega
        · rw [upd_n e2]
          exact n2 h0 t (by omega)
    · rw [Int32.lt_iff_toInt_lt, z0]
      omega
  · exact absurd h1 (Int32.not_lt.mpr (q j hj))
theorem NL_row (h : NL c cnt k 5 D U R) (hk : k < 5) : NL c cnt (k + 1) 0 D U R := by
  obtain ⟨h1, h2, h3⟩ := h
  refine ⟨h1, fun a b ha hb q => h2 a b ha hb (by omega), ?_⟩
  rcases h3 with ⟨r, n1, n2⟩ | q
  · by_cases q : U k < 0
    · have hN : NV c cnt k 5 D U R r := ⟨n1.1, n2 q, n1.2.2⟩
      obtain ⟨e1, e2⟩ := NV_end hN (Or.inr rfl)
      exact Or.inr ⟨e1, e2, n2 q⟩
    · exact Or.inl ⟨r, NV_lo n1 (Int32.not_lt.mp q), fun _ t ht => absurd ht (Nat.not_lt_zero t)⟩
  · exact Or.inr q
theorem NL_fin (h : NL c cnt 5 0 D U R) : cnt = R.1 ∧ ∀ a b, a < 5 → b < 5 → D (25 * c + 5 * a + b) = R.2 a b := by
  rcases h.2.2 with ⟨r, n1, -⟩ | ⟨q1, q2, -⟩
  · exact NV_end n1 (Or.inl rfl)
  · exact ⟨q1, q2⟩
end NLS
theorem NL_0 {ar : Nat → Nat → Int32} {c zc : Nat} {zb : Nat → Nat → Int32} {D U : Nat → Int32} (hD : ∀ a b, a < 5 → b < 5 → D (25 * c + 5 * a + b) = 0) (hU : ∀ t, t < 5 → U t = zU ar c t) (hZ : ∀ t, t < 5 → rgU (zU ar c t)) (hzc : zc = (znet 5 ar c).1) (hzb : zb = (znet 5 ar c).2.1) : NL c 0 0 0 D U (zc, zb) := by
  have hz := znet_of 5 (ar := ar) (k := c) (D1 := fun i j => D (25 * c + 5 * i + j)) (U1 := U) hD hU
  rw [← hzc, ← hzb] at hz
  exact ⟨fun t ht => by rw [hU t ht]; exact hZ t ht, fun a b ha hb _ => hD a b ha hb, Or.inl ⟨5, ⟨fun t ht => absurd ht (Nat.not_lt_zero t), fun t ht => absurd ht (Nat.not_lt_zero t), fun t ht => by rw [hU t ht]; exact hZ t ht, by rw [Nat.zero_add]; exact hz.1, hz.2, ucnt_n 5⟩, fun _ t ht => absurd ht (Nat.not_lt_zero t)⟩⟩
theorem znetf_in {ar : Nat → Nat → Int32} {c i j : Nat} (hi : i < 5) (hj : j < 5) : znetf ar c (25 * c + 5 * i + j) = (znet 5 ar c).2.1 i j := by
  unfold znetf
  rw [if_pos (by omega), show (25 * c + 5 * i + j - 25 * c) / 5 = i by omega, show (25 * c + 5 * i + j - 25 * c) % 5 = j by omega]
theorem znetf_out {ar : Nat → Nat → Int32} {c t : Nat} (h : t < 25 * c ∨ 25 * c + 25 ≤ t) : znetf ar c t = ar 21 t := by
  unfold znetf
  rw [if_neg (by omega)]
theorem znetf_eq {ar lf : Nat → Nat → Int32} {c : Nat} {zb : Nat → Nat → Int32} {D : Nat → Int32} (rD : ∀ i, i < 50 → lf 8 i = ar 21 i) (hzb : zb = (znet 5 ar c).2.1) (h1 : ∀ a b, a < 5 → b < 5 → D (25 * c + 5 * a + b) = zb a b) (h2 : ∀ t, t < 25 * c ∨ 25 * c + 25 ≤ t → D t = lf 8 t) : ∀ i, i < 50 → D i = znetf ar c i := fun i hi => by
  by_cases q : i < 25 * c ∨ 25 * c + 25 ≤ i
  · rw [znetf_out q, h2 i q, rD i hi]
  · have e : i = 25 * c + 5 * ((i - 25 * c) / 5) + (i - 25 * c) % 5 := by omega
    rw [e, h1 _ _ (by omega) (by omega), znetf_in (by omega) (by omega), hzb]
theorem krN_netf {n : Nat} {ar : Nat → Nat → Int32} {c : Nat} (hN : krN n ar) (hn : n ≤ 512) : krN (n + 1) (ua ar 21 (znetf ar c)) := by
  intro k hk
  by_cases e : k = c
  · subst e
    refine NZ_le (NZ_cg (NZ_net 5 (hN k hk) (by omega)) (fun i j hi hj => ?_)) (by omega)
    unfold zD
    rw [ua_s]
    exact znetf_in hi hj
  · refine NZ_le (NZ_cg (hN k hk) (fun i j hi hj => ?_)) (by omega)
    unfold zD
    rw [ua_s]
    exact znetf_out (by omega)
/-! a new row of five beside the law's -/
def LQ (g : gG) (M0 M : Mp) (la : Nat → Nat) (lf : Nat → Nat → Int32) (q : Nat) (f : Nat → Int32) : Prop := LX g M0 M la lf ∧ M q = some (eI g 5 f) ∧ M0 q = none
theorem LQ_ne {g : gG} {M0 M : Mp} {la : Nat → Nat} {lf : Nat → Nat → Int32} {q : Nat} {f : Nat → Int32} (h : LQ g M0 M la lf q f) : ∀ k, k < 10 → la k ≠ q := fun k hk => m_ne (h.1.1.1 k hk) h.2.1 (fun z => by
  have e : ln k = 5 := (Prod.mk.inj (Prod.mk.inj (Sum.inl.inj z)).2).1
  rcases (show k = 0 ∨ k = 1 ∨ k = 2 ∨ k = 3 ∨ k = 4 ∨ k = 5 ∨ k = 6 ∨ k = 7 ∨ k = 8 ∨ k = 9 by omega) with rfl | rfl | rfl | rfl | rfl | rfl | rfl | rfl | rfl | rfl <;> exact absurd e (by decide))
section LQW
variable {p : Program} {l : Launch} {e : Env} {R : Room} {s : State} {m : MethodId} {args : Array Value} {below : List Frame} {meth : Method} {c : Code} {H : Heap} {locs : List Loc} {cells slots : Nat} {Q : State → Prop}
variable {cc : ByteArray} {nL : Nat} {own : String} {pc : Nat} {ls : Array Slot} {rest : List Value} {g : gG} {M0 M : Mp} {la : Nat → Nat} {lf : Nat → Nat → Int32} {q : Nat} {f : Nat → Int32}
theorem qald {E : Nat} {v i : Int32} (C : CallFix p m c cc nL s args WA own) (hE : gE g s) (hH : Hw g M H) (hX : LQ g M0 M la lf q f) (hi : i = nI E) (hlt : E < 5) (hv : f E = v) (hdg : decode cc pc = .ok (.iaload, 1)) (kk : W p l e R s m args below meth c H locs cells slots Q (F0 m (pc + 1) ls (.int v :: rest))) : W p l e R s m args below meth c H locs cells slots Q (F0 m pc ls (.int i :: .ref q :: rest)) := by
  subst hi hv
  refine mald C hE hH hX.2.1 (vp_in_nI hlt (by decide)) hdg ?_
  rw [nI_clamp (by omega)]
  exact kk
theorem qast {E : Nat} {x i : Int32} (C : CallFix p m c cc nL s args WA own) (hE : gE g s) (hH : Hw g M H) (hS : va_S (gA g) s.heap H locs) (hX : LQ g M0 M la lf q f) (hi : i = nI E) (hlt : E < 5) (hdg : decode cc pc = .ok (.iastore, 1)) (kk : ∀ (M1 : Mp) (H1 : Heap) (locs1 : List Loc), LQ g M0 M1 la lf q (upd f E x) → Hw g M1 H1 → va_S (gA g) s.heap H1 locs1 → W p l e R s m args below meth c H1 locs1 cells slots Q (F0 m (pc + 1) ls rest)) : W p l e R s m args below meth c H locs cells slots Q (F0 m pc ls (.int x :: .int i :: .ref q :: rest)) := by
  subst hi
  refine mast C hE hH hS hX.2.1 (vp_in_nI hlt (by decide)) hdg (fun H1 locs1 hH1 hS1 => ?_)
  rw [nI_clamp (by omega)] at hH1
  exact kk _ H1 locs1 ⟨LX_off hX.1 (LQ_ne hX) hX.2.2, mu_s, hX.2.2⟩ hH1 hS1
theorem lastq {K N E : Nat} {h : Nat → Int32} {x i : Int32} (C : CallFix p m c cc nL s args WA own) (hE : gE g s) (hH : Hw g M H) (hS : va_S (gA g) s.heap H locs) (hX : LQ g M0 M la lf q f) (hK : K < 10) (hN : ln K = N) (hf : lf K = h) (hi : i = nI E) (hlt : E < N) (hdg : decode cc pc = .ok (.iastore, 1)) (kk : ∀ (M1 : Mp) (H1 : Heap) (locs1 : List Loc), LQ g M0 M1 la (ua lf K (upd h E x)) q f → Hw g M1 H1 → va_S (gA g) s.heap H1 locs1 → W p l e R s m args below meth c H1 locs1 cells slots Q (F0 m (pc + 1) ls rest)) : W p l e R s m args below meth c H locs cells slots Q (F0 m pc ls (.int x :: .int i :: .ref (la K) :: rest)) := by
  subst hf hi hN
  have hs := ln_lt hK
  refine mast C hE hH hS (hX.1.1.1 K hK) (vp_in_nI hlt hs) hdg (fun H1 locs1 hH1 hS1 => ?_)
  rw [nI_clamp (by omega)] at hH1
  exact kk _ H1 locs1 ⟨LX_w hX.1 hK, (mu_n (LQ_ne hX K hK).symm).trans hX.2.1, hX.2.2⟩ hH1 hS1
end LQW
