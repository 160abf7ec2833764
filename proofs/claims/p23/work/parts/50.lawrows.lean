/-! THE LAW'S CELLS: ten rows of ints -/
theorem nI_M (a b : Nat) : nI a * nI b = nI (a * b) := (Int32.ofNat_mul a b).symm
theorem nI_S {a b : Nat} (h : b ≤ a) : nI a - nI b = nI (a - b) := by
  have e : nI a = nI (a - b) + nI b := by rw [nI_add, Nat.sub_add_cancel h]
  rw [e, Int32.add_sub_cancel]
theorem nI_D {a b : Nat} (ha : a < 2 ^ 31) (hb : b < 2 ^ 31) (h0 : 0 < b) : nI a / nI b = nI (a / b) := by
  have h1 : a / b < 2 ^ 31 := Nat.lt_of_le_of_lt (Nat.div_le_self a b) ha
  have h2 : ((a : Int)).tdiv (b : Int) = ((a / b : Nat) : Int) := by rw [Int.tdiv_eq_ediv_of_nonneg (by omega)]; rfl
  refine Int32.toInt_inj.mp ?_
  rw [Int32.toInt_div, nI_toInt ha, nI_toInt hb, nI_toInt h1, h2]
  obtain ⟨q, hq⟩ : ∃ q, q = a / b := ⟨_, rfl⟩
  rw [← hq] at h1 ⊢
  exact Int.bmod_eq_of_le (by omega) (by omega)
theorem nI_R {a b : Nat} (ha : a < 2 ^ 31) (hb : b < 2 ^ 31) (h0 : 0 < b) : nI a - nI a / nI b * nI b = nI (a % b) := by
  have h1 : a / b * b + a % b = a := by rw [Nat.mul_comm]; exact Nat.div_add_mod a b
  rw [nI_D ha hb h0, nI_M, nI_S (by omega)]
  exact congrArg nI (by omega)
theorem n_ge {a : Nat} {z : Int32} (ha : a < 2 ^ 31) (hz : z ≤ 0) : z ≤ nI a := by
  have z0 : (0 : Int32).toInt = 0 := by decide
  rw [Int32.le_iff_toInt_le, z0] at hz
  rw [Int32.le_iff_toInt_le, nI_toInt ha]
  omega
theorem n_gt {a : Nat} {z : Int32} (ha : a < 2 ^ 31) (hz : z < 0) : z < nI a := by
  have z0 : (0 : Int32).toInt = 0 := by decide
  rw [Int32.lt_iff_toInt_lt, z0] at hz
  rw [Int32.lt_iff_toInt_lt, nI_toInt ha]
  omega
theorem n_ne {a : Nat} {z : Int32} (ha : a < 2 ^ 31) (hz : z < 0) : ¬ nI a = z := fun q => by
  have h := n_gt ha hz
  rw [q] at h
  exact absurd h Int32.lt_irrefl
theorem n_nlt {x y : Int32} (h : x < y) : ¬ y ≤ x := Int32.not_le.mpr h
theorem n_nle {x y : Int32} (h : x ≤ y) : ¬ y < x := Int32.not_lt.mpr h
def ln (k : Nat) : Nat := [3, 12, 11, 15, 50, 50, 60, 9, 50, 3].getD k 0
theorem ln_lt {k : Nat} (h : k < 10) : ln k < 2 ^ 31 := by
  rcases (show k = 0 ∨ k = 1 ∨ k = 2 ∨ k = 3 ∨ k = 4 ∨ k = 5 ∨ k = 6 ∨ k = 7 ∨ k = 8 ∨ k = 9 by omega) with rfl | rfl | rfl | rfl | rfl | rfl | rfl | rfl | rfl | rfl <;> decide
def LI (g : gG) (M : Mp) (la : Nat → Nat) (lf : Nat → Nat → Int32) : Prop := (∀ k, k < 10 → M (la k) = some (eI g (ln k) (lf k))) ∧ ∀ i j, i < 10 → j < 10 → la i = la j → i = j
/-- the law's rows hold lf, and no other old cell changed since M0 -/
def LX (g : gG) (M0 M : Mp) (la : Nat → Nat) (lf : Nat → Nat → Int32) : Prop := LI g M la lf ∧ ∀ b, M0 b ≠ none → (∀ k, k < 10 → b ≠ la k) → M b = M0 b
theorem LX_rf {g : gG} {M : Mp} {la : Nat → Nat} {lf : Nat → Nat → Int32} (h : LI g M la lf) : LX g M M la lf := ⟨h, fun _ _ _ => rfl⟩
theorem LX_w {g : gG} {M0 M : Mp} {la : Nat → Nat} {lf : Nat → Nat → Int32} {K : Nat} {f : Nat → Int32} (h : LX g M0 M la lf) (hK : K < 10) : LX g M0 (mu M (la K) (eI g (ln K) f)) la (ua lf K f) := by
  refine ⟨⟨fun k hk => ?_, h.1.2⟩, fun b hb hn => (mu_n (hn K hK)).trans (h.2 b hb hn)⟩
  by_cases e : k = K
  · rw [e, mu_s, ua_s]
  · rw [mu_n (fun z => e (h.1.2 k K hk hK z)), ua_n e]
    exact h.1.1 k hk
theorem LX_new {g : gG} {M0 M : Mp} {la : Nat → Nat} {lf : Nat → Nat → Int32} {q : Nat} {e : va_E} (h : LX g M0 M la lf) (hq : M q = none) (hl : ∀ b, M0 b ≠ none → M b ≠ none) : LX g M0 (mu M q e) la lf :=
  ⟨⟨fun k hk => (mu_n (m_new hq (h.1.1 k hk))).trans (h.1.1 k hk), h.1.2⟩, fun b hb hn => (mu_n (fun z => hl b hb (by rw [z]; exact hq))).trans (h.2 b hb hn)⟩
theorem LX_off {g : gG} {M0 M : Mp} {la : Nat → Nat} {lf : Nat → Nat → Int32} {q : Nat} {e : va_E} (h : LX g M0 M la lf) (hq : ∀ k, k < 10 → la k ≠ q) (h0 : M0 q = none) : LX g M0 (mu M q e) la lf :=
  ⟨⟨fun k hk => (mu_n (hq k hk)).trans (h.1.1 k hk), h.1.2⟩, fun b hb hn => (mu_n (fun z => hb (by rw [z]; exact h0))).trans (h.2 b hb hn)⟩
section LRW
variable {p : Program} {l : Launch} {e : Env} {R : Room} {s : State} {m : MethodId} {args : Array Value} {below : List Frame} {meth : Method} {c : Code} {H : Heap} {locs : List Loc} {cells slots : Nat} {Q : State → Prop}
variable {cc : ByteArray} {nL : Nat} {own : String} {pc : Nat} {ls : Array Slot} {rest : List Value} {g : gG} {M0 M : Mp} {la : Nat → Nat} {lf : Nat → Nat → Int32}
theorem lald {K N E : Nat} {f : Nat → Int32} {v i : Int32} (C : CallFix p m c cc nL s args WA own) (hE : gE g s) (hH : Hw g M H) (hX : LX g M0 M la lf) (hK : K < 10) (hN : ln K = N) (hf : lf K = f) (hi : i = nI E) (hlt : E < N) (hv : f E = v) (hdg : decode cc pc = .ok (.iaload, 1)) (kk : W p l e R s m args below meth c H locs cells slots Q (F0 m (pc + 1) ls (.int v :: rest))) : W p l e R s m args below meth c H locs cells slots Q (F0 m pc ls (.int i :: .ref (la K) :: rest)) := by
  subst hf hi hv hN
  have hs := ln_lt hK
  refine mald C hE hH (hX.1.1 K hK) (vp_in_nI hlt hs) hdg ?_
  rw [nI_clamp (by omega)]
  exact kk
theorem last {K N E : Nat} {f : Nat → Int32} {x i : Int32} (C : CallFix p m c cc nL s args WA own) (hE : gE g s) (hH : Hw g M H) (hS : va_S (gA g) s.heap H locs) (hX : LX g M0 M la lf) (hK : K < 10) (hN : ln K = N) (hf : lf K = f) (hi : i = nI E) (hlt : E < N) (hdg : decode cc pc = .ok (.iastore, 1)) (kk : ∀ (M1 : Mp) (H1 : Heap) (locs1 : List Loc), LX g M0 M1 la (ua lf K (upd f E x)) → Hw g M1 H1 → va_S (gA g) s.heap H1 locs1 → W p l e R s m args below meth c H1 locs1 cells slots Q (F0 m (pc + 1) ls rest)) : W p l e R s m args below meth c H locs cells slots Q (F0 m pc ls (.int x :: .int i :: .ref (la K) :: rest)) := by
  subst hf hi hN
  have hs := ln_lt hK
  refine mast C hE hH hS (hX.1.1 K hK) (vp_in_nI hlt hs) hdg (fun H1 locs1 hH1 hS1 => ?_)
  rw [nI_clamp (by omega)] at hH1
  exact kk _ H1 locs1 (LX_w hX hK) hH1 hS1
end LRW
/-- what 'some' answers -/
def zsm (v n : Int32) : Int32 := (v.toUInt32 >>> ((2 : Int32).toUInt32 &&& Int32.toUInt32 31)).toInt32 - (v.toUInt32 >>> ((2 : Int32).toUInt32 &&& Int32.toUInt32 31)).toInt32 / n * n
theorem zsm_ex {v n : Int32} {N : Nat} (hn : n = nI N) (h0 : 0 < N) (h1 : N < 2 ^ 31) : ∃ k, k < N ∧ zsm v n = nI k := by
  subst hn
  have hm : (v.toUInt32 >>> ((2 : Int32).toUInt32 &&& Int32.toUInt32 31)).toNat < 2 ^ 31 := by
    have e : ((2 : Int32).toUInt32 &&& Int32.toUInt32 31).toNat = 2 := by decide
    have h := v.toUInt32.toNat_lt
    rw [UInt32.toNat_shiftRight, e, Nat.shiftRight_eq_div_pow, show (2 : Nat) ^ (2 % 32) = 4 from rfl]
    omega
  obtain ⟨q, hq⟩ : ∃ q, q = v.toUInt32 >>> ((2 : Int32).toUInt32 &&& Int32.toUInt32 31) := ⟨_, rfl⟩
  unfold zsm
  rw [← hq] at hm ⊢
  have e : q.toInt32 = nI q.toNat := by
    refine Int32.toBitVec_inj.mp (BitVec.eq_of_toNat_eq ?_)
    show q.toBitVec.toNat = (BitVec.ofNat 32 q.toNat).toNat
    rw [BitVec.toNat_ofNat]
    exact (Nat.mod_eq_of_lt q.toNat_lt).symm
  rw [e, nI_R hm h1 h0]
  exact ⟨q.toNat % N, Nat.mod_lt _ h0, rfl⟩
theorem nI_n0 {n : Int32} {N : Nat} (hn : n = nI N) (h0 : 0 < N) (h1 : N < 2 ^ 31) : ¬ n = 0 := fun z => by
  have := nI_inj (a := N) (b := 0) h1 (by decide) (hn.symm.trans z)
  omega
def zap (a b : Int32) : Int32 := if b ≤ a then a - b else b - a
def zgq (x k : Int32) : Int32 := (x * k - (x * k - x * k / 100 * 100)) / 100
def zps (D : Nat → Int32) (c p : Nat) : Nat → Int32
  | 0 => 0
  | k + 1 => zps D c p k + ((if k % 5 = p then D (25 * c + k) else 0) - (if k / 5 = p then D (25 * c + k) else 0))
section SMG
variable {p : Program} {l : Launch} {e : Env} {R : Room} {s : State} {m : MethodId} {args a9 : Array Value} {below : List Frame} {meth : Method} {c : Code} {H : Heap} {locs : List Loc} {cells slots : Nat} {Q : State → Prop} {pc : Nat} {ls : Array Slot} {rest st0 : List Value}
theorem some_go {v n : Int32} {N : Nat} (hr : va_Run p l e R s m args below meth c H locs cells slots 0 0 (F0 m pc ls st0) rest (rdQ (some (.int (zsm v n))) a9) fr0) (hn : n = nI N) (h0 : 0 < N) (h1 : N < 2 ^ 31) (kk : ∀ k, k < N → W p l e R s m args below meth c H locs cells slots Q (F0 m (pc + 3) ls (.int (nI k) :: rest))) : W p l e R s m args below meth c H locs cells slots Q (F0 m pc ls st0) := by
  obtain ⟨k, hk, ek⟩ := zsm_ex (v := v) hn h0 h1
  rw [ek] at hr
  exact rd_go1 hr (kk k hk)
end SMG
