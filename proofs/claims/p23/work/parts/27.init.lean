/-! A NEW RING'S CELLS -/
def tgl : List Nat := [1000, 1001, 1002, 7000, 7001, 7002, 8000, 7003, 7004, 7005, 9000, 10000, 8001, 7010, 7011, 7012, 7013, 7014, 7006, 10001, 8002, 7015, 7016, 7017, 7018, 7019, 7007, 10002, 8003, 7020, 7021, 7022, 7023, 7024, 7008]
def iA (ed : Nat) (Q : Nat → Nat) (k i : Nat) : Nat := if k = 2 then ed else Q (tgl.idxOf (1000 * k + i))
theorem RI_init {g : gG} {M M' : Mp} {x : Nat} {tg : Nat → Nat} {Q : Nat → Nat} {c : Nat → va_E} {pr br : Nat → Bool} {np : Nat → Nat} {hh : Nat → Nat → Nat} (hF : FI g M M' x 35 Q c) (hx : M' x = some (eO 6 [.ref (Q 0), .ref (Q 1), .ref (Q 2), .ref (Q 3), .ref (Q 4), .ref (Q 5), .ref (Q 6), .ref (Q 10)])) (hl : c 0 = eO 0 [.int 0, .ref (g.2.2.2 0), .int 0] ∧ c 1 = eO 0 [.int 0, .ref (g.2.2.2 0), .int 0] ∧ c 2 = eO 0 [.int 0, .ref (g.2.2.2 0), .int 0]) (hw : c 3 = eI g 3 (fun _ => 0) ∧ c 4 = eI g 4 (fun _ => 0) ∧ c 5 = eI g 4 (fun _ => 0)) (hb : ∃ orow, c 6 = eQ g 4 3 orow ∧ ∀ i, i < 3 → orow i = some (Q (7 + i))) (hbr : ∀ i, i < 3 → c (7 + i) = eI g 3 (fun _ => 0)) (hc : ∃ crow, c 10 = eQ g 3 3 crow ∧ ∀ k, k < 3 → crow k = some (Q (11 + 8 * k))) (hk : ∀ k, k < 3 → c (11 + 8 * k) = eO 2 [.int 0, .ref (Q (12 + 8 * k)), .ref (Q (18 + 8 * k))] ∧ (∃ orow, c (12 + 8 * k) = eQ g 4 5 orow ∧ ∀ i, i < 5 → orow i = some (Q (13 + 8 * k + i))) ∧ (∀ i, i < 5 → c (13 + 8 * k + i) = eI g 5 (fun _ => 0)) ∧ c (18 + 8 * k) = eI g 5 (fun _ => 0))
    (htx : tg x = 0) (htg : ∀ i, i < 35 → tg (Q i) = tgl.getD i 0) (hed : M' (g.2.2.2 0) = none) : RI g M' x tg (iA (g.2.2.2 0) Q) pr br np hh 0 0 0 (fun _ => 0) (fun _ _ => 0) := by
  have cl : ∀ j k i e, j < 35 → iA (g.2.2.2 0) Q k i = Q j → tgl.getD j 0 = 1000 * k + i → c j = e → cel M' tg (iA (g.2.2.2 0) Q) k i e := fun j k i e hj h1 h2 h3 => ⟨by rw [h1, ← h3]; exact (hF.2.1 j hj).1, by rw [h1, htg j hj, h2]⟩
  have ls : ∀ j f, j < 3 → c j = eO 0 [.int 0, .ref (g.2.2.2 0), .int 0] → iA (g.2.2.2 0) Q 1 j = Q j → tgl.getD j 0 = 1000 + j → lstc g M' tg (iA (g.2.2.2 0) Q) j 0 f := fun j f hj h1 h2 h3 => by
    refine ⟨⟨0, ?_, Or.inl ⟨rfl, rfl, hed⟩⟩, by rw [h2, htg j (by omega), h3], fun z => absurd hed z⟩
    rw [h2, (hF.2.1 j (by omega)).1, h1]
    rfl
  have r0 : rng (0 : Int32) (-10) 10 := by unfold rng; decide
  refine ⟨⟨rfl, rfl, rfl⟩, ⟨hx, htx⟩, ⟨by decide, ls 0 _ (by decide) hl.1 rfl rfl, fun i hi => absurd hi (Nat.not_lt_zero i)⟩, ⟨by decide, ls 1 _ (by decide) hl.2.1 rfl rfl, fun i hi => absurd hi (Nat.not_lt_zero i)⟩, ⟨by decide, ls 2 _ (by decide) hl.2.2 rfl rfl, fun _ _ => rfl, fun i hi => absurd hi (Nat.not_lt_zero i)⟩, ⟨⟨_, cl 3 7 0 _ (by decide) rfl rfl hw.1, fun i _ => ⟨rfl, r0⟩⟩, ⟨_, cl 4 7 1 _ (by decide) rfl rfl hw.2.1, fun i _ => ⟨rfl, r0⟩⟩, _, cl 5 7 2 _ (by decide) rfl rfl hw.2.2, fun i _ => ⟨rfl, r0⟩⟩, ⟨?_, ?_⟩, ?_, ?_⟩
  · obtain ⟨orow, b1, b2⟩ := hb
    exact ⟨orow, cl 6 8 0 _ (by decide) rfl rfl b1, fun i hi => by rw [b2 i hi]; exact congrArg some (lt3 (P := fun i => Q (7 + i) = iA (g.2.2.2 0) Q 7 (3 + i)) rfl rfl rfl i hi)⟩
  · exact lt3 ⟨_, cl 7 7 3 _ (by decide) rfl rfl (hbr 0 (by decide)), fun _ _ => rfl⟩ ⟨_, cl 8 7 4 _ (by decide) rfl rfl (hbr 1 (by decide)), fun _ _ => rfl⟩ ⟨_, cl 9 7 5 _ (by decide) rfl rfl (hbr 2 (by decide)), fun _ _ => rfl⟩
  · obtain ⟨crow, c1, c2⟩ := hc
    exact ⟨crow, cl 10 9 0 _ (by decide) rfl rfl c1, fun k hk => by rw [c2 k hk]; exact congrArg some (lt3 (P := fun k => Q (11 + 8 * k) = iA (g.2.2.2 0) Q 10 k) rfl rfl rfl k hk)⟩
  · have r9 : rng (0 : Int32) 0 90 := by unfold rng; decide
    refine lt3 ?_ ?_ ?_
    all_goals
      refine ⟨?_, r9, ?_, ?_, ?_⟩
    · exact cl 11 10 0 _ (by decide) rfl rfl (hk 0 (by decide)).1
    · obtain ⟨orow, d1, d2⟩ := (hk 0 (by decide)).2.1
      exact ⟨orow, cl 12 8 1 _ (by decide) rfl rfl d1, fun i hi => by rw [d2 i hi]; exact congrArg some (lt5 (P := fun i => Q (13 + 8 * 0 + i) = iA (g.2.2.2 0) Q 7 (10 + 5 * 0 + i)) rfl rfl rfl rfl rfl i hi)⟩
    · have e := (hk 0 (by decide)).2.2.1
      exact lt5 ⟨_, cl 13 7 10 _ (by decide) rfl rfl (e 0 (by decide)), fun _ _ => rfl⟩ ⟨_, cl 14 7 11 _ (by decide) rfl rfl (e 1 (by decide)), fun _ _ => rfl⟩ ⟨_, cl 15 7 12 _ (by decide) rfl rfl (e 2 (by decide)), fun _ _ => rfl⟩ ⟨_, cl 16 7 13 _ (by decide) rfl rfl (e 3 (by decide)), fun _ _ => rfl⟩ ⟨_, cl 17 7 14 _ (by decide) rfl rfl (e 4 (by decide)), fun _ _ => rfl⟩
    · exact ⟨_, cl 18 7 6 _ (by decide) rfl rfl (hk 0 (by decide)).2.2.2⟩
    · exact cl 19 10 1 _ (by decide) rfl rfl (hk 1 (by decide)).1
    · obtain ⟨orow, d1, d2⟩ := (hk 1 (by decide)).2.1
      exact ⟨orow, cl 20 8 2 _ (by decide) rfl rfl d1, fun i hi => by rw [d2 i hi]; exact congrArg some (lt5 (P := fun i => Q (13 + 8 * 1 + i) = iA (g.2.2.2 0) Q 7 (10 + 5 * 1 + i)) rfl rfl rfl rfl rfl i hi)⟩
    · have e := (hk 1 (by decide)).2.2.1
      exact lt5 ⟨_, cl 21 7 15 _ (by decide) rfl rfl (e 0 (by decide)), fun _ _ => rfl⟩ ⟨_, cl 22 7 16 _ (by decide) rfl rfl (e 1 (by decide)), fun _ _ => rfl⟩ ⟨_, cl 23 7 17 _ (by decide) rfl rfl (e 2 (by decide)), fun _ _ => rfl⟩ ⟨_, cl 24 7 18 _ (by decide) rfl rfl (e 3 (by decide)), fun _ _ => rfl⟩ ⟨_, cl 25 7 19 _ (by decide) rfl rfl (e 4 (by decide)), fun _ _ => rfl⟩
    · exact ⟨_, cl 26 7 7 _ (by decide) rfl rfl (hk 1 (by decide)).2.2.2⟩
    · exact cl 27 10 2 _ (by decide) rfl rfl (hk 2 (by decide)).1
    · obtain ⟨orow, d1, d2⟩ := (hk 2 (by decide)).2.1
      exact ⟨orow, cl 28 8 3 _ (by decide) rfl rfl d1, fun i hi => by rw [d2 i hi]; exact congrArg some (lt5 (P := fun i => Q (13 + 8 * 2 + i) = iA (g.2.2.2 0) Q 7 (10 + 5 * 2 + i)) rfl rfl rfl rfl rfl i hi)⟩
    · have e := (hk 2 (by decide)).2.2.1
      exact lt5 ⟨_, cl 29 7 20 _ (by decide) rfl rfl (e 0 (by decide)), fun _ _ => rfl⟩ ⟨_, cl 30 7 21 _ (by decide) rfl rfl (e 1 (by decide)), fun _ _ => rfl⟩ ⟨_, cl 31 7 22 _ (by decide) rfl rfl (e 2 (by decide)), fun _ _ => rfl⟩ ⟨_, cl 32 7 23 _ (by decide) rfl rfl (e 3 (by decide)), fun _ _ => rfl⟩ ⟨_, cl 33 7 24 _ (by decide) rfl rfl (e 4 (by decide)), fun _ _ => rfl⟩
    · exact ⟨_, cl 34 7 8 _ (by decide) rfl rfl (hk 2 (by decide)).2.2.2⟩
