/-! A DYEING: the law's numbers are the ring's -/
theorem zbm_1 {x y z : Int32} (h1 : ¬ y < x) (h2 : ¬ z < x) : (1 : Int32) = zblame x y z + 1 := by
  unfold zblame
  rw [if_pos ⟨Int32.not_lt.mp h1, Int32.not_lt.mp h2⟩]
  decide
theorem zbm_2 {x y z : Int32} (h : y < x ∨ z < x) (h3 : ¬ z < y) : (2 : Int32) = zblame x y z + 1 := by
  unfold zblame
  rw [if_neg (fun q => h.elim (fun w => Int32.not_lt.mpr q.1 w) (fun w => Int32.not_lt.mpr q.2 w)), if_pos (Int32.not_lt.mp h3)]
  decide
theorem zbm_3 {x y z : Int32} (h : y < x ∨ z < x) (h3 : z < y) : (3 : Int32) = zblame x y z + 1 := by
  unfold zblame
  rw [if_neg (fun q => h.elim (fun w => Int32.not_lt.mpr q.1 w) (fun w => Int32.not_lt.mpr q.2 w)), if_neg (Int32.not_le.mpr h3)]
  decide
section DYA
variable {g : gG} {M : Mp} {x : Nat} {tg : Nat → Nat} {A : Nat → Nat → Nat} {pr br : Nat → Bool} {np : Nat → Nat} {hh : Nat → Nat → Nat} {ne nb no : Nat} {sc : Nat → Int32} {ar lf : Nat → Nat → Int32} {o i u y d : Nat}
/-- the numbers at order o and bath i, all at once -/
theorem DY_0 (hI : RI g M x tg A pr br np hh ne nb no sc ar) (hR : LR ne nb no lf ar) (ho : o < no) (hi : i < nb) (hu : ar 10 o = nI u) (hul : u < ne) (hy : ar 12 o = nI y) (hy4 : y < 4) (hd : ar 6 i = nI d) (hd3 : d < 3) : zE ar o = u ∧ lf 1 (3 * u) = ar 1 (2 * u) ∧ lf 1 (3 * u + 1) = ar 1 (2 * u + 1) ∧ lf 1 (3 * u + 2) = ar 2 u ∧ lf 3 (3 * i + 2) = ar 8 i ∧ lf 2 (3 + 2 * y) = zy8 ar o ∧ lf 2 (3 + 2 * y + 1) = zy9 ar o ∧ lf 2 d = zw9 ar i ∧ rng (ar 1 (2 * u)) 0 60 ∧ rng (ar 1 (2 * u + 1)) 0 60 ∧ rng (ar 8 i) 0 100 ∧ rng (zw9 ar i) (-10) 10 ∧ rng (zy8 ar o) (-10) 10 ∧ rng (zy9 ar o) (-10) 10 := by
  obtain ⟨-, ⟨s0, s1, s2⟩, rE, ⟨rW, rY⟩, rB, -⟩ := hR
  have e : zE ar o = u := zE_at hu (by omega)
  obtain ⟨-, -, q1, q2, -, -⟩ := RI_e hI ho
  obtain ⟨q4, q5⟩ := RI_y hI ho
  obtain ⟨q6, q7⟩ := RI_w hI hi
  rw [e] at q1 q2
  obtain ⟨p1, p2, p3⟩ := rE u hul
  refine ⟨e, p1, p2, p3, (rB i hi).2.2, ?_, ?_, ?_, q1, q2, q7, q6, q4, q5⟩
  · unfold zy8
    rw [hy, nI_clamp (by omega)]
    exact (rY y hy4).1
  · unfold zy9
    rw [hy, nI_clamp (by omega), show 3 + 2 * y + 1 = 4 + 2 * y by omega]
    exact (rY y hy4).2
  · unfold zw9
    rw [hd, nI_clamp (by omega)]
    exact rW d hd3
theorem OB_at (hI : RI g M x tg A pr br np hh ne nb no sc ar) (hR : LR ne nb no lf ar) (ho : o < no) (hi : i < nb) (hu : ar 10 o = nI u) (hul : u < ne) (hy : ar 12 o = nI y) (hy4 : y < 4) (hd : ar 6 i = nI d) (hd3 : d < 3) : zap (zgq (lf 1 (3 * u)) (lf 3 (3 * i + 2)) + lf 2 (3 + 2 * y) + lf 2 d) (lf 1 (3 * u)) + zap (zgq (lf 1 (3 * u + 1)) (lf 3 (3 * i + 2)) + lf 2 (3 + 2 * y + 1) + 0) (lf 1 (3 * u + 1)) = zdst ar o (ar 8 i) (zw9 ar i) (zy8 ar o) (zy9 ar o) := by
  obtain ⟨e, p1, p2, p3, p4, p5, p6, p7, q1, q2, q3, q4, q5, q6⟩ := DY_0 hI hR ho hi hu hul hy hy4 hd hd3
  rw [p1, p2, p4, p5, p6, p7]
  unfold zdst
  rw [e]
  exact off_zod q1 q2 q3 q4 q5 q6
theorem OB_nn (hI : RI g M x tg A pr br np hh ne nb no sc ar) (hR : LR ne nb no lf ar) (ho : o < no) (hi : i < nb) (hu : ar 10 o = nI u) (hul : u < ne) (hy : ar 12 o = nI y) (hy4 : y < 4) (hd : ar 6 i = nI d) (hd3 : d < 3) : 0 ≤ zdst ar o (ar 8 i) (zw9 ar i) (zy8 ar o) (zy9 ar o) := by
  obtain ⟨e, p1, p2, p3, p4, p5, p6, p7, q1, q2, q3, q4, q5, q6⟩ := DY_0 hI hR ho hi hu hul hy hy4 hd hd3
  unfold zdst
  rw [e]
  exact zod_nn q1 q2 q3 q4 q5 q6
theorem DY_at {R : Nat} (hI : RI g M x tg A pr br np hh ne nb no sc ar) (hR : LR ne nb no lf ar) (ho : o < no) (hi : i < nb) (hu : ar 10 o = nI u) (hul : u < ne) (hy : ar 12 o = nI y) (hy4 : y < 4) (hd : ar 6 i = nI d) (hd3 : d < 3) (hw : lf R (5 * (o % 10) + 2) = ar 11 o) :
    (zgq (lf 1 (3 * u)) (lf 3 (3 * i + 2)) + lf 2 (3 + 2 * y) + lf 2 d = zf (ar 1 (2 * zE ar o)) (ar 8 i) (zw9 ar i) (zy8 ar o)) ∧
    (zgq (lf 1 (3 * u + 1)) (lf 3 (3 * i + 2)) + lf 2 (3 + 2 * y + 1) + 0 = zs (ar 1 (2 * zE ar o + 1)) (ar 8 i) (zy9 ar o)) ∧
    ((if zap (zgq (lf 1 (3 * u)) (lf 3 (3 * i + 2)) + lf 2 (3 + 2 * y) + lf 2 d) (lf 1 (3 * u)) + zap (zgq (lf 1 (3 * u + 1)) (lf 3 (3 * i + 2)) + lf 2 (3 + 2 * y + 1) + 0) (lf 1 (3 * u + 1)) ≤ lf 1 (3 * u + 2) then (0 : Int32) else zblame (zap (lf 1 (3 * u) + lf 2 (3 + 2 * y) + lf 2 d) (lf 1 (3 * u)) + zap (lf 1 (3 * u + 1) + lf 2 (4 + 2 * y)) (lf 1 (3 * u + 1))) (zap (zgq (lf 1 (3 * u)) (lf 3 (3 * i + 2)) + lf 2 (3 + 2 * y) + lf 2 d - lf 2 d) (lf 1 (3 * u)) + zap (zgq (lf 1 (3 * u + 1)) (lf 3 (3 * i + 2)) + lf 2 (3 + 2 * y + 1) + 0) (lf 1 (3 * u + 1))) (zap (zgq (lf 1 (3 * u)) (lf 3 (3 * i + 2)) + lf 2 (3 + 2 * y) + lf 2 d - lf 2 (3 + 2 * y)) (lf 1 (3 * u)) + zap (zgq (lf 1 (3 * u + 1)) (lf 3 (3 * i + 2)) + lf 2 (3 + 2 * y + 1) + 0 - lf 2 (4 + 2 * y)) (lf 1 (3 * u + 1))) + 1) = if zdst ar o (ar 8 i) (zw9 ar i) (zy8 ar o) (zy9 ar o) ≤ ar 2 (zE ar o) then 0 else zblame (zdst ar o 100 (zw9 ar i) (zy8 ar o) (zy9 ar o)) (zdst ar o (ar 8 i) 0 (zy8 ar o) (zy9 ar o)) (zdst ar o (ar 8 i) (zw9 ar i) 0 0) + 1) ∧
    ((if 0 ≤ lf 3 (3 * i + 2) - lf R (5 * (o % 10) + 2) then lf 3 (3 * i + 2) - lf R (5 * (o % 10) + 2) else 0) = zw (ar 8 i) (ar 11 o)) := by
  obtain ⟨e, p1, p2, p3, p4, p5, p6, p7, q1, q2, q3, q4, q5, q6⟩ := DY_0 hI hR ho hi hu hul hy hy4 hd hd3
  rw [show 4 + 2 * y = 3 + 2 * y + 1 by omega, p1, p2, p3, p4, p5, p6, p7, hw]
  unfold zdst
  rw [e, off_zod q1 q2 q3 q4 q5 q6, off_bath q1 q2 q4 q5 q6, off_water q1 q2 q3 q5 q6, off_yarn q1 q2 q3 q4]
  refine ⟨?_, ?_, rfl, ?_⟩
  · rw [zgq_eq q1 q3]; rfl
  · rw [zgq_eq q2 q3, Int32.add_zero]; rfl
  · obtain ⟨t, ht⟩ : ∃ t, t = ar 8 i - ar 11 o := ⟨_, rfl⟩
    unfold zw
    rw [← ht]
    by_cases h : 0 < t
    · rw [if_pos h, if_pos (Int32.le_of_lt h)]
    · rw [if_neg h]
      by_cases h2 : 0 ≤ t
      · rw [if_pos h2]
        have z0 : (0 : Int32).toInt = 0 := by decide
        rw [Int32.lt_iff_toInt_lt, z0] at h
        rw [Int32.le_iff_toInt_le, z0] at h2
        exact Int32.toInt_inj.mp (by omega)
      · rw [if_neg h2]
theorem zrt_eq : zrt ar o i = decide (ar 7 i = ar 10 o ∧ zdst ar o (ar 8 i) (zw9 ar i) (zy8 ar o) (zy9 ar o) ≤ ar 2 (zE ar o)) := by
  unfold zrt zdst
  by_cases h : ar 7 i = ar 10 o
  · have e : (ar 7 i).toNatClampNeg = zE ar o := by rw [h]; rfl
    rw [e]
  · rw [decide_eq_false (fun z => h z.1), decide_eq_false (fun z => h z.1)]
theorem zrt_t {e : Nat} (h7 : ar 7 i = nI e) (hu : ar 10 o = nI u) (he : e = u) (h : zdst ar o (ar 8 i) (zw9 ar i) (zy8 ar o) (zy9 ar o) ≤ ar 2 (zE ar o)) : zrt ar o i = true := by
  rw [zrt_eq]
  exact decide_eq_true ⟨h7.trans ((congrArg nI he).trans hu.symm), h⟩
theorem zrt_f1 {e : Nat} (h7 : ar 7 i = nI e) (hu : ar 10 o = nI u) (h1 : e < 2 ^ 31) (h2 : u < 2 ^ 31) (he : ¬ e = u) : zrt ar o i = false := by
  rw [zrt_eq]
  exact decide_eq_false (fun z => he (nI_inj h1 h2 (h7.symm.trans (z.1.trans hu))))
theorem zrt_f2 (h : ¬ zdst ar o (ar 8 i) (zw9 ar i) (zy8 ar o) (zy9 ar o) ≤ ar 2 (zE ar o)) : zrt ar o i = false := by
  rw [zrt_eq]
  exact decide_eq_false (fun z => h z.2)
theorem zrt_7 (h : zrt ar o i = true) : ar 7 i = ar 10 o := by
  rw [zrt_eq] at h
  exact (of_decide_eq_true h).1
theorem zbo_0 (h : zbo ar o = 0) : zdst ar o (ar 15 o) (ar 16 o) (ar 17 o) (ar 18 o) ≤ ar 2 (zE ar o) := by
  unfold zbo at h
  by_cases q : zdst ar o (ar 15 o) (ar 16 o) (ar 17 o) (ar 18 o) ≤ ar 2 (zE ar o)
  · exact q
  · rw [if_neg q] at h
    obtain ⟨k, hk, e⟩ := zbl_3 (ar := ar) (o := o)
    rw [e] at h
    rcases (show k = 0 ∨ k = 1 ∨ k = 2 by omega) with rfl | rfl | rfl <;> exact absurd h (by decide)
theorem zbo_n (h : ¬ zbo ar o = 0) : zbo ar o - 1 = zbl ar o ∧ ¬ zdst ar o (ar 15 o) (ar 16 o) (ar 17 o) (ar 18 o) ≤ ar 2 (zE ar o) := by
  unfold zbo at h ⊢
  by_cases q : zdst ar o (ar 15 o) (ar 16 o) (ar 17 o) (ar 18 o) ≤ ar 2 (zE ar o)
  · rw [if_pos q] at h
    exact absurd rfl h
  · rw [if_neg q, Int32.add_sub_cancel]
    exact ⟨rfl, q⟩
end DYA
