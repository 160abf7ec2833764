/-! .. AND AS THE RING HOLDS THEM -/
section MRI
variable {g : gG} {M : Mp} {x : Nat} {tg : Nat → Nat} {A : Nat → Nat → Nat} {pr br : Nat → Bool} {np : Nat → Nat} {hh : Nat → Nat → Nat} {ne nb no : Nat} {sc : Nat → Int32} {ar : Nat → Nat → Int32}
theorem RI_PO (h : RI g M x tg A pr br np hh ne nb no sc ar) : PO ar ne nb no := by
  obtain ⟨-, -, -, hB, hO, -⟩ := h
  refine ⟨fun j hj => ?_, fun i hi => (hB.2.2 i hi).2.1⟩
  obtain ⟨e, y, a1, a2, a3, a4, a5, a6, a7, a8⟩ := hO.2.2.2 j hj
  exact ⟨⟨e, a1, a2⟩, ⟨y, a4, a5⟩, fun z => by obtain ⟨b, t, b1, b2, -⟩ := a8 z; exact ⟨b, b1, b2⟩⟩
theorem RI_e (h : RI g M x tg A pr br np hh ne nb no sc ar) {o : Nat} (ho : o < no) : zE ar o < ne ∧ ar 10 o = nI (zE ar o) ∧ rng (ar 1 (2 * zE ar o)) 0 60 ∧ rng (ar 1 (2 * zE ar o + 1)) 0 60 ∧ rng (ar 2 (zE ar o)) 0 20 ∧ rng (ar 11 o) 1 40 := by
  obtain ⟨-, -, hE, -, hO, -⟩ := h
  obtain ⟨e, y, a1, a2, a3, -⟩ := hO.2.2.2 o ho
  have n1 := hE.1
  have e1 : zE ar o = e := zE_at a2 (by omega)
  rw [e1]
  obtain ⟨-, b1, b2, b3⟩ := hE.2.2 e a1
  exact ⟨a1, a2, b1, b2, b3, a3⟩
theorem RI_y (h : RI g M x tg A pr br np hh ne nb no sc ar) {o : Nat} (ho : o < no) : rng (zy8 ar o) (-10) 10 ∧ rng (zy9 ar o) (-10) 10 := by
  obtain ⟨-, -, -, -, hO, hW, -⟩ := h
  obtain ⟨e, y, -, -, -, a4, a5, -⟩ := hO.2.2.2 o ho
  obtain ⟨-, ⟨f1, -, b1⟩, f2, -, b2⟩ := hW
  unfold zy8 zy9
  rw [a5, nI_clamp (by omega)]
  exact ⟨(b1 y a4).2, (b2 y a4).2⟩
theorem RI_w (h : RI g M x tg A pr br np hh ne nb no sc ar) {b : Nat} (hb : b < nb) : rng (zw9 ar b) (-10) 10 ∧ rng (ar 8 b) 0 100 := by
  obtain ⟨-, -, -, hB, -, hW, -⟩ := h
  obtain ⟨-, ⟨d, d1, d2⟩, d3, -⟩ := hB.2.2 b hb
  obtain ⟨⟨f, -, b1⟩, -⟩ := hW
  unfold zw9
  rw [d2, nI_clamp (by omega)]
  exact ⟨(b1 d d1).2, d3⟩
theorem RI_p (h : RI g M x tg A pr br np hh ne nb no sc ar) {o : Nat} (ho : o < no) (hs : ¬ ar 13 o = 0) : rng (ar 15 o) 0 100 ∧ rng (ar 16 o) (-10) 10 ∧ rng (ar 17 o) (-10) 10 ∧ rng (ar 18 o) (-10) 10 := by
  obtain ⟨-, -, -, -, hO, -⟩ := h
  obtain ⟨e, y, -, -, -, -, -, -, -, a8⟩ := hO.2.2.2 o ho
  obtain ⟨b, t, -, -, -, -, -, a9⟩ := a8 hs
  exact a9
theorem RI_dye (h : RI g M x tg A pr br np hh ne nb no sc ar) {o b : Nat} (ho : o < no) (hb : b < nb) : zdst ar o (ar 8 b) (zw9 ar b) (zy8 ar o) (zy9 ar o) = zoff ar (zE ar o) (ar 8 b) (zy8 ar o + zw9 ar b) (zy9 ar o) ∧ zdye ar o b = mdye ar o b := by
  obtain ⟨-, -, e1, e2, -, e4⟩ := RI_e h ho
  obtain ⟨y1, y2⟩ := RI_y h ho
  obtain ⟨w1, w2⟩ := RI_w h hb
  exact ⟨zod_off e1 e2 w2 w1 y1 y2, zdye_mdye w2 e4⟩
theorem RI_of (h : RI g M x tg A pr br np hh ne nb no sc ar) {o : Nat} (ho : o < no) (hs : ¬ ar 13 o = 0) : zdst ar o (ar 15 o) (ar 16 o) (ar 17 o) (ar 18 o) = zmof ar o := by
  obtain ⟨-, -, e1, e2, -, -⟩ := RI_e h ho
  obtain ⟨p1, p2, p3, p4⟩ := RI_p h ho hs
  exact zod_off e1 e2 p1 p2 p3 p4
theorem RI_bl (h : RI g M x tg A pr br np hh ne nb no sc ar) {o : Nat} (ho : o < no) (hs : ¬ ar 13 o = 0) : zbl ar o = zmbl ar o := by
  obtain ⟨-, -, e1, e2, -, -⟩ := RI_e h ho
  obtain ⟨p1, p2, p3, p4⟩ := RI_p h ho hs
  have r0 : rng (0 : Int32) (-10) 10 := by unfold rng; decide
  have r9 : rng (100 : Int32) 0 100 := by unfold rng; decide
  unfold zbl zmbl zdst
  rw [zod_off e1 e2 r9 p2 p3 p4, zod_off e1 e2 p1 r0 p3 p4, zod_off e1 e2 p1 p2 r0 r0, Int32.add_zero, Int32.zero_add]
theorem z_col {o : Nat} {ax : Int32} : zcol ar o ax = zmcol ar o ax := by
  unfold zcol zmcol zf zs
  rw [Int32.add_assoc]
theorem RI_ix (h : RI g M x tg A pr br np hh ne nb no sc ar) {o : Nat} (ho : o < no) (hs : ¬ ar 13 o = 0) : zbix ar o = zmix ar o := by
  unfold zbix zmix
  rw [RI_bl h ho hs]
theorem RI_pl (h : RI g M x tg A pr br np hh ne nb no sc ar) {o : Nat} (ho : o < no) : zpl ar o nb = zmpl ar o nb := by
  have hn : nb ≤ 10 := h.2.2.2.1.1
  obtain ⟨-, -, e1, e2, -, -⟩ := RI_e h ho
  obtain ⟨y1, y2⟩ := RI_y h ho
  unfold zpl zmpl
  rw [zbest_congr (q := zmrt ar o) (w := ar 8) (fun i hi => ⟨?_, rfl⟩)]
  · exact (zbest_zmb hn (fun i hi => (RI_w h hi).2)).1
  · obtain ⟨w1, w2⟩ := RI_w h hi
    unfold zrt zmrt
    by_cases hq : ar 7 i = ar 10 o
    · have e9 : (ar 7 i).toNatClampNeg = zE ar o := by rw [hq]; rfl
      rw [e9, zod_off e1 e2 w2 w1 y1 y2]
    · rw [decide_eq_false (fun z => hq z.1), decide_eq_false (fun z => hq z.1)]
theorem RI_ap (h : RI g M x tg A pr br np hh ne nb no sc ar) {u w : Nat} (hu : u < ne) (hw : w < ne) : zd (ar 1 (2 * u)) (ar 1 (2 * u + 1)) (ar 1 (2 * w)) (ar 1 (2 * w + 1)) = zfar (ar 1 (2 * u)) (ar 1 (2 * w)) + zfar (ar 1 (2 * u + 1)) (ar 1 (2 * w + 1)) := by
  obtain ⟨-, -, hE, -⟩ := h
  obtain ⟨-, a1, a2, -⟩ := hE.2.2 u hu
  obtain ⟨-, b1, b2, -⟩ := hE.2.2 w hw
  unfold zd
  rw [(far_ab (rng_le a1 (by decide) (by decide)) (rng_le b1 (by decide) (by decide))).1, (far_ab (rng_le a2 (by decide) (by decide)) (rng_le b2 (by decide) (by decide))).1]
end MRI
