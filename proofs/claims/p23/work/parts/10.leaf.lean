/-! THE RING'S LEAVES: pure words -/
def zab (x : Int32) : Int32 := if 0 ≤ x then x else 0 - x
def zd (f h x y : Int32) : Int32 := zab (f - x) + zab (h - y)
def zf (f k w y : Int32) : Int32 := f * k / 100 + y + w
def zs (h k y : Int32) : Int32 := h * k / 100 + y
def zod (f h k w y1 y2 : Int32) : Int32 := zd f h (zf f k w y1) (zs h k y2)
def bI (b : Bool) : Int32 := if b then 1 else 0
theorem ne_IQ {g : gG} {n k m : Nat} {f : Nat → Int32} {r : Nat → Option Nat} : eI g n f ≠ eQ g k m r := fun z => by
  injection z with z; injection z with z1 z2; injection z2 with z3 z4; cases z4
theorem ne_LI {g : gG} {n m : Nat} {f : Nat → Int64} {r : Nat → Int32} : eL g n f ≠ eI g m r := fun z => by
  injection z with z; injection z with z1 z2; injection z2 with z3 z4; cases z4
theorem ne_LQ {g : gG} {n k m : Nat} {f : Nat → Int64} {r : Nat → Option Nat} : eL g n f ≠ eQ g k m r := fun z => by
  injection z with z; injection z with z1 z2; injection z2 with z3 z4; cases z4
set_option maxHeartbeats 4000000 in
set_option maxRecDepth 100000 in
theorem c_E_distanceTo {l : Launch} {g : gG} {M : Mp} {a : Nat} {n f h t : Int32} (h0 : M a = some (eO 3 [.int n, .int f, .int h, .int t])) (x y : Int32) : Met l yX2_distanceTo (WY yX2_distanceTo cX2_distanceTo 3 (some .int)) { frames := 1, cells := 0, slots := 0, locals := 14 } (Wc g M [.ref a, .int x, .int y]) (rdQ (some (.int (zd f h x y)))) 0 0 fr0 := by
  refine ofM (by decide +kernel) (Nat.le_of_ble_eq_true rfl) (fun p e s m args below meth c ls C hr hlocks hin hE hH hl ea => ?_)
  have hl : lv_has ls 3 [(0, .ref a), (1, .int x), (2, .int y)] := hl
  have hS : va_S (gA g) s.heap s.heap [] := va_S.rf
  refine lv_aload_n C.1 C.2.1 dX2_distanceTo_0 rfl (lv_at hl 0 rfl) ?_
  refine mget C hE hH fl_239 h0 rfl dX2_distanceTo_1 ?_
  refine lv_iload_n C.1 C.2.1 dX2_distanceTo_4 rfl (lv_at hl 1 rfl) ?_
  refine lv_isub C.1 C.2.1 dX2_distanceTo_5 ?_
  refine va_mabs C.1 C.2.1 (C.2.2.1.trans hl.1.symm) C.2.2.2.1 (C.2.2.2.2 _ wm_485) (C.2.2.2.2 _ wm_486) (C.2.2.2.2 _ wm_25) (C.2.2.2.2 _ wm_487) (Nat.le_of_ble_eq_true rfl) (Nat.le_of_ble_eq_true rfl) (by decide) (by decide) dX2_distanceTo_6 ?_
  refine lv_aload_n C.1 C.2.1 dX2_distanceTo_9 rfl (lv_at hl 0 rfl) ?_
  refine mget C hE hH fl_241 h0 rfl dX2_distanceTo_10 ?_
  refine lv_iload_n C.1 C.2.1 dX2_distanceTo_13 rfl (lv_at hl 2 rfl) ?_
  refine lv_isub C.1 C.2.1 dX2_distanceTo_14 ?_
  refine va_mabs C.1 C.2.1 (C.2.2.1.trans hl.1.symm) C.2.2.2.1 (C.2.2.2.2 _ wm_485) (C.2.2.2.2 _ wm_486) (C.2.2.2.2 _ wm_25) (C.2.2.2.2 _ wm_487) (Nat.le_of_ble_eq_true rfl) (Nat.le_of_ble_eq_true rfl) (by decide) (by decide) dX2_distanceTo_15 ?_
  refine lv_iadd C.1 C.2.1 dX2_distanceTo_18 ?_
  exact rd_iret C hr hlocks (rfl) dX2_distanceTo_19
set_option maxHeartbeats 4000000 in
set_option maxRecDepth 100000 in
theorem c_E_dyedFirst {l : Launch} {g : gG} {M : Mp} {a : Nat} {n f h t : Int32} (h0 : M a = some (eO 3 [.int n, .int f, .int h, .int t])) (k w y : Int32) : Met l yX2_dyedFirst (WY yX2_dyedFirst cX2_dyedFirst 4 (some .int)) { frames := 0, cells := 0, slots := 0, locals := 0 } (Wc g M [.ref a, .int k, .int w, .int y]) (rdQ (some (.int (zf f k w y)))) 0 0 fr0 := by
  refine ofM (by decide +kernel) (Nat.le_of_ble_eq_true rfl) (fun p e s m args below meth c ls C hr hlocks hin hE hH hl ea => ?_)
  have hl : lv_has ls 4 [(0, .ref a), (1, .int k), (2, .int w), (3, .int y)] := hl
  have hS : va_S (gA g) s.heap s.heap [] := va_S.rf
  refine lv_aload_n C.1 C.2.1 dX2_dyedFirst_0 rfl (lv_at hl 0 rfl) ?_
  refine mget C hE hH fl_239 h0 rfl dX2_dyedFirst_1 ?_
  refine lv_iload_n C.1 C.2.1 dX2_dyedFirst_4 rfl (lv_at hl 1 rfl) ?_
  refine lv_imul C.1 C.2.1 dX2_dyedFirst_5 ?_
  refine lv_bipush (v := 100) C.1 C.2.1 dX2_dyedFirst_6 rfl ?_
  refine lv_idiv C.1 C.2.1 dX2_dyedFirst_8 (by decide) ?_
  refine lv_iload_n C.1 C.2.1 dX2_dyedFirst_9 rfl (lv_at hl 3 rfl) ?_
  refine lv_iadd C.1 C.2.1 dX2_dyedFirst_10 ?_
  refine lv_iload_n C.1 C.2.1 dX2_dyedFirst_11 rfl (lv_at hl 2 rfl) ?_
  refine lv_iadd C.1 C.2.1 dX2_dyedFirst_12 ?_
  exact rd_iret C hr hlocks (rfl) dX2_dyedFirst_13
set_option maxHeartbeats 4000000 in
set_option maxRecDepth 100000 in
theorem c_E_dyedSecond {l : Launch} {g : gG} {M : Mp} {a : Nat} {n f h t : Int32} (h0 : M a = some (eO 3 [.int n, .int f, .int h, .int t])) (k y : Int32) : Met l yX2_dyedSecond (WY yX2_dyedSecond cX2_dyedSecond 3 (some .int)) { frames := 0, cells := 0, slots := 0, locals := 0 } (Wc g M [.ref a, .int k, .int y]) (rdQ (some (.int (zs h k y)))) 0 0 fr0 := by
  refine ofM (by decide +kernel) (Nat.le_of_ble_eq_true rfl) (fun p e s m args below meth c ls C hr hlocks hin hE hH hl ea => ?_)
  have hl : lv_has ls 3 [(0, .ref a), (1, .int k), (2, .int y)] := hl
  have hS : va_S (gA g) s.heap s.heap [] := va_S.rf
  refine lv_aload_n C.1 C.2.1 dX2_dyedSecond_0 rfl (lv_at hl 0 rfl) ?_
  refine mget C hE hH fl_241 h0 rfl dX2_dyedSecond_1 ?_
  refine lv_iload_n C.1 C.2.1 dX2_dyedSecond_4 rfl (lv_at hl 1 rfl) ?_
  refine lv_imul C.1 C.2.1 dX2_dyedSecond_5 ?_
  refine lv_bipush (v := 100) C.1 C.2.1 dX2_dyedSecond_6 rfl ?_
  refine lv_idiv C.1 C.2.1 dX2_dyedSecond_8 (by decide) ?_
  refine lv_iload_n C.1 C.2.1 dX2_dyedSecond_9 rfl (lv_at hl 2 rfl) ?_
  refine lv_iadd C.1 C.2.1 dX2_dyedSecond_10 ?_
  exact rd_iret C hr hlocks (rfl) dX2_dyedSecond_11
set_option maxHeartbeats 4000000 in
set_option maxRecDepth 100000 in
theorem c_E_distanceOfDyed {l : Launch} {g : gG} {M : Mp} {a : Nat} {n f h t : Int32} (h0 : M a = some (eO 3 [.int n, .int f, .int h, .int t])) (k w y1 y2 : Int32) : Met l yX2_distanceOfDyed (WY yX2_distanceOfDyed cX2_distanceOfDyed 5 (some .int)) { frames := 2, cells := 0, slots := 0, locals := 36 } (Wc g M [.ref a, .int k, .int w, .int y1, .int y2]) (rdQ (some (.int (zod f h k w y1 y2)))) 0 0 fr0 := by
  refine ofM (by decide +kernel) (Nat.le_of_ble_eq_true rfl) (fun p e s m args below meth c ls C hr hlocks hin hE hH hl ea => ?_)
  have hl : lv_has ls 5 [(0, .ref a), (1, .int k), (2, .int w), (3, .int y1), (4, .int y2)] := hl
  have hS : va_S (gA g) s.heap s.heap [] := va_S.rf
  refine lv_aload_n C.1 C.2.1 dX2_distanceOfDyed_0 rfl (lv_at hl 0 rfl) ?_
  refine lv_aload_n C.1 C.2.1 dX2_distanceOfDyed_1 rfl (lv_at hl 0 rfl) ?_
  refine lv_iload_n C.1 C.2.1 dX2_distanceOfDyed_2 rfl (lv_at hl 1 rfl) ?_
  refine lv_iload_n C.1 C.2.1 dX2_distanceOfDyed_3 rfl (lv_at hl 2 rfl) ?_
  refine lv_iload_n C.1 C.2.1 dX2_distanceOfDyed_4 rfl (lv_at hl 3 rfl) ?_
  refine rd_go1 (runV C hE hH hS (c_E_dyedFirst h0 k w y1) mv_X2_dyedFirst wm_473 h0 rfl rfl hl.1 dX2_distanceOfDyed_5 rfl rfl ⟨rfl, rfl⟩ ⟨Nat.le_of_ble_eq_true rfl, Nat.le_of_ble_eq_true rfl⟩ (Nat.le_of_ble_eq_true rfl) ⟨Nat.le_of_ble_eq_true rfl, Nat.le_of_ble_eq_true rfl⟩) ?_
  refine lv_aload_n C.1 C.2.1 dX2_distanceOfDyed_8 rfl (lv_at hl 0 rfl) ?_
  refine lv_iload_n C.1 C.2.1 dX2_distanceOfDyed_9 rfl (lv_at hl 1 rfl) ?_
  refine lv_iload C.1 C.2.1 dX2_distanceOfDyed_10 (lv_at hl 4 rfl) ?_
  refine rd_go1 (runV C hE hH hS (c_E_dyedSecond h0 k y2) mv_X2_dyedSecond wm_477 h0 rfl rfl hl.1 dX2_distanceOfDyed_12 rfl rfl ⟨rfl, rfl⟩ ⟨Nat.le_of_ble_eq_true rfl, Nat.le_of_ble_eq_true rfl⟩ (Nat.le_of_ble_eq_true rfl) ⟨Nat.le_of_ble_eq_true rfl, Nat.le_of_ble_eq_true rfl⟩) ?_
  refine rd_go1 (runV C hE hH hS (c_E_distanceTo h0 (zf f k w y1) (zs h k y2)) mv_X2_distanceTo wm_481 h0 rfl rfl hl.1 dX2_distanceOfDyed_15 rfl rfl ⟨rfl, rfl⟩ ⟨Nat.le_of_ble_eq_true rfl, Nat.le_of_ble_eq_true rfl⟩ (Nat.le_of_ble_eq_true rfl) ⟨Nat.le_of_ble_eq_true rfl, Nat.le_of_ble_eq_true rfl⟩) ?_
  exact rd_iret C hr hlocks (rfl) dX2_distanceOfDyed_18
set_option maxHeartbeats 4000000 in
set_option maxRecDepth 100000 in
theorem c_E_init {l : Launch} {g : gG} {M : Mp} {a : Nat} (h0 : M a = some (eO 3 [.int 0, .int 0, .int 0, .int 0])) (x1 x2 x3 x4 : Int32) : Met l yX2_init (WY yX2_init cX2_init 5 none) { frames := 1, cells := 0, slots := 0, locals := 12 } (Wc g M [.ref a, .int x1, .int x2, .int x3, .int x4]) (wrQ (S := Unit) g (fun u_ => none) (fun u_ M_ => M_ = mu M a (eO 3 [.int x1, .int x2, .int x3, .int x4]))) 0 0 (gA g) := by
  refine ofM (by decide +kernel) (Nat.le_of_ble_eq_true rfl) (fun p e s m args below meth c ls C hr hlocks hin hE hH hl ea => ?_)
  have hin : meth.name = "<init>" := hin
  have hl : lv_has ls 5 [(0, .ref a), (1, .int x1), (2, .int x2), (3, .int x3), (4, .int x4)] := hl
  have hS : va_S (gA g) s.heap s.heap [] := va_S.rf
  refine lv_aload_n C.1 C.2.1 dX2_init_0 rfl (lv_at hl 0 rfl) ?_
  refine W.objInit C.1 C.2.1 C.2.2.2.1 (C.2.2.2.2 _ wm_236) (C.2.2.2.2 _ wm_41) (C.2.2.2.2 _ wm_42) rfl (by rw [C.2.2.1]; exact hl.1) rfl dX2_init_1 (Nat.le_of_ble_eq_true rfl) (Nat.le_of_ble_eq_true rfl) ?_
  refine W.eq (g2 := F0 m 4 ls []) rfl ?_
  refine lv_aload_n C.1 C.2.1 dX2_init_4 rfl (lv_at hl 0 rfl) ?_
  refine lv_iload_n C.1 C.2.1 dX2_init_5 rfl (lv_at hl 1 rfl) ?_
  refine mputF (fs' := [.int x1, .int 0, .int 0, .int 0]) C hE hH hS fp_237 h0 hin rfl rfl rfl (Nat.le_of_ble_eq_true rfl) dX2_init_6 (fun H locs hH hS => ?_)
  obtain ⟨M1, hM1⟩ : ∃ z, z = mu M a (eO 3 [.int x1, .int 0, .int 0, .int 0]) := ⟨_, rfl⟩
  have hH : Hw g M1 H := by rw [hM1]; exact hH
  have f2 : M1 a = some (eO 3 [.int x1, .int 0, .int 0, .int 0]) := by rw [hM1]; exact mu_s
  refine lv_aload_n C.1 C.2.1 dX2_init_9 rfl (lv_at hl 0 rfl) ?_
  refine lv_iload_n C.1 C.2.1 dX2_init_10 rfl (lv_at hl 2 rfl) ?_
  refine mputF (fs' := [.int x1, .int x2, .int 0, .int 0]) C hE hH hS fp_239 f2 hin rfl rfl rfl (Nat.le_of_ble_eq_true rfl) dX2_init_11 (fun H locs hH hS => ?_)
  obtain ⟨M3, hM3⟩ : ∃ z, z = mu M1 a (eO 3 [.int x1, .int x2, .int 0, .int 0]) := ⟨_, rfl⟩
  have hH : Hw g M3 H := by rw [hM3]; exact hH
  have f4 : M3 a = some (eO 3 [.int x1, .int x2, .int 0, .int 0]) := by rw [hM3]; exact mu_s
  refine lv_aload_n C.1 C.2.1 dX2_init_14 rfl (lv_at hl 0 rfl) ?_
  refine lv_iload_n C.1 C.2.1 dX2_init_15 rfl (lv_at hl 3 rfl) ?_
  refine mputF (fs' := [.int x1, .int x2, .int x3, .int 0]) C hE hH hS fp_241 f4 hin rfl rfl rfl (Nat.le_of_ble_eq_true rfl) dX2_init_16 (fun H locs hH hS => ?_)
  obtain ⟨M5, hM5⟩ : ∃ z, z = mu M3 a (eO 3 [.int x1, .int x2, .int x3, .int 0]) := ⟨_, rfl⟩
  have hH : Hw g M5 H := by rw [hM5]; exact hH
  have f6 : M5 a = some (eO 3 [.int x1, .int x2, .int x3, .int 0]) := by rw [hM5]; exact mu_s
  refine lv_aload_n C.1 C.2.1 dX2_init_19 rfl (lv_at hl 0 rfl) ?_
  refine lv_iload C.1 C.2.1 dX2_init_20 (lv_at hl 4 rfl) ?_
  refine mputF (fs' := [.int x1, .int x2, .int x3, .int x4]) C hE hH hS fp_243 f6 hin rfl rfl rfl (Nat.le_of_ble_eq_true rfl) dX2_init_22 (fun H locs hH hS => ?_)
  obtain ⟨M7, hM7⟩ : ∃ z, z = mu M5 a (eO 3 [.int x1, .int x2, .int x3, .int x4]) := ⟨_, rfl⟩
  have hH : Hw g M7 H := by rw [hM7]; exact hH
  have f8 : M7 a = some (eO 3 [.int x1, .int x2, .int x3, .int x4]) := by rw [hM7]; exact mu_s
  exact wr_vret () C hr hlocks hH hS rfl (by (rw [hM7, hM5, hM3, hM1]) <;> simp only [mu_mu]) (by decide) (by decide) dX2_init_25
theorem bI_t {Q : Prop} [Decidable Q] (h : Q) : (1 : Int32) = bI (decide Q) := by rw [bI, if_pos (decide_eq_true h)]
theorem bI_f {Q : Prop} [Decidable Q] (h : ¬ Q) : (0 : Int32) = bI (decide Q) := by rw [bI, if_neg (by rw [decide_eq_false h]; decide)]
theorem bI_fit (b : Bool) : fits .boolean (.int (bI b)) = true := by cases b <;> rfl
theorem bI_n (b : Bool) : narrow .boolean (.int (bI b)) = .int (bI b) := by cases b <;> rfl
def zw (k w : Int32) : Int32 := if 0 < k - w then k - w else 0
def zblame (x y z : Int32) : Int32 := if x ≤ y ∧ x ≤ z then 0 else if y ≤ z then 1 else 2
def zsh (x k : Int32) : Int32 := x - (x * k + 99) / 100
set_option maxHeartbeats 4000000 in
set_option maxRecDepth 100000 in
theorem c_O_init {l : Launch} {g : gG} {M : Mp} {a : Nat} (h0 : M a = some (eO 4 [.int 0, .null, .int 0, .int 0, .null, .int 0])) (x1 : Int32) (x2 : Nat) (x3 x4 : Int32) : Met l yX3_init (WY yX3_init cX3_init 5 none) { frames := 1, cells := 0, slots := 0, locals := 12 } (Wc g M [.ref a, .int x1, .ref x2, .int x3, .int x4]) (wrQ (S := Unit) g (fun u_ => none) (fun u_ M_ => M_ = mu M a (eO 4 [.int x1, .ref x2, .int x3, .int x4, .null, .int 0]))) 0 0 (gA g) := by
  refine ofM (by decide +kernel) (Nat.le_of_ble_eq_true rfl) (fun p e s m args below meth c ls C hr hlocks hin hE hH hl ea => ?_)
  have hin : meth.name = "<init>" := hin
  have hl : lv_has ls 5 [(0, .ref a), (1, .int x1), (2, .ref x2), (3, .int x3), (4, .int x4)] := hl
  have hS : va_S (gA g) s.heap s.heap [] := va_S.rf
  refine lv_aload_n C.1 C.2.1 dX3_init_0 rfl (lv_at hl 0 rfl) ?_
  refine W.objInit C.1 C.2.1 C.2.2.2.1 (C.2.2.2.2 _ wm_565) (C.2.2.2.2 _ wm_41) (C.2.2.2.2 _ wm_42) rfl (by rw [C.2.2.1]; exact hl.1) rfl dX3_init_1 (Nat.le_of_ble_eq_true rfl) (Nat.le_of_ble_eq_true rfl) ?_
  refine W.eq (g2 := F0 m 4 ls []) rfl ?_
  refine lv_aload_n C.1 C.2.1 dX3_init_4 rfl (lv_at hl 0 rfl) ?_
  refine lv_iload_n C.1 C.2.1 dX3_init_5 rfl (lv_at hl 1 rfl) ?_
  refine mputF (fs' := [.int x1, .null, .int 0, .int 0, .null, .int 0]) C hE hH hS fp_567 h0 hin rfl rfl rfl (Nat.le_of_ble_eq_true rfl) dX3_init_6 (fun H locs hH hS => ?_)
  obtain ⟨M1, hM1⟩ : ∃ z, z = mu M a (eO 4 [.int x1, .null, .int 0, .int 0, .null, .int 0]) := ⟨_, rfl⟩
  have hH : Hw g M1 H := by rw [hM1]; exact hH
  have f2 : M1 a = some (eO 4 [.int x1, .null, .int 0, .int 0, .null, .int 0]) := by rw [hM1]; exact mu_s
  refine lv_aload_n C.1 C.2.1 dX3_init_9 rfl (lv_at hl 0 rfl) ?_
  refine lv_aload_n C.1 C.2.1 dX3_init_10 rfl (lv_at hl 2 rfl) ?_
  refine mputF (fs' := [.int x1, .ref x2, .int 0, .int 0, .null, .int 0]) C hE hH hS fp_568 f2 hin rfl rfl rfl (Nat.le_of_ble_eq_true rfl) dX3_init_11 (fun H locs hH hS => ?_)
  obtain ⟨M3, hM3⟩ : ∃ z, z = mu M1 a (eO 4 [.int x1, .ref x2, .int 0, .int 0, .null, .int 0]) := ⟨_, rfl⟩
  have hH : Hw g M3 H := by rw [hM3]; exact hH
  have f4 : M3 a = some (eO 4 [.int x1, .ref x2, .int 0, .int 0, .null, .int 0]) := by rw [hM3]; exact mu_s
  refine lv_aload_n C.1 C.2.1 dX3_init_14 rfl (lv_at hl 0 rfl) ?_
  refine lv_iload_n C.1 C.2.1 dX3_init_15 rfl (lv_at hl 3 rfl) ?_
  refine mputF (fs' := [.int x1, .ref x2, .int x3, .int 0, .null, .int 0]) C hE hH hS fp_571 f4 hin rfl rfl rfl (Nat.le_of_ble_eq_true rfl) dX3_init_16 (fun H locs hH hS => ?_)
  obtain ⟨M5, hM5⟩ : ∃ z, z = mu M3 a (eO 4 [.int x1, .ref x2, .int x3, .int 0, .null, .int 0]) := ⟨_, rfl⟩
  have hH : Hw g M5 H := by rw [hM5]; exact hH
  have f6 : M5 a = some (eO 4 [.int x1, .ref x2, .int x3, .int 0, .null, .int 0]) := by rw [hM5]; exact mu_s
  refine lv_aload_n C.1 C.2.1 dX3_init_19 rfl (lv_at hl 0 rfl) ?_
  refine lv_iload C.1 C.2.1 dX3_init_20 (lv_at hl 4 rfl) ?_
  refine mputF (fs' := [.int x1, .ref x2, .int x3, .int x4, .null, .int 0]) C hE hH hS fp_573 f6 hin rfl rfl rfl (Nat.le_of_ble_eq_true rfl) dX3_init_22 (fun H locs hH hS => ?_)
  obtain ⟨M7, hM7⟩ : ∃ z, z = mu M5 a (eO 4 [.int x1, .ref x2, .int x3, .int x4, .null, .int 0]) := ⟨_, rfl⟩
  have hH : Hw g M7 H := by rw [hM7]; exact hH
  have f8 : M7 a = some (eO 4 [.int x1, .ref x2, .int x3, .int x4, .null, .int 0]) := by rw [hM7]; exact mu_s
  exact wr_vret () C hr hlocks hH hS rfl (by (rw [hM7, hM5, hM3, hM1]) <;> simp only [mu_mu]) (by decide) (by decide) dX3_init_25
set_option maxHeartbeats 4000000 in
set_option maxRecDepth 100000 in
theorem c_P_init {l : Launch} {g : gG} {M : Mp} {a o b : Nat} {on : Int32} {oe : Nat} {ow oy : Int32} {oc : Bool} {bd : Int32} {be : Nat} {bs : Int32} {br : Bool} {bp : Nat} (h0 : M a = some (eO 5 [.int 0, .null, .int 0, .null, .int 0, .int 0, .int 0, .int 0, .int 0])) (h1 : M o = some (eO 4 [.int on, .ref oe, .int ow, .int oy, .null, .int (bI oc)])) (h2 : M b = some (eO 1 [.int bd, .ref be, .int bs, .int (bI br), .ref bp])) (x1 x2 x3 : Int32) : Met l yX4_init (WY yX4_init cX4_init 6 none) { frames := 1, cells := 0, slots := 0, locals := 12 } (Wc g M [.ref a, .ref o, .ref b, .int x1, .int x2, .int x3]) (wrQ (S := Unit) g (fun u_ => none) (fun u_ M_ => M_ = mu M a (eO 5 [.int on, .ref oe, .int ow, .ref b, .int (bI br), .int bs, .int x1, .int x2, .int x3]))) 0 0 (gA g) := by
  refine ofM (by decide +kernel) (Nat.le_of_ble_eq_true rfl) (fun p e s m args below meth c ls C hr hlocks hin hE hH hl ea => ?_)
  have hin : meth.name = "<init>" := hin
  have hl : lv_has ls 6 [(0, .ref a), (1, .ref o), (2, .ref b), (3, .int x1), (4, .int x2), (5, .int x3)] := hl
  have hS : va_S (gA g) s.heap s.heap [] := va_S.rf
  refine lv_aload_n C.1 C.2.1 dX4_init_0 rfl (lv_at hl 0 rfl) ?_
  refine W.objInit C.1 C.2.1 C.2.2.2.1 (C.2.2.2.2 _ wm_422) (C.2.2.2.2 _ wm_41) (C.2.2.2.2 _ wm_42) rfl (by rw [C.2.2.1]; exact hl.1) rfl dX4_init_1 (Nat.le_of_ble_eq_true rfl) (Nat.le_of_ble_eq_true rfl) ?_
  refine W.eq (g2 := F0 m 4 ls []) rfl ?_
  refine lv_aload_n C.1 C.2.1 dX4_init_4 rfl (lv_at hl 0 rfl) ?_
  refine lv_aload_n C.1 C.2.1 dX4_init_5 rfl (lv_at hl 1 rfl) ?_
  refine mget C hE hH fl_566 h1 rfl dX4_init_6 ?_
  refine mputF (fs' := [.int on, .null, .int 0, .null, .int 0, .int 0, .int 0, .int 0, .int 0]) C hE hH hS fp_423 h0 hin rfl rfl rfl (Nat.le_of_ble_eq_true rfl) dX4_init_9 (fun H locs hH hS => ?_)
  obtain ⟨M1, hM1⟩ : ∃ z, z = mu M a (eO 5 [.int on, .null, .int 0, .null, .int 0, .int 0, .int 0, .int 0, .int 0]) := ⟨_, rfl⟩
  have hH : Hw g M1 H := by rw [hM1]; exact hH
  have f2 : M1 a = some (eO 5 [.int on, .null, .int 0, .null, .int 0, .int 0, .int 0, .int 0, .int 0]) := by rw [hM1]; exact mu_s
  have f3 : M1 o = some (eO 4 [.int on, .ref oe, .int ow, .int oy, .null, .int (bI oc)]) := by rw [hM1]; exact (mu_n (m_ne h1 h0 (by first | (intro z; cases z; done) | exact ne_IQ | exact ne_IQ.symm | exact ne_LI | exact ne_LI.symm | (intro z; cases z; omega) | (intro z; cases z; contradiction) | exact (fun z => by cases z)))).trans h1
  have f4 : M1 b = some (eO 1 [.int bd, .ref be, .int bs, .int (bI br), .ref bp]) := by rw [hM1]; exact (mu_n (m_ne h2 h0 (by first | (intro z; cases z; done) | exact ne_IQ | exact ne_IQ.symm | exact ne_LI | exact ne_LI.symm | (intro z; cases z; omega) | (intro z; cases z; contradiction) | exact (fun z => by cases z)))).trans h2
  refine lv_aload_n C.1 C.2.1 dX4_init_12 rfl (lv_at hl 0 rfl) ?_
  refine lv_aload_n C.1 C.2.1 dX4_init_13 rfl (lv_at hl 1 rfl) ?_
  refine mget C hE hH fl_569 f3 rfl dX4_init_14 ?_
  refine mputF (fs' := [.int on, .ref oe, .int 0, .null, .int 0, .int 0, .int 0, .int 0, .int 0]) C hE hH hS fp_425 f2 hin rfl rfl rfl (Nat.le_of_ble_eq_true rfl) dX4_init_17 (fun H locs hH hS => ?_)
  obtain ⟨M5, hM5⟩ : ∃ z, z = mu M1 a (eO 5 [.int on, .ref oe, .int 0, .null, .int 0, .int 0, .int 0, .int 0, .int 0]) := ⟨_, rfl⟩
  have hH : Hw g M5 H := by rw [hM5]; exact hH
  have f6 : M5 a = some (eO 5 [.int on, .ref oe, .int 0, .null, .int 0, .int 0, .int 0, .int 0, .int 0]) := by rw [hM5]; exact mu_s
  have f7 : M5 o = some (eO 4 [.int on, .ref oe, .int ow, .int oy, .null, .int (bI oc)]) := by rw [hM5]; exact (mu_n (m_ne f3 f2 (by first | (intro z; cases z; done) | exact ne_IQ | exact ne_IQ.symm | exact ne_LI | exact ne_LI.symm | (intro z; cases z; omega) | (intro z; cases z; contradiction) | exact (fun z => by cases z)))).trans f3
  have f8 : M5 b = some (eO 1 [.int bd, .ref be, .int bs, .int (bI br), .ref bp]) := by rw [hM5]; exact (mu_n (m_ne f4 f2 (by first | (intro z; cases z; done) | exact ne_IQ | exact ne_IQ.symm | exact ne_LI | exact ne_LI.symm | (intro z; cases z; omega) | (intro z; cases z; contradiction) | exact (fun z => by cases z)))).trans f4
  refine lv_aload_n C.1 C.2.1 dX4_init_20 rfl (lv_at hl 0 rfl) ?_
  refine lv_aload_n C.1 C.2.1 dX4_init_21 rfl (lv_at hl 1 rfl) ?_
  refine mget C hE hH fl_572 f7 rfl dX4_init_22 ?_
  refine mputF (fs' := [.int on, .ref oe, .int ow, .null, .int 0, .int 0, .int 0, .int 0, .int 0]) C hE hH hS fp_426 f6 hin rfl rfl rfl (Nat.le_of_ble_eq_true rfl) dX4_init_25 (fun H locs hH hS => ?_)
  obtain ⟨M9, hM9⟩ : ∃ z, z = mu M5 a (eO 5 [.int on, .ref oe, .int ow, .null, .int 0, .int 0, .int 0, .int 0, .int 0]) := ⟨_, rfl⟩
  have hH : Hw g M9 H := by rw [hM9]; exact hH
  have f10 : M9 a = some (eO 5 [.int on, .ref oe, .int ow, .null, .int 0, .int 0, .int 0, .int 0, .int 0]) := by rw [hM9]; exact mu_s
  have f11 : M9 o = some (eO 4 [.int on, .ref oe, .int ow, .int oy, .null, .int (bI oc)]) := by rw [hM9]; exact (mu_n (m_ne f7 f6 (by first | (intro z; cases z; done) | exact ne_IQ | exact ne_IQ.symm | exact ne_LI | exact ne_LI.symm | (intro z; cases z; omega) | (intro z; cases z; contradiction) | exact (fun z => by cases z)))).trans f7
  have f12 : M9 b = some (eO 1 [.int bd, .ref be, .int bs, .int (bI br), .ref bp]) := by rw [hM9]; exact (mu_n (m_ne f8 f6 (by first | (intro z; cases z; done) | exact ne_IQ | exact ne_IQ.symm | exact ne_LI | exact ne_LI.symm | (intro z; cases z; omega) | (intro z; cases z; contradiction) | exact (fun z => by cases z)))).trans f8
  refine lv_aload_n C.1 C.2.1 dX4_init_28 rfl (lv_at hl 0 rfl) ?_
  refine lv_aload_n C.1 C.2.1 dX4_init_29 rfl (lv_at hl 2 rfl) ?_
  refine mputF (fs' := [.int on, .ref oe, .int ow, .ref b, .int 0, .int 0, .int 0, .int 0, .int 0]) C hE hH hS fp_428 f10 hin rfl rfl rfl (Nat.le_of_ble_eq_true rfl) dX4_init_30 (fun H locs hH hS => ?_)
  obtain ⟨M13, hM13⟩ : ∃ z, z = mu M9 a (eO 5 [.int on, .ref oe, .int ow, .ref b, .int 0, .int 0, .int 0, .int 0, .int 0]) := ⟨_, rfl⟩
  have hH : Hw g M13 H := by rw [hM13]; exact hH
  have f14 : M13 a = some (eO 5 [.int on, .ref oe, .int ow, .ref b, .int 0, .int 0, .int 0, .int 0, .int 0]) := by rw [hM13]; exact mu_s
  have f15 : M13 o = some (eO 4 [.int on, .ref oe, .int ow, .int oy, .null, .int (bI oc)]) := by rw [hM13]; exact (mu_n (m_ne f11 f10 (by first | (intro z; cases z; done) | exact ne_IQ | exact ne_IQ.symm | exact ne_LI | exact ne_LI.symm | (intro z; cases z; omega) | (intro z; cases z; contradiction) | exact (fun z => by cases z)))).trans f11
  have f16 : M13 b = some (eO 1 [.int bd, .ref be, .int bs, .int (bI br), .ref bp]) := by rw [hM13]; exact (mu_n (m_ne f12 f10 (by first | (intro z; cases z; done) | exact ne_IQ | exact ne_IQ.symm | exact ne_LI | exact ne_LI.symm | (intro z; cases z; omega) | (intro z; cases z; contradiction) | exact (fun z => by cases z)))).trans f12
  refine lv_aload_n C.1 C.2.1 dX4_init_33 rfl (lv_at hl 0 rfl) ?_
  refine lv_aload_n C.1 C.2.1 dX4_init_34 rfl (lv_at hl 2 rfl) ?_
  refine mget C hE hH fl_377 f16 rfl dX4_init_35 ?_
  refine mputF (fs' := [.int on, .ref oe, .int ow, .ref b, .int (bI br), .int 0, .int 0, .int 0, .int 0]) C hE hH hS fp_430 f14 hin (bI_n _) (bI_fit _) rfl (Nat.le_of_ble_eq_true rfl) dX4_init_38 (fun H locs hH hS => ?_)
  obtain ⟨M17, hM17⟩ : ∃ z, z = mu M13 a (eO 5 [.int on, .ref oe, .int ow, .ref b, .int (bI br), .int 0, .int 0, .int 0, .int 0]) := ⟨_, rfl⟩
  have hH : Hw g M17 H := by rw [hM17]; exact hH
  have f18 : M17 a = some (eO 5 [.int on, .ref oe, .int ow, .ref b, .int (bI br), .int 0, .int 0, .int 0, .int 0]) := by rw [hM17]; exact mu_s
  have f19 : M17 o = some (eO 4 [.int on, .ref oe, .int ow, .int oy, .null, .int (bI oc)]) := by rw [hM17]; exact (mu_n (m_ne f15 f14 (by first | (intro z; cases z; done) | exact ne_IQ | exact ne_IQ.symm | exact ne_LI | exact ne_LI.symm | (intro z; cases z; omega) | (intro z; cases z; contradiction) | exact (fun z => by cases z)))).trans f15
  have f20 : M17 b = some (eO 1 [.int bd, .ref be, .int bs, .int (bI br), .ref bp]) := by rw [hM17]; exact (mu_n (m_ne f16 f14 (by first | (intro z; cases z; done) | exact ne_IQ | exact ne_IQ.symm | exact ne_LI | exact ne_LI.symm | (intro z; cases z; omega) | (intro z; cases z; contradiction) | exact (fun z => by cases z)))).trans f16
  refine lv_aload_n C.1 C.2.1 dX4_init_41 rfl (lv_at hl 0 rfl) ?_
  refine lv_aload_n C.1 C.2.1 dX4_init_42 rfl (lv_at hl 2 rfl) ?_
  refine mget C hE hH fl_375 f20 rfl dX4_init_43 ?_
  refine mputF (fs' := [.int on, .ref oe, .int ow, .ref b, .int (bI br), .int bs, .int 0, .int 0, .int 0]) C hE hH hS fp_432 f18 hin rfl rfl rfl (Nat.le_of_ble_eq_true rfl) dX4_init_46 (fun H locs hH hS => ?_)
  obtain ⟨M21, hM21⟩ : ∃ z, z = mu M17 a (eO 5 [.int on, .ref oe, .int ow, .ref b, .int (bI br), .int bs, .int 0, .int 0, .int 0]) := ⟨_, rfl⟩
  have hH : Hw g M21 H := by rw [hM21]; exact hH
  have f22 : M21 a = some (eO 5 [.int on, .ref oe, .int ow, .ref b, .int (bI br), .int bs, .int 0, .int 0, .int 0]) := by rw [hM21]; exact mu_s
  have f23 : M21 o = some (eO 4 [.int on, .ref oe, .int ow, .int oy, .null, .int (bI oc)]) := by rw [hM21]; exact (mu_n (m_ne f19 f18 (by first | (intro z; cases z; done) | exact ne_IQ | exact ne_IQ.symm | exact ne_LI | exact ne_LI.symm | (intro z; cases z; omega) | (intro z; cases z; contradiction) | exact (fun z => by cases z)))).trans f19
  have f24 : M21 b = some (eO 1 [.int bd, .ref be, .int bs, .int (bI br), .ref bp]) := by rw [hM21]; exact (mu_n (m_ne f20 f18 (by first | (intro z; cases z; done) | exact ne_IQ | exact ne_IQ.symm | exact ne_LI | exact ne_LI.symm | (intro z; cases z; omega) | (intro z; cases z; contradiction) | exact (fun z => by cases z)))).trans f20
  refine lv_aload_n C.1 C.2.1 dX4_init_49 rfl (lv_at hl 0 rfl) ?_
  refine lv_iload_n C.1 C.2.1 dX4_init_50 rfl (lv_at hl 3 rfl) ?_
  refine mputF (fs' := [.int on, .ref oe, .int ow, .ref b, .int (bI br), .int bs, .int x1, .int 0, .int 0]) C hE hH hS fp_434 f22 hin rfl rfl rfl (Nat.le_of_ble_eq_true rfl) dX4_init_51 (fun H locs hH hS => ?_)
  obtain ⟨M25, hM25⟩ : ∃ z, z = mu M21 a (eO 5 [.int on, .ref oe, .int ow, .ref b, .int (bI br), .int bs, .int x1, .int 0, .int 0]) := ⟨_, rfl⟩
  have hH : Hw g M25 H := by rw [hM25]; exact hH
  have f26 : M25 a = some (eO 5 [.int on, .ref oe, .int ow, .ref b, .int (bI br), .int bs, .int x1, .int 0, .int 0]) := by rw [hM25]; exact mu_s
  have f27 : M25 o = some (eO 4 [.int on, .ref oe, .int ow, .int oy, .null, .int (bI oc)]) := by rw [hM25]; exact (mu_n (m_ne f23 f22 (by first | (intro z; cases z; done) | exact ne_IQ | exact ne_IQ.symm | exact ne_LI | exact ne_LI.symm | (intro z; cases z; omega) | (intro z; cases z; contradiction) | exact (fun z => by cases z)))).trans f23
  have f28 : M25 b = some (eO 1 [.int bd, .ref be, .int bs, .int (bI br), .ref bp]) := by rw [hM25]; exact (mu_n (m_ne f24 f22 (by first | (intro z; cases z; done) | exact ne_IQ | exact ne_IQ.symm | exact ne_LI | exact ne_LI.symm | (intro z; cases z; omega) | (intro z; cases z; contradiction) | exact (fun z => by cases z)))).trans f24
  refine lv_aload_n C.1 C.2.1 dX4_init_54 rfl (lv_at hl 0 rfl) ?_
  refine lv_iload C.1 C.2.1 dX4_init_55 (lv_at hl 4 rfl) ?_
  refine mputF (fs' := [.int on, .ref oe, .int ow, .ref b, .int (bI br), .int bs, .int x1, .int x2, .int 0]) C hE hH hS fp_435 f26 hin rfl rfl rfl (Nat.le_of_ble_eq_true rfl) dX4_init_57 (fun H locs hH hS => ?_)
  obtain ⟨M29, hM29⟩ : ∃ z, z = mu M25 a (eO 5 [.int on, .ref oe, .int ow, .ref b, .int (bI br), .int bs, .int x1, .int x2, .int 0]) := ⟨_, rfl⟩
  have hH : Hw g M29 H := by rw [hM29]; exact hH
  have f30 : M29 a = some (eO 5 [.int on, .ref oe, .int ow, .ref b, .int (bI br), .int bs, .int x1, .int x2, .int 0]) := by rw [hM29]; exact mu_s
  have f31 : M29 o = some (eO 4 [.int on, .ref oe, .int ow, .int oy, .null, .int (bI oc)]) := by rw [hM29]; exact (mu_n (m_ne f27 f26 (by first | (intro z; cases z; done) | exact ne_IQ | exact ne_IQ.symm | exact ne_LI | exact ne_LI.symm | (intro z; cases z; omega) | (intro z; cases z; contradiction) | exact (fun z => by cases z)))).trans f27
  have f32 : M29 b = some (eO 1 [.int bd, .ref be, .int bs, .int (bI br), .ref bp]) := by rw [hM29]; exact (mu_n (m_ne f28 f26 (by first | (intro z; cases z; done) | exact ne_IQ | exact ne_IQ.symm | exact ne_LI | exact ne_LI.symm | (intro z; cases z; omega) | (intro z; cases z; contradiction) | exact (fun z => by cases z)))).trans f28
  refine lv_aload_n C.1 C.2.1 dX4_init_60 rfl (lv_at hl 0 rfl) ?_
  refine lv_iload C.1 C.2.1 dX4_init_61 (lv_at hl 5 rfl) ?_
  refine mputF (fs' := [.int on, .ref oe, .int ow, .ref b, .int (bI br), .int bs, .int x1, .int x2, .int x3]) C hE hH hS fp_436 f30 hin rfl rfl rfl (Nat.le_of_ble_eq_true rfl) dX4_init_63 (fun H locs hH hS => ?_)
  obtain ⟨M33, hM33⟩ : ∃ z, z = mu M29 a (eO 5 [.int on, .ref oe, .int ow, .ref b, .int (bI br), .int bs, .int x1, .int x2, .int x3]) := ⟨_, rfl⟩
  have hH : Hw g M33 H := by rw [hM33]; exact hH
  have f34 : M33 a = some (eO 5 [.int on, .ref oe, .int ow, .ref b, .int (bI br), .int bs, .int x1, .int x2, .int x3]) := by rw [hM33]; exact mu_s
  have f35 : M33 o = some (eO 4 [.int on, .ref oe, .int ow, .int oy, .null, .int (bI oc)]) := by rw [hM33]; exact (mu_n (m_ne f31 f30 (by first | (intro z; cases z; done) | exact ne_IQ | exact ne_IQ.symm | exact ne_LI | exact ne_LI.symm | (intro z; cases z; omega) | (intro z; cases z; contradiction) | exact (fun z => by cases z)))).trans f31
  have f36 : M33 b = some (eO 1 [.int bd, .ref be, .int bs, .int (bI br), .ref bp]) := by rw [hM33]; exact (mu_n (m_ne f32 f30 (by first | (intro z; cases z; done) | exact ne_IQ | exact ne_IQ.symm | exact ne_LI | exact ne_LI.symm | (intro z; cases z; omega) | (intro z; cases z; contradiction) | exact (fun z => by cases z)))).trans f32
  exact wr_vret () C hr hlocks hH hS rfl (by (rw [hM33, hM29, hM25, hM21, hM17, hM13, hM9, hM5, hM1]) <;> simp only [mu_mu]) (by decide) (by decide) dX4_init_66
set_option maxHeartbeats 4000000 in
set_option maxRecDepth 100000 in
theorem c_P_colourAt {l : Launch} {g : gG} {M : Mp} {a : Nat} {pn : Int32} {pe : Nat} {pw : Int32} {pb : Nat} {pr : Bool} {ps wt y1 y2 : Int32} {n f h t : Int32} (h0 : M a = some (eO 5 [.int pn, .ref pe, .int pw, .ref pb, .int (bI pr), .int ps, .int wt, .int y1, .int y2])) (h1 : M pe = some (eO 3 [.int n, .int f, .int h, .int t])) (x k : Int32) : Met l yX4_colourAt (WY yX4_colourAt cX4_colourAt 3 (some .int)) { frames := 1, cells := 0, slots := 0, locals := 23 } (Wc g M [.ref a, .int x, .int k]) (rdQ (some (.int (if x = 0 then zf f k wt y1 else zs h k y2)))) 0 0 fr0 := by
  refine ofM (by decide +kernel) (Nat.le_of_ble_eq_true rfl) (fun p e s m args below meth c ls C hr hlocks hin hE hH hl ea => ?_)
  have hl : lv_has ls 3 [(0, .ref a), (1, .int x), (2, .int k)] := hl
  have hS : va_S (gA g) s.heap s.heap [] := va_S.rf
  refine lv_iload_n C.1 C.2.1 dX4_colourAt_0 rfl (lv_at hl 1 rfl) ?_
  refine lv_if_ne (tgt := 23) C.1 C.2.1 dX4_colourAt_1 (by decide) (fun c1 => ?_) (fun c1 => ?_)
  · refine lv_aload_n C.1 C.2.1 dX4_colourAt_23 rfl (lv_at hl 0 rfl) ?_
    refine mget C hE hH fl_425 h0 rfl dX4_colourAt_24 ?_
    refine lv_iload_n C.1 C.2.1 dX4_colourAt_27 rfl (lv_at hl 2 rfl) ?_
    refine lv_aload_n C.1 C.2.1 dX4_colourAt_28 rfl (lv_at hl 0 rfl) ?_
    refine mget C hE hH fl_436 h0 rfl dX4_colourAt_29 ?_
    refine rd_go1 (runV C hE hH hS (c_E_dyedSecond h1 k y2) mv_X2_dyedSecond wm_665 h1 rfl rfl hl.1 dX4_colourAt_32 rfl rfl ⟨rfl, rfl⟩ ⟨Nat.le_of_ble_eq_true rfl, Nat.le_of_ble_eq_true rfl⟩ (Nat.le_of_ble_eq_true rfl) ⟨Nat.le_of_ble_eq_true rfl, Nat.le_of_ble_eq_true rfl⟩) ?_
    exact rd_iret C hr hlocks (by split <;> first | rfl | contradiction) dX4_colourAt_35
  · refine lv_aload_n C.1 C.2.1 dX4_colourAt_4 rfl (lv_at hl 0 rfl) ?_
    refine mget C hE hH fl_425 h0 rfl dX4_colourAt_5 ?_
    refine lv_iload_n C.1 C.2.1 dX4_colourAt_8 rfl (lv_at hl 2 rfl) ?_
    refine lv_aload_n C.1 C.2.1 dX4_colourAt_9 rfl (lv_at hl 0 rfl) ?_
    refine mget C hE hH fl_434 h0 rfl dX4_colourAt_10 ?_
    refine lv_aload_n C.1 C.2.1 dX4_colourAt_13 rfl (lv_at hl 0 rfl) ?_
    refine mget C hE hH fl_435 h0 rfl dX4_colourAt_14 ?_
    refine rd_go1 (runV C hE hH hS (c_E_dyedFirst h1 k wt y1) mv_X2_dyedFirst wm_664 h1 rfl rfl hl.1 dX4_colourAt_17 rfl rfl ⟨rfl, rfl⟩ ⟨Nat.le_of_ble_eq_true rfl, Nat.le_of_ble_eq_true rfl⟩ (Nat.le_of_ble_eq_true rfl) ⟨Nat.le_of_ble_eq_true rfl, Nat.le_of_ble_eq_true rfl⟩) ?_
    refine lv_goto (tgt := 35) C.1 C.2.1 dX4_colourAt_20 (by decide) ?_
    exact rd_iret C hr hlocks (by split <;> first | rfl | contradiction) dX4_colourAt_35
set_option maxHeartbeats 4000000 in
set_option maxRecDepth 100000 in
theorem c_P_distance {l : Launch} {g : gG} {M : Mp} {a : Nat} {pn : Int32} {pe : Nat} {pw : Int32} {pb : Nat} {pr : Bool} {ps wt y1 y2 : Int32} {n f h t : Int32} (h0 : M a = some (eO 5 [.int pn, .ref pe, .int pw, .ref pb, .int (bI pr), .int ps, .int wt, .int y1, .int y2])) (h1 : M pe = some (eO 3 [.int n, .int f, .int h, .int t])) : Met l yX4_distance (WY yX4_distance cX4_distance 1 (some .int)) { frames := 3, cells := 0, slots := 0, locals := 60 } (Wc g M [.ref a]) (rdQ (some (.int (zod f h ps wt y1 y2)))) 0 0 fr0 := by
  refine ofM (by decide +kernel) (Nat.le_of_ble_eq_true rfl) (fun p e s m args below meth c ls C hr hlocks hin hE hH hl ea => ?_)
  have hl : lv_has ls 1 [(0, .ref a)] := hl
  have hS : va_S (gA g) s.heap s.heap [] := va_S.rf
  refine lv_aload_n C.1 C.2.1 dX4_distance_0 rfl (lv_at hl 0 rfl) ?_
  refine mget C hE hH fl_425 h0 rfl dX4_distance_1 ?_
  refine lv_aload_n C.1 C.2.1 dX4_distance_4 rfl (lv_at hl 0 rfl) ?_
  refine mget C hE hH fl_432 h0 rfl dX4_distance_5 ?_
  refine lv_aload_n C.1 C.2.1 dX4_distance_8 rfl (lv_at hl 0 rfl) ?_
  refine mget C hE hH fl_434 h0 rfl dX4_distance_9 ?_
  refine lv_aload_n C.1 C.2.1 dX4_distance_12 rfl (lv_at hl 0 rfl) ?_
  refine mget C hE hH fl_435 h0 rfl dX4_distance_13 ?_
  refine lv_aload_n C.1 C.2.1 dX4_distance_16 rfl (lv_at hl 0 rfl) ?_
  refine mget C hE hH fl_436 h0 rfl dX4_distance_17 ?_
  refine rd_go1 (runV C hE hH hS (c_E_distanceOfDyed h1 ps wt y1 y2) mv_X2_distanceOfDyed wm_469 h1 rfl rfl hl.1 dX4_distance_20 rfl rfl ⟨rfl, rfl⟩ ⟨Nat.le_of_ble_eq_true rfl, Nat.le_of_ble_eq_true rfl⟩ (Nat.le_of_ble_eq_true rfl) ⟨Nat.le_of_ble_eq_true rfl, Nat.le_of_ble_eq_true rfl⟩) ?_
  exact rd_iret C hr hlocks (rfl) dX4_distance_23
set_option maxHeartbeats 4000000 in
set_option maxRecDepth 100000 in
theorem c_P_isOff {l : Launch} {g : gG} {M : Mp} {a : Nat} {pn : Int32} {pe : Nat} {pw : Int32} {pb : Nat} {pr : Bool} {ps wt y1 y2 : Int32} {n f h t : Int32} (h0 : M a = some (eO 5 [.int pn, .ref pe, .int pw, .ref pb, .int (bI pr), .int ps, .int wt, .int y1, .int y2])) (h1 : M pe = some (eO 3 [.int n, .int f, .int h, .int t])) : Met l yX4_isOff (WY yX4_isOff cX4_isOff 1 (some .boolean)) { frames := 4, cells := 0, slots := 0, locals := 80 } (Wc g M [.ref a]) (rdQ (some (.int (bI (decide (¬ zod f h ps wt y1 y2 ≤ t)))))) 0 0 fr0 := by
  refine ofM (by decide +kernel) (Nat.le_of_ble_eq_true rfl) (fun p e s m args below meth c ls C hr hlocks hin hE hH hl ea => ?_)
  have hl : lv_has ls 1 [(0, .ref a)] := hl
  have hS : va_S (gA g) s.heap s.heap [] := va_S.rf
  refine lv_aload_n C.1 C.2.1 dX4_isOff_0 rfl (lv_at hl 0 rfl) ?_
  refine rd_go1 (runV C hE hH hS (c_P_distance h0 h1) mv_X4_distance wm_650 h0 rfl rfl hl.1 dX4_isOff_1 rfl rfl ⟨rfl, rfl⟩ ⟨Nat.le_of_ble_eq_true rfl, Nat.le_of_ble_eq_true rfl⟩ (Nat.le_of_ble_eq_true rfl) ⟨Nat.le_of_ble_eq_true rfl, Nat.le_of_ble_eq_true rfl⟩) ?_
  refine lv_aload_n C.1 C.2.1 dX4_isOff_4 rfl (lv_at hl 0 rfl) ?_
  refine mget C hE hH fl_425 h0 rfl dX4_isOff_5 ?_
  refine mget C hE hH fl_244 h1 rfl dX4_isOff_8 ?_
  refine lv_icmp_le (tgt := 18) C.1 C.2.1 dX4_isOff_11 (by decide) (fun c11 => ?_) (fun c11 => ?_)
  · refine lv_iconst (v := 0) C.1 C.2.1 dX4_isOff_18 rfl ?_
    exact rd_zret C hr hlocks (rfl) (bI_f (not_not_intro c11)) dX4_isOff_19
  · refine lv_iconst (v := 1) C.1 C.2.1 dX4_isOff_14 rfl ?_
    refine lv_goto (tgt := 19) C.1 C.2.1 dX4_isOff_15 (by decide) ?_
    exact rd_zret C hr hlocks (rfl) (bI_t c11) dX4_isOff_19
set_option maxHeartbeats 4000000 in
set_option maxRecDepth 100000 in
theorem c_P_toBlame {l : Launch} {g : gG} {M : Mp} {a : Nat} {pn : Int32} {pe : Nat} {pw : Int32} {pb : Nat} {pr : Bool} {ps wt y1 y2 : Int32} {n f h t : Int32} (h0 : M a = some (eO 5 [.int pn, .ref pe, .int pw, .ref pb, .int (bI pr), .int ps, .int wt, .int y1, .int y2])) (h1 : M pe = some (eO 3 [.int n, .int f, .int h, .int t])) : Met l yX4_toBlame (WY yX4_toBlame cX4_toBlame 4 (some .int)) { frames := 3, cells := 0, slots := 0, locals := 60 } (Wc g M [.ref a]) (rdQ (some (.int (zblame (zod f h 100 wt y1 y2) (zod f h ps 0 y1 y2) (zod f h ps wt 0 0))))) 0 0 fr0 := by
  refine ofM (by decide +kernel) (Nat.le_of_ble_eq_true rfl) (fun p e s m args below meth c ls C hr hlocks hin hE hH hl ea => ?_)
  have hl : lv_has ls 4 [(0, .ref a)] := hl
  have hS : va_S (gA g) s.heap s.heap [] := va_S.rf
  refine lv_aload_n C.1 C.2.1 dX4_toBlame_0 rfl (lv_at hl 0 rfl) ?_
  refine mget C hE hH fl_425 h0 rfl dX4_toBlame_1 ?_
  refine lv_bipush (v := 100) C.1 C.2.1 dX4_toBlame_4 rfl ?_
  refine lv_aload_n C.1 C.2.1 dX4_toBlame_6 rfl (lv_at hl 0 rfl) ?_
  refine mget C hE hH fl_434 h0 rfl dX4_toBlame_7 ?_
  refine lv_aload_n C.1 C.2.1 dX4_toBlame_10 rfl (lv_at hl 0 rfl) ?_
  refine mget C hE hH fl_435 h0 rfl dX4_toBlame_11 ?_
  refine lv_aload_n C.1 C.2.1 dX4_toBlame_14 rfl (lv_at hl 0 rfl) ?_
  refine mget C hE hH fl_436 h0 rfl dX4_toBlame_15 ?_
  refine rd_go1 (runV C hE hH hS (c_E_distanceOfDyed h1 100 wt y1 y2) mv_X2_distanceOfDyed wm_469 h1 rfl rfl hl.1 dX4_toBlame_18 rfl rfl ⟨rfl, rfl⟩ ⟨Nat.le_of_ble_eq_true rfl, Nat.le_of_ble_eq_true rfl⟩ (Nat.le_of_ble_eq_true rfl) ⟨Nat.le_of_ble_eq_true rfl, Nat.le_of_ble_eq_true rfl⟩) ?_
  refine lv_topi (fun x1 ex1 => ?_)
  refine lv_istore_n (lv' := [(1, .int x1), (0, .ref a)]) C.1 C.2.1 dX4_toBlame_21 rfl hl (by decide) rfl (fun ls hl => ?_)
  refine lv_aload_n C.1 C.2.1 dX4_toBlame_22 rfl (lv_at hl 1 rfl) ?_
  refine mget C hE hH fl_425 h0 rfl dX4_toBlame_23 ?_
  refine lv_aload_n C.1 C.2.1 dX4_toBlame_26 rfl (lv_at hl 1 rfl) ?_
  refine mget C hE hH fl_432 h0 rfl dX4_toBlame_27 ?_
  refine lv_iconst (v := 0) C.1 C.2.1 dX4_toBlame_30 rfl ?_
  refine lv_aload_n C.1 C.2.1 dX4_toBlame_31 rfl (lv_at hl 1 rfl) ?_
  refine mget C hE hH fl_435 h0 rfl dX4_toBlame_32 ?_
  refine lv_aload_n C.1 C.2.1 dX4_toBlame_35 rfl (lv_at hl 1 rfl) ?_
  refine mget C hE hH fl_436 h0 rfl dX4_toBlame_36 ?_
  refine rd_go1 (runV C hE hH hS (c_E_distanceOfDyed h1 ps 0 y1 y2) mv_X2_distanceOfDyed wm_469 h1 rfl rfl hl.1 dX4_toBlame_39 rfl rfl ⟨rfl, rfl⟩ ⟨Nat.le_of_ble_eq_true rfl, Nat.le_of_ble_eq_true rfl⟩ (Nat.le_of_ble_eq_true rfl) ⟨Nat.le_of_ble_eq_true rfl, Nat.le_of_ble_eq_true rfl⟩) ?_
  refine lv_topi (fun x2 ex2 => ?_)
  refine lv_istore_n (lv' := [(2, .int x2), (1, .int x1), (0, .ref a)]) C.1 C.2.1 dX4_toBlame_42 rfl hl (by decide) rfl (fun ls hl => ?_)
  refine lv_aload_n C.1 C.2.1 dX4_toBlame_43 rfl (lv_at hl 2 rfl) ?_
  refine mget C hE hH fl_425 h0 rfl dX4_toBlame_44 ?_
  refine lv_aload_n C.1 C.2.1 dX4_toBlame_47 rfl (lv_at hl 2 rfl) ?_
  refine mget C hE hH fl_432 h0 rfl dX4_toBlame_48 ?_
  refine lv_aload_n C.1 C.2.1 dX4_toBlame_51 rfl (lv_at hl 2 rfl) ?_
  refine mget C hE hH fl_434 h0 rfl dX4_toBlame_52 ?_
  refine lv_iconst (v := 0) C.1 C.2.1 dX4_toBlame_55 rfl ?_
  refine lv_iconst (v := 0) C.1 C.2.1 dX4_toBlame_56 rfl ?_
  refine rd_go1 (runV C hE hH hS (c_E_distanceOfDyed h1 ps wt 0 0) mv_X2_distanceOfDyed wm_469 h1 rfl rfl hl.1 dX4_toBlame_57 rfl rfl ⟨rfl, rfl⟩ ⟨Nat.le_of_ble_eq_true rfl, Nat.le_of_ble_eq_true rfl⟩ (Nat.le_of_ble_eq_true rfl) ⟨Nat.le_of_ble_eq_true rfl, Nat.le_of_ble_eq_true rfl⟩) ?_
  refine lv_topi (fun x3 ex3 => ?_)
  refine lv_istore_n (lv' := [(3, .int x3), (2, .int x2), (1, .int x1), (0, .ref a)]) C.1 C.2.1 dX4_toBlame_60 rfl hl (by decide) rfl (fun ls hl => ?_)
  refine lv_iload_n C.1 C.2.1 dX4_toBlame_61 rfl (lv_at hl 2 rfl) ?_
  refine lv_iload_n C.1 C.2.1 dX4_toBlame_62 rfl (lv_at hl 1 rfl) ?_
  refine lv_icmp_gt (tgt := 73) C.1 C.2.1 dX4_toBlame_63 (by decide) (fun c63 => ?_) (fun c63 => ?_)
  · refine lv_iload_n C.1 C.2.1 dX4_toBlame_73 rfl (lv_at hl 1 rfl) ?_
    refine lv_iload_n C.1 C.2.1 dX4_toBlame_74 rfl (lv_at hl 0 rfl) ?_
    refine lv_icmp_gt (tgt := 82) C.1 C.2.1 dX4_toBlame_75 (by decide) (fun c75 => ?_) (fun c75 => ?_)
    · refine lv_iconst (v := 2) C.1 C.2.1 dX4_toBlame_82 rfl ?_
      exact rd_iret C hr hlocks (by subst_vars; simp only [Int32.lt_iff_toInt_lt, Int32.le_iff_toInt_le, zblame] at c63 c75 ⊢; (repeat' split) <;> first | rfl | omega) dX4_toBlame_83
    · refine lv_iconst (v := 1) C.1 C.2.1 dX4_toBlame_78 rfl ?_
      refine lv_goto (tgt := 83) C.1 C.2.1 dX4_toBlame_79 (by decide) ?_
      exact rd_iret C hr hlocks (by subst_vars; simp only [Int32.lt_iff_toInt_lt, Int32.le_iff_toInt_le, zblame] at c63 c75 ⊢; (repeat' split) <;> first | rfl | omega) dX4_toBlame_83
  · refine lv_iload_n C.1 C.2.1 dX4_toBlame_66 rfl (lv_at hl 2 rfl) ?_
    refine lv_iload_n C.1 C.2.1 dX4_toBlame_67 rfl (lv_at hl 0 rfl) ?_
    refine lv_icmp_gt (tgt := 73) C.1 C.2.1 dX4_toBlame_68 (by decide) (fun c68 => ?_) (fun c68 => ?_)
    · refine lv_iload_n C.1 C.2.1 dX4_toBlame_73 rfl (lv_at hl 1 rfl) ?_
      refine lv_iload_n C.1 C.2.1 dX4_toBlame_74 rfl (lv_at hl 0 rfl) ?_
      refine lv_icmp_gt (tgt := 82) C.1 C.2.1 dX4_toBlame_75 (by decide) (fun c75 => ?_) (fun c75 => ?_)
      · refine lv_iconst (v := 2) C.1 C.2.1 dX4_toBlame_82 rfl ?_
        exact rd_iret C hr hlocks (by subst_vars; simp only [Int32.lt_iff_toInt_lt, Int32.le_iff_toInt_le, zblame] at c63 c68 c75 ⊢; (repeat' split) <;> first | rfl | omega) dX4_toBlame_83
      · refine lv_iconst (v := 1) C.1 C.2.1 dX4_toBlame_78 rfl ?_
        refine lv_goto (tgt := 83) C.1 C.2.1 dX4_toBlame_79 (by decide) ?_
        exact rd_iret C hr hlocks (by subst_vars; simp only [Int32.lt_iff_toInt_lt, Int32.le_iff_toInt_le, zblame] at c63 c68 c75 ⊢; (repeat' split) <;> first | rfl | omega) dX4_toBlame_83
    · refine lv_iconst (v := 0) C.1 C.2.1 dX4_toBlame_71 rfl ?_
      exact rd_iret C hr hlocks (by subst_vars; simp only [Int32.lt_iff_toInt_lt, Int32.le_iff_toInt_le, zblame] at c63 c68 ⊢; (repeat' split) <;> first | rfl | omega) dX4_toBlame_72
set_option maxHeartbeats 4000000 in
set_option maxRecDepth 100000 in
theorem c_B_isFor {l : Launch} {g : gG} {M : Mp} {a o : Nat} {bd : Int32} {be : Nat} {bs : Int32} {br : Bool} {bp : Nat} {n f h t n2 f2 h2 t2 : Int32} (h0 : M a = some (eO 1 [.int bd, .ref be, .int bs, .int (bI br), .ref bp])) (h1 : M be = some (eO 3 [.int n, .int f, .int h, .int t])) (h2 : M o = some (eO 3 [.int n2, .int f2, .int h2, .int t2])) : Met l yX0_isFor (WY yX0_isFor cX0_isFor 2 (some .boolean)) { frames := 0, cells := 0, slots := 0, locals := 0 } (Wc g M [.ref a, .ref o]) (rdQ (some (.int (bI (decide (n = n2)))))) 0 0 fr0 := by
  refine ofM (by decide +kernel) (Nat.le_of_ble_eq_true rfl) (fun p e s m args below meth c ls C hr hlocks hin hE hH hl ea => ?_)
  have hl : lv_has ls 2 [(0, .ref a), (1, .ref o)] := hl
  have hS : va_S (gA g) s.heap s.heap [] := va_S.rf
  refine lv_aload_n C.1 C.2.1 dX0_isFor_0 rfl (lv_at hl 0 rfl) ?_
  refine mget C hE hH fl_372 h0 rfl dX0_isFor_1 ?_
  refine mget C hE hH fl_238 h1 rfl dX0_isFor_4 ?_
  refine lv_aload_n C.1 C.2.1 dX0_isFor_7 rfl (lv_at hl 1 rfl) ?_
  refine mget C hE hH fl_238 h2 rfl dX0_isFor_8 ?_
  refine lv_icmp_ne (tgt := 18) C.1 C.2.1 dX0_isFor_11 (by decide) (fun c11 => ?_) (fun c11 => ?_)
  · refine lv_iconst (v := 0) C.1 C.2.1 dX0_isFor_18 rfl ?_
    exact rd_zret C hr hlocks (rfl) (bI_f (by simpa using c11)) dX0_isFor_19
  · refine lv_iconst (v := 1) C.1 C.2.1 dX0_isFor_14 rfl ?_
    refine lv_goto (tgt := 19) C.1 C.2.1 dX0_isFor_15 (by decide) ?_
    exact rd_zret C hr hlocks (rfl) (bI_t (by simpa using c11)) dX0_isFor_19
set_option maxHeartbeats 4000000 in
set_option maxRecDepth 100000 in
theorem c_B_renew {l : Launch} {g : gG} {M : Mp} {a : Nat} {bd : Int32} {be : Nat} {bs : Int32} {br : Bool} {bp : Nat} (h0 : M a = some (eO 1 [.int bd, .ref be, .int bs, .int (bI br), .ref bp])) : Met l yX0_renew (WY yX0_renew cX0_renew 2 (some .int)) { frames := 0, cells := 0, slots := 0, locals := 0 } (Wc g M [.ref a]) (wrQ (S := Unit) g (fun u_ => (some (.int bs))) (fun u_ M_ => M_ = mu M a (eO 1 [.int bd, .ref be, .int 100, .int 1, .ref bp]))) 0 0 (gA g) := by
  refine ofM (by decide +kernel) (Nat.le_of_ble_eq_true rfl) (fun p e s m args below meth c ls C hr hlocks hin hE hH hl ea => ?_)
  have hl : lv_has ls 2 [(0, .ref a)] := hl
  have hS : va_S (gA g) s.heap s.heap [] := va_S.rf
  refine lv_aload_n C.1 C.2.1 dX0_renew_0 rfl (lv_at hl 0 rfl) ?_
  refine mget C hE hH fl_374 h0 rfl dX0_renew_1 ?_
  refine lv_istore_n (lv' := [(1, .int bs), (0, .ref a)]) C.1 C.2.1 dX0_renew_4 rfl hl (by decide) rfl (fun ls hl => ?_)
  refine lv_aload_n C.1 C.2.1 dX0_renew_5 rfl (lv_at hl 1 rfl) ?_
  refine lv_bipush (v := 100) C.1 C.2.1 dX0_renew_6 rfl ?_
  refine mput (fs' := [.int bd, .ref be, .int 100, .int (bI br), .ref bp]) C hE hH hS fl_374 h0 rfl rfl rfl (Nat.le_of_ble_eq_true rfl) dX0_renew_8 (fun H locs hH hS => ?_)
  obtain ⟨M1, hM1⟩ : ∃ z, z = mu M a (eO 1 [.int bd, .ref be, .int 100, .int (bI br), .ref bp]) := ⟨_, rfl⟩
  have hH : Hw g M1 H := by rw [hM1]; exact hH
  have f2 : M1 a = some (eO 1 [.int bd, .ref be, .int 100, .int (bI br), .ref bp]) := by rw [hM1]; exact mu_s
  refine lv_aload_n C.1 C.2.1 dX0_renew_11 rfl (lv_at hl 1 rfl) ?_
  refine lv_iconst (v := 1) C.1 C.2.1 dX0_renew_12 rfl ?_
  refine mput (fs' := [.int bd, .ref be, .int 100, .int 1, .ref bp]) C hE hH hS fl_378 f2 rfl rfl rfl (Nat.le_of_ble_eq_true rfl) dX0_renew_13 (fun H locs hH hS => ?_)
  obtain ⟨M3, hM3⟩ : ∃ z, z = mu M1 a (eO 1 [.int bd, .ref be, .int 100, .int 1, .ref bp]) := ⟨_, rfl⟩
  have hH : Hw g M3 H := by rw [hM3]; exact hH
  have f4 : M3 a = some (eO 1 [.int bd, .ref be, .int 100, .int 1, .ref bp]) := by rw [hM3]; exact mu_s
  refine lv_iload_n C.1 C.2.1 dX0_renew_16 rfl (lv_at hl 0 rfl) ?_
  exact wr_iret () C hr hlocks hH hS rfl (by (rw [hM3, hM1]) <;> simp only [mu_mu]) (by decide) (by decide) dX0_renew_17
set_option maxHeartbeats 4000000 in
set_option maxRecDepth 100000 in
theorem c_weakened {l : Launch} {g : gG} {M : Mp}  (k w : Int32) : Met l yX5_weakened (WY yX5_weakened cX5_weakened 2 (some .int)) { frames := 1, cells := 0, slots := 0, locals := 13 } (Wc g M [.int k, .int w]) (rdQ (some (.int (zw k w)))) 0 0 fr0 := by
  refine ofM (by decide +kernel) (Nat.le_of_ble_eq_true rfl) (fun p e s m args below meth c ls C hr hlocks hin hE hH hl ea => ?_)
  have hl : lv_has ls 2 [(0, .int k), (1, .int w)] := hl
  have hS : va_S (gA g) s.heap s.heap [] := va_S.rf
  refine lv_iconst (v := 0) C.1 C.2.1 dX5_weakened_0 rfl ?_
  refine lv_iload_n C.1 C.2.1 dX5_weakened_1 rfl (lv_at hl 0 rfl) ?_
  refine lv_iload_n C.1 C.2.1 dX5_weakened_2 rfl (lv_at hl 1 rfl) ?_
  refine lv_isub C.1 C.2.1 dX5_weakened_3 ?_
  refine va_mmax C.1 C.2.1 (C.2.2.1.trans hl.1.symm) C.2.2.2.1 (C.2.2.2.2 _ wm_464) (C.2.2.2.2 _ wm_275) (C.2.2.2.2 _ wm_25) (C.2.2.2.2 _ wm_276) (Nat.le_of_ble_eq_true rfl) (Nat.le_of_ble_eq_true rfl) (by decide) (by decide) dX5_weakened_4 ?_
  exact rd_iret C hr hlocks (rfl) dX5_weakened_7
set_option maxHeartbeats 4000000 in
set_option maxRecDepth 100000 in
theorem c_C_shrunk {l : Launch} {g : gG} {M : Mp} {a : Nat} {k : Int32} {d u : Nat} (h0 : M a = some (eO 2 [.int k, .ref d, .ref u])) (x : Int32) : Met l yX1_shrunk (WY yX1_shrunk cX1_shrunk 3 (some .int)) { frames := 0, cells := 0, slots := 0, locals := 0 } (Wc g M [.ref a, .int x]) (rdQ (some (.int (zsh x k)))) 0 0 fr0 := by
  refine ofM (by decide +kernel) (Nat.le_of_ble_eq_true rfl) (fun p e s m args below meth c ls C hr hlocks hin hE hH hl ea => ?_)
  have hl : lv_has ls 3 [(0, .ref a), (1, .int x)] := hl
  have hS : va_S (gA g) s.heap s.heap [] := va_S.rf
  refine lv_iload_n C.1 C.2.1 dX1_shrunk_0 rfl (lv_at hl 1 rfl) ?_
  refine lv_aload_n C.1 C.2.1 dX1_shrunk_1 rfl (lv_at hl 0 rfl) ?_
  refine mget C hE hH fl_79 h0 rfl dX1_shrunk_2 ?_
  refine lv_imul C.1 C.2.1 dX1_shrunk_5 ?_
  refine lv_bipush (v := 99) C.1 C.2.1 dX1_shrunk_6 rfl ?_
  refine lv_iadd C.1 C.2.1 dX1_shrunk_8 ?_
  refine lv_bipush (v := 100) C.1 C.2.1 dX1_shrunk_9 rfl ?_
  refine lv_idiv C.1 C.2.1 dX1_shrunk_11 (by decide) ?_
  refine lv_topi (fun x1 ex1 => ?_)
  refine lv_istore_n (lv' := [(2, .int x1), (0, .ref a), (1, .int x)]) C.1 C.2.1 dX1_shrunk_12 rfl hl (by decide) rfl (fun ls hl => ?_)
  refine lv_iload_n C.1 C.2.1 dX1_shrunk_13 rfl (lv_at hl 2 rfl) ?_
  refine lv_iload_n C.1 C.2.1 dX1_shrunk_14 rfl (lv_at hl 0 rfl) ?_
  refine lv_isub C.1 C.2.1 dX1_shrunk_15 ?_
  exact rd_iret C hr hlocks (by subst_vars; rfl) dX1_shrunk_16
set_option maxHeartbeats 4000000 in
set_option maxRecDepth 100000 in
theorem c_reqIndex {l : Launch} {g : gG} {M : Mp}  (hlx : l.stackTraces = false) (x n : Int32) : vx_Met l yX5_requireIndex (WY yX5_requireIndex cX5_requireIndex 2 none) { frames := 6, cells := 1, slots := 6, locals := 82 } (Wc g M [.int x, .int n]) (xrQ (¬ x < 0 ∧ x < n) none) (xQ (fun E_ => E_ = xIO ∧ ¬ (¬ x < 0 ∧ x < n))) 1 6 fr0 := by
  refine ofX (by decide +kernel) (Nat.le_of_ble_eq_true rfl) (fun p e s m args below meth c ls C hr hlocks hout hE hH hl ea => ?_)
  have hl : lv_has ls 2 [(0, .int x), (1, .int n)] := hl
  have hS : va_S (gA g) s.heap s.heap [] := va_S.rf
  refine lv_iload_n C.1 C.2.1 dX5_requireIndex_0 rfl (lv_at hl 0 rfl) ?_
  refine lv_if_lt (tgt := 9) C.1 C.2.1 dX5_requireIndex_1 (by decide) (fun c1 => ?_) (fun c1 => ?_)
  · exact x_throw C hlx hout hlocks hE tw_205_207_209 hl.1 (⟨rfl, fun z => z.1 c1⟩) dX5_requireIndex_9 dX5_requireIndex_12 dX5_requireIndex_13 dX5_requireIndex_15 dX5_requireIndex_18 (by decide) (Nat.le_of_ble_eq_true rfl) (by decide) (by decide) (by decide) (by decide)
  · refine lv_iload_n C.1 C.2.1 dX5_requireIndex_4 rfl (lv_at hl 0 rfl) ?_
    refine lv_iload_n C.1 C.2.1 dX5_requireIndex_5 rfl (lv_at hl 1 rfl) ?_
    refine lv_icmp_lt (tgt := 19) C.1 C.2.1 dX5_requireIndex_6 (by decide) (fun c6 => ?_) (fun c6 => ?_)
    · exact xr_vret C hr hlocks (⟨c1, c6⟩)  (by decide) (by decide) dX5_requireIndex_19
    · exact x_throw C hlx hout hlocks hE tw_205_207_209 hl.1 (⟨rfl, fun z => c6 z.2⟩) dX5_requireIndex_9 dX5_requireIndex_12 dX5_requireIndex_13 dX5_requireIndex_15 dX5_requireIndex_18 (by decide) (Nat.le_of_ble_eq_true rfl) (by decide) (by decide) (by decide) (by decide)
set_option maxHeartbeats 4000000 in
set_option maxRecDepth 100000 in
theorem c_reqRange {l : Launch} {g : gG} {M : Mp}  (hlx : l.stackTraces = false) (x lo hi : Int32) : vx_Met l yX5_requireRange (WY yX5_requireRange cX5_requireRange 3 none) { frames := 6, cells := 1, slots := 6, locals := 82 } (Wc g M [.int x, .int lo, .int hi]) (xrQ (¬ x < lo ∧ x ≤ hi) none) (xQ (fun E_ => E_ = xIA ∧ ¬ (¬ x < lo ∧ x ≤ hi))) 1 6 fr0 := by
  refine ofX (by decide +kernel) (Nat.le_of_ble_eq_true rfl) (fun p e s m args below meth c ls C hr hlocks hout hE hH hl ea => ?_)
  have hl : lv_has ls 3 [(0, .int x), (1, .int lo), (2, .int hi)] := hl
  have hS : va_S (gA g) s.heap s.heap [] := va_S.rf
  refine lv_iload_n C.1 C.2.1 dX5_requireRange_0 rfl (lv_at hl 0 rfl) ?_
  refine lv_iload_n C.1 C.2.1 dX5_requireRange_1 rfl (lv_at hl 1 rfl) ?_
  refine lv_icmp_lt (tgt := 10) C.1 C.2.1 dX5_requireRange_2 (by decide) (fun c2 => ?_) (fun c2 => ?_)
  · exact x_throw C hlx hout hlocks hE tw_134_210_138 hl.1 (⟨rfl, fun z => z.1 c2⟩) dX5_requireRange_10 dX5_requireRange_13 dX5_requireRange_14 dX5_requireRange_16 dX5_requireRange_19 (by decide) (Nat.le_of_ble_eq_true rfl) (by decide) (by decide) (by decide) (by decide)
  · refine lv_iload_n C.1 C.2.1 dX5_requireRange_5 rfl (lv_at hl 0 rfl) ?_
    refine lv_iload_n C.1 C.2.1 dX5_requireRange_6 rfl (lv_at hl 2 rfl) ?_
    refine lv_icmp_le (tgt := 20) C.1 C.2.1 dX5_requireRange_7 (by decide) (fun c7 => ?_) (fun c7 => ?_)
    · exact xr_vret C hr hlocks (⟨c2, c7⟩)  (by decide) (by decide) dX5_requireRange_20
    · exact x_throw C hlx hout hlocks hE tw_134_210_138 hl.1 (⟨rfl, fun z => c7 z.2⟩) dX5_requireRange_10 dX5_requireRange_13 dX5_requireRange_14 dX5_requireRange_16 dX5_requireRange_19 (by decide) (Nat.le_of_ble_eq_true rfl) (by decide) (by decide) (by decide) (by decide)
set_option maxHeartbeats 4000000 in
set_option maxRecDepth 100000 in
theorem c_reqRoom {l : Launch} {g : gG} {M : Mp}  (hlx : l.stackTraces = false) (x n : Int32) : vx_Met l yX5_requireRoom (WY yX5_requireRoom cX5_requireRoom 2 none) { frames := 6, cells := 1, slots := 6, locals := 82 } (Wc g M [.int x, .int n]) (xrQ (x < n) none) (xQ (fun E_ => E_ = xIS ∧ ¬ x < n)) 1 6 fr0 := by
  refine ofX (by decide +kernel) (Nat.le_of_ble_eq_true rfl) (fun p e s m args below meth c ls C hr hlocks hout hE hH hl ea => ?_)
  have hl : lv_has ls 2 [(0, .int x), (1, .int n)] := hl
  have hS : va_S (gA g) s.heap s.heap [] := va_S.rf
  refine lv_iload_n C.1 C.2.1 dX5_requireRoom_0 rfl (lv_at hl 0 rfl) ?_
  refine lv_iload_n C.1 C.2.1 dX5_requireRoom_1 rfl (lv_at hl 1 rfl) ?_
  refine lv_icmp_lt (tgt := 15) C.1 C.2.1 dX5_requireRoom_2 (by decide) (fun c2 => ?_) (fun c2 => ?_)
  · exact xr_vret C hr hlocks (c2)  (by decide) (by decide) dX5_requireRoom_15
  · exact x_throw C hlx hout hlocks hE tw_156_212_160 hl.1 (⟨rfl, c2⟩) dX5_requireRoom_5 dX5_requireRoom_8 dX5_requireRoom_9 dX5_requireRoom_11 dX5_requireRoom_14 (by decide) (Nat.le_of_ble_eq_true rfl) (by decide) (by decide) (by decide) (by decide)
