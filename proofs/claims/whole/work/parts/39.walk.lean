/-! THE WALK OF A ROUND -/
def kcx (p : Program) (m : MethodId) (c : Code) (s : State) (b L : Nat) (xs : Nat → Int32) (g : gG) : Prop := CallFix p m c code 7 s #[Value.ref b] WA RL ∧ gE g s ∧ va_X b L xs s s.heap ∧ b < s.heap.size ∧ ¬ gA g b ∧ L ≤ 2560
theorem ksarg {p : Program} {l : Launch} {e : Env} {s : State} {m : MethodId} {below : List Frame} {meth : Method} {c : Code} {b L : Nat} {xs : Nat → Int32} {g : gG} {Q : State → Prop} {H : Heap} {locs : List Loc} {cells slots pc a k : Nat} {iv : Int} {ls : Array Slot} {rest : List Value} (hC : kcx p m c s b L xs g) (hS : va_S (gA g) s.heap H locs) (h0 : ls[0]? = some (.val (.ref b))) (h4 : ls[4]? = some (.val (.int (nI a)))) (hj : a + k < L) (hiv : Int32.ofInt iv = nI k) (d0 : decode code pc = .ok (.aload_n 0, 1)) (d1 : decode code (pc + 1) = .ok (.iload 4, 2)) (d3 : decode code (pc + 3) = .ok (.iconst iv, 1)) (d4 : decode code (pc + 4) = .ok (.iadd, 1)) (d5 : decode code (pc + 5) = .ok (.iaload, 1)) (kk : W p l e room_1 s m #[Value.ref b] below meth c H locs cells slots Q (F0 m (pc + 6) ls (.int (xs (a + k)) :: rest))) : W p l e room_1 s m #[Value.ref b] below meth c H locs cells slots Q (F0 m pc ls rest) := by
  obtain ⟨C, hE, hX, hbl, hbA, hL⟩ := hC
  refine lv_aload_n C.1 C.2.1 d0 rfl h0 ?_
  refine lv_iload C.1 C.2.1 d1 h4 ?_
  refine lv_iconst C.1 C.2.1 d3 hiv ?_
  refine lv_iadd C.1 C.2.1 d4 ?_
  rw [← nI_a]
  refine va_sld C.1 C.2.1 hX hbl hbA hS (vp_in_nI hj (by omega)) d5 ?_
  rw [nI_clamp (by omega)]
  exact kk
theorem k_tail {p : Program} {l : Launch} {e : Env} {s : State} {m : MethodId} {below : List Frame} {meth : Method} {c : Code} {b L : Nat} {xs : Nat → Int32} {g : gG} {Q : State → Prop} {M : Mp} {x mo o n : Nat} {k u v4 : Int32} {H : Heap} {locs : List Loc} {cells slots pc : Nat} {off : Int} {ls : Array Slot} (hC : kcx p m c s b L xs g) (hcl : cells ≤ 601024) (hsl : slots ≤ 7293033) (hR : krR g M x mo o n k u) (hH : Hw g M H) (hS : va_S (gA g) s.heap H locs) (hl : lv_has ls 7 [(6, .int u), (5, .int k), (4, .int v4), (3, .ref o), (2, .ref mo), (1, .ref x), (0, .ref b)])
    (d0 : decode code pc = .ok (.aload_n 2, 1)) (d1 : decode code (pc + 1) = .ok (.invokevirtual 91, 3)) (d4 : decode code (pc + 4) = .ok (.iload 5, 2)) (d6 : decode code (pc + 6) = .ok (.if_icmp .eq 5, 3)) (d11 : decode code (pc + 11) = .ok (.iload 5, 2)) (d13 : decode code (pc + 13) = .ok (.ifCond .ne 15, 3)) (d16 : decode code (pc + 16) = .ok (.aload_n 3, 1)) (d17 : decode code (pc + 17) = .ok (.iconst 0, 1)) (d18 : decode code (pc + 18) = .ok (.laload, 1)) (d19 : decode code (pc + 19) = .ok (.iload 6, 2)) (d21 : decode code (pc + 21) = .ok (.i2l, 1)) (d22 : decode code (pc + 22) = .ok (.lcmp, 1)) (d23 : decode code (pc + 23) = .ok (.ifCond .eq 5, 3)) (d28 : decode code (pc + 28) = .ok (.goto off, 3)) (hoff : ((pc + 28 : Nat) : Int) + off = ((1492 : Nat) : Int))
    (kk : ∀ ls', krS g M x mo o n → lv_has ls' 7 [(4, .int v4), (3, .ref o), (2, .ref mo), (1, .ref x), (0, .ref b)] → W p l e room_1 s m #[Value.ref b] below meth c H locs cells slots Q (F0 m 1492 ls' [])) : W p l e room_1 s m #[Value.ref b] below meth c H locs cells slots Q (F0 m pc ls []) := by
  obtain ⟨C, hE, hX, hbl, hbA, hL⟩ := id hC
  obtain ⟨f, ad, sc, ar, hP, hN, h23, hf⟩ := hR
  obtain ⟨tg, A, pr, br, np, hh, ne, nb, no, hI, hm, ht, ho⟩ := id hP
  obtain ⟨⟨hs0, hs5, hs9⟩, iX, iE, iB, iO, -⟩ := id hI
  have fin : W p l e room_1 s m #[Value.ref b] below meth c H locs cells slots Q (F0 m (pc + 28) ls []) := lv_goto (tgt := 1492) C.1 C.2.1 d28 hoff (kk ls ⟨f, ad, sc, ar, hP, hN⟩ (lv_sub hl [2, 3, 4, 5, 6] rfl))
  refine lv_aload_n C.1 C.2.1 d0 rfl (lv_at hl 4 rfl) ?_
  refine rd_go1 (runV C hE hH hS (m_thrown hm hs0 hs5 hs9 iE.1 iB.1 iO.1) mv_X6_thrown wm_803 hm.1 rfl rfl hl.1 d1 rfl rfl ⟨rfl, rfl⟩ ⟨Nat.le_of_ble_eq_true rfl, Nat.le_of_ble_eq_true rfl⟩ (Nat.le_of_ble_eq_true rfl) ⟨hcl, hsl⟩) ?_
  refine lv_iload C.1 C.2.1 d4 (lv_at hl 1 rfl) ?_
  refine lv_icmp_eq (tgt := pc + 11) C.1 C.2.1 d6 (by omega) (fun _ => ?_) (fun q => absurd h23 q)
  refine lv_iload C.1 C.2.1 d11 (lv_at hl 1 rfl) ?_
  refine lv_if_ne (tgt := pc + 28) C.1 C.2.1 d13 (by omega) (fun _ => fin) (fun q => ?_)
  refine lv_aload_n C.1 C.2.1 d16 rfl (lv_at hl 3 rfl) ?_
  refine lv_iconst (v := 0) C.1 C.2.1 d17 rfl ?_
  refine mlald C hE hH ho v01 d18 ?_
  refine lv_iload C.1 C.2.1 d19 (lv_at hl 0 rfl) ?_
  refine lv_i2l C.1 C.2.1 d21 rfl ?_
  refine W.lcmp C.1 C.2.1 d22 ?_
  refine lv_if_eq (tgt := pc + 28) C.1 C.2.1 d23 (by omega) (fun _ => fin) (fun z => absurd ((lg_cmp_eq _ _).mpr (hf q)) z)
set_option maxHeartbeats 4000000 in
set_option maxRecDepth 100000 in
theorem k_entry {p : Program} {l : Launch} {e : Env} {s : State} {m : MethodId} {below : List Frame} {meth : Method} {c : Code} {b L : Nat} {xs : Nat → Int32} {g : gG} {Q : State → Prop} {M : Mp} {x mo o n : Nat} {H : Heap} {locs : List Loc} {cells slots : Nat} {ls : Array Slot} (hlx : l.stackTraces = false) (hC : kcx p m c s b L xs g) (hLS : krS g M x mo o n) (hn : n < 512) (hj : 5 * n + 5 ≤ L) (hcl : cells + 6 ≤ 601024) (hsl : slots + 230 ≤ 7293033) (hH : Hw g M H) (hS : va_S (gA g) s.heap H locs) (hl : lv_has ls 7 [(4, .int (nI (5 * n))), (3, .ref o), (2, .ref mo), (1, .ref x), (0, .ref b)]) (kk : ∀ (M' : Mp) (H' : Heap) (locs' : List Loc) (ls' : Array Slot), krS g M' x mo o (n + 1) → Hw g M' H' → va_S (gA g) s.heap H' locs' → lv_has ls' 7 [(4, .int (nI (5 * n))), (3, .ref o), (2, .ref mo), (1, .ref x), (0, .ref b)] → W p l e room_1 s m #[Value.ref b] below meth c H' locs' (cells + 6) (slots + 230) Q (F0 m 1492 ls' [])) : W p l e room_1 s m #[Value.ref b] below meth c H locs cells slots Q (F0 m 132 ls []) := by
  obtain ⟨C, hE, hX, hbl, hbA, hL⟩ := id hC
  obtain ⟨f0, ad, sc, ar, ⟨tg, A, pr, br, np, hh, ne, nb, no, hI, hm, ht, ho⟩, hN⟩ := hLS
  obtain ⟨⟨hs0, hs5, hs9⟩, iX, iE, iB, iO, -⟩ := id hI
  refine lv_aload_n C.1 C.2.1 dL_law_132 rfl (lv_at hl 3 rfl) ?_
  refine ksarg (a := 5 * n) (k := 1) (iv := 1) hC hS (lv_at hl 4 rfl) (lv_at hl 0 rfl) (by omega) rfl dL_law_133 dL_law_134 dL_law_136 dL_law_137 dL_law_138 ?_
  refine ksarg (a := 5 * n) (k := 2) (iv := 2) hC hS (lv_at hl 4 rfl) (lv_at hl 0 rfl) (by omega) rfl dL_law_139 dL_law_140 dL_law_142 dL_law_143 dL_law_144 ?_
  refine ksarg (a := 5 * n) (k := 3) (iv := 3) hC hS (lv_at hl 4 rfl) (lv_at hl 0 rfl) (by omega) rfl dL_law_145 dL_law_146 dL_law_148 dL_law_149 dL_law_150 ?_
  refine lv_aload_n C.1 C.2.1 dL_law_151 rfl (lv_at hl 1 rfl) ?_
  refine wr_go1 (runT C hE hH hS (l_entry hlx hI ho ht.2.1 (xs (5 * n + 1)) (xs (5 * n + 2)) (xs (5 * n + 3))) mv_L_entry wm_129 hl.1 dL_law_152 rfl rfl ⟨rfl, rfl⟩ ⟨Nat.le_of_ble_eq_true rfl, Nat.le_of_ble_eq_true rfl⟩ (Nat.le_of_ble_eq_true rfl) ⟨hcl, hsl⟩) hS (fun k M1 H1 locs1 h1 hH1 hS1 => ?_)
  refine lv_istore (lv' := [(5, .int k), (4, .int (nI (5 * n))), (3, .ref o), (2, .ref mo), (1, .ref x), (0, .ref b)]) C.1 C.2.1 dL_law_155 hl (by decide) rfl (fun ls hl => ?_)
  have hm1 := lq_mi hm ht ho (ed_no hE hH1) (krQ2_or h1)
  refine lv_aload_n C.1 C.2.1 dL_law_157 rfl (lv_at hl 3 rfl) ?_
  refine ksarg (a := 5 * n) (k := 1) (iv := 1) hC hS1 (lv_at hl 5 rfl) (lv_at hl 1 rfl) (by omega) rfl dL_law_158 dL_law_159 dL_law_161 dL_law_162 dL_law_163 ?_
  refine ksarg (a := 5 * n) (k := 2) (iv := 2) hC hS1 (lv_at hl 5 rfl) (lv_at hl 1 rfl) (by omega) rfl dL_law_164 dL_law_165 dL_law_167 dL_law_168 dL_law_169 ?_
  refine ksarg (a := 5 * n) (k := 3) (iv := 3) hC hS1 (lv_at hl 5 rfl) (lv_at hl 1 rfl) (by omega) rfl dL_law_170 dL_law_171 dL_law_173 dL_law_174 dL_law_175 ?_
  refine wr_go1 (runV C hE hH1 hS1 (mw_entry hm1 hs0 hs5 hs9 iE.1 iB.1 iO.1 (xs (5 * n + 1)) (xs (5 * n + 2)) (xs (5 * n + 3))) mv_X6_entry wm_807 hm1.1 rfl rfl hl.1 dL_law_176 rfl rfl ⟨rfl, rfl⟩ ⟨Nat.le_of_ble_eq_true rfl, Nat.le_of_ble_eq_true rfl⟩ (Nat.le_of_ble_eq_true rfl) ⟨hcl, hsl⟩) hS1 (fun u M2 H2 locs2 h2 hH2 hS2 => ?_)
  refine lv_istore (lv' := [(6, .int u), (5, .int k), (4, .int (nI (5 * n))), (3, .ref o), (2, .ref mo), (1, .ref x), (0, .ref b)]) C.1 C.2.1 dL_law_179 hl (by decide) rfl (fun ls hl => ?_)
  exact k_tail (pc := 181) hC hcl hsl (kc_entry hI hm ht ho hN (by omega) (ed_no hE hH1) (ed_no hE hH2) (xs (5 * n + 1)) (xs (5 * n + 2)) (xs (5 * n + 3)) h1 h2) hH2 hS2 hl dL_law_181 dL_law_182 dL_law_185 dL_law_187 dL_law_192 dL_law_194 dL_law_197 dL_law_198 dL_law_199 dL_law_200 dL_law_202 dL_law_203 dL_law_204 dL_law_209 (by decide) (fun ls' z1 z2 => kk M2 H2 locs2 ls' z1 hH2 hS2 z2)
set_option maxHeartbeats 4000000 in
set_option maxRecDepth 100000 in
theorem k_water {p : Program} {l : Launch} {e : Env} {s : State} {m : MethodId} {below : List Frame} {meth : Method} {c : Code} {b L : Nat} {xs : Nat → Int32} {g : gG} {Q : State → Prop} {M : Mp} {x mo o n : Nat} {H : Heap} {locs : List Loc} {cells slots : Nat} {ls : Array Slot} (hlx : l.stackTraces = false) (hC : kcx p m c s b L xs g) (hLS : krS g M x mo o n) (hn : n < 512) (hj : 5 * n + 5 ≤ L) (hcl : cells + 6 ≤ 601024) (hsl : slots + 230 ≤ 7293033) (hH : Hw g M H) (hS : va_S (gA g) s.heap H locs) (hl : lv_has ls 7 [(4, .int (nI (5 * n))), (3, .ref o), (2, .ref mo), (1, .ref x), (0, .ref b)]) (kk : ∀ (M' : Mp) (H' : Heap) (locs' : List Loc) (ls' : Array Slot), krS g M' x mo o (n + 1) → Hw g M' H' → va_S (gA g) s.heap H' locs' → lv_has ls' 7 [(4, .int (nI (5 * n))), (3, .ref o), (2, .ref mo), (1, .ref x), (0, .ref b)] → W p l e room_1 s m #[Value.ref b] below meth c H' locs' (cells + 6) (slots + 230) Q (F0 m 1492 ls' [])) : W p l e room_1 s m #[Value.ref b] below meth c H locs cells slots Q (F0 m 212 ls []) := by
  obtain ⟨C, hE, hX, hbl, hbA, hL⟩ := id hC
  obtain ⟨f0, ad, sc, ar, ⟨tg, A, pr, br, np, hh, ne, nb, no, hI, hm, ht, ho⟩, hN⟩ := hLS
  obtain ⟨⟨hs0, hs5, hs9⟩, iX, iE, iB, iO, -⟩ := id hI
  refine lv_aload_n C.1 C.2.1 dL_law_212 rfl (lv_at hl 3 rfl) ?_
  refine ksarg (a := 5 * n) (k := 1) (iv := 1) hC hS (lv_at hl 4 rfl) (lv_at hl 0 rfl) (by omega) rfl dL_law_213 dL_law_214 dL_law_216 dL_law_217 dL_law_218 ?_
  refine ksarg (a := 5 * n) (k := 2) (iv := 2) hC hS (lv_at hl 4 rfl) (lv_at hl 0 rfl) (by omega) rfl dL_law_219 dL_law_220 dL_law_222 dL_law_223 dL_law_224 ?_
  refine lv_aload_n C.1 C.2.1 dL_law_225 rfl (lv_at hl 1 rfl) ?_
  refine wr_go1 (runT C hE hH hS (l_water hlx hI ho ht.2.1 (xs (5 * n + 1)) (xs (5 * n + 2))) mv_L_water wm_316 hl.1 dL_law_226 rfl rfl ⟨rfl, rfl⟩ ⟨Nat.le_of_ble_eq_true rfl, Nat.le_of_ble_eq_true rfl⟩ (Nat.le_of_ble_eq_true rfl) ⟨hcl, hsl⟩) hS (fun k M1 H1 locs1 h1 hH1 hS1 => ?_)
  refine lv_istore (lv' := [(5, .int k), (4, .int (nI (5 * n))), (3, .ref o), (2, .ref mo), (1, .ref x), (0, .ref b)]) C.1 C.2.1 dL_law_229 hl (by decide) rfl (fun ls hl => ?_)
  have hm1 := lq_mi hm ht ho (ed_no hE hH1) (krQ2_or h1)
  refine lv_aload_n C.1 C.2.1 dL_law_231 rfl (lv_at hl 3 rfl) ?_
  refine ksarg (a := 5 * n) (k := 1) (iv := 1) hC hS1 (lv_at hl 5 rfl) (lv_at hl 1 rfl) (by omega) rfl dL_law_232 dL_law_233 dL_law_235 dL_law_236 dL_law_237 ?_
  refine ksarg (a := 5 * n) (k := 2) (iv := 2) hC hS1 (lv_at hl 5 rfl) (lv_at hl 1 rfl) (by omega) rfl dL_law_238 dL_law_239 dL_law_241 dL_law_242 dL_law_243 ?_
  refine wr_go1 (runV C hE hH1 hS1 (mw_water hm1 hs0 hs5 hs9 iE.1 iB.1 iO.1 (xs (5 * n + 1)) (xs (5 * n + 2))) mv_X6_water wm_818 hm1.1 rfl rfl hl.1 dL_law_244 rfl rfl ⟨rfl, rfl⟩ ⟨Nat.le_of_ble_eq_true rfl, Nat.le_of_ble_eq_true rfl⟩ (Nat.le_of_ble_eq_true rfl) ⟨hcl, hsl⟩) hS1 (fun u M2 H2 locs2 h2 hH2 hS2 => ?_)
  refine lv_istore (lv' := [(6, .int u), (5, .int k), (4, .int (nI (5 * n))), (3, .ref o), (2, .ref mo), (1, .ref x), (0, .ref b)]) C.1 C.2.1 dL_law_247 hl (by decide) rfl (fun ls hl => ?_)
  exact k_tail (pc := 249) hC hcl hsl (kc_water hI hm ht ho hN (by omega) (ed_no hE hH1) (ed_no hE hH2) (xs (5 * n + 1)) (xs (5 * n + 2)) h1 h2) hH2 hS2 hl dL_law_249 dL_law_250 dL_law_253 dL_law_255 dL_law_260 dL_law_262 dL_law_265 dL_law_266 dL_law_267 dL_law_268 dL_law_270 dL_law_271 dL_law_272 dL_law_277 (by decide) (fun ls' z1 z2 => kk M2 H2 locs2 ls' z1 hH2 hS2 z2)
set_option maxHeartbeats 4000000 in
set_option maxRecDepth 100000 in
theorem k_yarn {p : Program} {l : Launch} {e : Env} {s : State} {m : MethodId} {below : List Frame} {meth : Method} {c : Code} {b L : Nat} {xs : Nat → Int32} {g : gG} {Q : State → Prop} {M : Mp} {x mo o n : Nat} {H : Heap} {locs : List Loc} {cells slots : Nat} {ls : Array Slot} (hlx : l.stackTraces = false) (hC : kcx p m c s b L xs g) (hLS : krS g M x mo o n) (hn : n < 512) (hj : 5 * n + 5 ≤ L) (hcl : cells + 6 ≤ 601024) (hsl : slots + 230 ≤ 7293033) (hH : Hw g M H) (hS : va_S (gA g) s.heap H locs) (hl : lv_has ls 7 [(4, .int (nI (5 * n))), (3, .ref o), (2, .ref mo), (1, .ref x), (0, .ref b)]) (kk : ∀ (M' : Mp) (H' : Heap) (locs' : List Loc) (ls' : Array Slot), krS g M' x mo o (n + 1) → Hw g M' H' → va_S (gA g) s.heap H' locs' → lv_has ls' 7 [(4, .int (nI (5 * n))), (3, .ref o), (2, .ref mo), (1, .ref x), (0, .ref b)] → W p l e room_1 s m #[Value.ref b] below meth c H' locs' (cells + 6) (slots + 230) Q (F0 m 1492 ls' [])) : W p l e room_1 s m #[Value.ref b] below meth c H locs cells slots Q (F0 m 280 ls []) := by
  obtain ⟨C, hE, hX, hbl, hbA, hL⟩ := id hC
  obtain ⟨f0, ad, sc, ar, ⟨tg, A, pr, br, np, hh, ne, nb, no, hI, hm, ht, ho⟩, hN⟩ := hLS
  obtain ⟨⟨hs0, hs5, hs9⟩, iX, iE, iB, iO, -⟩ := id hI
  refine lv_aload_n C.1 C.2.1 dL_law_280 rfl (lv_at hl 3 rfl) ?_
  refine ksarg (a := 5 * n) (k := 1) (iv := 1) hC hS (lv_at hl 4 rfl) (lv_at hl 0 rfl) (by omega) rfl dL_law_281 dL_law_282 dL_law_284 dL_law_285 dL_law_286 ?_
  refine ksarg (a := 5 * n) (k := 2) (iv := 2) hC hS (lv_at hl 4 rfl) (lv_at hl 0 rfl) (by omega) rfl dL_law_287 dL_law_288 dL_law_290 dL_law_291 dL_law_292 ?_
  refine ksarg (a := 5 * n) (k := 3) (iv := 3) hC hS (lv_at hl 4 rfl) (lv_at hl 0 rfl) (by omega) rfl dL_law_293 dL_law_294 dL_law_296 dL_law_297 dL_law_298 ?_
  refine lv_aload_n C.1 C.2.1 dL_law_299 rfl (lv_at hl 1 rfl) ?_
  refine wr_go1 (runT C hE hH hS (l_yarn hlx hI ho ht.2.1 (xs (5 * n + 1)) (xs (5 * n + 2)) (xs (5 * n + 3))) mv_L_yarn wm_343 hl.1 dL_law_300 rfl rfl ⟨rfl, rfl⟩ ⟨Nat.le_of_ble_eq_true rfl, Nat.le_of_ble_eq_true rfl⟩ (Nat.le_of_ble_eq_true rfl) ⟨hcl, hsl⟩) hS (fun k M1 H1 locs1 h1 hH1 hS1 => ?_)
  refine lv_istore (lv' := [(5, .int k), (4, .int (nI (5 * n))), (3, .ref o), (2, .ref mo), (1, .ref x), (0, .ref b)]) C.1 C.2.1 dL_law_303 hl (by decide) rfl (fun ls hl => ?_)
  have hm1 := lq_mi hm ht ho (ed_no hE hH1) (krQ2_or h1)
  refine lv_aload_n C.1 C.2.1 dL_law_305 rfl (lv_at hl 3 rfl) ?_
  refine ksarg (a := 5 * n) (k := 1) (iv := 1) hC hS1 (lv_at hl 5 rfl) (lv_at hl 1 rfl) (by omega) rfl dL_law_306 dL_law_307 dL_law_309 dL_law_310 dL_law_311 ?_
  refine ksarg (a := 5 * n) (k := 2) (iv := 2) hC hS1 (lv_at hl 5 rfl) (lv_at hl 1 rfl) (by omega) rfl dL_law_312 dL_law_313 dL_law_315 dL_law_316 dL_law_317 ?_
  refine ksarg (a := 5 * n) (k := 3) (iv := 3) hC hS1 (lv_at hl 5 rfl) (lv_at hl 1 rfl) (by omega) rfl dL_law_318 dL_law_319 dL_law_321 dL_law_322 dL_law_323 ?_
  refine wr_go1 (runV C hE hH1 hS1 (mw_yarn hm1 hs0 hs5 hs9 iE.1 iB.1 iO.1 (xs (5 * n + 1)) (xs (5 * n + 2)) (xs (5 * n + 3))) mv_X6_yarn wm_825 hm1.1 rfl rfl hl.1 dL_law_324 rfl rfl ⟨rfl, rfl⟩ ⟨Nat.le_of_ble_eq_true rfl, Nat.le_of_ble_eq_true rfl⟩ (Nat.le_of_ble_eq_true rfl) ⟨hcl, hsl⟩) hS1 (fun u M2 H2 locs2 h2 hH2 hS2 => ?_)
  refine lv_istore (lv' := [(6, .int u), (5, .int k), (4, .int (nI (5 * n))), (3, .ref o), (2, .ref mo), (1, .ref x), (0, .ref b)]) C.1 C.2.1 dL_law_327 hl (by decide) rfl (fun ls hl => ?_)
  exact k_tail (pc := 329) hC hcl hsl (kc_yarn hI hm ht ho hN (by omega) (ed_no hE hH1) (ed_no hE hH2) (xs (5 * n + 1)) (xs (5 * n + 2)) (xs (5 * n + 3)) h1 h2) hH2 hS2 hl dL_law_329 dL_law_330 dL_law_333 dL_law_335 dL_law_340 dL_law_342 dL_law_345 dL_law_346 dL_law_347 dL_law_348 dL_law_350 dL_law_351 dL_law_352 dL_law_357 (by decide) (fun ls' z1 z2 => kk M2 H2 locs2 ls' z1 hH2 hS2 z2)
set_option maxHeartbeats 4000000 in
set_option maxRecDepth 100000 in
theorem k_apart {p : Program} {l : Launch} {e : Env} {s : State} {m : MethodId} {below : List Frame} {meth : Method} {c : Code} {b L : Nat} {xs : Nat → Int32} {g : gG} {Q : State → Prop} {M : Mp} {x mo o n : Nat} {H : Heap} {locs : List Loc} {cells slots : Nat} {ls : Array Slot} (hlx : l.stackTraces = false) (hC : kcx p m c s b L xs g) (hLS : krS g M x mo o n) (hn : n < 512) (hj : 5 * n + 5 ≤ L) (hcl : cells + 6 ≤ 601024) (hsl : slots + 230 ≤ 7293033) (hH : Hw g M H) (hS : va_S (gA g) s.heap H locs) (hl : lv_has ls 7 [(4, .int (nI (5 * n))), (3, .ref o), (2, .ref mo), (1, .ref x), (0, .ref b)]) (kk : ∀ (M' : Mp) (H' : Heap) (locs' : List Loc) (ls' : Array Slot), krS g M' x mo o (n + 1) → Hw g M' H' → va_S (gA g) s.heap H' locs' → lv_has ls' 7 [(4, .int (nI (5 * n))), (3, .ref o), (2, .ref mo), (1, .ref x), (0, .ref b)] → W p l e room_1 s m #[Value.ref b] below meth c H' locs' (cells + 6) (slots + 230) Q (F0 m 1492 ls' [])) : W p l e room_1 s m #[Value.ref b] below meth c H locs cells slots Q (F0 m 360 ls []) := by
  obtain ⟨C, hE, hX, hbl, hbA, hL⟩ := id hC
  obtain ⟨f0, ad, sc, ar, ⟨tg, A, pr, br, np, hh, ne, nb, no, hI, hm, ht, ho⟩, hN⟩ := hLS
  obtain ⟨⟨hs0, hs5, hs9⟩, iX, iE, iB, iO, -⟩ := id hI
  refine lv_aload_n C.1 C.2.1 dL_law_360 rfl (lv_at hl 3 rfl) ?_
  refine ksarg (a := 5 * n) (k := 1) (iv := 1) hC hS (lv_at hl 4 rfl) (lv_at hl 0 rfl) (by omega) rfl dL_law_361 dL_law_362 dL_law_364 dL_law_365 dL_law_366 ?_
  refine ksarg (a := 5 * n) (k := 2) (iv := 2) hC hS (lv_at hl 4 rfl) (lv_at hl 0 rfl) (by omega) rfl dL_law_367 dL_law_368 dL_law_370 dL_law_371 dL_law_372 ?_
  refine lv_aload_n C.1 C.2.1 dL_law_373 rfl (lv_at hl 1 rfl) ?_
  refine wr_go1 (runT C hE hH hS (l_apart hlx hI ho ht.2.1 (xs (5 * n + 1)) (xs (5 * n + 2))) mv_L_apart wm_350 hl.1 dL_law_374 rfl rfl ⟨rfl, rfl⟩ ⟨Nat.le_of_ble_eq_true rfl, Nat.le_of_ble_eq_true rfl⟩ (Nat.le_of_ble_eq_true rfl) ⟨hcl, hsl⟩) hS (fun k M1 H1 locs1 h1 hH1 hS1 => ?_)
  refine lv_istore (lv' := [(5, .int k), (4, .int (nI (5 * n))), (3, .ref o), (2, .ref mo), (1, .ref x), (0, .ref b)]) C.1 C.2.1 dL_law_377 hl (by decide) rfl (fun ls hl => ?_)
  have hm1 := lq_mi hm ht ho (ed_no hE hH1) (krQ1_or h1)
  refine lv_aload_n C.1 C.2.1 dL_law_379 rfl (lv_at hl 3 rfl) ?_
  refine ksarg (a := 5 * n) (k := 1) (iv := 1) hC hS1 (lv_at hl 5 rfl) (lv_at hl 1 rfl) (by omega) rfl dL_law_380 dL_law_381 dL_law_383 dL_law_384 dL_law_385 ?_
  refine ksarg (a := 5 * n) (k := 2) (iv := 2) hC hS1 (lv_at hl 5 rfl) (lv_at hl 1 rfl) (by omega) rfl dL_law_386 dL_law_387 dL_law_389 dL_law_390 dL_law_391 ?_
  refine wr_go1 (runV C hE hH1 hS1 (mw_apart hm1 hs0 hs5 hs9 iE.1 iB.1 iO.1 (xs (5 * n + 1)) (xs (5 * n + 2))) mv_X6_apart wm_829 hm1.1 rfl rfl hl.1 dL_law_392 rfl rfl ⟨rfl, rfl⟩ ⟨Nat.le_of_ble_eq_true rfl, Nat.le_of_ble_eq_true rfl⟩ (Nat.le_of_ble_eq_true rfl) ⟨hcl, hsl⟩) hS1 (fun u M2 H2 locs2 h2 hH2 hS2 => ?_)
  refine lv_istore (lv' := [(6, .int u), (5, .int k), (4, .int (nI (5 * n))), (3, .ref o), (2, .ref mo), (1, .ref x), (0, .ref b)]) C.1 C.2.1 dL_law_395 hl (by decide) rfl (fun ls hl => ?_)
  exact k_tail (pc := 397) hC hcl hsl (kc_apart hI hm ht ho hN (by omega) (ed_no hE hH1) (ed_no hE hH2) (xs (5 * n + 1)) (xs (5 * n + 2)) h1 h2) hH2 hS2 hl dL_law_397 dL_law_398 dL_law_401 dL_law_403 dL_law_408 dL_law_410 dL_law_413 dL_law_414 dL_law_415 dL_law_416 dL_law_418 dL_law_419 dL_law_420 dL_law_425 (by decide) (fun ls' z1 z2 => kk M2 H2 locs2 ls' z1 hH2 hS2 z2)
set_option maxHeartbeats 4000000 in
set_option maxRecDepth 100000 in
theorem k_bath {p : Program} {l : Launch} {e : Env} {s : State} {m : MethodId} {below : List Frame} {meth : Method} {c : Code} {b L : Nat} {xs : Nat → Int32} {g : gG} {Q : State → Prop} {M : Mp} {x mo o n : Nat} {H : Heap} {locs : List Loc} {cells slots : Nat} {ls : Array Slot} (hlx : l.stackTraces = false) (hC : kcx p m c s b L xs g) (hLS : krS g M x mo o n) (hn : n < 512) (hj : 5 * n + 5 ≤ L) (hcl : cells + 6 ≤ 601024) (hsl : slots + 230 ≤ 7293033) (hH : Hw g M H) (hS : va_S (gA g) s.heap H locs) (hl : lv_has ls 7 [(4, .int (nI (5 * n))), (3, .ref o), (2, .ref mo), (1, .ref x), (0, .ref b)]) (kk : ∀ (M' : Mp) (H' : Heap) (locs' : List Loc) (ls' : Array Slot), krS g M' x mo o (n + 1) → Hw g M' H' → va_S (gA g) s.heap H' locs' → lv_has ls' 7 [(4, .int (nI (5 * n))), (3, .ref o), (2, .ref mo), (1, .ref x), (0, .ref b)] → W p l e room_1 s m #[Value.ref b] below meth c H' locs' (cells + 6) (slots + 230) Q (F0 m 1492 ls' [])) : W p l e room_1 s m #[Value.ref b] below meth c H locs cells slots Q (F0 m 428 ls []) := by
  obtain ⟨C, hE, hX, hbl, hbA, hL⟩ := id hC
  obtain ⟨f0, ad, sc, ar, ⟨tg, A, pr, br, np, hh, ne, nb, no, hI, hm, ht, ho⟩, hN⟩ := hLS
  obtain ⟨⟨hs0, hs5, hs9⟩, iX, iE, iB, iO, -⟩ := id hI
  refine lv_aload_n C.1 C.2.1 dL_law_428 rfl (lv_at hl 3 rfl) ?_
  refine ksarg (a := 5 * n) (k := 1) (iv := 1) hC hS (lv_at hl 4 rfl) (lv_at hl 0 rfl) (by omega) rfl dL_law_429 dL_law_430 dL_law_432 dL_law_433 dL_law_434 ?_
  refine ksarg (a := 5 * n) (k := 2) (iv := 2) hC hS (lv_at hl 4 rfl) (lv_at hl 0 rfl) (by omega) rfl dL_law_435 dL_law_436 dL_law_438 dL_law_439 dL_law_440 ?_
  refine lv_aload_n C.1 C.2.1 dL_law_441 rfl (lv_at hl 1 rfl) ?_
  refine wr_go1 (runT C hE hH hS (l_bath hlx hI ho ht.2.1 (xs (5 * n + 1)) (xs (5 * n + 2))) mv_L_bath wm_382 hl.1 dL_law_442 rfl rfl ⟨rfl, rfl⟩ ⟨Nat.le_of_ble_eq_true rfl, Nat.le_of_ble_eq_true rfl⟩ (Nat.le_of_ble_eq_true rfl) ⟨hcl, hsl⟩) hS (fun k M1 H1 locs1 h1 hH1 hS1 => ?_)
  refine lv_istore (lv' := [(5, .int k), (4, .int (nI (5 * n))), (3, .ref o), (2, .ref mo), (1, .ref x), (0, .ref b)]) C.1 C.2.1 dL_law_445 hl (by decide) rfl (fun ls hl => ?_)
  have hm1 := lq_mi hm ht ho (ed_no hE hH1) (krQ2_or h1)
  refine lv_aload_n C.1 C.2.1 dL_law_447 rfl (lv_at hl 3 rfl) ?_
  refine ksarg (a := 5 * n) (k := 1) (iv := 1) hC hS1 (lv_at hl 5 rfl) (lv_at hl 1 rfl) (by omega) rfl dL_law_448 dL_law_449 dL_law_451 dL_law_452 dL_law_453 ?_
  refine ksarg (a := 5 * n) (k := 2) (iv := 2) hC hS1 (lv_at hl 5 rfl) (lv_at hl 1 rfl) (by omega) rfl dL_law_454 dL_law_455 dL_law_457 dL_law_458 dL_law_459 ?_
  refine wr_go1 (runV C hE hH1 hS1 (mw_bath hm1 hs0 hs5 hs9 iE.1 iB.1 iO.1 (xs (5 * n + 1)) (xs (5 * n + 2))) mv_X6_bath wm_844 hm1.1 rfl rfl hl.1 dL_law_460 rfl rfl ⟨rfl, rfl⟩ ⟨Nat.le_of_ble_eq_true rfl, Nat.le_of_ble_eq_true rfl⟩ (Nat.le_of_ble_eq_true rfl) ⟨hcl, hsl⟩) hS1 (fun u M2 H2 locs2 h2 hH2 hS2 => ?_)
  refine lv_istore (lv' := [(6, .int u), (5, .int k), (4, .int (nI (5 * n))), (3, .ref o), (2, .ref mo), (1, .ref x), (0, .ref b)]) C.1 C.2.1 dL_law_463 hl (by decide) rfl (fun ls hl => ?_)
  exact k_tail (pc := 465) hC hcl hsl (kc_bath hI hm ht ho hN (by omega) (ed_no hE hH1) (ed_no hE hH2) (xs (5 * n + 1)) (xs (5 * n + 2)) h1 h2) hH2 hS2 hl dL_law_465 dL_law_466 dL_law_469 dL_law_471 dL_law_476 dL_law_478 dL_law_481 dL_law_482 dL_law_483 dL_law_484 dL_law_486 dL_law_487 dL_law_488 dL_law_493 (by decide) (fun ls' z1 z2 => kk M2 H2 locs2 ls' z1 hH2 hS2 z2)
set_option maxHeartbeats 4000000 in
set_option maxRecDepth 100000 in
theorem k_freshen {p : Program} {l : Launch} {e : Env} {s : State} {m : MethodId} {below : List Frame} {meth : Method} {c : Code} {b L : Nat} {xs : Nat → Int32} {g : gG} {Q : State → Prop} {M : Mp} {x mo o n : Nat} {H : Heap} {locs : List Loc} {cells slots : Nat} {ls : Array Slot} (hlx : l.stackTraces = false) (hC : kcx p m c s b L xs g) (hLS : krS g M x mo o n) (hn : n < 512) (hj : 5 * n + 5 ≤ L) (hcl : cells + 6 ≤ 601024) (hsl : slots + 230 ≤ 7293033) (hH : Hw g M H) (hS : va_S (gA g) s.heap H locs) (hl : lv_has ls 7 [(4, .int (nI (5 * n))), (3, .ref o), (2, .ref mo), (1, .ref x), (0, .ref b)]) (kk : ∀ (M' : Mp) (H' : Heap) (locs' : List Loc) (ls' : Array Slot), krS g M' x mo o (n + 1) → Hw g M' H' → va_S (gA g) s.heap H' locs' → lv_has ls' 7 [(4, .int (nI (5 * n))), (3, .ref o), (2, .ref mo), (1, .ref x), (0, .ref b)] → W p l e room_1 s m #[Value.ref b] below meth c H' locs' (cells + 6) (slots + 230) Q (F0 m 1492 ls' [])) : W p l e room_1 s m #[Value.ref b] below meth c H locs cells slots Q (F0 m 496 ls []) := by
  obtain ⟨C, hE, hX, hbl, hbA, hL⟩ := id hC
  obtain ⟨f0, ad, sc, ar, ⟨tg, A, pr, br, np, hh, ne, nb, no, hI, hm, ht, ho⟩, hN⟩ := hLS
  obtain ⟨⟨hs0, hs5, hs9⟩, iX, iE, iB, iO, -⟩ := id hI
  refine lv_aload_n C.1 C.2.1 dL_law_496 rfl (lv_at hl 3 rfl) ?_
  refine ksarg (a := 5 * n) (k := 1) (iv := 1) hC hS (lv_at hl 4 rfl) (lv_at hl 0 rfl) (by omega) rfl dL_law_497 dL_law_498 dL_law_500 dL_law_501 dL_law_502 ?_
  refine lv_aload_n C.1 C.2.1 dL_law_503 rfl (lv_at hl 1 rfl) ?_
  refine wr_go1 (runT C hE hH hS (l_freshen hlx hI ho ht.2.1 (xs (5 * n + 1))) mv_L_freshen wm_418 hl.1 dL_law_504 rfl rfl ⟨rfl, rfl⟩ ⟨Nat.le_of_ble_eq_true rfl, Nat.le_of_ble_eq_true rfl⟩ (Nat.le_of_ble_eq_true rfl) ⟨hcl, hsl⟩) hS (fun k M1 H1 locs1 h1 hH1 hS1 => ?_)
  refine lv_istore (lv' := [(5, .int k), (4, .int (nI (5 * n))), (3, .ref o), (2, .ref mo), (1, .ref x), (0, .ref b)]) C.1 C.2.1 dL_law_507 hl (by decide) rfl (fun ls hl => ?_)
  have hm1 := lq_mi hm ht ho (ed_no hE hH1) (krQ1_or h1)
  refine lv_aload_n C.1 C.2.1 dL_law_509 rfl (lv_at hl 3 rfl) ?_
  refine ksarg (a := 5 * n) (k := 1) (iv := 1) hC hS1 (lv_at hl 5 rfl) (lv_at hl 1 rfl) (by omega) rfl dL_law_510 dL_law_511 dL_law_513 dL_law_514 dL_law_515 ?_
  refine wr_go1 (runV C hE hH1 hS1 (mw_freshen hm1 hs0 hs5 hs9 iE.1 iB.1 iO.1 (xs (5 * n + 1))) mv_X6_freshen wm_848 hm1.1 rfl rfl hl.1 dL_law_516 rfl rfl ⟨rfl, rfl⟩ ⟨Nat.le_of_ble_eq_true rfl, Nat.le_of_ble_eq_true rfl⟩ (Nat.le_of_ble_eq_true rfl) ⟨hcl, hsl⟩) hS1 (fun u M2 H2 locs2 h2 hH2 hS2 => ?_)
  refine lv_istore (lv' := [(6, .int u), (5, .int k), (4, .int (nI (5 * n))), (3, .ref o), (2, .ref mo), (1, .ref x), (0, .ref b)]) C.1 C.2.1 dL_law_519 hl (by decide) rfl (fun ls hl => ?_)
  exact k_tail (pc := 521) hC hcl hsl (kc_freshen hI hm ht ho hN (by omega) (ed_no hE hH1) (ed_no hE hH2) (xs (5 * n + 1)) h1 h2) hH2 hS2 hl dL_law_521 dL_law_522 dL_law_525 dL_law_527 dL_law_532 dL_law_534 dL_law_537 dL_law_538 dL_law_539 dL_law_540 dL_law_542 dL_law_543 dL_law_544 dL_law_549 (by decide) (fun ls' z1 z2 => kk M2 H2 locs2 ls' z1 hH2 hS2 z2)
set_option maxHeartbeats 4000000 in
set_option maxRecDepth 100000 in
theorem k_strength {p : Program} {l : Launch} {e : Env} {s : State} {m : MethodId} {below : List Frame} {meth : Method} {c : Code} {b L : Nat} {xs : Nat → Int32} {g : gG} {Q : State → Prop} {M : Mp} {x mo o n : Nat} {H : Heap} {locs : List Loc} {cells slots : Nat} {ls : Array Slot} (hlx : l.stackTraces = false) (hC : kcx p m c s b L xs g) (hLS : krS g M x mo o n) (hn : n < 512) (hj : 5 * n + 5 ≤ L) (hcl : cells + 6 ≤ 601024) (hsl : slots + 230 ≤ 7293033) (hH : Hw g M H) (hS : va_S (gA g) s.heap H locs) (hl : lv_has ls 7 [(4, .int (nI (5 * n))), (3, .ref o), (2, .ref mo), (1, .ref x), (0, .ref b)]) (kk : ∀ (M' : Mp) (H' : Heap) (locs' : List Loc) (ls' : Array Slot), krS g M' x mo o (n + 1) → Hw g M' H' → va_S (gA g) s.heap H' locs' → lv_has ls' 7 [(4, .int (nI (5 * n))), (3, .ref o), (2, .ref mo), (1, .ref x), (0, .ref b)] → W p l e room_1 s m #[Value.ref b] below meth c H' locs' (cells + 6) (slots + 230) Q (F0 m 1492 ls' [])) : W p l e room_1 s m #[Value.ref b] below meth c H locs cells slots Q (F0 m 552 ls []) := by
  obtain ⟨C, hE, hX, hbl, hbA, hL⟩ := id hC
  obtain ⟨f0, ad, sc, ar, ⟨tg, A, pr, br, np, hh, ne, nb, no, hI, hm, ht, ho⟩, hN⟩ := hLS
  obtain ⟨⟨hs0, hs5, hs9⟩, iX, iE, iB, iO, -⟩ := id hI
  refine lv_aload_n C.1 C.2.1 dL_law_552 rfl (lv_at hl 3 rfl) ?_
  refine ksarg (a := 5 * n) (k := 1) (iv := 1) hC hS (lv_at hl 4 rfl) (lv_at hl 0 rfl) (by omega) rfl dL_law_553 dL_law_554 dL_law_556 dL_law_557 dL_law_558 ?_
  refine lv_aload_n C.1 C.2.1 dL_law_559 rfl (lv_at hl 1 rfl) ?_
  refine wr_go1 (runT C hE hH hS (l_strength hlx hI ho ht.2.1 (xs (5 * n + 1))) mv_L_strength wm_433 hl.1 dL_law_560 rfl rfl ⟨rfl, rfl⟩ ⟨Nat.le_of_ble_eq_true rfl, Nat.le_of_ble_eq_true rfl⟩ (Nat.le_of_ble_eq_true rfl) ⟨hcl, hsl⟩) hS (fun k M1 H1 locs1 h1 hH1 hS1 => ?_)
  refine lv_istore (lv' := [(5, .int k), (4, .int (nI (5 * n))), (3, .ref o), (2, .ref mo), (1, .ref x), (0, .ref b)]) C.1 C.2.1 dL_law_563 hl (by decide) rfl (fun ls hl => ?_)
  have hm1 := lq_mi hm ht ho (ed_no hE hH1) (krQ1_or h1)
  refine lv_aload_n C.1 C.2.1 dL_law_565 rfl (lv_at hl 3 rfl) ?_
  refine ksarg (a := 5 * n) (k := 1) (iv := 1) hC hS1 (lv_at hl 5 rfl) (lv_at hl 1 rfl) (by omega) rfl dL_law_566 dL_law_567 dL_law_569 dL_law_570 dL_law_571 ?_
  refine wr_go1 (runV C hE hH1 hS1 (mw_strength hm1 hs0 hs5 hs9 iE.1 iB.1 iO.1 (xs (5 * n + 1))) mv_X6_strength wm_856 hm1.1 rfl rfl hl.1 dL_law_572 rfl rfl ⟨rfl, rfl⟩ ⟨Nat.le_of_ble_eq_true rfl, Nat.le_of_ble_eq_true rfl⟩ (Nat.le_of_ble_eq_true rfl) ⟨hcl, hsl⟩) hS1 (fun u M2 H2 locs2 h2 hH2 hS2 => ?_)
  refine lv_istore (lv' := [(6, .int u), (5, .int k), (4, .int (nI (5 * n))), (3, .ref o), (2, .ref mo), (1, .ref x), (0, .ref b)]) C.1 C.2.1 dL_law_575 hl (by decide) rfl (fun ls hl => ?_)
  exact k_tail (pc := 577) hC hcl hsl (kc_strength hI hm ht ho hN (by omega) (ed_no hE hH1) (ed_no hE hH2) (xs (5 * n + 1)) h1 h2) hH2 hS2 hl dL_law_577 dL_law_578 dL_law_581 dL_law_583 dL_law_588 dL_law_590 dL_law_593 dL_law_594 dL_law_595 dL_law_596 dL_law_598 dL_law_599 dL_law_600 dL_law_605 (by decide) (fun ls' z1 z2 => kk M2 H2 locs2 ls' z1 hH2 hS2 z2)
set_option maxHeartbeats 4000000 in
set_option maxRecDepth 100000 in
theorem k_order {p : Program} {l : Launch} {e : Env} {s : State} {m : MethodId} {below : List Frame} {meth : Method} {c : Code} {b L : Nat} {xs : Nat → Int32} {g : gG} {Q : State → Prop} {M : Mp} {x mo o n : Nat} {H : Heap} {locs : List Loc} {cells slots : Nat} {ls : Array Slot} (hlx : l.stackTraces = false) (hC : kcx p m c s b L xs g) (hLS : krS g M x mo o n) (hn : n < 512) (hj : 5 * n + 5 ≤ L) (hcl : cells + 6 ≤ 601024) (hsl : slots + 230 ≤ 7293033) (hH : Hw g M H) (hS : va_S (gA g) s.heap H locs) (hl : lv_has ls 7 [(4, .int (nI (5 * n))), (3, .ref o), (2, .ref mo), (1, .ref x), (0, .ref b)]) (kk : ∀ (M' : Mp) (H' : Heap) (locs' : List Loc) (ls' : Array Slot), krS g M' x mo o (n + 1) → Hw g M' H' → va_S (gA g) s.heap H' locs' → lv_has ls' 7 [(4, .int (nI (5 * n))), (3, .ref o), (2, .ref mo), (1, .ref x), (0, .ref b)] → W p l e room_1 s m #[Value.ref b] below meth c H' locs' (cells + 6) (slots + 230) Q (F0 m 1492 ls' [])) : W p l e room_1 s m #[Value.ref b] below meth c H locs cells slots Q (F0 m 608 ls []) := by
  obtain ⟨C, hE, hX, hbl, hbA, hL⟩ := id hC
  obtain ⟨f0, ad, sc, ar, ⟨tg, A, pr, br, np, hh, ne, nb, no, hI, hm, ht, ho⟩, hN⟩ := hLS
  obtain ⟨⟨hs0, hs5, hs9⟩, iX, iE, iB, iO, -⟩ := id hI
  refine lv_aload_n C.1 C.2.1 dL_law_608 rfl (lv_at hl 3 rfl) ?_
  refine ksarg (a := 5 * n) (k := 1) (iv := 1) hC hS (lv_at hl 4 rfl) (lv_at hl 0 rfl) (by omega) rfl dL_law_609 dL_law_610 dL_law_612 dL_law_613 dL_law_614 ?_
  refine ksarg (a := 5 * n) (k := 2) (iv := 2) hC hS (lv_at hl 4 rfl) (lv_at hl 0 rfl) (by omega) rfl dL_law_615 dL_law_616 dL_law_618 dL_law_619 dL_law_620 ?_
  refine ksarg (a := 5 * n) (k := 3) (iv := 3) hC hS (lv_at hl 4 rfl) (lv_at hl 0 rfl) (by omega) rfl dL_law_621 dL_law_622 dL_law_624 dL_law_625 dL_law_626 ?_
  refine lv_aload_n C.1 C.2.1 dL_law_627 rfl (lv_at hl 1 rfl) ?_
  refine wr_go1 (runT C hE hH hS (l_order hlx hI ho ht.2.1 (xs (5 * n + 1)) (xs (5 * n + 2)) (xs (5 * n + 3))) mv_L_order wm_440 hl.1 dL_law_628 rfl rfl ⟨rfl, rfl⟩ ⟨Nat.le_of_ble_eq_true rfl, Nat.le_of_ble_eq_true rfl⟩ (Nat.le_of_ble_eq_true rfl) ⟨hcl, hsl⟩) hS (fun k M1 H1 locs1 h1 hH1 hS1 => ?_)
  refine lv_istore (lv' := [(5, .int k), (4, .int (nI (5 * n))), (3, .ref o), (2, .ref mo), (1, .ref x), (0, .ref b)]) C.1 C.2.1 dL_law_631 hl (by decide) rfl (fun ls hl => ?_)
  have hm1 := lq_mi hm ht ho (ed_no hE hH1) (krQ3_or h1)
  refine lv_aload_n C.1 C.2.1 dL_law_633 rfl (lv_at hl 3 rfl) ?_
  refine ksarg (a := 5 * n) (k := 1) (iv := 1) hC hS1 (lv_at hl 5 rfl) (lv_at hl 1 rfl) (by omega) rfl dL_law_634 dL_law_635 dL_law_637 dL_law_638 dL_law_639 ?_
  refine ksarg (a := 5 * n) (k := 2) (iv := 2) hC hS1 (lv_at hl 5 rfl) (lv_at hl 1 rfl) (by omega) rfl dL_law_640 dL_law_641 dL_law_643 dL_law_644 dL_law_645 ?_
  refine ksarg (a := 5 * n) (k := 3) (iv := 3) hC hS1 (lv_at hl 5 rfl) (lv_at hl 1 rfl) (by omega) rfl dL_law_646 dL_law_647 dL_law_649 dL_law_650 dL_law_651 ?_
  refine wr_go1 (runV C hE hH1 hS1 (mw_order hm1 hs0 hs5 hs9 iE.1 iB.1 iO.1 (xs (5 * n + 1)) (xs (5 * n + 2)) (xs (5 * n + 3))) mv_X6_order wm_860 hm1.1 rfl rfl hl.1 dL_law_652 rfl rfl ⟨rfl, rfl⟩ ⟨Nat.le_of_ble_eq_true rfl, Nat.le_of_ble_eq_true rfl⟩ (Nat.le_of_ble_eq_true rfl) ⟨hcl, hsl⟩) hS1 (fun u M2 H2 locs2 h2 hH2 hS2 => ?_)
  refine lv_istore (lv' := [(6, .int u), (5, .int k), (4, .int (nI (5 * n))), (3, .ref o), (2, .ref mo), (1, .ref x), (0, .ref b)]) C.1 C.2.1 dL_law_655 hl (by decide) rfl (fun ls hl => ?_)
  exact k_tail (pc := 657) hC hcl hsl (kc_order hI hm ht ho hN (by omega) (ed_no hE hH1) (ed_no hE hH2) (xs (5 * n + 1)) (xs (5 * n + 2)) (xs (5 * n + 3)) h1 h2) hH2 hS2 hl dL_law_657 dL_law_658 dL_law_661 dL_law_663 dL_law_668 dL_law_670 dL_law_673 dL_law_674 dL_law_675 dL_law_676 dL_law_678 dL_law_679 dL_law_680 dL_law_685 (by decide) (fun ls' z1 z2 => kk M2 H2 locs2 ls' z1 hH2 hS2 z2)
set_option maxHeartbeats 4000000 in
set_option maxRecDepth 100000 in
theorem k_place {p : Program} {l : Launch} {e : Env} {s : State} {m : MethodId} {below : List Frame} {meth : Method} {c : Code} {b L : Nat} {xs : Nat → Int32} {g : gG} {Q : State → Prop} {M : Mp} {x mo o n : Nat} {H : Heap} {locs : List Loc} {cells slots : Nat} {ls : Array Slot} (hlx : l.stackTraces = false) (hC : kcx p m c s b L xs g) (hLS : krS g M x mo o n) (hn : n < 512) (hj : 5 * n + 5 ≤ L) (hcl : cells + 6 ≤ 601024) (hsl : slots + 230 ≤ 7293033) (hH : Hw g M H) (hS : va_S (gA g) s.heap H locs) (hl : lv_has ls 7 [(4, .int (nI (5 * n))), (3, .ref o), (2, .ref mo), (1, .ref x), (0, .ref b)]) (kk : ∀ (M' : Mp) (H' : Heap) (locs' : List Loc) (ls' : Array Slot), krS g M' x mo o (n + 1) → Hw g M' H' → va_S (gA g) s.heap H' locs' → lv_has ls' 7 [(4, .int (nI (5 * n))), (3, .ref o), (2, .ref mo), (1, .ref x), (0, .ref b)] → W p l e room_1 s m #[Value.ref b] below meth c H' locs' (cells + 6) (slots + 230) Q (F0 m 1492 ls' [])) : W p l e room_1 s m #[Value.ref b] below meth c H locs cells slots Q (F0 m 688 ls []) := by
  obtain ⟨C, hE, hX, hbl, hbA, hL⟩ := id hC
  obtain ⟨f0, ad, sc, ar, ⟨tg, A, pr, br, np, hh, ne, nb, no, hI, hm, ht, ho⟩, hN⟩ := hLS
  obtain ⟨⟨hs0, hs5, hs9⟩, iX, iE, iB, iO, -⟩ := id hI
  refine lv_aload_n C.1 C.2.1 dL_law_688 rfl (lv_at hl 3 rfl) ?_
  refine ksarg (a := 5 * n) (k := 1) (iv := 1) hC hS (lv_at hl 4 rfl) (lv_at hl 0 rfl) (by omega) rfl dL_law_689 dL_law_690 dL_law_692 dL_law_693 dL_law_694 ?_
  refine lv_aload_n C.1 C.2.1 dL_law_695 rfl (lv_at hl 1 rfl) ?_
  refine wr_go1 (runT C hE hH hS (l_place hlx hI ho ht.2.1 (xs (5 * n + 1))) mv_L_place wm_477 hl.1 dL_law_696 rfl rfl ⟨rfl, rfl⟩ ⟨Nat.le_of_ble_eq_true rfl, Nat.le_of_ble_eq_true rfl⟩ (Nat.le_of_ble_eq_true rfl) ⟨hcl, hsl⟩) hS (fun k M1 H1 locs1 h1 hH1 hS1 => ?_)
  refine lv_istore (lv' := [(5, .int k), (4, .int (nI (5 * n))), (3, .ref o), (2, .ref mo), (1, .ref x), (0, .ref b)]) C.1 C.2.1 dL_law_699 hl (by decide) rfl (fun ls hl => ?_)
  have hm1 := lq_mi hm ht ho (ed_no hE hH1) (krQ3_or h1)
  refine lv_aload_n C.1 C.2.1 dL_law_701 rfl (lv_at hl 3 rfl) ?_
  refine ksarg (a := 5 * n) (k := 1) (iv := 1) hC hS1 (lv_at hl 5 rfl) (lv_at hl 1 rfl) (by omega) rfl dL_law_702 dL_law_703 dL_law_705 dL_law_706 dL_law_707 ?_
  refine wr_go1 (runV C hE hH1 hS1 (mw_place hm1 hs0 hs5 hs9 iE.1 iB.1 iO.1 (RI_PO hI) (xs (5 * n + 1))) mv_X6_place wm_868 hm1.1 rfl rfl hl.1 dL_law_708 rfl rfl ⟨rfl, rfl⟩ ⟨Nat.le_of_ble_eq_true rfl, Nat.le_of_ble_eq_true rfl⟩ (Nat.le_of_ble_eq_true rfl) ⟨hcl, hsl⟩) hS1 (fun u M2 H2 locs2 h2 hH2 hS2 => ?_)
  refine lv_istore (lv' := [(6, .int u), (5, .int k), (4, .int (nI (5 * n))), (3, .ref o), (2, .ref mo), (1, .ref x), (0, .ref b)]) C.1 C.2.1 dL_law_711 hl (by decide) rfl (fun ls hl => ?_)
  exact k_tail (pc := 713) hC hcl hsl (kc_place hI hm ht ho hN (by omega) (ed_no hE hH1) (ed_no hE hH2) (xs (5 * n + 1)) h1 h2) hH2 hS2 hl dL_law_713 dL_law_714 dL_law_717 dL_law_719 dL_law_724 dL_law_726 dL_law_729 dL_law_730 dL_law_731 dL_law_732 dL_law_734 dL_law_735 dL_law_736 dL_law_741 (by decide) (fun ls' z1 z2 => kk M2 H2 locs2 ls' z1 hH2 hS2 z2)
set_option maxHeartbeats 4000000 in
set_option maxRecDepth 100000 in
theorem k_dye {p : Program} {l : Launch} {e : Env} {s : State} {m : MethodId} {below : List Frame} {meth : Method} {c : Code} {b L : Nat} {xs : Nat → Int32} {g : gG} {Q : State → Prop} {M : Mp} {x mo o n : Nat} {H : Heap} {locs : List Loc} {cells slots : Nat} {ls : Array Slot} (hlx : l.stackTraces = false) (hC : kcx p m c s b L xs g) (hLS : krS g M x mo o n) (hn : n < 512) (hj : 5 * n + 5 ≤ L) (hcl : cells + 6 ≤ 601024) (hsl : slots + 230 ≤ 7293033) (hH : Hw g M H) (hS : va_S (gA g) s.heap H locs) (hl : lv_has ls 7 [(4, .int (nI (5 * n))), (3, .ref o), (2, .ref mo), (1, .ref x), (0, .ref b)]) (kk : ∀ (M' : Mp) (H' : Heap) (locs' : List Loc) (ls' : Array Slot), krS g M' x mo o (n + 1) → Hw g M' H' → va_S (gA g) s.heap H' locs' → lv_has ls' 7 [(4, .int (nI (5 * n))), (3, .ref o), (2, .ref mo), (1, .ref x), (0, .ref b)] → W p l e room_1 s m #[Value.ref b] below meth c H' locs' (cells + 6) (slots + 230) Q (F0 m 1492 ls' [])) : W p l e room_1 s m #[Value.ref b] below meth c H locs cells slots Q (F0 m 744 ls []) := by
  obtain ⟨C, hE, hX, hbl, hbA, hL⟩ := id hC
  obtain ⟨f0, ad, sc, ar, ⟨tg, A, pr, br, np, hh, ne, nb, no, hI, hm, ht, ho⟩, hN⟩ := hLS
  obtain ⟨⟨hs0, hs5, hs9⟩, iX, iE, iB, iO, -⟩ := id hI
  refine lv_aload_n C.1 C.2.1 dL_law_744 rfl (lv_at hl 3 rfl) ?_
  refine ksarg (a := 5 * n) (k := 1) (iv := 1) hC hS (lv_at hl 4 rfl) (lv_at hl 0 rfl) (by omega) rfl dL_law_745 dL_law_746 dL_law_748 dL_law_749 dL_law_750 ?_
  refine ksarg (a := 5 * n) (k := 2) (iv := 2) hC hS (lv_at hl 4 rfl) (lv_at hl 0 rfl) (by omega) rfl dL_law_751 dL_law_752 dL_law_754 dL_law_755 dL_law_756 ?_
  refine lv_aload_n C.1 C.2.1 dL_law_757 rfl (lv_at hl 1 rfl) ?_
  refine wr_go1 (runT C hE hH hS (l_dye hlx hI ho ht.2.1 (xs (5 * n + 1)) (xs (5 * n + 2))) mv_L_dye wm_586 hl.1 dL_law_758 rfl rfl ⟨rfl, rfl⟩ ⟨Nat.le_of_ble_eq_true rfl, Nat.le_of_ble_eq_true rfl⟩ (Nat.le_of_ble_eq_true rfl) ⟨hcl, hsl⟩) hS (fun k M1 H1 locs1 h1 hH1 hS1 => ?_)
  refine lv_istore (lv' := [(5, .int k), (4, .int (nI (5 * n))), (3, .ref o), (2, .ref mo), (1, .ref x), (0, .ref b)]) C.1 C.2.1 dL_law_761 hl (by decide) rfl (fun ls hl => ?_)
  have hm1 := lq_mi hm ht ho (ed_no hE hH1) (krQ3_or h1)
  refine lv_aload_n C.1 C.2.1 dL_law_763 rfl (lv_at hl 3 rfl) ?_
  refine ksarg (a := 5 * n) (k := 1) (iv := 1) hC hS1 (lv_at hl 5 rfl) (lv_at hl 1 rfl) (by omega) rfl dL_law_764 dL_law_765 dL_law_767 dL_law_768 dL_law_769 ?_
  refine ksarg (a := 5 * n) (k := 2) (iv := 2) hC hS1 (lv_at hl 5 rfl) (lv_at hl 1 rfl) (by omega) rfl dL_law_770 dL_law_771 dL_law_773 dL_law_774 dL_law_775 ?_
  refine wr_go1 (runV C hE hH1 hS1 (mw_dye hm1 hs0 hs5 hs9 iE.1 iB.1 iO.1 (RI_PO hI) (xs (5 * n + 1)) (xs (5 * n + 2))) mv_X6_dye wm_888 hm1.1 rfl rfl hl.1 dL_law_776 rfl rfl ⟨rfl, rfl⟩ ⟨Nat.le_of_ble_eq_true rfl, Nat.le_of_ble_eq_true rfl⟩ (Nat.le_of_ble_eq_true rfl) ⟨hcl, hsl⟩) hS1 (fun u M2 H2 locs2 h2 hH2 hS2 => ?_)
  refine lv_istore (lv' := [(6, .int u), (5, .int k), (4, .int (nI (5 * n))), (3, .ref o), (2, .ref mo), (1, .ref x), (0, .ref b)]) C.1 C.2.1 dL_law_779 hl (by decide) rfl (fun ls hl => ?_)
  exact k_tail (pc := 781) hC hcl hsl (kc_dye hI hm ht ho hN (by omega) (ed_no hE hH1) (ed_no hE hH2) (xs (5 * n + 1)) (xs (5 * n + 2)) h1 h2) hH2 hS2 hl dL_law_781 dL_law_782 dL_law_785 dL_law_787 dL_law_792 dL_law_794 dL_law_797 dL_law_798 dL_law_799 dL_law_800 dL_law_802 dL_law_803 dL_law_804 dL_law_809 (by decide) (fun ls' z1 z2 => kk M2 H2 locs2 ls' z1 hH2 hS2 z2)
set_option maxHeartbeats 4000000 in
set_option maxRecDepth 100000 in
theorem k_claim {p : Program} {l : Launch} {e : Env} {s : State} {m : MethodId} {below : List Frame} {meth : Method} {c : Code} {b L : Nat} {xs : Nat → Int32} {g : gG} {Q : State → Prop} {M : Mp} {x mo o n : Nat} {H : Heap} {locs : List Loc} {cells slots : Nat} {ls : Array Slot} (hlx : l.stackTraces = false) (hC : kcx p m c s b L xs g) (hLS : krS g M x mo o n) (hn : n < 512) (hj : 5 * n + 5 ≤ L) (hcl : cells + 6 ≤ 601024) (hsl : slots + 230 ≤ 7293033) (hH : Hw g M H) (hS : va_S (gA g) s.heap H locs) (hl : lv_has ls 7 [(4, .int (nI (5 * n))), (3, .ref o), (2, .ref mo), (1, .ref x), (0, .ref b)]) (kk : ∀ (M' : Mp) (H' : Heap) (locs' : List Loc) (ls' : Array Slot), krS g M' x mo o (n + 1) → Hw g M' H' → va_S (gA g) s.heap H' locs' → lv_has ls' 7 [(4, .int (nI (5 * n))), (3, .ref o), (2, .ref mo), (1, .ref x), (0, .ref b)] → W p l e room_1 s m #[Value.ref b] below meth c H' locs' (cells + 6) (slots + 230) Q (F0 m 1492 ls' [])) : W p l e room_1 s m #[Value.ref b] below meth c H locs cells slots Q (F0 m 812 ls []) := by
  obtain ⟨C, hE, hX, hbl, hbA, hL⟩ := id hC
  obtain ⟨f0, ad, sc, ar, ⟨tg, A, pr, br, np, hh, ne, nb, no, hI, hm, ht, ho⟩, hN⟩ := hLS
  obtain ⟨⟨hs0, hs5, hs9⟩, iX, iE, iB, iO, -⟩ := id hI
  refine lv_aload_n C.1 C.2.1 dL_law_812 rfl (lv_at hl 3 rfl) ?_
  refine ksarg (a := 5 * n) (k := 1) (iv := 1) hC hS (lv_at hl 4 rfl) (lv_at hl 0 rfl) (by omega) rfl dL_law_813 dL_law_814 dL_law_816 dL_law_817 dL_law_818 ?_
  refine lv_aload_n C.1 C.2.1 dL_law_819 rfl (lv_at hl 1 rfl) ?_
  refine wr_go1 (runT C hE hH hS (l_claim hlx hI ho ht.2.1 (xs (5 * n + 1))) mv_L_claim wm_599 hl.1 dL_law_820 rfl rfl ⟨rfl, rfl⟩ ⟨Nat.le_of_ble_eq_true rfl, Nat.le_of_ble_eq_true rfl⟩ (Nat.le_of_ble_eq_true rfl) ⟨hcl, hsl⟩) hS (fun k M1 H1 locs1 h1 hH1 hS1 => ?_)
  refine lv_istore (lv' := [(5, .int k), (4, .int (nI (5 * n))), (3, .ref o), (2, .ref mo), (1, .ref x), (0, .ref b)]) C.1 C.2.1 dL_law_823 hl (by decide) rfl (fun ls hl => ?_)
  have hm1 := lq_mi hm ht ho (ed_no hE hH1) (krQ2_or h1)
  refine lv_aload_n C.1 C.2.1 dL_law_825 rfl (lv_at hl 3 rfl) ?_
  refine ksarg (a := 5 * n) (k := 1) (iv := 1) hC hS1 (lv_at hl 5 rfl) (lv_at hl 1 rfl) (by omega) rfl dL_law_826 dL_law_827 dL_law_829 dL_law_830 dL_law_831 ?_
  refine wr_go1 (runV C hE hH1 hS1 (mw_claim hm1 hs0 hs5 hs9 iE.1 iB.1 iO.1 (RI_PO hI) (xs (5 * n + 1))) mv_X6_claim wm_896 hm1.1 rfl rfl hl.1 dL_law_832 rfl rfl ⟨rfl, rfl⟩ ⟨Nat.le_of_ble_eq_true rfl, Nat.le_of_ble_eq_true rfl⟩ (Nat.le_of_ble_eq_true rfl) ⟨hcl, hsl⟩) hS1 (fun u M2 H2 locs2 h2 hH2 hS2 => ?_)
  refine lv_istore (lv' := [(6, .int u), (5, .int k), (4, .int (nI (5 * n))), (3, .ref o), (2, .ref mo), (1, .ref x), (0, .ref b)]) C.1 C.2.1 dL_law_835 hl (by decide) rfl (fun ls hl => ?_)
  exact k_tail (pc := 837) hC hcl hsl (kc_claim hI hm ht ho hN (by omega) (ed_no hE hH1) (ed_no hE hH2) (xs (5 * n + 1)) h1 h2) hH2 hS2 hl dL_law_837 dL_law_838 dL_law_841 dL_law_843 dL_law_848 dL_law_850 dL_law_853 dL_law_854 dL_law_855 dL_law_856 dL_law_858 dL_law_859 dL_law_860 dL_law_865 (by decide) (fun ls' z1 z2 => kk M2 H2 locs2 ls' z1 hH2 hS2 z2)
set_option maxHeartbeats 4000000 in
set_option maxRecDepth 100000 in
theorem k_stateOf {p : Program} {l : Launch} {e : Env} {s : State} {m : MethodId} {below : List Frame} {meth : Method} {c : Code} {b L : Nat} {xs : Nat → Int32} {g : gG} {Q : State → Prop} {M : Mp} {x mo o n : Nat} {H : Heap} {locs : List Loc} {cells slots : Nat} {ls : Array Slot} (hlx : l.stackTraces = false) (hC : kcx p m c s b L xs g) (hLS : krS g M x mo o n) (hn : n < 512) (hj : 5 * n + 5 ≤ L) (hcl : cells + 6 ≤ 601024) (hsl : slots + 230 ≤ 7293033) (hH : Hw g M H) (hS : va_S (gA g) s.heap H locs) (hl : lv_has ls 7 [(4, .int (nI (5 * n))), (3, .ref o), (2, .ref mo), (1, .ref x), (0, .ref b)]) (kk : ∀ (M' : Mp) (H' : Heap) (locs' : List Loc) (ls' : Array Slot), krS g M' x mo o (n + 1) → Hw g M' H' → va_S (gA g) s.heap H' locs' → lv_has ls' 7 [(4, .int (nI (5 * n))), (3, .ref o), (2, .ref mo), (1, .ref x), (0, .ref b)] → W p l e room_1 s m #[Value.ref b] below meth c H' locs' (cells + 6) (slots + 230) Q (F0 m 1492 ls' [])) : W p l e room_1 s m #[Value.ref b] below meth c H locs cells slots Q (F0 m 868 ls []) := by
  obtain ⟨C, hE, hX, hbl, hbA, hL⟩ := id hC
  obtain ⟨f0, ad, sc, ar, ⟨tg, A, pr, br, np, hh, ne, nb, no, hI, hm, ht, ho⟩, hN⟩ := hLS
  obtain ⟨⟨hs0, hs5, hs9⟩, iX, iE, iB, iO, -⟩ := id hI
  refine lv_aload_n C.1 C.2.1 dL_law_868 rfl (lv_at hl 3 rfl) ?_
  refine ksarg (a := 5 * n) (k := 1) (iv := 1) hC hS (lv_at hl 4 rfl) (lv_at hl 0 rfl) (by omega) rfl dL_law_869 dL_law_870 dL_law_872 dL_law_873 dL_law_874 ?_
  refine lv_aload_n C.1 C.2.1 dL_law_875 rfl (lv_at hl 1 rfl) ?_
  refine wr_go1 (runT C hE hH hS (l_stateOf hlx hI ho ht.2.1 (xs (5 * n + 1))) mv_L_stateOf wm_620 hl.1 dL_law_876 rfl rfl ⟨rfl, rfl⟩ ⟨Nat.le_of_ble_eq_true rfl, Nat.le_of_ble_eq_true rfl⟩ (Nat.le_of_ble_eq_true rfl) ⟨hcl, hsl⟩) hS (fun k M1 H1 locs1 h1 hH1 hS1 => ?_)
  refine lv_istore (lv' := [(5, .int k), (4, .int (nI (5 * n))), (3, .ref o), (2, .ref mo), (1, .ref x), (0, .ref b)]) C.1 C.2.1 dL_law_879 hl (by decide) rfl (fun ls hl => ?_)
  have hm1 := lq_mi hm ht ho (ed_no hE hH1) (krQ1_or h1)
  refine lv_aload_n C.1 C.2.1 dL_law_881 rfl (lv_at hl 3 rfl) ?_
  refine ksarg (a := 5 * n) (k := 1) (iv := 1) hC hS1 (lv_at hl 5 rfl) (lv_at hl 1 rfl) (by omega) rfl dL_law_882 dL_law_883 dL_law_885 dL_law_886 dL_law_887 ?_
  refine wr_go1 (runV C hE hH1 hS1 (mw_stateOf hm1 hs0 hs5 hs9 iE.1 iB.1 iO.1 (xs (5 * n + 1))) mv_X6_stateOf wm_900 hm1.1 rfl rfl hl.1 dL_law_888 rfl rfl ⟨rfl, rfl⟩ ⟨Nat.le_of_ble_eq_true rfl, Nat.le_of_ble_eq_true rfl⟩ (Nat.le_of_ble_eq_true rfl) ⟨hcl, hsl⟩) hS1 (fun u M2 H2 locs2 h2 hH2 hS2 => ?_)
  refine lv_istore (lv' := [(6, .int u), (5, .int k), (4, .int (nI (5 * n))), (3, .ref o), (2, .ref mo), (1, .ref x), (0, .ref b)]) C.1 C.2.1 dL_law_891 hl (by decide) rfl (fun ls hl => ?_)
  exact k_tail (pc := 893) hC hcl hsl (kc_stateOf hI hm ht ho hN (by omega) (ed_no hE hH1) (ed_no hE hH2) (xs (5 * n + 1)) h1 h2) hH2 hS2 hl dL_law_893 dL_law_894 dL_law_897 dL_law_899 dL_law_904 dL_law_906 dL_law_909 dL_law_910 dL_law_911 dL_law_912 dL_law_914 dL_law_915 dL_law_916 dL_law_921 (by decide) (fun ls' z1 z2 => kk M2 H2 locs2 ls' z1 hH2 hS2 z2)
set_option maxHeartbeats 4000000 in
set_option maxRecDepth 100000 in
theorem k_colour {p : Program} {l : Launch} {e : Env} {s : State} {m : MethodId} {below : List Frame} {meth : Method} {c : Code} {b L : Nat} {xs : Nat → Int32} {g : gG} {Q : State → Prop} {M : Mp} {x mo o n : Nat} {H : Heap} {locs : List Loc} {cells slots : Nat} {ls : Array Slot} (hlx : l.stackTraces = false) (hC : kcx p m c s b L xs g) (hLS : krS g M x mo o n) (hn : n < 512) (hj : 5 * n + 5 ≤ L) (hcl : cells + 6 ≤ 601024) (hsl : slots + 230 ≤ 7293033) (hH : Hw g M H) (hS : va_S (gA g) s.heap H locs) (hl : lv_has ls 7 [(4, .int (nI (5 * n))), (3, .ref o), (2, .ref mo), (1, .ref x), (0, .ref b)]) (kk : ∀ (M' : Mp) (H' : Heap) (locs' : List Loc) (ls' : Array Slot), krS g M' x mo o (n + 1) → Hw g M' H' → va_S (gA g) s.heap H' locs' → lv_has ls' 7 [(4, .int (nI (5 * n))), (3, .ref o), (2, .ref mo), (1, .ref x), (0, .ref b)] → W p l e room_1 s m #[Value.ref b] below meth c H' locs' (cells + 6) (slots + 230) Q (F0 m 1492 ls' [])) : W p l e room_1 s m #[Value.ref b] below meth c H locs cells slots Q (F0 m 924 ls []) := by
  obtain ⟨C, hE, hX, hbl, hbA, hL⟩ := id hC
  obtain ⟨f0, ad, sc, ar, ⟨tg, A, pr, br, np, hh, ne, nb, no, hI, hm, ht, ho⟩, hN⟩ := hLS
  obtain ⟨⟨hs0, hs5, hs9⟩, iX, iE, iB, iO, -⟩ := id hI
  refine lv_aload_n C.1 C.2.1 dL_law_924 rfl (lv_at hl 3 rfl) ?_
  refine ksarg (a := 5 * n) (k := 1) (iv := 1) hC hS (lv_at hl 4 rfl) (lv_at hl 0 rfl) (by omega) rfl dL_law_925 dL_law_926 dL_law_928 dL_law_929 dL_law_930 ?_
  refine ksarg (a := 5 * n) (k := 2) (iv := 2) hC hS (lv_at hl 4 rfl) (lv_at hl 0 rfl) (by omega) rfl dL_law_931 dL_law_932 dL_law_934 dL_law_935 dL_law_936 ?_
  refine lv_aload_n C.1 C.2.1 dL_law_937 rfl (lv_at hl 1 rfl) ?_
  refine wr_go1 (runT C hE hH hS (l_colour hlx hI ho ht.2.1 (xs (5 * n + 1)) (xs (5 * n + 2))) mv_L_colour wm_627 hl.1 dL_law_938 rfl rfl ⟨rfl, rfl⟩ ⟨Nat.le_of_ble_eq_true rfl, Nat.le_of_ble_eq_true rfl⟩ (Nat.le_of_ble_eq_true rfl) ⟨hcl, hsl⟩) hS (fun k M1 H1 locs1 h1 hH1 hS1 => ?_)
  refine lv_istore (lv' := [(5, .int k), (4, .int (nI (5 * n))), (3, .ref o), (2, .ref mo), (1, .ref x), (0, .ref b)]) C.1 C.2.1 dL_law_941 hl (by decide) rfl (fun ls hl => ?_)
  have hm1 := lq_mi hm ht ho (ed_no hE hH1) (krQ2_or h1)
  refine lv_aload_n C.1 C.2.1 dL_law_943 rfl (lv_at hl 3 rfl) ?_
  refine ksarg (a := 5 * n) (k := 1) (iv := 1) hC hS1 (lv_at hl 5 rfl) (lv_at hl 1 rfl) (by omega) rfl dL_law_944 dL_law_945 dL_law_947 dL_law_948 dL_law_949 ?_
  refine ksarg (a := 5 * n) (k := 2) (iv := 2) hC hS1 (lv_at hl 5 rfl) (lv_at hl 1 rfl) (by omega) rfl dL_law_950 dL_law_951 dL_law_953 dL_law_954 dL_law_955 ?_
  refine wr_go1 (runV C hE hH1 hS1 (mw_colour hm1 hs0 hs5 hs9 iE.1 iB.1 iO.1 (RI_PO hI) (xs (5 * n + 1)) (xs (5 * n + 2))) mv_X6_colour wm_904 hm1.1 rfl rfl hl.1 dL_law_956 rfl rfl ⟨rfl, rfl⟩ ⟨Nat.le_of_ble_eq_true rfl, Nat.le_of_ble_eq_true rfl⟩ (Nat.le_of_ble_eq_true rfl) ⟨hcl, hsl⟩) hS1 (fun u M2 H2 locs2 h2 hH2 hS2 => ?_)
  refine lv_istore (lv' := [(6, .int u), (5, .int k), (4, .int (nI (5 * n))), (3, .ref o), (2, .ref mo), (1, .ref x), (0, .ref b)]) C.1 C.2.1 dL_law_959 hl (by decide) rfl (fun ls hl => ?_)
  exact k_tail (pc := 961) hC hcl hsl (kc_colour hI hm ht ho hN (by omega) (ed_no hE hH1) (ed_no hE hH2) (xs (5 * n + 1)) (xs (5 * n + 2)) h1 h2) hH2 hS2 hl dL_law_961 dL_law_962 dL_law_965 dL_law_967 dL_law_972 dL_law_974 dL_law_977 dL_law_978 dL_law_979 dL_law_980 dL_law_982 dL_law_983 dL_law_984 dL_law_989 (by decide) (fun ls' z1 z2 => kk M2 H2 locs2 ls' z1 hH2 hS2 z2)
set_option maxHeartbeats 4000000 in
set_option maxRecDepth 100000 in
theorem k_colourByBath {p : Program} {l : Launch} {e : Env} {s : State} {m : MethodId} {below : List Frame} {meth : Method} {c : Code} {b L : Nat} {xs : Nat → Int32} {g : gG} {Q : State → Prop} {M : Mp} {x mo o n : Nat} {H : Heap} {locs : List Loc} {cells slots : Nat} {ls : Array Slot} (hlx : l.stackTraces = false) (hC : kcx p m c s b L xs g) (hLS : krS g M x mo o n) (hn : n < 512) (hj : 5 * n + 5 ≤ L) (hcl : cells + 6 ≤ 601024) (hsl : slots + 230 ≤ 7293033) (hH : Hw g M H) (hS : va_S (gA g) s.heap H locs) (hl : lv_has ls 7 [(4, .int (nI (5 * n))), (3, .ref o), (2, .ref mo), (1, .ref x), (0, .ref b)]) (kk : ∀ (M' : Mp) (H' : Heap) (locs' : List Loc) (ls' : Array Slot), krS g M' x mo o (n + 1) → Hw g M' H' → va_S (gA g) s.heap H' locs' → lv_has ls' 7 [(4, .int (nI (5 * n))), (3, .ref o), (2, .ref mo), (1, .ref x), (0, .ref b)] → W p l e room_1 s m #[Value.ref b] below meth c H' locs' (cells + 6) (slots + 230) Q (F0 m 1492 ls' [])) : W p l e room_1 s m #[Value.ref b] below meth c H locs cells slots Q (F0 m 992 ls []) := by
  obtain ⟨C, hE, hX, hbl, hbA, hL⟩ := id hC
  obtain ⟨f0, ad, sc, ar, ⟨tg, A, pr, br, np, hh, ne, nb, no, hI, hm, ht, ho⟩, hN⟩ := hLS
  obtain ⟨⟨hs0, hs5, hs9⟩, iX, iE, iB, iO, -⟩ := id hI
  refine lv_aload_n C.1 C.2.1 dL_law_992 rfl (lv_at hl 3 rfl) ?_
  refine ksarg (a := 5 * n) (k := 1) (iv := 1) hC hS (lv_at hl 4 rfl) (lv_at hl 0 rfl) (by omega) rfl dL_law_993 dL_law_994 dL_law_996 dL_law_997 dL_law_998 ?_
  refine ksarg (a := 5 * n) (k := 2) (iv := 2) hC hS (lv_at hl 4 rfl) (lv_at hl 0 rfl) (by omega) rfl dL_law_999 dL_law_1000 dL_law_1002 dL_law_1003 dL_law_1004 ?_
  refine lv_aload_n C.1 C.2.1 dL_law_1005 rfl (lv_at hl 1 rfl) ?_
  refine wr_go1 (runT C hE hH hS (l_colourByBath hlx hI ho ht.2.1 (xs (5 * n + 1)) (xs (5 * n + 2))) mv_L_colourByBath wm_640 hl.1 dL_law_1006 rfl rfl ⟨rfl, rfl⟩ ⟨Nat.le_of_ble_eq_true rfl, Nat.le_of_ble_eq_true rfl⟩ (Nat.le_of_ble_eq_true rfl) ⟨hcl, hsl⟩) hS (fun k M1 H1 locs1 h1 hH1 hS1 => ?_)
  refine lv_istore (lv' := [(5, .int k), (4, .int (nI (5 * n))), (3, .ref o), (2, .ref mo), (1, .ref x), (0, .ref b)]) C.1 C.2.1 dL_law_1009 hl (by decide) rfl (fun ls hl => ?_)
  have hm1 := lq_mi hm ht ho (ed_no hE hH1) (krQ2_or h1)
  refine lv_aload_n C.1 C.2.1 dL_law_1011 rfl (lv_at hl 3 rfl) ?_
  refine ksarg (a := 5 * n) (k := 1) (iv := 1) hC hS1 (lv_at hl 5 rfl) (lv_at hl 1 rfl) (by omega) rfl dL_law_1012 dL_law_1013 dL_law_1015 dL_law_1016 dL_law_1017 ?_
  refine ksarg (a := 5 * n) (k := 2) (iv := 2) hC hS1 (lv_at hl 5 rfl) (lv_at hl 1 rfl) (by omega) rfl dL_law_1018 dL_law_1019 dL_law_1021 dL_law_1022 dL_law_1023 ?_
  refine wr_go1 (runV C hE hH1 hS1 (mw_colourByBath hm1 hs0 hs5 hs9 iE.1 iB.1 iO.1 (RI_PO hI) (xs (5 * n + 1)) (xs (5 * n + 2))) mv_X6_colourByBath wm_908 hm1.1 rfl rfl hl.1 dL_law_1024 rfl rfl ⟨rfl, rfl⟩ ⟨Nat.le_of_ble_eq_true rfl, Nat.le_of_ble_eq_true rfl⟩ (Nat.le_of_ble_eq_true rfl) ⟨hcl, hsl⟩) hS1 (fun u M2 H2 locs2 h2 hH2 hS2 => ?_)
  refine lv_istore (lv' := [(6, .int u), (5, .int k), (4, .int (nI (5 * n))), (3, .ref o), (2, .ref mo), (1, .ref x), (0, .ref b)]) C.1 C.2.1 dL_law_1027 hl (by decide) rfl (fun ls hl => ?_)
  exact k_tail (pc := 1029) hC hcl hsl (kc_colourByBath hI hm ht ho hN (by omega) (ed_no hE hH1) (ed_no hE hH2) (xs (5 * n + 1)) (xs (5 * n + 2)) h1 h2) hH2 hS2 hl dL_law_1029 dL_law_1030 dL_law_1033 dL_law_1035 dL_law_1040 dL_law_1042 dL_law_1045 dL_law_1046 dL_law_1047 dL_law_1048 dL_law_1050 dL_law_1051 dL_law_1052 dL_law_1057 (by decide) (fun ls' z1 z2 => kk M2 H2 locs2 ls' z1 hH2 hS2 z2)
set_option maxHeartbeats 4000000 in
set_option maxRecDepth 100000 in
theorem k_blamed {p : Program} {l : Launch} {e : Env} {s : State} {m : MethodId} {below : List Frame} {meth : Method} {c : Code} {b L : Nat} {xs : Nat → Int32} {g : gG} {Q : State → Prop} {M : Mp} {x mo o n : Nat} {H : Heap} {locs : List Loc} {cells slots : Nat} {ls : Array Slot} (hlx : l.stackTraces = false) (hC : kcx p m c s b L xs g) (hLS : krS g M x mo o n) (hn : n < 512) (hj : 5 * n + 5 ≤ L) (hcl : cells + 6 ≤ 601024) (hsl : slots + 230 ≤ 7293033) (hH : Hw g M H) (hS : va_S (gA g) s.heap H locs) (hl : lv_has ls 7 [(4, .int (nI (5 * n))), (3, .ref o), (2, .ref mo), (1, .ref x), (0, .ref b)]) (kk : ∀ (M' : Mp) (H' : Heap) (locs' : List Loc) (ls' : Array Slot), krS g M' x mo o (n + 1) → Hw g M' H' → va_S (gA g) s.heap H' locs' → lv_has ls' 7 [(4, .int (nI (5 * n))), (3, .ref o), (2, .ref mo), (1, .ref x), (0, .ref b)] → W p l e room_1 s m #[Value.ref b] below meth c H' locs' (cells + 6) (slots + 230) Q (F0 m 1492 ls' [])) : W p l e room_1 s m #[Value.ref b] below meth c H locs cells slots Q (F0 m 1060 ls []) := by
  obtain ⟨C, hE, hX, hbl, hbA, hL⟩ := id hC
  obtain ⟨f0, ad, sc, ar, ⟨tg, A, pr, br, np, hh, ne, nb, no, hI, hm, ht, ho⟩, hN⟩ := hLS
  obtain ⟨⟨hs0, hs5, hs9⟩, iX, iE, iB, iO, -⟩ := id hI
  refine lv_aload_n C.1 C.2.1 dL_law_1060 rfl (lv_at hl 3 rfl) ?_
  refine ksarg (a := 5 * n) (k := 1) (iv := 1) hC hS (lv_at hl 4 rfl) (lv_at hl 0 rfl) (by omega) rfl dL_law_1061 dL_law_1062 dL_law_1064 dL_law_1065 dL_law_1066 ?_
  refine ksarg (a := 5 * n) (k := 2) (iv := 2) hC hS (lv_at hl 4 rfl) (lv_at hl 0 rfl) (by omega) rfl dL_law_1067 dL_law_1068 dL_law_1070 dL_law_1071 dL_law_1072 ?_
  refine lv_aload_n C.1 C.2.1 dL_law_1073 rfl (lv_at hl 1 rfl) ?_
  refine wr_go1 (runT C hE hH hS (l_blamed hlx hI ho ht.2.1 (xs (5 * n + 1)) (xs (5 * n + 2))) mv_L_blamed wm_654 hl.1 dL_law_1074 rfl rfl ⟨rfl, rfl⟩ ⟨Nat.le_of_ble_eq_true rfl, Nat.le_of_ble_eq_true rfl⟩ (Nat.le_of_ble_eq_true rfl) ⟨hcl, hsl⟩) hS (fun k M1 H1 locs1 h1 hH1 hS1 => ?_)
  refine lv_istore (lv' := [(5, .int k), (4, .int (nI (5 * n))), (3, .ref o), (2, .ref mo), (1, .ref x), (0, .ref b)]) C.1 C.2.1 dL_law_1077 hl (by decide) rfl (fun ls hl => ?_)
  have hm1 := lq_mi hm ht ho (ed_no hE hH1) (krQ2_or h1)
  refine lv_aload_n C.1 C.2.1 dL_law_1079 rfl (lv_at hl 3 rfl) ?_
  refine ksarg (a := 5 * n) (k := 1) (iv := 1) hC hS1 (lv_at hl 5 rfl) (lv_at hl 1 rfl) (by omega) rfl dL_law_1080 dL_law_1081 dL_law_1083 dL_law_1084 dL_law_1085 ?_
  refine ksarg (a := 5 * n) (k := 2) (iv := 2) hC hS1 (lv_at hl 5 rfl) (lv_at hl 1 rfl) (by omega) rfl dL_law_1086 dL_law_1087 dL_law_1089 dL_law_1090 dL_law_1091 ?_
  refine wr_go1 (runV C hE hH1 hS1 (mw_blamed hm1 hs0 hs5 hs9 iE.1 iB.1 iO.1 (xs (5 * n + 1)) (xs (5 * n + 2))) mv_X6_blamed wm_913 hm1.1 rfl rfl hl.1 dL_law_1092 rfl rfl ⟨rfl, rfl⟩ ⟨Nat.le_of_ble_eq_true rfl, Nat.le_of_ble_eq_true rfl⟩ (Nat.le_of_ble_eq_true rfl) ⟨hcl, hsl⟩) hS1 (fun u M2 H2 locs2 h2 hH2 hS2 => ?_)
  refine lv_istore (lv' := [(6, .int u), (5, .int k), (4, .int (nI (5 * n))), (3, .ref o), (2, .ref mo), (1, .ref x), (0, .ref b)]) C.1 C.2.1 dL_law_1095 hl (by decide) rfl (fun ls hl => ?_)
  exact k_tail (pc := 1097) hC hcl hsl (kc_blamed hI hm ht ho hN (by omega) (ed_no hE hH1) (ed_no hE hH2) (xs (5 * n + 1)) (xs (5 * n + 2)) h1 h2) hH2 hS2 hl dL_law_1097 dL_law_1098 dL_law_1101 dL_law_1103 dL_law_1108 dL_law_1110 dL_law_1113 dL_law_1114 dL_law_1115 dL_law_1116 dL_law_1118 dL_law_1119 dL_law_1120 dL_law_1125 (by decide) (fun ls' z1 z2 => kk M2 H2 locs2 ls' z1 hH2 hS2 z2)
set_option maxHeartbeats 4000000 in
set_option maxRecDepth 100000 in
theorem k_shrinks {p : Program} {l : Launch} {e : Env} {s : State} {m : MethodId} {below : List Frame} {meth : Method} {c : Code} {b L : Nat} {xs : Nat → Int32} {g : gG} {Q : State → Prop} {M : Mp} {x mo o n : Nat} {H : Heap} {locs : List Loc} {cells slots : Nat} {ls : Array Slot} (hlx : l.stackTraces = false) (hC : kcx p m c s b L xs g) (hLS : krS g M x mo o n) (hn : n < 512) (hj : 5 * n + 5 ≤ L) (hcl : cells + 6 ≤ 601024) (hsl : slots + 230 ≤ 7293033) (hH : Hw g M H) (hS : va_S (gA g) s.heap H locs) (hl : lv_has ls 7 [(4, .int (nI (5 * n))), (3, .ref o), (2, .ref mo), (1, .ref x), (0, .ref b)]) (kk : ∀ (M' : Mp) (H' : Heap) (locs' : List Loc) (ls' : Array Slot), krS g M' x mo o (n + 1) → Hw g M' H' → va_S (gA g) s.heap H' locs' → lv_has ls' 7 [(4, .int (nI (5 * n))), (3, .ref o), (2, .ref mo), (1, .ref x), (0, .ref b)] → W p l e room_1 s m #[Value.ref b] below meth c H' locs' (cells + 6) (slots + 230) Q (F0 m 1492 ls' [])) : W p l e room_1 s m #[Value.ref b] below meth c H locs cells slots Q (F0 m 1128 ls []) := by
  obtain ⟨C, hE, hX, hbl, hbA, hL⟩ := id hC
  obtain ⟨f0, ad, sc, ar, ⟨tg, A, pr, br, np, hh, ne, nb, no, hI, hm, ht, ho⟩, hN⟩ := hLS
  obtain ⟨⟨hs0, hs5, hs9⟩, iX, iE, iB, iO, -⟩ := id hI
  refine lv_aload_n C.1 C.2.1 dL_law_1128 rfl (lv_at hl 3 rfl) ?_
  refine ksarg (a := 5 * n) (k := 1) (iv := 1) hC hS (lv_at hl 4 rfl) (lv_at hl 0 rfl) (by omega) rfl dL_law_1129 dL_law_1130 dL_law_1132 dL_law_1133 dL_law_1134 ?_
  refine ksarg (a := 5 * n) (k := 2) (iv := 2) hC hS (lv_at hl 4 rfl) (lv_at hl 0 rfl) (by omega) rfl dL_law_1135 dL_law_1136 dL_law_1138 dL_law_1139 dL_law_1140 ?_
  refine lv_aload_n C.1 C.2.1 dL_law_1141 rfl (lv_at hl 1 rfl) ?_
  refine wr_go1 (runT C hE hH hS (l_shrinks hlx hI ho ht.2.1 (xs (5 * n + 1)) (xs (5 * n + 2))) mv_L_shrinks wm_661 hl.1 dL_law_1142 rfl rfl ⟨rfl, rfl⟩ ⟨Nat.le_of_ble_eq_true rfl, Nat.le_of_ble_eq_true rfl⟩ (Nat.le_of_ble_eq_true rfl) ⟨hcl, hsl⟩) hS (fun k M1 H1 locs1 h1 hH1 hS1 => ?_)
  refine lv_istore (lv' := [(5, .int k), (4, .int (nI (5 * n))), (3, .ref o), (2, .ref mo), (1, .ref x), (0, .ref b)]) C.1 C.2.1 dL_law_1145 hl (by decide) rfl (fun ls hl => ?_)
  have hm1 := lq_mi hm ht ho (ed_no hE hH1) (krQ2_or h1)
  refine lv_aload_n C.1 C.2.1 dL_law_1147 rfl (lv_at hl 3 rfl) ?_
  refine ksarg (a := 5 * n) (k := 1) (iv := 1) hC hS1 (lv_at hl 5 rfl) (lv_at hl 1 rfl) (by omega) rfl dL_law_1148 dL_law_1149 dL_law_1151 dL_law_1152 dL_law_1153 ?_
  refine ksarg (a := 5 * n) (k := 2) (iv := 2) hC hS1 (lv_at hl 5 rfl) (lv_at hl 1 rfl) (by omega) rfl dL_law_1154 dL_law_1155 dL_law_1157 dL_law_1158 dL_law_1159 ?_
  refine wr_go1 (runV C hE hH1 hS1 (mw_shrinks hm1 hs0 hs5 hs9 iE.1 iB.1 iO.1 (xs (5 * n + 1)) (xs (5 * n + 2))) mv_X6_shrinks wm_917 hm1.1 rfl rfl hl.1 dL_law_1160 rfl rfl ⟨rfl, rfl⟩ ⟨Nat.le_of_ble_eq_true rfl, Nat.le_of_ble_eq_true rfl⟩ (Nat.le_of_ble_eq_true rfl) ⟨hcl, hsl⟩) hS1 (fun u M2 H2 locs2 h2 hH2 hS2 => ?_)
  refine lv_istore (lv' := [(6, .int u), (5, .int k), (4, .int (nI (5 * n))), (3, .ref o), (2, .ref mo), (1, .ref x), (0, .ref b)]) C.1 C.2.1 dL_law_1163 hl (by decide) rfl (fun ls hl => ?_)
  exact k_tail (pc := 1165) hC hcl hsl (kc_shrinks hI hm ht ho hN (by omega) (ed_no hE hH1) (ed_no hE hH2) (xs (5 * n + 1)) (xs (5 * n + 2)) h1 h2) hH2 hS2 hl dL_law_1165 dL_law_1166 dL_law_1169 dL_law_1171 dL_law_1176 dL_law_1178 dL_law_1181 dL_law_1182 dL_law_1183 dL_law_1184 dL_law_1186 dL_law_1187 dL_law_1188 dL_law_1193 (by decide) (fun ls' z1 z2 => kk M2 H2 locs2 ls' z1 hH2 hS2 z2)
set_option maxHeartbeats 4000000 in
set_option maxRecDepth 100000 in
theorem k_give {p : Program} {l : Launch} {e : Env} {s : State} {m : MethodId} {below : List Frame} {meth : Method} {c : Code} {b L : Nat} {xs : Nat → Int32} {g : gG} {Q : State → Prop} {M : Mp} {x mo o n : Nat} {H : Heap} {locs : List Loc} {cells slots : Nat} {ls : Array Slot} (hlx : l.stackTraces = false) (hC : kcx p m c s b L xs g) (hLS : krS g M x mo o n) (hn : n < 512) (hj : 5 * n + 5 ≤ L) (hcl : cells + 6 ≤ 601024) (hsl : slots + 230 ≤ 7293033) (hH : Hw g M H) (hS : va_S (gA g) s.heap H locs) (hl : lv_has ls 7 [(4, .int (nI (5 * n))), (3, .ref o), (2, .ref mo), (1, .ref x), (0, .ref b)]) (kk : ∀ (M' : Mp) (H' : Heap) (locs' : List Loc) (ls' : Array Slot), krS g M' x mo o (n + 1) → Hw g M' H' → va_S (gA g) s.heap H' locs' → lv_has ls' 7 [(4, .int (nI (5 * n))), (3, .ref o), (2, .ref mo), (1, .ref x), (0, .ref b)] → W p l e room_1 s m #[Value.ref b] below meth c H' locs' (cells + 6) (slots + 230) Q (F0 m 1492 ls' [])) : W p l e room_1 s m #[Value.ref b] below meth c H locs cells slots Q (F0 m 1196 ls []) := by
  obtain ⟨C, hE, hX, hbl, hbA, hL⟩ := id hC
  obtain ⟨f0, ad, sc, ar, ⟨tg, A, pr, br, np, hh, ne, nb, no, hI, hm, ht, ho⟩, hN⟩ := hLS
  obtain ⟨⟨hs0, hs5, hs9⟩, iX, iE, iB, iO, -⟩ := id hI
  refine lv_aload_n C.1 C.2.1 dL_law_1196 rfl (lv_at hl 3 rfl) ?_
  refine ksarg (a := 5 * n) (k := 1) (iv := 1) hC hS (lv_at hl 4 rfl) (lv_at hl 0 rfl) (by omega) rfl dL_law_1197 dL_law_1198 dL_law_1200 dL_law_1201 dL_law_1202 ?_
  refine ksarg (a := 5 * n) (k := 2) (iv := 2) hC hS (lv_at hl 4 rfl) (lv_at hl 0 rfl) (by omega) rfl dL_law_1203 dL_law_1204 dL_law_1206 dL_law_1207 dL_law_1208 ?_
  refine ksarg (a := 5 * n) (k := 3) (iv := 3) hC hS (lv_at hl 4 rfl) (lv_at hl 0 rfl) (by omega) rfl dL_law_1209 dL_law_1210 dL_law_1212 dL_law_1213 dL_law_1214 ?_
  refine ksarg (a := 5 * n) (k := 4) (iv := 4) hC hS (lv_at hl 4 rfl) (lv_at hl 0 rfl) (by omega) rfl dL_law_1215 dL_law_1216 dL_law_1218 dL_law_1219 dL_law_1220 ?_
  refine lv_aload_n C.1 C.2.1 dL_law_1221 rfl (lv_at hl 1 rfl) ?_
  refine wr_go1 (runT C hE hH hS (l_give hlx hI ho ht.2.1 (xs (5 * n + 1)) (xs (5 * n + 2)) (xs (5 * n + 3)) (xs (5 * n + 4))) mv_L_give wm_668 hl.1 dL_law_1222 rfl rfl ⟨rfl, rfl⟩ ⟨Nat.le_of_ble_eq_true rfl, Nat.le_of_ble_eq_true rfl⟩ (Nat.le_of_ble_eq_true rfl) ⟨hcl, hsl⟩) hS (fun k M1 H1 locs1 h1 hH1 hS1 => ?_)
  refine lv_istore (lv' := [(5, .int k), (4, .int (nI (5 * n))), (3, .ref o), (2, .ref mo), (1, .ref x), (0, .ref b)]) C.1 C.2.1 dL_law_1225 hl (by decide) rfl (fun ls hl => ?_)
  have hm1 := lq_mi hm ht ho (ed_no hE hH1) (krQ3_or h1)
  refine lv_aload_n C.1 C.2.1 dL_law_1227 rfl (lv_at hl 3 rfl) ?_
  refine ksarg (a := 5 * n) (k := 1) (iv := 1) hC hS1 (lv_at hl 5 rfl) (lv_at hl 1 rfl) (by omega) rfl dL_law_1228 dL_law_1229 dL_law_1231 dL_law_1232 dL_law_1233 ?_
  refine ksarg (a := 5 * n) (k := 2) (iv := 2) hC hS1 (lv_at hl 5 rfl) (lv_at hl 1 rfl) (by omega) rfl dL_law_1234 dL_law_1235 dL_law_1237 dL_law_1238 dL_law_1239 ?_
  refine ksarg (a := 5 * n) (k := 3) (iv := 3) hC hS1 (lv_at hl 5 rfl) (lv_at hl 1 rfl) (by omega) rfl dL_law_1240 dL_law_1241 dL_law_1243 dL_law_1244 dL_law_1245 ?_
  refine ksarg (a := 5 * n) (k := 4) (iv := 4) hC hS1 (lv_at hl 5 rfl) (lv_at hl 1 rfl) (by omega) rfl dL_law_1246 dL_law_1247 dL_law_1249 dL_law_1250 dL_law_1251 ?_
  refine wr_go1 (runV C hE hH1 hS1 (mw_give hm1 hs0 hs5 hs9 iE.1 iB.1 iO.1 (xs (5 * n + 1)) (xs (5 * n + 2)) (xs (5 * n + 3)) (xs (5 * n + 4))) mv_X6_give wm_921 hm1.1 rfl rfl hl.1 dL_law_1252 rfl rfl ⟨rfl, rfl⟩ ⟨Nat.le_of_ble_eq_true rfl, Nat.le_of_ble_eq_true rfl⟩ (Nat.le_of_ble_eq_true rfl) ⟨hcl, hsl⟩) hS1 (fun u M2 H2 locs2 h2 hH2 hS2 => ?_)
  refine lv_istore (lv' := [(6, .int u), (5, .int k), (4, .int (nI (5 * n))), (3, .ref o), (2, .ref mo), (1, .ref x), (0, .ref b)]) C.1 C.2.1 dL_law_1255 hl (by decide) rfl (fun ls hl => ?_)
  exact k_tail (pc := 1257) hC hcl hsl (kc_give hI hm ht ho hN (by omega) (ed_no hE hH1) (ed_no hE hH2) (xs (5 * n + 1)) (xs (5 * n + 2)) (xs (5 * n + 3)) (xs (5 * n + 4)) h1 h2) hH2 hS2 hl dL_law_1257 dL_law_1258 dL_law_1261 dL_law_1263 dL_law_1268 dL_law_1270 dL_law_1273 dL_law_1274 dL_law_1275 dL_law_1276 dL_law_1278 dL_law_1279 dL_law_1280 dL_law_1285 (by decide) (fun ls' z1 z2 => kk M2 H2 locs2 ls' z1 hH2 hS2 z2)
set_option maxHeartbeats 4000000 in
set_option maxRecDepth 100000 in
theorem k_owes {p : Program} {l : Launch} {e : Env} {s : State} {m : MethodId} {below : List Frame} {meth : Method} {c : Code} {b L : Nat} {xs : Nat → Int32} {g : gG} {Q : State → Prop} {M : Mp} {x mo o n : Nat} {H : Heap} {locs : List Loc} {cells slots : Nat} {ls : Array Slot} (hlx : l.stackTraces = false) (hC : kcx p m c s b L xs g) (hLS : krS g M x mo o n) (hn : n < 512) (hj : 5 * n + 5 ≤ L) (hcl : cells + 6 ≤ 601024) (hsl : slots + 230 ≤ 7293033) (hH : Hw g M H) (hS : va_S (gA g) s.heap H locs) (hl : lv_has ls 7 [(4, .int (nI (5 * n))), (3, .ref o), (2, .ref mo), (1, .ref x), (0, .ref b)]) (kk : ∀ (M' : Mp) (H' : Heap) (locs' : List Loc) (ls' : Array Slot), krS g M' x mo o (n + 1) → Hw g M' H' → va_S (gA g) s.heap H' locs' → lv_has ls' 7 [(4, .int (nI (5 * n))), (3, .ref o), (2, .ref mo), (1, .ref x), (0, .ref b)] → W p l e room_1 s m #[Value.ref b] below meth c H' locs' (cells + 6) (slots + 230) Q (F0 m 1492 ls' [])) : W p l e room_1 s m #[Value.ref b] below meth c H locs cells slots Q (F0 m 1288 ls []) := by
  obtain ⟨C, hE, hX, hbl, hbA, hL⟩ := id hC
  obtain ⟨f0, ad, sc, ar, ⟨tg, A, pr, br, np, hh, ne, nb, no, hI, hm, ht, ho⟩, hN⟩ := hLS
  obtain ⟨⟨hs0, hs5, hs9⟩, iX, iE, iB, iO, -⟩ := id hI
  refine lv_aload_n C.1 C.2.1 dL_law_1288 rfl (lv_at hl 3 rfl) ?_
  refine ksarg (a := 5 * n) (k := 1) (iv := 1) hC hS (lv_at hl 4 rfl) (lv_at hl 0 rfl) (by omega) rfl dL_law_1289 dL_law_1290 dL_law_1292 dL_law_1293 dL_law_1294 ?_
  refine ksarg (a := 5 * n) (k := 2) (iv := 2) hC hS (lv_at hl 4 rfl) (lv_at hl 0 rfl) (by omega) rfl dL_law_1295 dL_law_1296 dL_law_1298 dL_law_1299 dL_law_1300 ?_
  refine ksarg (a := 5 * n) (k := 3) (iv := 3) hC hS (lv_at hl 4 rfl) (lv_at hl 0 rfl) (by omega) rfl dL_law_1301 dL_law_1302 dL_law_1304 dL_law_1305 dL_law_1306 ?_
  refine lv_aload_n C.1 C.2.1 dL_law_1307 rfl (lv_at hl 1 rfl) ?_
  refine wr_go1 (runT C hE hH hS (l_owes hlx hI ho ht.2.1 (xs (5 * n + 1)) (xs (5 * n + 2)) (xs (5 * n + 3))) mv_L_owes wm_682 hl.1 dL_law_1308 rfl rfl ⟨rfl, rfl⟩ ⟨Nat.le_of_ble_eq_true rfl, Nat.le_of_ble_eq_true rfl⟩ (Nat.le_of_ble_eq_true rfl) ⟨hcl, hsl⟩) hS (fun k M1 H1 locs1 h1 hH1 hS1 => ?_)
  refine lv_istore (lv' := [(5, .int k), (4, .int (nI (5 * n))), (3, .ref o), (2, .ref mo), (1, .ref x), (0, .ref b)]) C.1 C.2.1 dL_law_1311 hl (by decide) rfl (fun ls hl => ?_)
  have hm1 := lq_mi hm ht ho (ed_no hE hH1) (krQ1_or h1)
  refine lv_aload_n C.1 C.2.1 dL_law_1313 rfl (lv_at hl 3 rfl) ?_
  refine ksarg (a := 5 * n) (k := 1) (iv := 1) hC hS1 (lv_at hl 5 rfl) (lv_at hl 1 rfl) (by omega) rfl dL_law_1314 dL_law_1315 dL_law_1317 dL_law_1318 dL_law_1319 ?_
  refine ksarg (a := 5 * n) (k := 2) (iv := 2) hC hS1 (lv_at hl 5 rfl) (lv_at hl 1 rfl) (by omega) rfl dL_law_1320 dL_law_1321 dL_law_1323 dL_law_1324 dL_law_1325 ?_
  refine ksarg (a := 5 * n) (k := 3) (iv := 3) hC hS1 (lv_at hl 5 rfl) (lv_at hl 1 rfl) (by omega) rfl dL_law_1326 dL_law_1327 dL_law_1329 dL_law_1330 dL_law_1331 ?_
  refine wr_go1 (runV C hE hH1 hS1 (mw_owes hm1 hs0 hs5 hs9 iE.1 iB.1 iO.1 (xs (5 * n + 1)) (xs (5 * n + 2)) (xs (5 * n + 3))) mv_X6_owes wm_929 hm1.1 rfl rfl hl.1 dL_law_1332 rfl rfl ⟨rfl, rfl⟩ ⟨Nat.le_of_ble_eq_true rfl, Nat.le_of_ble_eq_true rfl⟩ (Nat.le_of_ble_eq_true rfl) ⟨hcl, hsl⟩) hS1 (fun u M2 H2 locs2 h2 hH2 hS2 => ?_)
  refine lv_istore (lv' := [(6, .int u), (5, .int k), (4, .int (nI (5 * n))), (3, .ref o), (2, .ref mo), (1, .ref x), (0, .ref b)]) C.1 C.2.1 dL_law_1335 hl (by decide) rfl (fun ls hl => ?_)
  exact k_tail (pc := 1337) hC hcl hsl (kc_owes hI hm ht ho hN (by omega) (ed_no hE hH1) (ed_no hE hH2) (xs (5 * n + 1)) (xs (5 * n + 2)) (xs (5 * n + 3)) h1 h2) hH2 hS2 hl dL_law_1337 dL_law_1338 dL_law_1341 dL_law_1343 dL_law_1348 dL_law_1350 dL_law_1353 dL_law_1354 dL_law_1355 dL_law_1356 dL_law_1358 dL_law_1359 dL_law_1360 dL_law_1365 (by decide) (fun ls' z1 z2 => kk M2 H2 locs2 ls' z1 hH2 hS2 z2)
set_option maxHeartbeats 4000000 in
set_option maxRecDepth 100000 in
theorem k_position {p : Program} {l : Launch} {e : Env} {s : State} {m : MethodId} {below : List Frame} {meth : Method} {c : Code} {b L : Nat} {xs : Nat → Int32} {g : gG} {Q : State → Prop} {M : Mp} {x mo o n : Nat} {H : Heap} {locs : List Loc} {cells slots : Nat} {ls : Array Slot} (hlx : l.stackTraces = false) (hC : kcx p m c s b L xs g) (hLS : krS g M x mo o n) (hn : n < 512) (hj : 5 * n + 5 ≤ L) (hcl : cells + 6 ≤ 601024) (hsl : slots + 230 ≤ 7293033) (hH : Hw g M H) (hS : va_S (gA g) s.heap H locs) (hl : lv_has ls 7 [(4, .int (nI (5 * n))), (3, .ref o), (2, .ref mo), (1, .ref x), (0, .ref b)]) (kk : ∀ (M' : Mp) (H' : Heap) (locs' : List Loc) (ls' : Array Slot), krS g M' x mo o (n + 1) → Hw g M' H' → va_S (gA g) s.heap H' locs' → lv_has ls' 7 [(4, .int (nI (5 * n))), (3, .ref o), (2, .ref mo), (1, .ref x), (0, .ref b)] → W p l e room_1 s m #[Value.ref b] below meth c H' locs' (cells + 6) (slots + 230) Q (F0 m 1492 ls' [])) : W p l e room_1 s m #[Value.ref b] below meth c H locs cells slots Q (F0 m 1368 ls []) := by
  obtain ⟨C, hE, hX, hbl, hbA, hL⟩ := id hC
  obtain ⟨f0, ad, sc, ar, ⟨tg, A, pr, br, np, hh, ne, nb, no, hI, hm, ht, ho⟩, hN⟩ := hLS
  obtain ⟨⟨hs0, hs5, hs9⟩, iX, iE, iB, iO, -⟩ := id hI
  refine lv_aload_n C.1 C.2.1 dL_law_1368 rfl (lv_at hl 3 rfl) ?_
  refine ksarg (a := 5 * n) (k := 1) (iv := 1) hC hS (lv_at hl 4 rfl) (lv_at hl 0 rfl) (by omega) rfl dL_law_1369 dL_law_1370 dL_law_1372 dL_law_1373 dL_law_1374 ?_
  refine ksarg (a := 5 * n) (k := 2) (iv := 2) hC hS (lv_at hl 4 rfl) (lv_at hl 0 rfl) (by omega) rfl dL_law_1375 dL_law_1376 dL_law_1378 dL_law_1379 dL_law_1380 ?_
  refine lv_aload_n C.1 C.2.1 dL_law_1381 rfl (lv_at hl 1 rfl) ?_
  refine wr_go1 (runT C hE hH hS (l_position hlx hI ho ht.2.1 (xs (5 * n + 1)) (xs (5 * n + 2))) mv_L_position wm_689 hl.1 dL_law_1382 rfl rfl ⟨rfl, rfl⟩ ⟨Nat.le_of_ble_eq_true rfl, Nat.le_of_ble_eq_true rfl⟩ (Nat.le_of_ble_eq_true rfl) ⟨hcl, hsl⟩) hS (fun k M1 H1 locs1 h1 hH1 hS1 => ?_)
  refine lv_istore (lv' := [(5, .int k), (4, .int (nI (5 * n))), (3, .ref o), (2, .ref mo), (1, .ref x), (0, .ref b)]) C.1 C.2.1 dL_law_1385 hl (by decide) rfl (fun ls hl => ?_)
  have hm1 := lq_mi hm ht ho (ed_no hE hH1) (krQ1_or h1)
  refine lv_aload_n C.1 C.2.1 dL_law_1387 rfl (lv_at hl 3 rfl) ?_
  refine ksarg (a := 5 * n) (k := 1) (iv := 1) hC hS1 (lv_at hl 5 rfl) (lv_at hl 1 rfl) (by omega) rfl dL_law_1388 dL_law_1389 dL_law_1391 dL_law_1392 dL_law_1393 ?_
  refine ksarg (a := 5 * n) (k := 2) (iv := 2) hC hS1 (lv_at hl 5 rfl) (lv_at hl 1 rfl) (by omega) rfl dL_law_1394 dL_law_1395 dL_law_1397 dL_law_1398 dL_law_1399 ?_
  refine wr_go1 (runV C hE hH1 hS1 (mw_position hm1 hs0 hs5 hs9 iE.1 iB.1 iO.1 (xs (5 * n + 1)) (xs (5 * n + 2))) mv_X6_position wm_933 hm1.1 rfl rfl hl.1 dL_law_1400 rfl rfl ⟨rfl, rfl⟩ ⟨Nat.le_of_ble_eq_true rfl, Nat.le_of_ble_eq_true rfl⟩ (Nat.le_of_ble_eq_true rfl) ⟨hcl, hsl⟩) hS1 (fun u M2 H2 locs2 h2 hH2 hS2 => ?_)
  refine lv_istore (lv' := [(6, .int u), (5, .int k), (4, .int (nI (5 * n))), (3, .ref o), (2, .ref mo), (1, .ref x), (0, .ref b)]) C.1 C.2.1 dL_law_1403 hl (by decide) rfl (fun ls hl => ?_)
  exact k_tail (pc := 1405) hC hcl hsl (kc_position hI hm ht ho hN (by omega) (ed_no hE hH1) (ed_no hE hH2) (xs (5 * n + 1)) (xs (5 * n + 2)) h1 h2) hH2 hS2 hl dL_law_1405 dL_law_1406 dL_law_1409 dL_law_1411 dL_law_1416 dL_law_1418 dL_law_1421 dL_law_1422 dL_law_1423 dL_law_1424 dL_law_1426 dL_law_1427 dL_law_1428 dL_law_1433 (by decide) (fun ls' z1 z2 => kk M2 H2 locs2 ls' z1 hH2 hS2 z2)
set_option maxHeartbeats 4000000 in
set_option maxRecDepth 100000 in
theorem k_net {p : Program} {l : Launch} {e : Env} {s : State} {m : MethodId} {below : List Frame} {meth : Method} {c : Code} {b L : Nat} {xs : Nat → Int32} {g : gG} {Q : State → Prop} {M : Mp} {x mo o n : Nat} {H : Heap} {locs : List Loc} {cells slots : Nat} {ls : Array Slot} (hlx : l.stackTraces = false) (hC : kcx p m c s b L xs g) (hLS : krS g M x mo o n) (hn : n < 512) (hj : 5 * n + 5 ≤ L) (hcl : cells + 6 ≤ 601024) (hsl : slots + 230 ≤ 7293033) (hH : Hw g M H) (hS : va_S (gA g) s.heap H locs) (hl : lv_has ls 7 [(4, .int (nI (5 * n))), (3, .ref o), (2, .ref mo), (1, .ref x), (0, .ref b)]) (kk : ∀ (M' : Mp) (H' : Heap) (locs' : List Loc) (ls' : Array Slot), krS g M' x mo o (n + 1) → Hw g M' H' → va_S (gA g) s.heap H' locs' → lv_has ls' 7 [(4, .int (nI (5 * n))), (3, .ref o), (2, .ref mo), (1, .ref x), (0, .ref b)] → W p l e room_1 s m #[Value.ref b] below meth c H' locs' (cells + 6) (slots + 230) Q (F0 m 1492 ls' [])) : W p l e room_1 s m #[Value.ref b] below meth c H locs cells slots Q (F0 m 1436 ls []) := by
  obtain ⟨C, hE, hX, hbl, hbA, hL⟩ := id hC
  obtain ⟨f0, ad, sc, ar, ⟨tg, A, pr, br, np, hh, ne, nb, no, hI, hm, ht, ho⟩, hN⟩ := hLS
  obtain ⟨⟨hs0, hs5, hs9⟩, iX, iE, iB, iO, -⟩ := id hI
  refine lv_aload_n C.1 C.2.1 dL_law_1436 rfl (lv_at hl 3 rfl) ?_
  refine ksarg (a := 5 * n) (k := 1) (iv := 1) hC hS (lv_at hl 4 rfl) (lv_at hl 0 rfl) (by omega) rfl dL_law_1437 dL_law_1438 dL_law_1440 dL_law_1441 dL_law_1442 ?_
  refine lv_aload_n C.1 C.2.1 dL_law_1443 rfl (lv_at hl 1 rfl) ?_
  refine wr_go1 (runT C hE hH hS (l_net hlx hI ho ht.2.1 (xs (5 * n + 1))) mv_L_net wm_700 hl.1 dL_law_1444 rfl rfl ⟨rfl, rfl⟩ ⟨Nat.le_of_ble_eq_true rfl, Nat.le_of_ble_eq_true rfl⟩ (Nat.le_of_ble_eq_true rfl) ⟨hcl, hsl⟩) hS (fun k M1 H1 locs1 h1 hH1 hS1 => ?_)
  refine lv_istore (lv' := [(5, .int k), (4, .int (nI (5 * n))), (3, .ref o), (2, .ref mo), (1, .ref x), (0, .ref b)]) C.1 C.2.1 dL_law_1447 hl (by decide) rfl (fun ls hl => ?_)
  have hm1 := lq_mi hm ht ho (ed_no hE hH1) (krQ1_or h1)
  refine lv_aload_n C.1 C.2.1 dL_law_1449 rfl (lv_at hl 3 rfl) ?_
  refine ksarg (a := 5 * n) (k := 1) (iv := 1) hC hS1 (lv_at hl 5 rfl) (lv_at hl 1 rfl) (by omega) rfl dL_law_1450 dL_law_1451 dL_law_1453 dL_law_1454 dL_law_1455 ?_
  refine wr_go1 (runV C hE hH1 hS1 (mw_net hm1 hs0 hs5 hs9 iE.1 iB.1 iO.1 (fun k hk t ht => NZ_rg (hN k hk) (by omega) ht) (xs (5 * n + 1))) mv_X6_net wm_941 hm1.1 rfl rfl hl.1 dL_law_1456 rfl rfl ⟨rfl, rfl⟩ ⟨Nat.le_of_ble_eq_true rfl, Nat.le_of_ble_eq_true rfl⟩ (Nat.le_of_ble_eq_true rfl) ⟨hcl, hsl⟩) hS1 (fun u M2 H2 locs2 h2 hH2 hS2 => ?_)
  refine lv_istore (lv' := [(6, .int u), (5, .int k), (4, .int (nI (5 * n))), (3, .ref o), (2, .ref mo), (1, .ref x), (0, .ref b)]) C.1 C.2.1 dL_law_1459 hl (by decide) rfl (fun ls hl => ?_)
  exact k_tail (pc := 1461) hC hcl hsl (kc_net hI hm ht ho hN (by omega) (ed_no hE hH1) (ed_no hE hH2) (xs (5 * n + 1)) h1 h2) hH2 hS2 hl dL_law_1461 dL_law_1462 dL_law_1465 dL_law_1467 dL_law_1472 dL_law_1474 dL_law_1477 dL_law_1478 dL_law_1479 dL_law_1480 dL_law_1482 dL_law_1483 dL_law_1484 dL_law_1489 (by decide) (fun ls' z1 z2 => kk M2 H2 locs2 ls' z1 hH2 hS2 z2)
