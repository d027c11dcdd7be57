/-! the law: one command of the script, on both sides -/
theorem rf.kept {G : mG} {E E1 : mE} {h : Nat} {S : mST} (a : rf G E h S) (fr : ∀ q, h ≤ q → q < h + 13 → E1 q = E q) : rf G E1 h S := by
  obtain ⟨R, x2, x3, x4, x5, x6, x7, a1, a2, a3, a4, a5, a6, a7, a8, a9⟩ := a
  exact ⟨R, x2, x3, x4, x5, x6, x7, a1.kept (fr _ (by omega) (by omega)), a2.kept (fr _ (by omega) (by omega)), a3, a4.kept (fr _ (by omega) (by omega)) (fr _ (by omega) (by omega)), (fr _ (by omega) (by omega)).trans a5, a6.kept (fun q hq => fr q (by omega) (by omega)), a7.kept (fr _ (by omega) (by omega)), a8.kept (fun q hq => fr q (by omega) (by omega)), a9⟩
def lwB (G : mG) (p : Program) (s : State) (m : MethodId) (c : Code) (b L : Nat) (xs : Nat → Int32) : Prop := mm_Cx G p s m #[Value.ref b] c code 4 RL ∧ va_X b L xs s s.heap ∧ b < s.heap.size ∧ ¬ mm_A G b ∧ L ≤ 3072
def lgv (x y : Int32) : Int64 := (x.toInt64 <<< ((32 : Int32).toInt64 &&& 63)) ||| (y.toInt64 &&& zL 4294967295)
section LW
variable {p : Program} {l : Launch} {e : Env} {R : Room} {s : State} {m : MethodId} {below : List Frame} {meth : Method} {c : Code} {H : Heap} {locs : List Loc} {cells slots : Nat} {Q : State → Prop} {pc : Nat} {ls : Array Slot} {rest : List Value} {G : mG} {b L : Nat} {xs : Nat → Int32} {i x1 x2 : Nat}
theorem lw_arg (B0 : lwB G p s m c b L xs) (hS : va_S (mm_A G) s.heap H locs) (hl : lv_has ls 4 [(0, .ref b), (1, .ref x1), (2, .ref x2), (3, .int (nI i))]) (k : Nat) (hk : i + k < L) {kz : Int} (hkz : Int32.ofInt kz = nI k) (d0 : decode code pc = .ok (.aload_n 0, 1)) (d1 : decode code (pc + 1) = .ok (.iload_n 3, 1)) (d2 : decode code (pc + 2) = .ok (.iconst kz, 1)) (d3 : decode code (pc + 3) = .ok (.iadd, 1)) (d4 : decode code (pc + 4) = .ok (.iaload, 1))
    (kk : W p l e R s m #[Value.ref b] below meth c H locs cells slots Q (F0 m (pc + 5) ls (.int (zI (xs (i + k)).toInt) :: rest))) : W p l e R s m #[Value.ref b] below meth c H locs cells slots Q (F0 m pc ls rest) := by
  obtain ⟨C0, hX, hbl, hbA, hL⟩ := B0
  refine lv_aload_n C0.1 C0.2.1 d0 rfl (lv_at hl 0 rfl) ?_
  refine lv_iload_n C0.1 C0.2.1 d1 rfl (lv_at hl 3 rfl) ?_
  refine lv_iconst C0.1 C0.2.1 d2 hkz ?_
  refine lv_iadd C0.1 C0.2.1 d3 ?_
  rw [nI_add]
  refine va_sld C0.1 C0.2.1 hX hbl hbA hS (vp_in_nI hk (by omega)) d4 ?_
  rw [nI_clamp (by omega)]
  rw [zI_of] at kk
  exact kk
theorem lw_long (B0 : lwB G p s m c b L xs) (hS : va_S (mm_A G) s.heap H locs) (hl : lv_has ls 4 [(0, .ref b), (1, .ref x1), (2, .ref x2), (3, .int (nI i))]) (k : Nat) (hk : i + (k + 1) < L) {kz kz1 : Int} (hkz : Int32.ofInt kz = nI k) (hkz1 : Int32.ofInt kz1 = nI (k + 1)) (d0 : decode code pc = .ok (.aload_n 0, 1)) (d1 : decode code (pc + 1) = .ok (.iload_n 3, 1)) (d2 : decode code (pc + 2) = .ok (.iconst kz, 1)) (d3 : decode code (pc + 3) = .ok (.iadd, 1)) (d4 : decode code (pc + 4) = .ok (.iaload, 1))
    (d5 : decode code (pc + 5) = .ok (.i2l, 1)) (d6 : decode code (pc + 6) = .ok (.bipush 32, 2)) (d8 : decode code (pc + 8) = .ok (.lshl, 1)) (d9 : decode code (pc + 9) = .ok (.aload_n 0, 1)) (d10 : decode code (pc + 10) = .ok (.iload_n 3, 1)) (d11 : decode code (pc + 11) = .ok (.iconst kz1, 1)) (d12 : decode code (pc + 12) = .ok (.iadd, 1)) (d13 : decode code (pc + 13) = .ok (.iaload, 1)) (d14 : decode code (pc + 14) = .ok (.i2l, 1)) (d15 : decode code (pc + 15) = .ok (.ldc2_w 13, 3)) (d18 : decode code (pc + 18) = .ok (.land, 1)) (d19 : decode code (pc + 19) = .ok (.lor, 1))
    (kk : W p l e R s m #[Value.ref b] below meth c H locs cells slots Q (F0 m (pc + 20) ls (.long (zL (lgv (xs (i + k)) (xs (i + (k + 1)))).toInt) :: rest))) : W p l e R s m #[Value.ref b] below meth c H locs cells slots Q (F0 m pc ls rest) := by
  refine lw_arg B0 hS hl k (by omega) hkz d0 d1 d2 d3 d4 ?_
  rw [zI_of]
  have C0 := B0.1
  refine lv_i2l C0.1 C0.2.1 d5 rfl ?_
  refine lv_bipush (v := 32) C0.1 C0.2.1 d6 rfl ?_
  refine lv_lshl C0.1 C0.2.1 d8 rfl ?_
  refine lw_arg B0 hS hl (k + 1) hk hkz1 d9 d10 d11 d12 d13 ?_
  rw [zI_of]
  refine lv_i2l C0.1 C0.2.1 d14 rfl ?_
  refine mm_ldc2 (z := 4294967295) C0 tw_1328 rfl d15 ?_
  refine lv_land C0.1 C0.2.1 d18 ?_
  refine lv_lor C0.1 C0.2.1 d19 ?_
  rw [zL_of] at kk
  exact kk
theorem rf.im {G : mG} {E : mE} {h : Nat} {S : mST} (a : rf G E h S) : S.1.1 = 0 ∨ S.1.1 = 1 := by
  obtain ⟨R, x2, x3, x4, x5, x6, x7, a1, a2, a3, a4, a5, a6, a7, a8, a9⟩ := a
  exact a9
theorem rf.obj {G : mG} {E : mE} {h : Nat} {S : mST} (a : rf G E h S) : ∃ fs : List Value, E h = some (.inr (9, fs)) := by
  obtain ⟨R, x2, x3, x4, x5, x6, x7, a1, a2⟩ := a
  exact ⟨_, a1⟩
set_option maxHeartbeats 4000000 in
theorem lw_case0 (B0 : lwB G p s m c b L xs) (hi : i + 6 ≤ L) {hx hm : Nat} (hap : hx + 106 ≤ hm) {S : mST} {E : mE} (h1 : st G E hx S) (h2 : rf G E hm S) (hM : mm_M G E H) (hS : va_S (mm_A G) s.heap H locs) (hl : lv_has ls 4 [(0, .ref b), (1, .ref hx), (2, .ref hm), (3, .int (nI i))])
    (kk : ∀ (S1 : mST) (E1 : mE) (H1 : Heap) (locs1 : List Loc), st G E1 hx S1 → rf G E1 hm S1 → mm_M G E1 H1 → va_S (mm_A G) s.heap H1 locs1 → W p l e room_1 s m #[Value.ref b] below meth c H1 locs1 119 4616 Q (F0 m 1577 ls [])) : W p l e room_1 s m #[Value.ref b] below meth c H locs 119 4616 Q (F0 m 196 ls []) := by
  have C0 := B0.1
  have hok := h1.okR
  refine lv_aload_n C0.1 C0.2.1 dL_law_196 rfl (lv_at hl 1 rfl) ?_
  refine lw_arg B0 hS hl 1 (by omega) rfl dL_law_197 dL_law_198 dL_law_199 dL_law_200 dL_law_201 ?_
  refine lw_long B0 hS hl 2 (by omega) rfl rfl dL_law_202 dL_law_203 dL_law_204 dL_law_205 dL_law_206 dL_law_207 dL_law_208 dL_law_210 dL_law_211 dL_law_212 dL_law_213 dL_law_214 dL_law_215 dL_law_216 dL_law_217 dL_law_220 dL_law_221 ?_
  refine mm_callVi (C := "OrangeHeaps") (y := yX9_put) (bytes := cX9_put) (maxL := 4) (n := 2) (ret := (some .int)) (rm := rX9_put) (As := [.int (zI (xs (i + 1)).toInt), .long (zL (lgv (xs (i + 2)) (xs (i + (2 + 1)))).toInt)]) (rest := []) C0 ⟨tw_271, tw_272, tw_1, tw_273, by decide +kernel⟩ tw_270 (c_X9_put l G _ h1 (rI_of _) (rL_of _)) hM h1.1.1 (ci := 8) rfl rfl hl.1 rfl (Nat.le_of_ble_eq_true rfl) ⟨rfl, rfl, (Nat.le_of_ble_eq_true rfl), (Nat.le_of_ble_eq_true rfl), (Nat.le_of_ble_eq_true rfl), (Nat.le_of_ble_eq_true rfl)⟩ dL_law_222 hS (fun z1 E1 H locs hp hM hS => ?_)
  obtain ⟨hz1, h1, hf1⟩ := hp
  replace h2 := rf.kept h2 (fun q _ _ => hf1 q (by omega))
  refine lv_aload_n C0.1 C0.2.1 dL_law_225 rfl (lv_at hl 2 rfl) ?_
  refine lw_arg B0 hS hl 1 (by omega) rfl dL_law_226 dL_law_227 dL_law_228 dL_law_229 dL_law_230 ?_
  refine lw_long B0 hS hl 2 (by omega) rfl rfl dL_law_231 dL_law_232 dL_law_233 dL_law_234 dL_law_235 dL_law_236 dL_law_237 dL_law_239 dL_law_240 dL_law_241 dL_law_242 dL_law_243 dL_law_244 dL_law_245 dL_law_246 dL_law_249 dL_law_250 ?_
  obtain ⟨fs9, hob⟩ := h2.obj
  refine mm_callVi (C := "OrangeHeapsModel") (y := yX10_put) (bytes := cX10_put) (maxL := 4) (n := 2) (ret := (some .int)) (rm := rX10_put) (As := [.int (zI (xs (i + 1)).toInt), .long (zL (lgv (xs (i + 2)) (xs (i + (2 + 1)))).toInt)]) (rest := [.int (zI z1)]) C0 ⟨tw_978, tw_979, tw_10, tw_980, by decide +kernel⟩ tw_977 (c_X10_put l G _ h2 hok (rI_of _) (rL_of _)) hM hob (ci := 9) rfl rfl hl.1 rfl (Nat.le_of_ble_eq_true rfl) ⟨rfl, rfl, (Nat.le_of_ble_eq_true rfl), (Nat.le_of_ble_eq_true rfl), (Nat.le_of_ble_eq_true rfl), (Nat.le_of_ble_eq_true rfl)⟩ dL_law_251 hS (fun z2 E2 H locs hp hM hS => ?_)
  obtain ⟨hz2, h2, hf2⟩ := hp
  replace h1 := st.kept h1 (fun q _ => hf2 q (by omega))
  exact lv_icmp_eq (tgt := 1577) C0.1 C0.2.1 dL_law_254 (by decide) (fun _ => kk _ _ _ _ h1 h2 hM hS) (fun c9 => absurd (by rw [hz1, hz2]) c9)
set_option maxHeartbeats 4000000 in
theorem lw_case1 (B0 : lwB G p s m c b L xs) (hi : i + 6 ≤ L) {hx hm : Nat} (hap : hx + 106 ≤ hm) {S : mST} {E : mE} (h1 : st G E hx S) (h2 : rf G E hm S) (hM : mm_M G E H) (hS : va_S (mm_A G) s.heap H locs) (hl : lv_has ls 4 [(0, .ref b), (1, .ref hx), (2, .ref hm), (3, .int (nI i))])
    (kk : ∀ (S1 : mST) (E1 : mE) (H1 : Heap) (locs1 : List Loc), st G E1 hx S1 → rf G E1 hm S1 → mm_M G E1 H1 → va_S (mm_A G) s.heap H1 locs1 → W p l e room_1 s m #[Value.ref b] below meth c H1 locs1 119 4616 Q (F0 m 1577 ls [])) : W p l e room_1 s m #[Value.ref b] below meth c H locs 119 4616 Q (F0 m 259 ls []) := by
  have C0 := B0.1
  have hok := h1.okR
  refine lv_aload_n C0.1 C0.2.1 dL_law_259 rfl (lv_at hl 1 rfl) ?_
  refine lw_arg B0 hS hl 1 (by omega) rfl dL_law_260 dL_law_261 dL_law_262 dL_law_263 dL_law_264 ?_
  refine lw_arg B0 hS hl 2 (by omega) rfl dL_law_265 dL_law_266 dL_law_267 dL_law_268 dL_law_269 ?_
  refine lw_arg B0 hS hl 3 (by omega) rfl dL_law_270 dL_law_271 dL_law_272 dL_law_273 dL_law_274 ?_
  refine mm_callVi (C := "OrangeHeaps") (y := yX9_shape) (bytes := cX9_shape) (maxL := 4) (n := 3) (ret := (some .int)) (rm := rX9_shape) (As := [.int (zI (xs (i + 1)).toInt), .int (zI (xs (i + 2)).toInt), .int (zI (xs (i + 3)).toInt)]) (rest := []) C0 ⟨tw_318, tw_319, tw_1, tw_320, by decide +kernel⟩ tw_317 (c_X9_shape l G _ h1 (rI_of _) (rI_of _) (rI_of _)) hM h1.1.1 (ci := 8) rfl rfl hl.1 rfl (Nat.le_of_ble_eq_true rfl) ⟨rfl, rfl, (Nat.le_of_ble_eq_true rfl), (Nat.le_of_ble_eq_true rfl), (Nat.le_of_ble_eq_true rfl), (Nat.le_of_ble_eq_true rfl)⟩ dL_law_275 hS (fun z1 E1 H locs hp hM hS => ?_)
  obtain ⟨hz1, h1, hf1⟩ := hp
  replace h2 := rf.kept h2 (fun q _ _ => hf1 q (by omega))
  refine lv_aload_n C0.1 C0.2.1 dL_law_278 rfl (lv_at hl 2 rfl) ?_
  refine lw_arg B0 hS hl 1 (by omega) rfl dL_law_279 dL_law_280 dL_law_281 dL_law_282 dL_law_283 ?_
  refine lw_arg B0 hS hl 2 (by omega) rfl dL_law_284 dL_law_285 dL_law_286 dL_law_287 dL_law_288 ?_
  refine lw_arg B0 hS hl 3 (by omega) rfl dL_law_289 dL_law_290 dL_law_291 dL_law_292 dL_law_293 ?_
  obtain ⟨fs9, hob⟩ := h2.obj
  refine mm_callVi (C := "OrangeHeapsModel") (y := yX10_shape) (bytes := cX10_shape) (maxL := 4) (n := 3) (ret := (some .int)) (rm := rX10_shape) (As := [.int (zI (xs (i + 1)).toInt), .int (zI (xs (i + 2)).toInt), .int (zI (xs (i + 3)).toInt)]) (rest := [.int (zI z1)]) C0 ⟨tw_1002, tw_1003, tw_10, tw_1004, by decide +kernel⟩ tw_1001 (c_X10_shape l G _ h2 hok (rI_of _) (rI_of _) (rI_of _)) hM hob (ci := 9) rfl rfl hl.1 rfl (Nat.le_of_ble_eq_true rfl) ⟨rfl, rfl, (Nat.le_of_ble_eq_true rfl), (Nat.le_of_ble_eq_true rfl), (Nat.le_of_ble_eq_true rfl), (Nat.le_of_ble_eq_true rfl)⟩ dL_law_294 hS (fun z2 E2 H locs hp hM hS => ?_)
  obtain ⟨hz2, h2, hf2⟩ := hp
  replace h1 := st.kept h1 (fun q _ => hf2 q (by omega))
  exact lv_icmp_eq (tgt := 1577) C0.1 C0.2.1 dL_law_297 (by decide) (fun _ => kk _ _ _ _ h1 h2 hM hS) (fun c9 => absurd (by rw [hz1, hz2]) c9)
set_option maxHeartbeats 4000000 in
theorem lw_case2 (B0 : lwB G p s m c b L xs) (hi : i + 6 ≤ L) {hx hm : Nat} (hap : hx + 106 ≤ hm) {S : mST} {E : mE} (h1 : st G E hx S) (h2 : rf G E hm S) (hM : mm_M G E H) (hS : va_S (mm_A G) s.heap H locs) (hl : lv_has ls 4 [(0, .ref b), (1, .ref hx), (2, .ref hm), (3, .int (nI i))])
    (kk : ∀ (S1 : mST) (E1 : mE) (H1 : Heap) (locs1 : List Loc), st G E1 hx S1 → rf G E1 hm S1 → mm_M G E1 H1 → va_S (mm_A G) s.heap H1 locs1 → W p l e room_1 s m #[Value.ref b] below meth c H1 locs1 119 4616 Q (F0 m 1577 ls [])) : W p l e room_1 s m #[Value.ref b] below meth c H locs 119 4616 Q (F0 m 302 ls []) := by
  have C0 := B0.1
  have hok := h1.okR
  refine lv_aload_n C0.1 C0.2.1 dL_law_302 rfl (lv_at hl 1 rfl) ?_
  refine lw_arg B0 hS hl 1 (by omega) rfl dL_law_303 dL_law_304 dL_law_305 dL_law_306 dL_law_307 ?_
  refine mm_callVi (C := "OrangeHeaps") (y := yX9_empty) (bytes := cX9_empty) (maxL := 3) (n := 1) (ret := (some .int)) (rm := rX9_empty) (As := [.int (zI (xs (i + 1)).toInt)]) (rest := []) C0 ⟨tw_326, tw_327, tw_1, tw_328, by decide +kernel⟩ tw_325 (c_X9_empty l G _ h1 (rI_of _)) hM h1.1.1 (ci := 8) rfl rfl hl.1 rfl (Nat.le_of_ble_eq_true rfl) ⟨rfl, rfl, (Nat.le_of_ble_eq_true rfl), (Nat.le_of_ble_eq_true rfl), (Nat.le_of_ble_eq_true rfl), (Nat.le_of_ble_eq_true rfl)⟩ dL_law_308 hS (fun z1 E1 H locs hp hM hS => ?_)
  obtain ⟨hz1, h1, hf1⟩ := hp
  replace h2 := rf.kept h2 (fun q _ _ => hf1 q (by omega))
  refine lv_aload_n C0.1 C0.2.1 dL_law_311 rfl (lv_at hl 2 rfl) ?_
  refine lw_arg B0 hS hl 1 (by omega) rfl dL_law_312 dL_law_313 dL_law_314 dL_law_315 dL_law_316 ?_
  obtain ⟨fs9, hob⟩ := h2.obj
  refine mm_callVi (C := "OrangeHeapsModel") (y := yX10_empty) (bytes := cX10_empty) (maxL := 3) (n := 1) (ret := (some .int)) (rm := rX10_empty) (As := [.int (zI (xs (i + 1)).toInt)]) (rest := [.int (zI z1)]) C0 ⟨tw_1009, tw_1010, tw_10, tw_1011, by decide +kernel⟩ tw_1008 (c_X10_empty l G _ h2 hok (rI_of _)) hM hob (ci := 9) rfl rfl hl.1 rfl (Nat.le_of_ble_eq_true rfl) ⟨rfl, rfl, (Nat.le_of_ble_eq_true rfl), (Nat.le_of_ble_eq_true rfl), (Nat.le_of_ble_eq_true rfl), (Nat.le_of_ble_eq_true rfl)⟩ dL_law_317 hS (fun z2 E2 H locs hp hM hS => ?_)
  obtain ⟨hz2, h2, hf2⟩ := hp
  replace h1 := st.kept h1 (fun q _ => hf2 q (by omega))
  exact lv_icmp_eq (tgt := 1577) C0.1 C0.2.1 dL_law_320 (by decide) (fun _ => kk _ _ _ _ h1 h2 hM hS) (fun c9 => absurd (by rw [hz1, hz2]) c9)
set_option maxHeartbeats 4000000 in
theorem lw_case3 (B0 : lwB G p s m c b L xs) (hi : i + 6 ≤ L) {hx hm : Nat} (hap : hx + 106 ≤ hm) {S : mST} {E : mE} (h1 : st G E hx S) (h2 : rf G E hm S) (hM : mm_M G E H) (hS : va_S (mm_A G) s.heap H locs) (hl : lv_has ls 4 [(0, .ref b), (1, .ref hx), (2, .ref hm), (3, .int (nI i))])
    (kk : ∀ (S1 : mST) (E1 : mE) (H1 : Heap) (locs1 : List Loc), st G E1 hx S1 → rf G E1 hm S1 → mm_M G E1 H1 → va_S (mm_A G) s.heap H1 locs1 → W p l e room_1 s m #[Value.ref b] below meth c H1 locs1 119 4616 Q (F0 m 1577 ls [])) : W p l e room_1 s m #[Value.ref b] below meth c H locs 119 4616 Q (F0 m 325 ls []) := by
  have C0 := B0.1
  have hok := h1.okR
  refine lv_aload_n C0.1 C0.2.1 dL_law_325 rfl (lv_at hl 1 rfl) ?_
  refine lw_arg B0 hS hl 1 (by omega) rfl dL_law_326 dL_law_327 dL_law_328 dL_law_329 dL_law_330 ?_
  refine mm_callVi (C := "OrangeHeaps") (y := yX9_told) (bytes := cX9_told) (maxL := 2) (n := 1) (ret := (some .int)) (rm := rX9_told) (As := [.int (zI (xs (i + 1)).toInt)]) (rest := []) C0 ⟨tw_334, tw_335, tw_1, tw_336, by decide +kernel⟩ tw_333 (c_X9_told l G _ h1 (rI_of _)) hM h1.1.1 (ci := 8) rfl rfl hl.1 rfl (Nat.le_of_ble_eq_true rfl) ⟨rfl, rfl, (Nat.le_of_ble_eq_true rfl), (Nat.le_of_ble_eq_true rfl), (Nat.le_of_ble_eq_true rfl), (Nat.le_of_ble_eq_true rfl)⟩ dL_law_331 hS (fun z1 E1 H locs hp hM hS => ?_)
  obtain ⟨hz1, h1, hf1⟩ := hp
  replace h2 := rf.kept h2 (fun q _ _ => hf1 q (by omega))
  refine lv_aload_n C0.1 C0.2.1 dL_law_334 rfl (lv_at hl 2 rfl) ?_
  refine lw_arg B0 hS hl 1 (by omega) rfl dL_law_335 dL_law_336 dL_law_337 dL_law_338 dL_law_339 ?_
  obtain ⟨fs9, hob⟩ := h2.obj
  refine mm_callVi (C := "OrangeHeapsModel") (y := yX10_told) (bytes := cX10_told) (maxL := 2) (n := 1) (ret := (some .int)) (rm := rX10_told) (As := [.int (zI (xs (i + 1)).toInt)]) (rest := [.int (zI z1)]) C0 ⟨tw_1013, tw_1014, tw_10, tw_1015, by decide +kernel⟩ tw_1012 (c_X10_told l G _ h2 hok (rI_of _)) hM hob (ci := 9) rfl rfl hl.1 rfl (Nat.le_of_ble_eq_true rfl) ⟨rfl, rfl, (Nat.le_of_ble_eq_true rfl), (Nat.le_of_ble_eq_true rfl), (Nat.le_of_ble_eq_true rfl), (Nat.le_of_ble_eq_true rfl)⟩ dL_law_340 hS (fun z2 E2 H locs hp hM hS => ?_)
  obtain ⟨hz2, h2, hf2⟩ := hp
  replace h1 := st.kept h1 (fun q _ => hf2 q (by omega))
  exact lv_icmp_eq (tgt := 1577) C0.1 C0.2.1 dL_law_343 (by decide) (fun _ => kk _ _ _ _ h1 h2 hM hS) (fun c9 => absurd (by rw [hz1, hz2]) c9)
set_option maxHeartbeats 4000000 in
theorem lw_case4 (B0 : lwB G p s m c b L xs) (hi : i + 6 ≤ L) {hx hm : Nat} (hap : hx + 106 ≤ hm) {S : mST} {E : mE} (h1 : st G E hx S) (h2 : rf G E hm S) (hM : mm_M G E H) (hS : va_S (mm_A G) s.heap H locs) (hl : lv_has ls 4 [(0, .ref b), (1, .ref hx), (2, .ref hm), (3, .int (nI i))])
    (kk : ∀ (S1 : mST) (E1 : mE) (H1 : Heap) (locs1 : List Loc), st G E1 hx S1 → rf G E1 hm S1 → mm_M G E1 H1 → va_S (mm_A G) s.heap H1 locs1 → W p l e room_1 s m #[Value.ref b] below meth c H1 locs1 119 4616 Q (F0 m 1577 ls [])) : W p l e room_1 s m #[Value.ref b] below meth c H locs 119 4616 Q (F0 m 348 ls []) := by
  have C0 := B0.1
  have hok := h1.okR
  refine lv_aload_n C0.1 C0.2.1 dL_law_348 rfl (lv_at hl 1 rfl) ?_
  refine lw_long B0 hS hl 1 (by omega) rfl rfl dL_law_349 dL_law_350 dL_law_351 dL_law_352 dL_law_353 dL_law_354 dL_law_355 dL_law_357 dL_law_358 dL_law_359 dL_law_360 dL_law_361 dL_law_362 dL_law_363 dL_law_364 dL_law_367 dL_law_368 ?_
  refine lw_arg B0 hS hl 3 (by omega) rfl dL_law_369 dL_law_370 dL_law_371 dL_law_372 dL_law_373 ?_
  refine mm_callVi (C := "OrangeHeaps") (y := yX9_type) (bytes := cX9_type) (maxL := 4) (n := 2) (ret := (some .int)) (rm := rX9_type) (As := [.long (zL (lgv (xs (i + 1)) (xs (i + (1 + 1)))).toInt), .int (zI (xs (i + 3)).toInt)]) (rest := []) C0 ⟨tw_338, tw_339, tw_1, tw_340, by decide +kernel⟩ tw_337 (c_X9_type l G _ h1 (rL_of _) (rI_of _)) hM h1.1.1 (ci := 8) rfl rfl hl.1 rfl (Nat.le_of_ble_eq_true rfl) ⟨rfl, rfl, (Nat.le_of_ble_eq_true rfl), (Nat.le_of_ble_eq_true rfl), (Nat.le_of_ble_eq_true rfl), (Nat.le_of_ble_eq_true rfl)⟩ dL_law_374 hS (fun z1 E1 H locs hp hM hS => ?_)
  obtain ⟨hz1, h1, hf1⟩ := hp
  replace h2 := rf.kept h2 (fun q _ _ => hf1 q (by omega))
  refine lv_aload_n C0.1 C0.2.1 dL_law_377 rfl (lv_at hl 2 rfl) ?_
  refine lw_long B0 hS hl 1 (by omega) rfl rfl dL_law_378 dL_law_379 dL_law_380 dL_law_381 dL_law_382 dL_law_383 dL_law_384 dL_law_386 dL_law_387 dL_law_388 dL_law_389 dL_law_390 dL_law_391 dL_law_392 dL_law_393 dL_law_396 dL_law_397 ?_
  refine lw_arg B0 hS hl 3 (by omega) rfl dL_law_398 dL_law_399 dL_law_400 dL_law_401 dL_law_402 ?_
  obtain ⟨fs9, hob⟩ := h2.obj
  refine mm_callVi (C := "OrangeHeapsModel") (y := yX10_type) (bytes := cX10_type) (maxL := 5) (n := 2) (ret := (some .int)) (rm := rX10_type) (As := [.long (zL (lgv (xs (i + 1)) (xs (i + (1 + 1)))).toInt), .int (zI (xs (i + 3)).toInt)]) (rest := [.int (zI z1)]) C0 ⟨tw_1017, tw_1018, tw_10, tw_1019, by decide +kernel⟩ tw_1016 (c_X10_type l G _ h2 hok (rL_of _) (rI_of _)) hM hob (ci := 9) rfl rfl hl.1 rfl (Nat.le_of_ble_eq_true rfl) ⟨rfl, rfl, (Nat.le_of_ble_eq_true rfl), (Nat.le_of_ble_eq_true rfl), (Nat.le_of_ble_eq_true rfl), (Nat.le_of_ble_eq_true rfl)⟩ dL_law_403 hS (fun z2 E2 H locs hp hM hS => ?_)
  obtain ⟨hz2, h2, hf2⟩ := hp
  replace h1 := st.kept h1 (fun q _ => hf2 q (by omega))
  exact lv_icmp_eq (tgt := 1577) C0.1 C0.2.1 dL_law_406 (by decide) (fun _ => kk _ _ _ _ h1 h2 hM hS) (fun c9 => absurd (by rw [hz1, hz2]) c9)
set_option maxHeartbeats 4000000 in
theorem lw_case5 (B0 : lwB G p s m c b L xs) (hi : i + 6 ≤ L) {hx hm : Nat} (hap : hx + 106 ≤ hm) {S : mST} {E : mE} (h1 : st G E hx S) (h2 : rf G E hm S) (hM : mm_M G E H) (hS : va_S (mm_A G) s.heap H locs) (hl : lv_has ls 4 [(0, .ref b), (1, .ref hx), (2, .ref hm), (3, .int (nI i))])
    (kk : ∀ (S1 : mST) (E1 : mE) (H1 : Heap) (locs1 : List Loc), st G E1 hx S1 → rf G E1 hm S1 → mm_M G E1 H1 → va_S (mm_A G) s.heap H1 locs1 → W p l e room_1 s m #[Value.ref b] below meth c H1 locs1 119 4616 Q (F0 m 1577 ls [])) : W p l e room_1 s m #[Value.ref b] below meth c H locs 119 4616 Q (F0 m 411 ls []) := by
  have C0 := B0.1
  have hok := h1.okR
  refine lv_aload_n C0.1 C0.2.1 dL_law_411 rfl (lv_at hl 1 rfl) ?_
  refine lw_arg B0 hS hl 1 (by omega) rfl dL_law_412 dL_law_413 dL_law_414 dL_law_415 dL_law_416 ?_
  refine mm_callVi (C := "OrangeHeaps") (y := yX9_number) (bytes := cX9_number) (maxL := 3) (n := 1) (ret := (some .int)) (rm := rX9_number) (As := [.int (zI (xs (i + 1)).toInt)]) (rest := []) C0 ⟨tw_352, tw_353, tw_1, tw_354, by decide +kernel⟩ tw_351 (c_X9_number l G _ h1 (rI_of _)) hM h1.1.1 (ci := 8) rfl rfl hl.1 rfl (Nat.le_of_ble_eq_true rfl) ⟨rfl, rfl, (Nat.le_of_ble_eq_true rfl), (Nat.le_of_ble_eq_true rfl), (Nat.le_of_ble_eq_true rfl), (Nat.le_of_ble_eq_true rfl)⟩ dL_law_417 hS (fun z1 E1 H locs hp hM hS => ?_)
  obtain ⟨hz1, h1, hf1⟩ := hp
  replace h2 := rf.kept h2 (fun q _ _ => hf1 q (by omega))
  refine lv_aload_n C0.1 C0.2.1 dL_law_420 rfl (lv_at hl 2 rfl) ?_
  refine lw_arg B0 hS hl 1 (by omega) rfl dL_law_421 dL_law_422 dL_law_423 dL_law_424 dL_law_425 ?_
  obtain ⟨fs9, hob⟩ := h2.obj
  refine mm_callVi (C := "OrangeHeapsModel") (y := yX10_number) (bytes := cX10_number) (maxL := 4) (n := 1) (ret := (some .int)) (rm := rX10_number) (As := [.int (zI (xs (i + 1)).toInt)]) (rest := [.int (zI z1)]) C0 ⟨tw_1025, tw_1026, tw_10, tw_1027, by decide +kernel⟩ tw_1024 (c_X10_number l G _ h2 hok (rI_of _)) hM hob (ci := 9) rfl rfl hl.1 rfl (Nat.le_of_ble_eq_true rfl) ⟨rfl, rfl, (Nat.le_of_ble_eq_true rfl), (Nat.le_of_ble_eq_true rfl), (Nat.le_of_ble_eq_true rfl), (Nat.le_of_ble_eq_true rfl)⟩ dL_law_426 hS (fun z2 E2 H locs hp hM hS => ?_)
  obtain ⟨hz2, h2, hf2⟩ := hp
  replace h1 := st.kept h1 (fun q _ => hf2 q (by omega))
  exact lv_icmp_eq (tgt := 1577) C0.1 C0.2.1 dL_law_429 (by decide) (fun _ => kk _ _ _ _ h1 h2 hM hS) (fun c9 => absurd (by rw [hz1, hz2]) c9)
set_option maxHeartbeats 4000000 in
theorem lw_case6 (B0 : lwB G p s m c b L xs) (hi : i + 6 ≤ L) {hx hm : Nat} (hap : hx + 106 ≤ hm) {S : mST} {E : mE} (h1 : st G E hx S) (h2 : rf G E hm S) (hM : mm_M G E H) (hS : va_S (mm_A G) s.heap H locs) (hl : lv_has ls 4 [(0, .ref b), (1, .ref hx), (2, .ref hm), (3, .int (nI i))])
    (kk : ∀ (S1 : mST) (E1 : mE) (H1 : Heap) (locs1 : List Loc), st G E1 hx S1 → rf G E1 hm S1 → mm_M G E1 H1 → va_S (mm_A G) s.heap H1 locs1 → W p l e room_1 s m #[Value.ref b] below meth c H1 locs1 119 4616 Q (F0 m 1577 ls [])) : W p l e room_1 s m #[Value.ref b] below meth c H locs 119 4616 Q (F0 m 434 ls []) := by
  have C0 := B0.1
  have hok := h1.okR
  refine lv_aload_n C0.1 C0.2.1 dL_law_434 rfl (lv_at hl 1 rfl) ?_
  refine lw_arg B0 hS hl 1 (by omega) rfl dL_law_435 dL_law_436 dL_law_437 dL_law_438 dL_law_439 ?_
  refine mm_callVi (C := "OrangeHeaps") (y := yX9_figures) (bytes := cX9_figures) (maxL := 3) (n := 1) (ret := (some .int)) (rm := rX9_figures) (As := [.int (zI (xs (i + 1)).toInt)]) (rest := []) C0 ⟨tw_382, tw_383, tw_1, tw_384, by decide +kernel⟩ tw_381 (c_X9_figures l G _ h1 (rI_of _)) hM h1.1.1 (ci := 8) rfl rfl hl.1 rfl (Nat.le_of_ble_eq_true rfl) ⟨rfl, rfl, (Nat.le_of_ble_eq_true rfl), (Nat.le_of_ble_eq_true rfl), (Nat.le_of_ble_eq_true rfl), (Nat.le_of_ble_eq_true rfl)⟩ dL_law_440 hS (fun z1 E1 H locs hp hM hS => ?_)
  obtain ⟨hz1, h1, hf1⟩ := hp
  replace h2 := rf.kept h2 (fun q _ _ => hf1 q (by omega))
  refine lv_aload_n C0.1 C0.2.1 dL_law_443 rfl (lv_at hl 2 rfl) ?_
  refine lw_arg B0 hS hl 1 (by omega) rfl dL_law_444 dL_law_445 dL_law_446 dL_law_447 dL_law_448 ?_
  obtain ⟨fs9, hob⟩ := h2.obj
  refine mm_callVi (C := "OrangeHeapsModel") (y := yX10_figures) (bytes := cX10_figures) (maxL := 3) (n := 1) (ret := (some .int)) (rm := rX10_figures) (As := [.int (zI (xs (i + 1)).toInt)]) (rest := [.int (zI z1)]) C0 ⟨tw_1110, tw_1111, tw_10, tw_1112, by decide +kernel⟩ tw_1109 (c_X10_figures l G _ h2 hok (rI_of _)) hM hob (ci := 9) rfl rfl hl.1 rfl (Nat.le_of_ble_eq_true rfl) ⟨rfl, rfl, (Nat.le_of_ble_eq_true rfl), (Nat.le_of_ble_eq_true rfl), (Nat.le_of_ble_eq_true rfl), (Nat.le_of_ble_eq_true rfl)⟩ dL_law_449 hS (fun z2 E2 H locs hp hM hS => ?_)
  obtain ⟨hz2, h2, hf2⟩ := hp
  replace h1 := st.kept h1 (fun q _ => hf2 q (by omega))
  exact lv_icmp_eq (tgt := 1577) C0.1 C0.2.1 dL_law_452 (by decide) (fun _ => kk _ _ _ _ h1 h2 hM hS) (fun c9 => absurd (by rw [hz1, hz2]) c9)
set_option maxHeartbeats 4000000 in
theorem lw_case7 (B0 : lwB G p s m c b L xs) (hi : i + 6 ≤ L) {hx hm : Nat} (hap : hx + 106 ≤ hm) {S : mST} {E : mE} (h1 : st G E hx S) (h2 : rf G E hm S) (hM : mm_M G E H) (hS : va_S (mm_A G) s.heap H locs) (hl : lv_has ls 4 [(0, .ref b), (1, .ref hx), (2, .ref hm), (3, .int (nI i))])
    (kk : ∀ (S1 : mST) (E1 : mE) (H1 : Heap) (locs1 : List Loc), st G E1 hx S1 → rf G E1 hm S1 → mm_M G E1 H1 → va_S (mm_A G) s.heap H1 locs1 → W p l e room_1 s m #[Value.ref b] below meth c H1 locs1 119 4616 Q (F0 m 1577 ls [])) : W p l e room_1 s m #[Value.ref b] below meth c H locs 119 4616 Q (F0 m 457 ls []) := by
  have C0 := B0.1
  have hok := h1.okR
  refine lv_aload_n C0.1 C0.2.1 dL_law_457 rfl (lv_at hl 1 rfl) ?_
  refine lw_arg B0 hS hl 1 (by omega) rfl dL_law_458 dL_law_459 dL_law_460 dL_law_461 dL_law_462 ?_
  refine lw_arg B0 hS hl 2 (by omega) rfl dL_law_463 dL_law_464 dL_law_465 dL_law_466 dL_law_467 ?_
  refine mm_callVi (C := "OrangeHeaps") (y := yX9_nine) (bytes := cX9_nine) (maxL := 4) (n := 2) (ret := (some .int)) (rm := rX9_nine) (As := [.int (zI (xs (i + 1)).toInt), .int (zI (xs (i + 2)).toInt)]) (rest := []) C0 ⟨tw_390, tw_391, tw_1, tw_392, by decide +kernel⟩ tw_389 (c_X9_nine l G _ h1 (rI_of _) (rI_of _)) hM h1.1.1 (ci := 8) rfl rfl hl.1 rfl (Nat.le_of_ble_eq_true rfl) ⟨rfl, rfl, (Nat.le_of_ble_eq_true rfl), (Nat.le_of_ble_eq_true rfl), (Nat.le_of_ble_eq_true rfl), (Nat.le_of_ble_eq_true rfl)⟩ dL_law_468 hS (fun z1 E1 H locs hp hM hS => ?_)
  obtain ⟨hz1, h1, hf1⟩ := hp
  replace h2 := rf.kept h2 (fun q _ _ => hf1 q (by omega))
  refine lv_aload_n C0.1 C0.2.1 dL_law_471 rfl (lv_at hl 2 rfl) ?_
  refine lw_arg B0 hS hl 1 (by omega) rfl dL_law_472 dL_law_473 dL_law_474 dL_law_475 dL_law_476 ?_
  refine lw_arg B0 hS hl 2 (by omega) rfl dL_law_477 dL_law_478 dL_law_479 dL_law_480 dL_law_481 ?_
  obtain ⟨fs9, hob⟩ := h2.obj
  refine mm_callVi (C := "OrangeHeapsModel") (y := yX10_nine) (bytes := cX10_nine) (maxL := 4) (n := 2) (ret := (some .int)) (rm := rX10_nine) (As := [.int (zI (xs (i + 1)).toInt), .int (zI (xs (i + 2)).toInt)]) (rest := [.int (zI z1)]) C0 ⟨tw_1118, tw_1119, tw_10, tw_1120, by decide +kernel⟩ tw_1117 (c_X10_nine l G _ h2 hok (rI_of _) (rI_of _)) hM hob (ci := 9) rfl rfl hl.1 rfl (Nat.le_of_ble_eq_true rfl) ⟨rfl, rfl, (Nat.le_of_ble_eq_true rfl), (Nat.le_of_ble_eq_true rfl), (Nat.le_of_ble_eq_true rfl), (Nat.le_of_ble_eq_true rfl)⟩ dL_law_482 hS (fun z2 E2 H locs hp hM hS => ?_)
  obtain ⟨hz2, h2, hf2⟩ := hp
  replace h1 := st.kept h1 (fun q _ => hf2 q (by omega))
  exact lv_icmp_eq (tgt := 1577) C0.1 C0.2.1 dL_law_485 (by decide) (fun _ => kk _ _ _ _ h1 h2 hM hS) (fun c9 => absurd (by rw [hz1, hz2]) c9)
set_option maxHeartbeats 4000000 in
theorem lw_case8 (B0 : lwB G p s m c b L xs) (hi : i + 6 ≤ L) {hx hm : Nat} (hap : hx + 106 ≤ hm) {S : mST} {E : mE} (h1 : st G E hx S) (h2 : rf G E hm S) (hM : mm_M G E H) (hS : va_S (mm_A G) s.heap H locs) (hl : lv_has ls 4 [(0, .ref b), (1, .ref hx), (2, .ref hm), (3, .int (nI i))])
    (kk : ∀ (S1 : mST) (E1 : mE) (H1 : Heap) (locs1 : List Loc), st G E1 hx S1 → rf G E1 hm S1 → mm_M G E1 H1 → va_S (mm_A G) s.heap H1 locs1 → W p l e room_1 s m #[Value.ref b] below meth c H1 locs1 119 4616 Q (F0 m 1577 ls [])) : W p l e room_1 s m #[Value.ref b] below meth c H locs 119 4616 Q (F0 m 490 ls []) := by
  have C0 := B0.1
  have hok := h1.okR
  refine lv_aload_n C0.1 C0.2.1 dL_law_490 rfl (lv_at hl 1 rfl) ?_
  refine lw_arg B0 hS hl 1 (by omega) rfl dL_law_491 dL_law_492 dL_law_493 dL_law_494 dL_law_495 ?_
  refine lw_arg B0 hS hl 2 (by omega) rfl dL_law_496 dL_law_497 dL_law_498 dL_law_499 dL_law_500 ?_
  refine lw_arg B0 hS hl 3 (by omega) rfl dL_law_501 dL_law_502 dL_law_503 dL_law_504 dL_law_505 ?_
  refine lw_arg B0 hS hl 4 (by omega) rfl dL_law_506 dL_law_507 dL_law_508 dL_law_509 dL_law_510 ?_
  refine mm_callVi (C := "OrangeHeaps") (y := yX9_reckon) (bytes := cX9_reckon) (maxL := 8) (n := 4) (ret := (some .int)) (rm := rX9_reckon) (As := [.int (zI (xs (i + 1)).toInt), .int (zI (xs (i + 2)).toInt), .int (zI (xs (i + 3)).toInt), .int (zI (xs (i + 4)).toInt)]) (rest := []) C0 ⟨tw_395, tw_396, tw_1, tw_397, by decide +kernel⟩ tw_394 (c_X9_reckon l G _ h1 (rI_of _) (rI_of _) (rI_of _) (rI_of _)) hM h1.1.1 (ci := 8) rfl rfl hl.1 rfl (Nat.le_of_ble_eq_true rfl) ⟨rfl, rfl, (Nat.le_of_ble_eq_true rfl), (Nat.le_of_ble_eq_true rfl), (Nat.le_of_ble_eq_true rfl), (Nat.le_of_ble_eq_true rfl)⟩ dL_law_511 hS (fun z1 E1 H locs hp hM hS => ?_)
  obtain ⟨hz1, h1, hf1⟩ := hp
  replace h2 := rf.kept h2 (fun q _ _ => hf1 q (by omega))
  refine lv_aload_n C0.1 C0.2.1 dL_law_514 rfl (lv_at hl 2 rfl) ?_
  refine lw_arg B0 hS hl 1 (by omega) rfl dL_law_515 dL_law_516 dL_law_517 dL_law_518 dL_law_519 ?_
  refine lw_arg B0 hS hl 2 (by omega) rfl dL_law_520 dL_law_521 dL_law_522 dL_law_523 dL_law_524 ?_
  refine lw_arg B0 hS hl 3 (by omega) rfl dL_law_525 dL_law_526 dL_law_527 dL_law_528 dL_law_529 ?_
  refine lw_arg B0 hS hl 4 (by omega) rfl dL_law_530 dL_law_531 dL_law_532 dL_law_533 dL_law_534 ?_
  obtain ⟨fs9, hob⟩ := h2.obj
  refine mm_callVi (C := "OrangeHeapsModel") (y := yX10_reckon) (bytes := cX10_reckon) (maxL := 6) (n := 4) (ret := (some .int)) (rm := rX10_reckon) (As := [.int (zI (xs (i + 1)).toInt), .int (zI (xs (i + 2)).toInt), .int (zI (xs (i + 3)).toInt), .int (zI (xs (i + 4)).toInt)]) (rest := [.int (zI z1)]) C0 ⟨tw_1123, tw_1124, tw_10, tw_1125, by decide +kernel⟩ tw_1122 (c_X10_reckon l G _ h2 hok (rI_of _) (rI_of _) (rI_of _) (rI_of _)) hM hob (ci := 9) rfl rfl hl.1 rfl (Nat.le_of_ble_eq_true rfl) ⟨rfl, rfl, (Nat.le_of_ble_eq_true rfl), (Nat.le_of_ble_eq_true rfl), (Nat.le_of_ble_eq_true rfl), (Nat.le_of_ble_eq_true rfl)⟩ dL_law_535 hS (fun z2 E2 H locs hp hM hS => ?_)
  obtain ⟨hz2, h2, hf2⟩ := hp
  replace h1 := st.kept h1 (fun q _ => hf2 q (by omega))
  exact lv_icmp_eq (tgt := 1577) C0.1 C0.2.1 dL_law_538 (by decide) (fun _ => kk _ _ _ _ h1 h2 hM hS) (fun c9 => absurd (by rw [hz1, hz2]) c9)
set_option maxHeartbeats 4000000 in
theorem lw_case9 (B0 : lwB G p s m c b L xs) (hi : i + 6 ≤ L) {hx hm : Nat} (hap : hx + 106 ≤ hm) {S : mST} {E : mE} (h1 : st G E hx S) (h2 : rf G E hm S) (hM : mm_M G E H) (hS : va_S (mm_A G) s.heap H locs) (hl : lv_has ls 4 [(0, .ref b), (1, .ref hx), (2, .ref hm), (3, .int (nI i))])
    (kk : ∀ (S1 : mST) (E1 : mE) (H1 : Heap) (locs1 : List Loc), st G E1 hx S1 → rf G E1 hm S1 → mm_M G E1 H1 → va_S (mm_A G) s.heap H1 locs1 → W p l e room_1 s m #[Value.ref b] below meth c H1 locs1 119 4616 Q (F0 m 1577 ls [])) : W p l e room_1 s m #[Value.ref b] below meth c H locs 119 4616 Q (F0 m 543 ls []) := by
  have C0 := B0.1
  have hok := h1.okR
  refine lv_aload_n C0.1 C0.2.1 dL_law_543 rfl (lv_at hl 1 rfl) ?_
  refine lw_arg B0 hS hl 1 (by omega) rfl dL_law_544 dL_law_545 dL_law_546 dL_law_547 dL_law_548 ?_
  refine lw_arg B0 hS hl 2 (by omega) rfl dL_law_549 dL_law_550 dL_law_551 dL_law_552 dL_law_553 ?_
  refine mm_callVi (C := "OrangeHeaps") (y := yX9_root) (bytes := cX9_root) (maxL := 6) (n := 2) (ret := (some .int)) (rm := rX9_root) (As := [.int (zI (xs (i + 1)).toInt), .int (zI (xs (i + 2)).toInt)]) (rest := []) C0 ⟨tw_467, tw_468, tw_1, tw_469, by decide +kernel⟩ tw_466 (c_X9_root l G _ h1 (rI_of _) (rI_of _)) hM h1.1.1 (ci := 8) rfl rfl hl.1 rfl (Nat.le_of_ble_eq_true rfl) ⟨rfl, rfl, (Nat.le_of_ble_eq_true rfl), (Nat.le_of_ble_eq_true rfl), (Nat.le_of_ble_eq_true rfl), (Nat.le_of_ble_eq_true rfl)⟩ dL_law_554 hS (fun z1 E1 H locs hp hM hS => ?_)
  obtain ⟨hz1, h1, hf1⟩ := hp
  replace h2 := rf.kept h2 (fun q _ _ => hf1 q (by omega))
  refine lv_aload_n C0.1 C0.2.1 dL_law_557 rfl (lv_at hl 2 rfl) ?_
  refine lw_arg B0 hS hl 1 (by omega) rfl dL_law_558 dL_law_559 dL_law_560 dL_law_561 dL_law_562 ?_
  refine lw_arg B0 hS hl 2 (by omega) rfl dL_law_563 dL_law_564 dL_law_565 dL_law_566 dL_law_567 ?_
  obtain ⟨fs9, hob⟩ := h2.obj
  refine mm_callVi (C := "OrangeHeapsModel") (y := yX10_root) (bytes := cX10_root) (maxL := 5) (n := 2) (ret := (some .int)) (rm := rX10_root) (As := [.int (zI (xs (i + 1)).toInt), .int (zI (xs (i + 2)).toInt)]) (rest := [.int (zI z1)]) C0 ⟨tw_1140, tw_1141, tw_10, tw_1142, by decide +kernel⟩ tw_1139 (c_X10_root l G _ h2 hok (rI_of _) (rI_of _)) hM hob (ci := 9) rfl rfl hl.1 rfl (Nat.le_of_ble_eq_true rfl) ⟨rfl, rfl, (Nat.le_of_ble_eq_true rfl), (Nat.le_of_ble_eq_true rfl), (Nat.le_of_ble_eq_true rfl), (Nat.le_of_ble_eq_true rfl)⟩ dL_law_568 hS (fun z2 E2 H locs hp hM hS => ?_)
  obtain ⟨hz2, h2, hf2⟩ := hp
  replace h1 := st.kept h1 (fun q _ => hf2 q (by omega))
  exact lv_icmp_eq (tgt := 1577) C0.1 C0.2.1 dL_law_571 (by decide) (fun _ => kk _ _ _ _ h1 h2 hM hS) (fun c9 => absurd (by rw [hz1, hz2]) c9)
set_option maxHeartbeats 4000000 in
theorem lw_case10 (B0 : lwB G p s m c b L xs) (hi : i + 6 ≤ L) {hx hm : Nat} (hap : hx + 106 ≤ hm) {S : mST} {E : mE} (h1 : st G E hx S) (h2 : rf G E hm S) (hM : mm_M G E H) (hS : va_S (mm_A G) s.heap H locs) (hl : lv_has ls 4 [(0, .ref b), (1, .ref hx), (2, .ref hm), (3, .int (nI i))])
    (kk : ∀ (S1 : mST) (E1 : mE) (H1 : Heap) (locs1 : List Loc), st G E1 hx S1 → rf G E1 hm S1 → mm_M G E1 H1 → va_S (mm_A G) s.heap H1 locs1 → W p l e room_1 s m #[Value.ref b] below meth c H1 locs1 119 4616 Q (F0 m 1577 ls [])) : W p l e room_1 s m #[Value.ref b] below meth c H locs 119 4616 Q (F0 m 576 ls []) := by
  have C0 := B0.1
  have hok := h1.okR
  refine lv_aload_n C0.1 C0.2.1 dL_law_576 rfl (lv_at hl 1 rfl) ?_
  refine lw_arg B0 hS hl 1 (by omega) rfl dL_law_577 dL_law_578 dL_law_579 dL_law_580 dL_law_581 ?_
  refine lw_arg B0 hS hl 2 (by omega) rfl dL_law_582 dL_law_583 dL_law_584 dL_law_585 dL_law_586 ?_
  refine mm_callVi (C := "OrangeHeaps") (y := yX9_order) (bytes := cX9_order) (maxL := 5) (n := 2) (ret := (some .int)) (rm := rX9_order) (As := [.int (zI (xs (i + 1)).toInt), .int (zI (xs (i + 2)).toInt)]) (rest := []) C0 ⟨tw_484, tw_485, tw_1, tw_486, by decide +kernel⟩ tw_483 (c_X9_order l G _ h1 (rI_of _) (rI_of _)) hM h1.1.1 (ci := 8) rfl rfl hl.1 rfl (Nat.le_of_ble_eq_true rfl) ⟨rfl, rfl, (Nat.le_of_ble_eq_true rfl), (Nat.le_of_ble_eq_true rfl), (Nat.le_of_ble_eq_true rfl), (Nat.le_of_ble_eq_true rfl)⟩ dL_law_587 hS (fun z1 E1 H locs hp hM hS => ?_)
  obtain ⟨hz1, h1, hf1⟩ := hp
  replace h2 := rf.kept h2 (fun q _ _ => hf1 q (by omega))
  refine lv_aload_n C0.1 C0.2.1 dL_law_590 rfl (lv_at hl 2 rfl) ?_
  refine lw_arg B0 hS hl 1 (by omega) rfl dL_law_591 dL_law_592 dL_law_593 dL_law_594 dL_law_595 ?_
  refine lw_arg B0 hS hl 2 (by omega) rfl dL_law_596 dL_law_597 dL_law_598 dL_law_599 dL_law_600 ?_
  obtain ⟨fs9, hob⟩ := h2.obj
  refine mm_callVi (C := "OrangeHeapsModel") (y := yX10_order) (bytes := cX10_order) (maxL := 5) (n := 2) (ret := (some .int)) (rm := rX10_order) (As := [.int (zI (xs (i + 1)).toInt), .int (zI (xs (i + 2)).toInt)]) (rest := [.int (zI z1)]) C0 ⟨tw_1148, tw_1149, tw_10, tw_1150, by decide +kernel⟩ tw_1147 (c_X10_order l G _ h2 hok (rI_of _) (rI_of _)) hM hob (ci := 9) rfl rfl hl.1 rfl (Nat.le_of_ble_eq_true rfl) ⟨rfl, rfl, (Nat.le_of_ble_eq_true rfl), (Nat.le_of_ble_eq_true rfl), (Nat.le_of_ble_eq_true rfl), (Nat.le_of_ble_eq_true rfl)⟩ dL_law_601 hS (fun z2 E2 H locs hp hM hS => ?_)
  obtain ⟨hz2, h2, hf2⟩ := hp
  replace h1 := st.kept h1 (fun q _ => hf2 q (by omega))
  exact lv_icmp_eq (tgt := 1577) C0.1 C0.2.1 dL_law_604 (by decide) (fun _ => kk _ _ _ _ h1 h2 hM hS) (fun c9 => absurd (by rw [hz1, hz2]) c9)
set_option maxHeartbeats 4000000 in
theorem lw_case11 (B0 : lwB G p s m c b L xs) (hi : i + 6 ≤ L) {hx hm : Nat} (hap : hx + 106 ≤ hm) {S : mST} {E : mE} (h1 : st G E hx S) (h2 : rf G E hm S) (hM : mm_M G E H) (hS : va_S (mm_A G) s.heap H locs) (hl : lv_has ls 4 [(0, .ref b), (1, .ref hx), (2, .ref hm), (3, .int (nI i))])
    (kk : ∀ (S1 : mST) (E1 : mE) (H1 : Heap) (locs1 : List Loc), st G E1 hx S1 → rf G E1 hm S1 → mm_M G E1 H1 → va_S (mm_A G) s.heap H1 locs1 → W p l e room_1 s m #[Value.ref b] below meth c H1 locs1 119 4616 Q (F0 m 1577 ls [])) : W p l e room_1 s m #[Value.ref b] below meth c H locs 119 4616 Q (F0 m 609 ls []) := by
  have C0 := B0.1
  have hok := h1.okR
  refine lv_aload_n C0.1 C0.2.1 dL_law_609 rfl (lv_at hl 1 rfl) ?_
  refine lw_arg B0 hS hl 1 (by omega) rfl dL_law_610 dL_law_611 dL_law_612 dL_law_613 dL_law_614 ?_
  refine lw_arg B0 hS hl 2 (by omega) rfl dL_law_615 dL_law_616 dL_law_617 dL_law_618 dL_law_619 ?_
  refine lw_arg B0 hS hl 3 (by omega) rfl dL_law_620 dL_law_621 dL_law_622 dL_law_623 dL_law_624 ?_
  refine mm_callVi (C := "OrangeHeaps") (y := yX9_nth) (bytes := cX9_nth) (maxL := 6) (n := 3) (ret := (some .int)) (rm := rX9_nth) (As := [.int (zI (xs (i + 1)).toInt), .int (zI (xs (i + 2)).toInt), .int (zI (xs (i + 3)).toInt)]) (rest := []) C0 ⟨tw_488, tw_489, tw_1, tw_490, by decide +kernel⟩ tw_487 (c_X9_nth l G _ h1 (rI_of _) (rI_of _) (rI_of _)) hM h1.1.1 (ci := 8) rfl rfl hl.1 rfl (Nat.le_of_ble_eq_true rfl) ⟨rfl, rfl, (Nat.le_of_ble_eq_true rfl), (Nat.le_of_ble_eq_true rfl), (Nat.le_of_ble_eq_true rfl), (Nat.le_of_ble_eq_true rfl)⟩ dL_law_625 hS (fun z1 E1 H locs hp hM hS => ?_)
  obtain ⟨hz1, h1, hf1⟩ := hp
  replace h2 := rf.kept h2 (fun q _ _ => hf1 q (by omega))
  refine lv_aload_n C0.1 C0.2.1 dL_law_628 rfl (lv_at hl 2 rfl) ?_
  refine lw_arg B0 hS hl 1 (by omega) rfl dL_law_629 dL_law_630 dL_law_631 dL_law_632 dL_law_633 ?_
  refine lw_arg B0 hS hl 2 (by omega) rfl dL_law_634 dL_law_635 dL_law_636 dL_law_637 dL_law_638 ?_
  refine lw_arg B0 hS hl 3 (by omega) rfl dL_law_639 dL_law_640 dL_law_641 dL_law_642 dL_law_643 ?_
  obtain ⟨fs9, hob⟩ := h2.obj
  refine mm_callVi (C := "OrangeHeapsModel") (y := yX10_nth) (bytes := cX10_nth) (maxL := 5) (n := 3) (ret := (some .int)) (rm := rX10_nth) (As := [.int (zI (xs (i + 1)).toInt), .int (zI (xs (i + 2)).toInt), .int (zI (xs (i + 3)).toInt)]) (rest := [.int (zI z1)]) C0 ⟨tw_1152, tw_1153, tw_10, tw_1154, by decide +kernel⟩ tw_1151 (c_X10_nth l G _ h2 hok (rI_of _) (rI_of _) (rI_of _)) hM hob (ci := 9) rfl rfl hl.1 rfl (Nat.le_of_ble_eq_true rfl) ⟨rfl, rfl, (Nat.le_of_ble_eq_true rfl), (Nat.le_of_ble_eq_true rfl), (Nat.le_of_ble_eq_true rfl), (Nat.le_of_ble_eq_true rfl)⟩ dL_law_644 hS (fun z2 E2 H locs hp hM hS => ?_)
  obtain ⟨hz2, h2, hf2⟩ := hp
  replace h1 := st.kept h1 (fun q _ => hf2 q (by omega))
  exact lv_icmp_eq (tgt := 1577) C0.1 C0.2.1 dL_law_647 (by decide) (fun _ => kk _ _ _ _ h1 h2 hM hS) (fun c9 => absurd (by rw [hz1, hz2]) c9)
set_option maxHeartbeats 4000000 in
theorem lw_case12 (B0 : lwB G p s m c b L xs) (hi : i + 6 ≤ L) {hx hm : Nat} (hap : hx + 106 ≤ hm) {S : mST} {E : mE} (h1 : st G E hx S) (h2 : rf G E hm S) (hM : mm_M G E H) (hS : va_S (mm_A G) s.heap H locs) (hl : lv_has ls 4 [(0, .ref b), (1, .ref hx), (2, .ref hm), (3, .int (nI i))])
    (kk : ∀ (S1 : mST) (E1 : mE) (H1 : Heap) (locs1 : List Loc), st G E1 hx S1 → rf G E1 hm S1 → mm_M G E1 H1 → va_S (mm_A G) s.heap H1 locs1 → W p l e room_1 s m #[Value.ref b] below meth c H1 locs1 119 4616 Q (F0 m 1577 ls [])) : W p l e room_1 s m #[Value.ref b] below meth c H locs 119 4616 Q (F0 m 652 ls []) := by
  have C0 := B0.1
  have hok := h1.okR
  refine lv_aload_n C0.1 C0.2.1 dL_law_652 rfl (lv_at hl 1 rfl) ?_
  refine lw_arg B0 hS hl 1 (by omega) rfl dL_law_653 dL_law_654 dL_law_655 dL_law_656 dL_law_657 ?_
  refine lw_arg B0 hS hl 2 (by omega) rfl dL_law_658 dL_law_659 dL_law_660 dL_law_661 dL_law_662 ?_
  refine lw_arg B0 hS hl 3 (by omega) rfl dL_law_663 dL_law_664 dL_law_665 dL_law_666 dL_law_667 ?_
  refine mm_callVi (C := "OrangeHeaps") (y := yX9_which) (bytes := cX9_which) (maxL := 6) (n := 3) (ret := (some .int)) (rm := rX9_which) (As := [.int (zI (xs (i + 1)).toInt), .int (zI (xs (i + 2)).toInt), .int (zI (xs (i + 3)).toInt)]) (rest := []) C0 ⟨tw_524, tw_525, tw_1, tw_526, by decide +kernel⟩ tw_523 (c_X9_which l G _ h1 (rI_of _) (rI_of _) (rI_of _)) hM h1.1.1 (ci := 8) rfl rfl hl.1 rfl (Nat.le_of_ble_eq_true rfl) ⟨rfl, rfl, (Nat.le_of_ble_eq_true rfl), (Nat.le_of_ble_eq_true rfl), (Nat.le_of_ble_eq_true rfl), (Nat.le_of_ble_eq_true rfl)⟩ dL_law_668 hS (fun z1 E1 H locs hp hM hS => ?_)
  obtain ⟨hz1, h1, hf1⟩ := hp
  replace h2 := rf.kept h2 (fun q _ _ => hf1 q (by omega))
  refine lv_aload_n C0.1 C0.2.1 dL_law_671 rfl (lv_at hl 2 rfl) ?_
  refine lw_arg B0 hS hl 1 (by omega) rfl dL_law_672 dL_law_673 dL_law_674 dL_law_675 dL_law_676 ?_
  refine lw_arg B0 hS hl 2 (by omega) rfl dL_law_677 dL_law_678 dL_law_679 dL_law_680 dL_law_681 ?_
  refine lw_arg B0 hS hl 3 (by omega) rfl dL_law_682 dL_law_683 dL_law_684 dL_law_685 dL_law_686 ?_
  obtain ⟨fs9, hob⟩ := h2.obj
  refine mm_callVi (C := "OrangeHeapsModel") (y := yX10_which) (bytes := cX10_which) (maxL := 6) (n := 3) (ret := (some .int)) (rm := rX10_which) (As := [.int (zI (xs (i + 1)).toInt), .int (zI (xs (i + 2)).toInt), .int (zI (xs (i + 3)).toInt)]) (rest := [.int (zI z1)]) C0 ⟨tw_1156, tw_1157, tw_10, tw_1158, by decide +kernel⟩ tw_1155 (c_X10_which l G _ h2 hok (rI_of _) (rI_of _) (rI_of _)) hM hob (ci := 9) rfl rfl hl.1 rfl (Nat.le_of_ble_eq_true rfl) ⟨rfl, rfl, (Nat.le_of_ble_eq_true rfl), (Nat.le_of_ble_eq_true rfl), (Nat.le_of_ble_eq_true rfl), (Nat.le_of_ble_eq_true rfl)⟩ dL_law_687 hS (fun z2 E2 H locs hp hM hS => ?_)
  obtain ⟨hz2, h2, hf2⟩ := hp
  replace h1 := st.kept h1 (fun q _ => hf2 q (by omega))
  exact lv_icmp_eq (tgt := 1577) C0.1 C0.2.1 dL_law_690 (by decide) (fun _ => kk _ _ _ _ h1 h2 hM hS) (fun c9 => absurd (by rw [hz1, hz2]) c9)
set_option maxHeartbeats 4000000 in
theorem lw_case13 (B0 : lwB G p s m c b L xs) (hi : i + 6 ≤ L) {hx hm : Nat} (hap : hx + 106 ≤ hm) {S : mST} {E : mE} (h1 : st G E hx S) (h2 : rf G E hm S) (hM : mm_M G E H) (hS : va_S (mm_A G) s.heap H locs) (hl : lv_has ls 4 [(0, .ref b), (1, .ref hx), (2, .ref hm), (3, .int (nI i))])
    (kk : ∀ (S1 : mST) (E1 : mE) (H1 : Heap) (locs1 : List Loc), st G E1 hx S1 → rf G E1 hm S1 → mm_M G E1 H1 → va_S (mm_A G) s.heap H1 locs1 → W p l e room_1 s m #[Value.ref b] below meth c H1 locs1 119 4616 Q (F0 m 1577 ls [])) : W p l e room_1 s m #[Value.ref b] below meth c H locs 119 4616 Q (F0 m 695 ls []) := by
  have C0 := B0.1
  have hok := h1.okR
  refine lv_aload_n C0.1 C0.2.1 dL_law_695 rfl (lv_at hl 1 rfl) ?_
  refine lw_arg B0 hS hl 1 (by omega) rfl dL_law_696 dL_law_697 dL_law_698 dL_law_699 dL_law_700 ?_
  refine lw_arg B0 hS hl 2 (by omega) rfl dL_law_701 dL_law_702 dL_law_703 dL_law_704 dL_law_705 ?_
  refine mm_callVi (C := "OrangeHeaps") (y := yX9_both) (bytes := cX9_both) (maxL := 3) (n := 2) (ret := (some .int)) (rm := rX9_both) (As := [.int (zI (xs (i + 1)).toInt), .int (zI (xs (i + 2)).toInt)]) (rest := []) C0 ⟨tw_535, tw_536, tw_1, tw_537, by decide +kernel⟩ tw_534 (c_X9_both l G _ h1 (rI_of _) (rI_of _)) hM h1.1.1 (ci := 8) rfl rfl hl.1 rfl (Nat.le_of_ble_eq_true rfl) ⟨rfl, rfl, (Nat.le_of_ble_eq_true rfl), (Nat.le_of_ble_eq_true rfl), (Nat.le_of_ble_eq_true rfl), (Nat.le_of_ble_eq_true rfl)⟩ dL_law_706 hS (fun z1 E1 H locs hp hM hS => ?_)
  obtain ⟨hz1, h1, hf1⟩ := hp
  replace h2 := rf.kept h2 (fun q _ _ => hf1 q (by omega))
  refine lv_aload_n C0.1 C0.2.1 dL_law_709 rfl (lv_at hl 2 rfl) ?_
  refine lw_arg B0 hS hl 1 (by omega) rfl dL_law_710 dL_law_711 dL_law_712 dL_law_713 dL_law_714 ?_
  refine lw_arg B0 hS hl 2 (by omega) rfl dL_law_715 dL_law_716 dL_law_717 dL_law_718 dL_law_719 ?_
  obtain ⟨fs9, hob⟩ := h2.obj
  refine mm_callVi (C := "OrangeHeapsModel") (y := yX10_both) (bytes := cX10_both) (maxL := 3) (n := 2) (ret := (some .int)) (rm := rX10_both) (As := [.int (zI (xs (i + 1)).toInt), .int (zI (xs (i + 2)).toInt)]) (rest := [.int (zI z1)]) C0 ⟨tw_1172, tw_1173, tw_10, tw_1174, by decide +kernel⟩ tw_1171 (c_X10_both l G _ h2 hok (rI_of _) (rI_of _)) hM hob (ci := 9) rfl rfl hl.1 rfl (Nat.le_of_ble_eq_true rfl) ⟨rfl, rfl, (Nat.le_of_ble_eq_true rfl), (Nat.le_of_ble_eq_true rfl), (Nat.le_of_ble_eq_true rfl), (Nat.le_of_ble_eq_true rfl)⟩ dL_law_720 hS (fun z2 E2 H locs hp hM hS => ?_)
  obtain ⟨hz2, h2, hf2⟩ := hp
  replace h1 := st.kept h1 (fun q _ => hf2 q (by omega))
  exact lv_icmp_eq (tgt := 1577) C0.1 C0.2.1 dL_law_723 (by decide) (fun _ => kk _ _ _ _ h1 h2 hM hS) (fun c9 => absurd (by rw [hz1, hz2]) c9)
set_option maxHeartbeats 4000000 in
theorem lw_case14 (B0 : lwB G p s m c b L xs) (hi : i + 6 ≤ L) {hx hm : Nat} (hap : hx + 106 ≤ hm) {S : mST} {E : mE} (h1 : st G E hx S) (h2 : rf G E hm S) (hM : mm_M G E H) (hS : va_S (mm_A G) s.heap H locs) (hl : lv_has ls 4 [(0, .ref b), (1, .ref hx), (2, .ref hm), (3, .int (nI i))])
    (kk : ∀ (S1 : mST) (E1 : mE) (H1 : Heap) (locs1 : List Loc), st G E1 hx S1 → rf G E1 hm S1 → mm_M G E1 H1 → va_S (mm_A G) s.heap H1 locs1 → W p l e room_1 s m #[Value.ref b] below meth c H1 locs1 119 4616 Q (F0 m 1577 ls [])) : W p l e room_1 s m #[Value.ref b] below meth c H locs 119 4616 Q (F0 m 728 ls []) := by
  have C0 := B0.1
  have hok := h1.okR
  refine lv_aload_n C0.1 C0.2.1 dL_law_728 rfl (lv_at hl 1 rfl) ?_
  refine lw_arg B0 hS hl 1 (by omega) rfl dL_law_729 dL_law_730 dL_law_731 dL_law_732 dL_law_733 ?_
  refine lw_arg B0 hS hl 2 (by omega) rfl dL_law_734 dL_law_735 dL_law_736 dL_law_737 dL_law_738 ?_
  refine lw_arg B0 hS hl 3 (by omega) rfl dL_law_739 dL_law_740 dL_law_741 dL_law_742 dL_law_743 ?_
  refine mm_callVi (C := "OrangeHeaps") (y := yX9_side) (bytes := cX9_side) (maxL := 4) (n := 3) (ret := (some .int)) (rm := rX9_side) (As := [.int (zI (xs (i + 1)).toInt), .int (zI (xs (i + 2)).toInt), .int (zI (xs (i + 3)).toInt)]) (rest := []) C0 ⟨tw_548, tw_549, tw_1, tw_550, by decide +kernel⟩ tw_547 (c_X9_side l G _ h1 (rI_of _) (rI_of _) (rI_of _)) hM h1.1.1 (ci := 8) rfl rfl hl.1 rfl (Nat.le_of_ble_eq_true rfl) ⟨rfl, rfl, (Nat.le_of_ble_eq_true rfl), (Nat.le_of_ble_eq_true rfl), (Nat.le_of_ble_eq_true rfl), (Nat.le_of_ble_eq_true rfl)⟩ dL_law_744 hS (fun z1 E1 H locs hp hM hS => ?_)
  obtain ⟨hz1, h1, hf1⟩ := hp
  replace h2 := rf.kept h2 (fun q _ _ => hf1 q (by omega))
  refine lv_aload_n C0.1 C0.2.1 dL_law_747 rfl (lv_at hl 2 rfl) ?_
  refine lw_arg B0 hS hl 1 (by omega) rfl dL_law_748 dL_law_749 dL_law_750 dL_law_751 dL_law_752 ?_
  refine lw_arg B0 hS hl 2 (by omega) rfl dL_law_753 dL_law_754 dL_law_755 dL_law_756 dL_law_757 ?_
  refine lw_arg B0 hS hl 3 (by omega) rfl dL_law_758 dL_law_759 dL_law_760 dL_law_761 dL_law_762 ?_
  obtain ⟨fs9, hob⟩ := h2.obj
  refine mm_callVi (C := "OrangeHeapsModel") (y := yX10_side) (bytes := cX10_side) (maxL := 4) (n := 3) (ret := (some .int)) (rm := rX10_side) (As := [.int (zI (xs (i + 1)).toInt), .int (zI (xs (i + 2)).toInt), .int (zI (xs (i + 3)).toInt)]) (rest := [.int (zI z1)]) C0 ⟨tw_1182, tw_1183, tw_10, tw_1184, by decide +kernel⟩ tw_1181 (c_X10_side l G _ h2 hok (rI_of _) (rI_of _) (rI_of _)) hM hob (ci := 9) rfl rfl hl.1 rfl (Nat.le_of_ble_eq_true rfl) ⟨rfl, rfl, (Nat.le_of_ble_eq_true rfl), (Nat.le_of_ble_eq_true rfl), (Nat.le_of_ble_eq_true rfl), (Nat.le_of_ble_eq_true rfl)⟩ dL_law_763 hS (fun z2 E2 H locs hp hM hS => ?_)
  obtain ⟨hz2, h2, hf2⟩ := hp
  replace h1 := st.kept h1 (fun q _ => hf2 q (by omega))
  exact lv_icmp_eq (tgt := 1577) C0.1 C0.2.1 dL_law_766 (by decide) (fun _ => kk _ _ _ _ h1 h2 hM hS) (fun c9 => absurd (by rw [hz1, hz2]) c9)
set_option maxHeartbeats 4000000 in
theorem lw_case15 (B0 : lwB G p s m c b L xs) (hi : i + 6 ≤ L) {hx hm : Nat} (hap : hx + 106 ≤ hm) {S : mST} {E : mE} (h1 : st G E hx S) (h2 : rf G E hm S) (hM : mm_M G E H) (hS : va_S (mm_A G) s.heap H locs) (hl : lv_has ls 4 [(0, .ref b), (1, .ref hx), (2, .ref hm), (3, .int (nI i))])
    (kk : ∀ (S1 : mST) (E1 : mE) (H1 : Heap) (locs1 : List Loc), st G E1 hx S1 → rf G E1 hm S1 → mm_M G E1 H1 → va_S (mm_A G) s.heap H1 locs1 → W p l e room_1 s m #[Value.ref b] below meth c H1 locs1 119 4616 Q (F0 m 1577 ls [])) : W p l e room_1 s m #[Value.ref b] below meth c H locs 119 4616 Q (F0 m 771 ls []) := by
  have C0 := B0.1
  have hok := h1.okR
  refine lv_aload_n C0.1 C0.2.1 dL_law_771 rfl (lv_at hl 1 rfl) ?_
  refine lw_arg B0 hS hl 1 (by omega) rfl dL_law_772 dL_law_773 dL_law_774 dL_law_775 dL_law_776 ?_
  refine lw_arg B0 hS hl 2 (by omega) rfl dL_law_777 dL_law_778 dL_law_779 dL_law_780 dL_law_781 ?_
  refine lw_arg B0 hS hl 3 (by omega) rfl dL_law_782 dL_law_783 dL_law_784 dL_law_785 dL_law_786 ?_
  refine lw_arg B0 hS hl 4 (by omega) rfl dL_law_787 dL_law_788 dL_law_789 dL_law_790 dL_law_791 ?_
  refine mm_callVi (C := "OrangeHeaps") (y := yX9_one) (bytes := cX9_one) (maxL := 5) (n := 4) (ret := (some .int)) (rm := rX9_one) (As := [.int (zI (xs (i + 1)).toInt), .int (zI (xs (i + 2)).toInt), .int (zI (xs (i + 3)).toInt), .int (zI (xs (i + 4)).toInt)]) (rest := []) C0 ⟨tw_552, tw_553, tw_1, tw_554, by decide +kernel⟩ tw_551 (c_X9_one l G _ h1 (rI_of _) (rI_of _) (rI_of _) (rI_of _)) hM h1.1.1 (ci := 8) rfl rfl hl.1 rfl (Nat.le_of_ble_eq_true rfl) ⟨rfl, rfl, (Nat.le_of_ble_eq_true rfl), (Nat.le_of_ble_eq_true rfl), (Nat.le_of_ble_eq_true rfl), (Nat.le_of_ble_eq_true rfl)⟩ dL_law_792 hS (fun z1 E1 H locs hp hM hS => ?_)
  obtain ⟨hz1, h1, hf1⟩ := hp
  replace h2 := rf.kept h2 (fun q _ _ => hf1 q (by omega))
  refine lv_aload_n C0.1 C0.2.1 dL_law_795 rfl (lv_at hl 2 rfl) ?_
  refine lw_arg B0 hS hl 1 (by omega) rfl dL_law_796 dL_law_797 dL_law_798 dL_law_799 dL_law_800 ?_
  refine lw_arg B0 hS hl 2 (by omega) rfl dL_law_801 dL_law_802 dL_law_803 dL_law_804 dL_law_805 ?_
  refine lw_arg B0 hS hl 3 (by omega) rfl dL_law_806 dL_law_807 dL_law_808 dL_law_809 dL_law_810 ?_
  refine lw_arg B0 hS hl 4 (by omega) rfl dL_law_811 dL_law_812 dL_law_813 dL_law_814 dL_law_815 ?_
  obtain ⟨fs9, hob⟩ := h2.obj
  refine mm_callVi (C := "OrangeHeapsModel") (y := yX10_one) (bytes := cX10_one) (maxL := 7) (n := 4) (ret := (some .int)) (rm := rX10_one) (As := [.int (zI (xs (i + 1)).toInt), .int (zI (xs (i + 2)).toInt), .int (zI (xs (i + 3)).toInt), .int (zI (xs (i + 4)).toInt)]) (rest := [.int (zI z1)]) C0 ⟨tw_1230, tw_1231, tw_10, tw_1232, by decide +kernel⟩ tw_1229 (c_X10_one l G _ h2 hok (rI_of _) (rI_of _) (rI_of _) (rI_of _)) hM hob (ci := 9) rfl rfl hl.1 rfl (Nat.le_of_ble_eq_true rfl) ⟨rfl, rfl, (Nat.le_of_ble_eq_true rfl), (Nat.le_of_ble_eq_true rfl), (Nat.le_of_ble_eq_true rfl), (Nat.le_of_ble_eq_true rfl)⟩ dL_law_816 hS (fun z2 E2 H locs hp hM hS => ?_)
  obtain ⟨hz2, h2, hf2⟩ := hp
  replace h1 := st.kept h1 (fun q _ => hf2 q (by omega))
  exact lv_icmp_eq (tgt := 1577) C0.1 C0.2.1 dL_law_819 (by decide) (fun _ => kk _ _ _ _ h1 h2 hM hS) (fun c9 => absurd (by rw [hz1, hz2]) c9)
set_option maxHeartbeats 4000000 in
theorem lw_case16 (B0 : lwB G p s m c b L xs) (hi : i + 6 ≤ L) {hx hm : Nat} (hap : hx + 106 ≤ hm) {S : mST} {E : mE} (h1 : st G E hx S) (h2 : rf G E hm S) (hM : mm_M G E H) (hS : va_S (mm_A G) s.heap H locs) (hl : lv_has ls 4 [(0, .ref b), (1, .ref hx), (2, .ref hm), (3, .int (nI i))])
    (kk : ∀ (S1 : mST) (E1 : mE) (H1 : Heap) (locs1 : List Loc), st G E1 hx S1 → rf G E1 hm S1 → mm_M G E1 H1 → va_S (mm_A G) s.heap H1 locs1 → W p l e room_1 s m #[Value.ref b] below meth c H1 locs1 119 4616 Q (F0 m 1577 ls [])) : W p l e room_1 s m #[Value.ref b] below meth c H locs 119 4616 Q (F0 m 824 ls []) := by
  have C0 := B0.1
  have hok := h1.okR
  refine lv_aload_n C0.1 C0.2.1 dL_law_824 rfl (lv_at hl 1 rfl) ?_
  refine lw_arg B0 hS hl 1 (by omega) rfl dL_law_825 dL_law_826 dL_law_827 dL_law_828 dL_law_829 ?_
  refine mm_callVi (C := "OrangeHeaps") (y := yX9_less) (bytes := cX9_less) (maxL := 2) (n := 1) (ret := (some .int)) (rm := rX9_less) (As := [.int (zI (xs (i + 1)).toInt)]) (rest := []) C0 ⟨tw_605, tw_606, tw_1, tw_607, by decide +kernel⟩ tw_604 (c_X9_less l G _ h1 (rI_of _)) hM h1.1.1 (ci := 8) rfl rfl hl.1 rfl (Nat.le_of_ble_eq_true rfl) ⟨rfl, rfl, (Nat.le_of_ble_eq_true rfl), (Nat.le_of_ble_eq_true rfl), (Nat.le_of_ble_eq_true rfl), (Nat.le_of_ble_eq_true rfl)⟩ dL_law_830 hS (fun z1 E1 H locs hp hM hS => ?_)
  obtain ⟨hz1, h1, hf1⟩ := hp
  replace h2 := rf.kept h2 (fun q _ _ => hf1 q (by omega))
  refine lv_aload_n C0.1 C0.2.1 dL_law_833 rfl (lv_at hl 2 rfl) ?_
  refine lw_arg B0 hS hl 1 (by omega) rfl dL_law_834 dL_law_835 dL_law_836 dL_law_837 dL_law_838 ?_
  obtain ⟨fs9, hob⟩ := h2.obj
  refine mm_callVi (C := "OrangeHeapsModel") (y := yX10_less) (bytes := cX10_less) (maxL := 2) (n := 1) (ret := (some .int)) (rm := rX10_less) (As := [.int (zI (xs (i + 1)).toInt)]) (rest := [.int (zI z1)]) C0 ⟨tw_1214, tw_1215, tw_10, tw_1216, by decide +kernel⟩ tw_1213 (c_X10_less l G _ h2 hok (rI_of _)) hM hob (ci := 9) rfl rfl hl.1 rfl (Nat.le_of_ble_eq_true rfl) ⟨rfl, rfl, (Nat.le_of_ble_eq_true rfl), (Nat.le_of_ble_eq_true rfl), (Nat.le_of_ble_eq_true rfl), (Nat.le_of_ble_eq_true rfl)⟩ dL_law_839 hS (fun z2 E2 H locs hp hM hS => ?_)
  obtain ⟨hz2, h2, hf2⟩ := hp
  replace h1 := st.kept h1 (fun q _ => hf2 q (by omega))
  exact lv_icmp_eq (tgt := 1577) C0.1 C0.2.1 dL_law_842 (by decide) (fun _ => kk _ _ _ _ h1 h2 hM hS) (fun c9 => absurd (by rw [hz1, hz2]) c9)
set_option maxHeartbeats 4000000 in
theorem lw_case17 (B0 : lwB G p s m c b L xs) (hi : i + 6 ≤ L) {hx hm : Nat} (hap : hx + 106 ≤ hm) {S : mST} {E : mE} (h1 : st G E hx S) (h2 : rf G E hm S) (hM : mm_M G E H) (hS : va_S (mm_A G) s.heap H locs) (hl : lv_has ls 4 [(0, .ref b), (1, .ref hx), (2, .ref hm), (3, .int (nI i))])
    (kk : ∀ (S1 : mST) (E1 : mE) (H1 : Heap) (locs1 : List Loc), st G E1 hx S1 → rf G E1 hm S1 → mm_M G E1 H1 → va_S (mm_A G) s.heap H1 locs1 → W p l e room_1 s m #[Value.ref b] below meth c H1 locs1 119 4616 Q (F0 m 1577 ls [])) : W p l e room_1 s m #[Value.ref b] below meth c H locs 119 4616 Q (F0 m 847 ls []) := by
  have C0 := B0.1
  have hok := h1.okR
  refine lv_aload_n C0.1 C0.2.1 dL_law_847 rfl (lv_at hl 1 rfl) ?_
  refine lw_arg B0 hS hl 1 (by omega) rfl dL_law_848 dL_law_849 dL_law_850 dL_law_851 dL_law_852 ?_
  refine lw_arg B0 hS hl 2 (by omega) rfl dL_law_853 dL_law_854 dL_law_855 dL_law_856 dL_law_857 ?_
  refine mm_callVi (C := "OrangeHeaps") (y := yX9_round) (bytes := cX9_round) (maxL := 3) (n := 2) (ret := (some .int)) (rm := rX9_round) (As := [.int (zI (xs (i + 1)).toInt), .int (zI (xs (i + 2)).toInt)]) (rest := []) C0 ⟨tw_610, tw_611, tw_1, tw_612, by decide +kernel⟩ tw_609 (c_X9_round l G _ h1 (rI_of _) (rI_of _)) hM h1.1.1 (ci := 8) rfl rfl hl.1 rfl (Nat.le_of_ble_eq_true rfl) ⟨rfl, rfl, (Nat.le_of_ble_eq_true rfl), (Nat.le_of_ble_eq_true rfl), (Nat.le_of_ble_eq_true rfl), (Nat.le_of_ble_eq_true rfl)⟩ dL_law_858 hS (fun z1 E1 H locs hp hM hS => ?_)
  obtain ⟨hz1, h1, hf1⟩ := hp
  replace h2 := rf.kept h2 (fun q _ _ => hf1 q (by omega))
  refine lv_aload_n C0.1 C0.2.1 dL_law_861 rfl (lv_at hl 2 rfl) ?_
  refine lw_arg B0 hS hl 1 (by omega) rfl dL_law_862 dL_law_863 dL_law_864 dL_law_865 dL_law_866 ?_
  refine lw_arg B0 hS hl 2 (by omega) rfl dL_law_867 dL_law_868 dL_law_869 dL_law_870 dL_law_871 ?_
  obtain ⟨fs9, hob⟩ := h2.obj
  refine mm_callVi (C := "OrangeHeapsModel") (y := yX10_round) (bytes := cX10_round) (maxL := 6) (n := 2) (ret := (some .int)) (rm := rX10_round) (As := [.int (zI (xs (i + 1)).toInt), .int (zI (xs (i + 2)).toInt)]) (rest := [.int (zI z1)]) C0 ⟨tw_1186, tw_1187, tw_10, tw_1188, by decide +kernel⟩ tw_1185 (c_X10_round l G _ h2 hok (rI_of _) (rI_of _)) hM hob (ci := 9) rfl rfl hl.1 rfl (Nat.le_of_ble_eq_true rfl) ⟨rfl, rfl, (Nat.le_of_ble_eq_true rfl), (Nat.le_of_ble_eq_true rfl), (Nat.le_of_ble_eq_true rfl), (Nat.le_of_ble_eq_true rfl)⟩ dL_law_872 hS (fun z2 E2 H locs hp hM hS => ?_)
  obtain ⟨hz2, h2, hf2⟩ := hp
  replace h1 := st.kept h1 (fun q _ => hf2 q (by omega))
  exact lv_icmp_eq (tgt := 1577) C0.1 C0.2.1 dL_law_875 (by decide) (fun _ => kk _ _ _ _ h1 h2 hM hS) (fun c9 => absurd (by rw [hz1, hz2]) c9)
set_option maxHeartbeats 4000000 in
theorem lw_case18 (B0 : lwB G p s m c b L xs) (hi : i + 6 ≤ L) {hx hm : Nat} (hap : hx + 106 ≤ hm) {S : mST} {E : mE} (h1 : st G E hx S) (h2 : rf G E hm S) (hM : mm_M G E H) (hS : va_S (mm_A G) s.heap H locs) (hl : lv_has ls 4 [(0, .ref b), (1, .ref hx), (2, .ref hm), (3, .int (nI i))])
    (kk : ∀ (S1 : mST) (E1 : mE) (H1 : Heap) (locs1 : List Loc), st G E1 hx S1 → rf G E1 hm S1 → mm_M G E1 H1 → va_S (mm_A G) s.heap H1 locs1 → W p l e room_1 s m #[Value.ref b] below meth c H1 locs1 119 4616 Q (F0 m 1577 ls [])) : W p l e room_1 s m #[Value.ref b] below meth c H locs 119 4616 Q (F0 m 880 ls []) := by
  have C0 := B0.1
  have hok := h1.okR
  refine lv_aload_n C0.1 C0.2.1 dL_law_880 rfl (lv_at hl 1 rfl) ?_
  refine lw_arg B0 hS hl 1 (by omega) rfl dL_law_881 dL_law_882 dL_law_883 dL_law_884 dL_law_885 ?_
  refine lw_arg B0 hS hl 2 (by omega) rfl dL_law_886 dL_law_887 dL_law_888 dL_law_889 dL_law_890 ?_
  refine lw_arg B0 hS hl 3 (by omega) rfl dL_law_891 dL_law_892 dL_law_893 dL_law_894 dL_law_895 ?_
  refine lw_arg B0 hS hl 4 (by omega) rfl dL_law_896 dL_law_897 dL_law_898 dL_law_899 dL_law_900 ?_
  refine mm_callVi (C := "OrangeHeaps") (y := yX9_near) (bytes := cX9_near) (maxL := 5) (n := 4) (ret := (some .int)) (rm := rX9_near) (As := [.int (zI (xs (i + 1)).toInt), .int (zI (xs (i + 2)).toInt), .int (zI (xs (i + 3)).toInt), .int (zI (xs (i + 4)).toInt)]) (rest := []) C0 ⟨tw_618, tw_619, tw_1, tw_620, by decide +kernel⟩ tw_617 (c_X9_near l G _ h1 (rI_of _) (rI_of _) (rI_of _) (rI_of _)) hM h1.1.1 (ci := 8) rfl rfl hl.1 rfl (Nat.le_of_ble_eq_true rfl) ⟨rfl, rfl, (Nat.le_of_ble_eq_true rfl), (Nat.le_of_ble_eq_true rfl), (Nat.le_of_ble_eq_true rfl), (Nat.le_of_ble_eq_true rfl)⟩ dL_law_901 hS (fun z1 E1 H locs hp hM hS => ?_)
  obtain ⟨hz1, h1, hf1⟩ := hp
  replace h2 := rf.kept h2 (fun q _ _ => hf1 q (by omega))
  refine lv_aload_n C0.1 C0.2.1 dL_law_904 rfl (lv_at hl 2 rfl) ?_
  refine lw_arg B0 hS hl 1 (by omega) rfl dL_law_905 dL_law_906 dL_law_907 dL_law_908 dL_law_909 ?_
  refine lw_arg B0 hS hl 2 (by omega) rfl dL_law_910 dL_law_911 dL_law_912 dL_law_913 dL_law_914 ?_
  refine lw_arg B0 hS hl 3 (by omega) rfl dL_law_915 dL_law_916 dL_law_917 dL_law_918 dL_law_919 ?_
  refine lw_arg B0 hS hl 4 (by omega) rfl dL_law_920 dL_law_921 dL_law_922 dL_law_923 dL_law_924 ?_
  obtain ⟨fs9, hob⟩ := h2.obj
  refine mm_callVi (C := "OrangeHeapsModel") (y := yX10_near) (bytes := cX10_near) (maxL := 5) (n := 4) (ret := (some .int)) (rm := rX10_near) (As := [.int (zI (xs (i + 1)).toInt), .int (zI (xs (i + 2)).toInt), .int (zI (xs (i + 3)).toInt), .int (zI (xs (i + 4)).toInt)]) (rest := [.int (zI z1)]) C0 ⟨tw_1218, tw_1219, tw_10, tw_1220, by decide +kernel⟩ tw_1217 (c_X10_near l G _ h2 hok (rI_of _) (rI_of _) (rI_of _) (rI_of _)) hM hob (ci := 9) rfl rfl hl.1 rfl (Nat.le_of_ble_eq_true rfl) ⟨rfl, rfl, (Nat.le_of_ble_eq_true rfl), (Nat.le_of_ble_eq_true rfl), (Nat.le_of_ble_eq_true rfl), (Nat.le_of_ble_eq_true rfl)⟩ dL_law_925 hS (fun z2 E2 H locs hp hM hS => ?_)
  obtain ⟨hz2, h2, hf2⟩ := hp
  replace h1 := st.kept h1 (fun q _ => hf2 q (by omega))
  exact lv_icmp_eq (tgt := 1577) C0.1 C0.2.1 dL_law_928 (by decide) (fun _ => kk _ _ _ _ h1 h2 hM hS) (fun c9 => absurd (by rw [hz1, hz2]) c9)
set_option maxHeartbeats 4000000 in
theorem lw_case19 (B0 : lwB G p s m c b L xs) (hi : i + 6 ≤ L) {hx hm : Nat} (hap : hx + 106 ≤ hm) {S : mST} {E : mE} (h1 : st G E hx S) (h2 : rf G E hm S) (hM : mm_M G E H) (hS : va_S (mm_A G) s.heap H locs) (hl : lv_has ls 4 [(0, .ref b), (1, .ref hx), (2, .ref hm), (3, .int (nI i))])
    (kk : ∀ (S1 : mST) (E1 : mE) (H1 : Heap) (locs1 : List Loc), st G E1 hx S1 → rf G E1 hm S1 → mm_M G E1 H1 → va_S (mm_A G) s.heap H1 locs1 → W p l e room_1 s m #[Value.ref b] below meth c H1 locs1 119 4616 Q (F0 m 1577 ls [])) : W p l e room_1 s m #[Value.ref b] below meth c H locs 119 4616 Q (F0 m 933 ls []) := by
  have C0 := B0.1
  have hok := h1.okR
  refine lv_aload_n C0.1 C0.2.1 dL_law_933 rfl (lv_at hl 1 rfl) ?_
  refine lw_arg B0 hS hl 1 (by omega) rfl dL_law_934 dL_law_935 dL_law_936 dL_law_937 dL_law_938 ?_
  refine lw_arg B0 hS hl 2 (by omega) rfl dL_law_939 dL_law_940 dL_law_941 dL_law_942 dL_law_943 ?_
  refine lw_arg B0 hS hl 3 (by omega) rfl dL_law_944 dL_law_945 dL_law_946 dL_law_947 dL_law_948 ?_
  refine mm_callVi (C := "OrangeHeaps") (y := yX9_off) (bytes := cX9_off) (maxL := 4) (n := 3) (ret := (some .int)) (rm := rX9_off) (As := [.int (zI (xs (i + 1)).toInt), .int (zI (xs (i + 2)).toInt), .int (zI (xs (i + 3)).toInt)]) (rest := []) C0 ⟨tw_623, tw_624, tw_1, tw_625, by decide +kernel⟩ tw_622 (c_X9_off l G _ h1 (rI_of _) (rI_of _) (rI_of _)) hM h1.1.1 (ci := 8) rfl rfl hl.1 rfl (Nat.le_of_ble_eq_true rfl) ⟨rfl, rfl, (Nat.le_of_ble_eq_true rfl), (Nat.le_of_ble_eq_true rfl), (Nat.le_of_ble_eq_true rfl), (Nat.le_of_ble_eq_true rfl)⟩ dL_law_949 hS (fun z1 E1 H locs hp hM hS => ?_)
  obtain ⟨hz1, h1, hf1⟩ := hp
  replace h2 := rf.kept h2 (fun q _ _ => hf1 q (by omega))
  refine lv_aload_n C0.1 C0.2.1 dL_law_952 rfl (lv_at hl 2 rfl) ?_
  refine lw_arg B0 hS hl 1 (by omega) rfl dL_law_953 dL_law_954 dL_law_955 dL_law_956 dL_law_957 ?_
  refine lw_arg B0 hS hl 2 (by omega) rfl dL_law_958 dL_law_959 dL_law_960 dL_law_961 dL_law_962 ?_
  refine lw_arg B0 hS hl 3 (by omega) rfl dL_law_963 dL_law_964 dL_law_965 dL_law_966 dL_law_967 ?_
  obtain ⟨fs9, hob⟩ := h2.obj
  refine mm_callVi (C := "OrangeHeapsModel") (y := yX10_off) (bytes := cX10_off) (maxL := 6) (n := 3) (ret := (some .int)) (rm := rX10_off) (As := [.int (zI (xs (i + 1)).toInt), .int (zI (xs (i + 2)).toInt), .int (zI (xs (i + 3)).toInt)]) (rest := [.int (zI z1)]) C0 ⟨tw_1234, tw_1235, tw_10, tw_1236, by decide +kernel⟩ tw_1233 (c_X10_off l G _ h2 hok (rI_of _) (rI_of _) (rI_of _)) hM hob (ci := 9) rfl rfl hl.1 rfl (Nat.le_of_ble_eq_true rfl) ⟨rfl, rfl, (Nat.le_of_ble_eq_true rfl), (Nat.le_of_ble_eq_true rfl), (Nat.le_of_ble_eq_true rfl), (Nat.le_of_ble_eq_true rfl)⟩ dL_law_968 hS (fun z2 E2 H locs hp hM hS => ?_)
  obtain ⟨hz2, h2, hf2⟩ := hp
  replace h1 := st.kept h1 (fun q _ => hf2 q (by omega))
  exact lv_icmp_eq (tgt := 1577) C0.1 C0.2.1 dL_law_971 (by decide) (fun _ => kk _ _ _ _ h1 h2 hM hS) (fun c9 => absurd (by rw [hz1, hz2]) c9)
set_option maxHeartbeats 4000000 in
theorem lw_case20 (B0 : lwB G p s m c b L xs) (hi : i + 6 ≤ L) {hx hm : Nat} (hap : hx + 106 ≤ hm) {S : mST} {E : mE} (h1 : st G E hx S) (h2 : rf G E hm S) (hM : mm_M G E H) (hS : va_S (mm_A G) s.heap H locs) (hl : lv_has ls 4 [(0, .ref b), (1, .ref hx), (2, .ref hm), (3, .int (nI i))])
    (kk : ∀ (S1 : mST) (E1 : mE) (H1 : Heap) (locs1 : List Loc), st G E1 hx S1 → rf G E1 hm S1 → mm_M G E1 H1 → va_S (mm_A G) s.heap H1 locs1 → W p l e room_1 s m #[Value.ref b] below meth c H1 locs1 119 4616 Q (F0 m 1577 ls [])) : W p l e room_1 s m #[Value.ref b] below meth c H locs 119 4616 Q (F0 m 976 ls []) := by
  have C0 := B0.1
  have hok := h1.okR
  refine lv_aload_n C0.1 C0.2.1 dL_law_976 rfl (lv_at hl 1 rfl) ?_
  refine lw_arg B0 hS hl 1 (by omega) rfl dL_law_977 dL_law_978 dL_law_979 dL_law_980 dL_law_981 ?_
  refine lw_arg B0 hS hl 2 (by omega) rfl dL_law_982 dL_law_983 dL_law_984 dL_law_985 dL_law_986 ?_
  refine lw_arg B0 hS hl 3 (by omega) rfl dL_law_987 dL_law_988 dL_law_989 dL_law_990 dL_law_991 ?_
  refine lw_arg B0 hS hl 4 (by omega) rfl dL_law_992 dL_law_993 dL_law_994 dL_law_995 dL_law_996 ?_
  refine mm_callVi (C := "OrangeHeaps") (y := yX9_best) (bytes := cX9_best) (maxL := 5) (n := 4) (ret := (some .int)) (rm := rX9_best) (As := [.int (zI (xs (i + 1)).toInt), .int (zI (xs (i + 2)).toInt), .int (zI (xs (i + 3)).toInt), .int (zI (xs (i + 4)).toInt)]) (rest := []) C0 ⟨tw_635, tw_636, tw_1, tw_637, by decide +kernel⟩ tw_634 (c_X9_best l G _ h1 (rI_of _) (rI_of _) (rI_of _) (rI_of _)) hM h1.1.1 (ci := 8) rfl rfl hl.1 rfl (Nat.le_of_ble_eq_true rfl) ⟨rfl, rfl, (Nat.le_of_ble_eq_true rfl), (Nat.le_of_ble_eq_true rfl), (Nat.le_of_ble_eq_true rfl), (Nat.le_of_ble_eq_true rfl)⟩ dL_law_997 hS (fun z1 E1 H locs hp hM hS => ?_)
  obtain ⟨hz1, h1, hf1⟩ := hp
  replace h2 := rf.kept h2 (fun q _ _ => hf1 q (by omega))
  refine lv_aload_n C0.1 C0.2.1 dL_law_1000 rfl (lv_at hl 2 rfl) ?_
  refine lw_arg B0 hS hl 1 (by omega) rfl dL_law_1001 dL_law_1002 dL_law_1003 dL_law_1004 dL_law_1005 ?_
  refine lw_arg B0 hS hl 2 (by omega) rfl dL_law_1006 dL_law_1007 dL_law_1008 dL_law_1009 dL_law_1010 ?_
  refine lw_arg B0 hS hl 3 (by omega) rfl dL_law_1011 dL_law_1012 dL_law_1013 dL_law_1014 dL_law_1015 ?_
  refine lw_arg B0 hS hl 4 (by omega) rfl dL_law_1016 dL_law_1017 dL_law_1018 dL_law_1019 dL_law_1020 ?_
  obtain ⟨fs9, hob⟩ := h2.obj
  refine mm_callVi (C := "OrangeHeapsModel") (y := yX10_best) (bytes := cX10_best) (maxL := 17) (n := 4) (ret := (some .int)) (rm := rX10_best) (As := [.int (zI (xs (i + 1)).toInt), .int (zI (xs (i + 2)).toInt), .int (zI (xs (i + 3)).toInt), .int (zI (xs (i + 4)).toInt)]) (rest := [.int (zI z1)]) C0 ⟨tw_1239, tw_1240, tw_10, tw_1241, by decide +kernel⟩ tw_1238 (c_X10_best l G _ h2 hok (rI_of _) (rI_of _) (rI_of _) (rI_of _)) hM hob (ci := 9) rfl rfl hl.1 rfl (Nat.le_of_ble_eq_true rfl) ⟨rfl, rfl, (Nat.le_of_ble_eq_true rfl), (Nat.le_of_ble_eq_true rfl), (Nat.le_of_ble_eq_true rfl), (Nat.le_of_ble_eq_true rfl)⟩ dL_law_1021 hS (fun z2 E2 H locs hp hM hS => ?_)
  obtain ⟨hz2, h2, hf2⟩ := hp
  replace h1 := st.kept h1 (fun q _ => hf2 q (by omega))
  exact lv_icmp_eq (tgt := 1577) C0.1 C0.2.1 dL_law_1024 (by decide) (fun _ => kk _ _ _ _ h1 h2 hM hS) (fun c9 => absurd (by rw [hz1, hz2]) c9)
set_option maxHeartbeats 4000000 in
theorem lw_case21 (B0 : lwB G p s m c b L xs) (hi : i + 6 ≤ L) {hx hm : Nat} (hap : hx + 106 ≤ hm) {S : mST} {E : mE} (h1 : st G E hx S) (h2 : rf G E hm S) (hM : mm_M G E H) (hS : va_S (mm_A G) s.heap H locs) (hl : lv_has ls 4 [(0, .ref b), (1, .ref hx), (2, .ref hm), (3, .int (nI i))])
    (kk : ∀ (S1 : mST) (E1 : mE) (H1 : Heap) (locs1 : List Loc), st G E1 hx S1 → rf G E1 hm S1 → mm_M G E1 H1 → va_S (mm_A G) s.heap H1 locs1 → W p l e room_1 s m #[Value.ref b] below meth c H1 locs1 119 4616 Q (F0 m 1577 ls [])) : W p l e room_1 s m #[Value.ref b] below meth c H locs 119 4616 Q (F0 m 1029 ls []) := by
  have C0 := B0.1
  have hok := h1.okR
  refine lv_aload_n C0.1 C0.2.1 dL_law_1029 rfl (lv_at hl 1 rfl) ?_
  refine lw_arg B0 hS hl 1 (by omega) rfl dL_law_1030 dL_law_1031 dL_law_1032 dL_law_1033 dL_law_1034 ?_
  refine lw_arg B0 hS hl 2 (by omega) rfl dL_law_1035 dL_law_1036 dL_law_1037 dL_law_1038 dL_law_1039 ?_
  refine mm_callVi (C := "OrangeHeaps") (y := yX9_two) (bytes := cX9_two) (maxL := 3) (n := 2) (ret := (some .int)) (rm := rX9_two) (As := [.int (zI (xs (i + 1)).toInt), .int (zI (xs (i + 2)).toInt)]) (rest := []) C0 ⟨tw_646, tw_647, tw_1, tw_648, by decide +kernel⟩ tw_645 (c_X9_two l G _ h1 (rI_of _) (rI_of _)) hM h1.1.1 (ci := 8) rfl rfl hl.1 rfl (Nat.le_of_ble_eq_true rfl) ⟨rfl, rfl, (Nat.le_of_ble_eq_true rfl), (Nat.le_of_ble_eq_true rfl), (Nat.le_of_ble_eq_true rfl), (Nat.le_of_ble_eq_true rfl)⟩ dL_law_1040 hS (fun z1 E1 H locs hp hM hS => ?_)
  obtain ⟨hz1, h1, hf1⟩ := hp
  replace h2 := rf.kept h2 (fun q _ _ => hf1 q (by omega))
  refine lv_aload_n C0.1 C0.2.1 dL_law_1043 rfl (lv_at hl 2 rfl) ?_
  refine lw_arg B0 hS hl 1 (by omega) rfl dL_law_1044 dL_law_1045 dL_law_1046 dL_law_1047 dL_law_1048 ?_
  refine lw_arg B0 hS hl 2 (by omega) rfl dL_law_1049 dL_law_1050 dL_law_1051 dL_law_1052 dL_law_1053 ?_
  obtain ⟨fs9, hob⟩ := h2.obj
  refine mm_callVi (C := "OrangeHeapsModel") (y := yX10_two) (bytes := cX10_two) (maxL := 5) (n := 2) (ret := (some .int)) (rm := rX10_two) (As := [.int (zI (xs (i + 1)).toInt), .int (zI (xs (i + 2)).toInt)]) (rest := [.int (zI z1)]) C0 ⟨tw_1245, tw_1246, tw_10, tw_1247, by decide +kernel⟩ tw_1244 (c_X10_two l G _ h2 hok (rI_of _) (rI_of _)) hM hob (ci := 9) rfl rfl hl.1 rfl (Nat.le_of_ble_eq_true rfl) ⟨rfl, rfl, (Nat.le_of_ble_eq_true rfl), (Nat.le_of_ble_eq_true rfl), (Nat.le_of_ble_eq_true rfl), (Nat.le_of_ble_eq_true rfl)⟩ dL_law_1054 hS (fun z2 E2 H locs hp hM hS => ?_)
  obtain ⟨hz2, h2, hf2⟩ := hp
  replace h1 := st.kept h1 (fun q _ => hf2 q (by omega))
  exact lv_icmp_eq (tgt := 1577) C0.1 C0.2.1 dL_law_1057 (by decide) (fun _ => kk _ _ _ _ h1 h2 hM hS) (fun c9 => absurd (by rw [hz1, hz2]) c9)
set_option maxHeartbeats 4000000 in
theorem lw_case22 (B0 : lwB G p s m c b L xs) (hi : i + 6 ≤ L) {hx hm : Nat} (hap : hx + 106 ≤ hm) {S : mST} {E : mE} (h1 : st G E hx S) (h2 : rf G E hm S) (hM : mm_M G E H) (hS : va_S (mm_A G) s.heap H locs) (hl : lv_has ls 4 [(0, .ref b), (1, .ref hx), (2, .ref hm), (3, .int (nI i))])
    (kk : ∀ (S1 : mST) (E1 : mE) (H1 : Heap) (locs1 : List Loc), st G E1 hx S1 → rf G E1 hm S1 → mm_M G E1 H1 → va_S (mm_A G) s.heap H1 locs1 → W p l e room_1 s m #[Value.ref b] below meth c H1 locs1 119 4616 Q (F0 m 1577 ls [])) : W p l e room_1 s m #[Value.ref b] below meth c H locs 119 4616 Q (F0 m 1062 ls []) := by
  have C0 := B0.1
  have hok := h1.okR
  refine lv_aload_n C0.1 C0.2.1 dL_law_1062 rfl (lv_at hl 1 rfl) ?_
  refine lw_arg B0 hS hl 1 (by omega) rfl dL_law_1063 dL_law_1064 dL_law_1065 dL_law_1066 dL_law_1067 ?_
  refine lw_arg B0 hS hl 2 (by omega) rfl dL_law_1068 dL_law_1069 dL_law_1070 dL_law_1071 dL_law_1072 ?_
  refine mm_callVi (C := "OrangeHeaps") (y := yX9_three) (bytes := cX9_three) (maxL := 3) (n := 2) (ret := (some .int)) (rm := rX9_three) (As := [.int (zI (xs (i + 1)).toInt), .int (zI (xs (i + 2)).toInt)]) (rest := []) C0 ⟨tw_655, tw_656, tw_1, tw_657, by decide +kernel⟩ tw_654 (c_X9_three l G _ h1 (rI_of _) (rI_of _)) hM h1.1.1 (ci := 8) rfl rfl hl.1 rfl (Nat.le_of_ble_eq_true rfl) ⟨rfl, rfl, (Nat.le_of_ble_eq_true rfl), (Nat.le_of_ble_eq_true rfl), (Nat.le_of_ble_eq_true rfl), (Nat.le_of_ble_eq_true rfl)⟩ dL_law_1073 hS (fun z1 E1 H locs hp hM hS => ?_)
  obtain ⟨hz1, h1, hf1⟩ := hp
  replace h2 := rf.kept h2 (fun q _ _ => hf1 q (by omega))
  refine lv_aload_n C0.1 C0.2.1 dL_law_1076 rfl (lv_at hl 2 rfl) ?_
  refine lw_arg B0 hS hl 1 (by omega) rfl dL_law_1077 dL_law_1078 dL_law_1079 dL_law_1080 dL_law_1081 ?_
  refine lw_arg B0 hS hl 2 (by omega) rfl dL_law_1082 dL_law_1083 dL_law_1084 dL_law_1085 dL_law_1086 ?_
  obtain ⟨fs9, hob⟩ := h2.obj
  refine mm_callVi (C := "OrangeHeapsModel") (y := yX10_three) (bytes := cX10_three) (maxL := 6) (n := 2) (ret := (some .int)) (rm := rX10_three) (As := [.int (zI (xs (i + 1)).toInt), .int (zI (xs (i + 2)).toInt)]) (rest := [.int (zI z1)]) C0 ⟨tw_1249, tw_1250, tw_10, tw_1251, by decide +kernel⟩ tw_1248 (c_X10_three l G _ h2 hok (rI_of _) (rI_of _)) hM hob (ci := 9) rfl rfl hl.1 rfl (Nat.le_of_ble_eq_true rfl) ⟨rfl, rfl, (Nat.le_of_ble_eq_true rfl), (Nat.le_of_ble_eq_true rfl), (Nat.le_of_ble_eq_true rfl), (Nat.le_of_ble_eq_true rfl)⟩ dL_law_1087 hS (fun z2 E2 H locs hp hM hS => ?_)
  obtain ⟨hz2, h2, hf2⟩ := hp
  replace h1 := st.kept h1 (fun q _ => hf2 q (by omega))
  exact lv_icmp_eq (tgt := 1577) C0.1 C0.2.1 dL_law_1090 (by decide) (fun _ => kk _ _ _ _ h1 h2 hM hS) (fun c9 => absurd (by rw [hz1, hz2]) c9)
set_option maxHeartbeats 4000000 in
theorem lw_case23 (B0 : lwB G p s m c b L xs) (hi : i + 6 ≤ L) {hx hm : Nat} (hap : hx + 106 ≤ hm) {S : mST} {E : mE} (h1 : st G E hx S) (h2 : rf G E hm S) (hM : mm_M G E H) (hS : va_S (mm_A G) s.heap H locs) (hl : lv_has ls 4 [(0, .ref b), (1, .ref hx), (2, .ref hm), (3, .int (nI i))])
    (kk : ∀ (S1 : mST) (E1 : mE) (H1 : Heap) (locs1 : List Loc), st G E1 hx S1 → rf G E1 hm S1 → mm_M G E1 H1 → va_S (mm_A G) s.heap H1 locs1 → W p l e room_1 s m #[Value.ref b] below meth c H1 locs1 119 4616 Q (F0 m 1577 ls [])) : W p l e room_1 s m #[Value.ref b] below meth c H locs 119 4616 Q (F0 m 1095 ls []) := by
  have C0 := B0.1
  have hok := h1.okR
  refine lv_aload_n C0.1 C0.2.1 dL_law_1095 rfl (lv_at hl 1 rfl) ?_
  refine lw_arg B0 hS hl 1 (by omega) rfl dL_law_1096 dL_law_1097 dL_law_1098 dL_law_1099 dL_law_1100 ?_
  refine lw_arg B0 hS hl 2 (by omega) rfl dL_law_1101 dL_law_1102 dL_law_1103 dL_law_1104 dL_law_1105 ?_
  refine mm_callVi (C := "OrangeHeaps") (y := yX9_four) (bytes := cX9_four) (maxL := 3) (n := 2) (ret := (some .int)) (rm := rX9_four) (As := [.int (zI (xs (i + 1)).toInt), .int (zI (xs (i + 2)).toInt)]) (rest := []) C0 ⟨tw_669, tw_670, tw_1, tw_671, by decide +kernel⟩ tw_668 (c_X9_four l G _ h1 (rI_of _) (rI_of _)) hM h1.1.1 (ci := 8) rfl rfl hl.1 rfl (Nat.le_of_ble_eq_true rfl) ⟨rfl, rfl, (Nat.le_of_ble_eq_true rfl), (Nat.le_of_ble_eq_true rfl), (Nat.le_of_ble_eq_true rfl), (Nat.le_of_ble_eq_true rfl)⟩ dL_law_1106 hS (fun z1 E1 H locs hp hM hS => ?_)
  obtain ⟨hz1, h1, hf1⟩ := hp
  replace h2 := rf.kept h2 (fun q _ _ => hf1 q (by omega))
  refine lv_aload_n C0.1 C0.2.1 dL_law_1109 rfl (lv_at hl 2 rfl) ?_
  refine lw_arg B0 hS hl 1 (by omega) rfl dL_law_1110 dL_law_1111 dL_law_1112 dL_law_1113 dL_law_1114 ?_
  refine lw_arg B0 hS hl 2 (by omega) rfl dL_law_1115 dL_law_1116 dL_law_1117 dL_law_1118 dL_law_1119 ?_
  obtain ⟨fs9, hob⟩ := h2.obj
  refine mm_callVi (C := "OrangeHeapsModel") (y := yX10_four) (bytes := cX10_four) (maxL := 8) (n := 2) (ret := (some .int)) (rm := rX10_four) (As := [.int (zI (xs (i + 1)).toInt), .int (zI (xs (i + 2)).toInt)]) (rest := [.int (zI z1)]) C0 ⟨tw_1260, tw_1261, tw_10, tw_1262, by decide +kernel⟩ tw_1259 (c_X10_four l G _ h2 hok (rI_of _) (rI_of _)) hM hob (ci := 9) rfl rfl hl.1 rfl (Nat.le_of_ble_eq_true rfl) ⟨rfl, rfl, (Nat.le_of_ble_eq_true rfl), (Nat.le_of_ble_eq_true rfl), (Nat.le_of_ble_eq_true rfl), (Nat.le_of_ble_eq_true rfl)⟩ dL_law_1120 hS (fun z2 E2 H locs hp hM hS => ?_)
  obtain ⟨hz2, h2, hf2⟩ := hp
  replace h1 := st.kept h1 (fun q _ => hf2 q (by omega))
  exact lv_icmp_eq (tgt := 1577) C0.1 C0.2.1 dL_law_1123 (by decide) (fun _ => kk _ _ _ _ h1 h2 hM hS) (fun c9 => absurd (by rw [hz1, hz2]) c9)
set_option maxHeartbeats 4000000 in
theorem lw_case24 (B0 : lwB G p s m c b L xs) (hi : i + 6 ≤ L) {hx hm : Nat} (hap : hx + 106 ≤ hm) {S : mST} {E : mE} (h1 : st G E hx S) (h2 : rf G E hm S) (hM : mm_M G E H) (hS : va_S (mm_A G) s.heap H locs) (hl : lv_has ls 4 [(0, .ref b), (1, .ref hx), (2, .ref hm), (3, .int (nI i))])
    (kk : ∀ (S1 : mST) (E1 : mE) (H1 : Heap) (locs1 : List Loc), st G E1 hx S1 → rf G E1 hm S1 → mm_M G E1 H1 → va_S (mm_A G) s.heap H1 locs1 → W p l e room_1 s m #[Value.ref b] below meth c H1 locs1 119 4616 Q (F0 m 1577 ls [])) : W p l e room_1 s m #[Value.ref b] below meth c H locs 119 4616 Q (F0 m 1128 ls []) := by
  have C0 := B0.1
  have hok := h1.okR
  refine lv_aload_n C0.1 C0.2.1 dL_law_1128 rfl (lv_at hl 1 rfl) ?_
  refine lw_arg B0 hS hl 1 (by omega) rfl dL_law_1129 dL_law_1130 dL_law_1131 dL_law_1132 dL_law_1133 ?_
  refine mm_callVi (C := "OrangeHeaps") (y := yX9_fewest) (bytes := cX9_fewest) (maxL := 2) (n := 1) (ret := (some .int)) (rm := rX9_fewest) (As := [.int (zI (xs (i + 1)).toInt)]) (rest := []) C0 ⟨tw_686, tw_687, tw_1, tw_688, by decide +kernel⟩ tw_685 (c_X9_fewest l G _ h1 (rI_of _)) hM h1.1.1 (ci := 8) rfl rfl hl.1 rfl (Nat.le_of_ble_eq_true rfl) ⟨rfl, rfl, (Nat.le_of_ble_eq_true rfl), (Nat.le_of_ble_eq_true rfl), (Nat.le_of_ble_eq_true rfl), (Nat.le_of_ble_eq_true rfl)⟩ dL_law_1134 hS (fun z1 E1 H locs hp hM hS => ?_)
  obtain ⟨hz1, h1, hf1⟩ := hp
  replace h2 := rf.kept h2 (fun q _ _ => hf1 q (by omega))
  refine lv_aload_n C0.1 C0.2.1 dL_law_1137 rfl (lv_at hl 2 rfl) ?_
  refine lw_arg B0 hS hl 1 (by omega) rfl dL_law_1138 dL_law_1139 dL_law_1140 dL_law_1141 dL_law_1142 ?_
  obtain ⟨fs9, hob⟩ := h2.obj
  refine mm_callVi (C := "OrangeHeapsModel") (y := yX10_fewest) (bytes := cX10_fewest) (maxL := 3) (n := 1) (ret := (some .int)) (rm := rX10_fewest) (As := [.int (zI (xs (i + 1)).toInt)]) (rest := [.int (zI z1)]) C0 ⟨tw_1267, tw_1268, tw_10, tw_1269, by decide +kernel⟩ tw_1266 (c_X10_fewest l G _ h2 hok (rI_of _)) hM hob (ci := 9) rfl rfl hl.1 rfl (Nat.le_of_ble_eq_true rfl) ⟨rfl, rfl, (Nat.le_of_ble_eq_true rfl), (Nat.le_of_ble_eq_true rfl), (Nat.le_of_ble_eq_true rfl), (Nat.le_of_ble_eq_true rfl)⟩ dL_law_1143 hS (fun z2 E2 H locs hp hM hS => ?_)
  obtain ⟨hz2, h2, hf2⟩ := hp
  replace h1 := st.kept h1 (fun q _ => hf2 q (by omega))
  exact lv_icmp_eq (tgt := 1577) C0.1 C0.2.1 dL_law_1146 (by decide) (fun _ => kk _ _ _ _ h1 h2 hM hS) (fun c9 => absurd (by rw [hz1, hz2]) c9)
set_option maxHeartbeats 4000000 in
theorem lw_case25 (B0 : lwB G p s m c b L xs) (hi : i + 6 ≤ L) {hx hm : Nat} (hap : hx + 106 ≤ hm) {S : mST} {E : mE} (h1 : st G E hx S) (h2 : rf G E hm S) (hM : mm_M G E H) (hS : va_S (mm_A G) s.heap H locs) (hl : lv_has ls 4 [(0, .ref b), (1, .ref hx), (2, .ref hm), (3, .int (nI i))])
    (kk : ∀ (S1 : mST) (E1 : mE) (H1 : Heap) (locs1 : List Loc), st G E1 hx S1 → rf G E1 hm S1 → mm_M G E1 H1 → va_S (mm_A G) s.heap H1 locs1 → W p l e room_1 s m #[Value.ref b] below meth c H1 locs1 119 4616 Q (F0 m 1577 ls [])) : W p l e room_1 s m #[Value.ref b] below meth c H locs 119 4616 Q (F0 m 1151 ls []) := by
  have C0 := B0.1
  have hok := h1.okR
  refine lv_aload_n C0.1 C0.2.1 dL_law_1151 rfl (lv_at hl 1 rfl) ?_
  refine lw_arg B0 hS hl 1 (by omega) rfl dL_law_1152 dL_law_1153 dL_law_1154 dL_law_1155 dL_law_1156 ?_
  refine lw_arg B0 hS hl 2 (by omega) rfl dL_law_1157 dL_law_1158 dL_law_1159 dL_law_1160 dL_law_1161 ?_
  refine mm_callVi (C := "OrangeHeaps") (y := yX9_wall) (bytes := cX9_wall) (maxL := 3) (n := 2) (ret := (some .int)) (rm := rX9_wall) (As := [.int (zI (xs (i + 1)).toInt), .int (zI (xs (i + 2)).toInt)]) (rest := []) C0 ⟨tw_693, tw_694, tw_1, tw_695, by decide +kernel⟩ tw_692 (c_X9_wall l G _ h1 (rI_of _) (rI_of _)) hM h1.1.1 (ci := 8) rfl rfl hl.1 rfl (Nat.le_of_ble_eq_true rfl) ⟨rfl, rfl, (Nat.le_of_ble_eq_true rfl), (Nat.le_of_ble_eq_true rfl), (Nat.le_of_ble_eq_true rfl), (Nat.le_of_ble_eq_true rfl)⟩ dL_law_1162 hS (fun z1 E1 H locs hp hM hS => ?_)
  obtain ⟨hz1, h1, hf1⟩ := hp
  replace h2 := rf.kept h2 (fun q _ _ => hf1 q (by omega))
  refine lv_aload_n C0.1 C0.2.1 dL_law_1165 rfl (lv_at hl 2 rfl) ?_
  refine lw_arg B0 hS hl 1 (by omega) rfl dL_law_1166 dL_law_1167 dL_law_1168 dL_law_1169 dL_law_1170 ?_
  refine lw_arg B0 hS hl 2 (by omega) rfl dL_law_1171 dL_law_1172 dL_law_1173 dL_law_1174 dL_law_1175 ?_
  obtain ⟨fs9, hob⟩ := h2.obj
  refine mm_callVi (C := "OrangeHeapsModel") (y := yX10_wall) (bytes := cX10_wall) (maxL := 6) (n := 2) (ret := (some .int)) (rm := rX10_wall) (As := [.int (zI (xs (i + 1)).toInt), .int (zI (xs (i + 2)).toInt)]) (rest := [.int (zI z1)]) C0 ⟨tw_1271, tw_1272, tw_10, tw_1273, by decide +kernel⟩ tw_1270 (c_X10_wall l G _ h2 hok (rI_of _) (rI_of _)) hM hob (ci := 9) rfl rfl hl.1 rfl (Nat.le_of_ble_eq_true rfl) ⟨rfl, rfl, (Nat.le_of_ble_eq_true rfl), (Nat.le_of_ble_eq_true rfl), (Nat.le_of_ble_eq_true rfl), (Nat.le_of_ble_eq_true rfl)⟩ dL_law_1176 hS (fun z2 E2 H locs hp hM hS => ?_)
  obtain ⟨hz2, h2, hf2⟩ := hp
  replace h1 := st.kept h1 (fun q _ => hf2 q (by omega))
  exact lv_icmp_eq (tgt := 1577) C0.1 C0.2.1 dL_law_1179 (by decide) (fun _ => kk _ _ _ _ h1 h2 hM hS) (fun c9 => absurd (by rw [hz1, hz2]) c9)
set_option maxHeartbeats 4000000 in
theorem lw_case26 (B0 : lwB G p s m c b L xs) (hi : i + 6 ≤ L) {hx hm : Nat} (hap : hx + 106 ≤ hm) {S : mST} {E : mE} (h1 : st G E hx S) (h2 : rf G E hm S) (hM : mm_M G E H) (hS : va_S (mm_A G) s.heap H locs) (hl : lv_has ls 4 [(0, .ref b), (1, .ref hx), (2, .ref hm), (3, .int (nI i))])
    (kk : ∀ (S1 : mST) (E1 : mE) (H1 : Heap) (locs1 : List Loc), st G E1 hx S1 → rf G E1 hm S1 → mm_M G E1 H1 → va_S (mm_A G) s.heap H1 locs1 → W p l e room_1 s m #[Value.ref b] below meth c H1 locs1 119 4616 Q (F0 m 1577 ls [])) : W p l e room_1 s m #[Value.ref b] below meth c H locs 119 4616 Q (F0 m 1184 ls []) := by
  have C0 := B0.1
  have hok := h1.okR
  refine lv_aload_n C0.1 C0.2.1 dL_law_1184 rfl (lv_at hl 1 rfl) ?_
  refine lw_arg B0 hS hl 1 (by omega) rfl dL_law_1185 dL_law_1186 dL_law_1187 dL_law_1188 dL_law_1189 ?_
  refine lw_arg B0 hS hl 2 (by omega) rfl dL_law_1190 dL_law_1191 dL_law_1192 dL_law_1193 dL_law_1194 ?_
  refine mm_callVi (C := "OrangeHeaps") (y := yX9_flat) (bytes := cX9_flat) (maxL := 3) (n := 2) (ret := (some .int)) (rm := rX9_flat) (As := [.int (zI (xs (i + 1)).toInt), .int (zI (xs (i + 2)).toInt)]) (rest := []) C0 ⟨tw_700, tw_701, tw_1, tw_702, by decide +kernel⟩ tw_699 (c_X9_flat l G _ h1 (rI_of _) (rI_of _)) hM h1.1.1 (ci := 8) rfl rfl hl.1 rfl (Nat.le_of_ble_eq_true rfl) ⟨rfl, rfl, (Nat.le_of_ble_eq_true rfl), (Nat.le_of_ble_eq_true rfl), (Nat.le_of_ble_eq_true rfl), (Nat.le_of_ble_eq_true rfl)⟩ dL_law_1195 hS (fun z1 E1 H locs hp hM hS => ?_)
  obtain ⟨hz1, h1, hf1⟩ := hp
  replace h2 := rf.kept h2 (fun q _ _ => hf1 q (by omega))
  refine lv_aload_n C0.1 C0.2.1 dL_law_1198 rfl (lv_at hl 2 rfl) ?_
  refine lw_arg B0 hS hl 1 (by omega) rfl dL_law_1199 dL_law_1200 dL_law_1201 dL_law_1202 dL_law_1203 ?_
  refine lw_arg B0 hS hl 2 (by omega) rfl dL_law_1204 dL_law_1205 dL_law_1206 dL_law_1207 dL_law_1208 ?_
  obtain ⟨fs9, hob⟩ := h2.obj
  refine mm_callVi (C := "OrangeHeapsModel") (y := yX10_flat) (bytes := cX10_flat) (maxL := 8) (n := 2) (ret := (some .int)) (rm := rX10_flat) (As := [.int (zI (xs (i + 1)).toInt), .int (zI (xs (i + 2)).toInt)]) (rest := [.int (zI z1)]) C0 ⟨tw_1275, tw_1276, tw_10, tw_1277, by decide +kernel⟩ tw_1274 (c_X10_flat l G _ h2 hok (rI_of _) (rI_of _)) hM hob (ci := 9) rfl rfl hl.1 rfl (Nat.le_of_ble_eq_true rfl) ⟨rfl, rfl, (Nat.le_of_ble_eq_true rfl), (Nat.le_of_ble_eq_true rfl), (Nat.le_of_ble_eq_true rfl), (Nat.le_of_ble_eq_true rfl)⟩ dL_law_1209 hS (fun z2 E2 H locs hp hM hS => ?_)
  obtain ⟨hz2, h2, hf2⟩ := hp
  replace h1 := st.kept h1 (fun q _ => hf2 q (by omega))
  exact lv_icmp_eq (tgt := 1577) C0.1 C0.2.1 dL_law_1212 (by decide) (fun _ => kk _ _ _ _ h1 h2 hM hS) (fun c9 => absurd (by rw [hz1, hz2]) c9)
set_option maxHeartbeats 4000000 in
theorem lw_case27 (B0 : lwB G p s m c b L xs) (hi : i + 6 ≤ L) {hx hm : Nat} (hap : hx + 106 ≤ hm) {S : mST} {E : mE} (h1 : st G E hx S) (h2 : rf G E hm S) (hM : mm_M G E H) (hS : va_S (mm_A G) s.heap H locs) (hl : lv_has ls 4 [(0, .ref b), (1, .ref hx), (2, .ref hm), (3, .int (nI i))])
    (kk : ∀ (S1 : mST) (E1 : mE) (H1 : Heap) (locs1 : List Loc), st G E1 hx S1 → rf G E1 hm S1 → mm_M G E1 H1 → va_S (mm_A G) s.heap H1 locs1 → W p l e room_1 s m #[Value.ref b] below meth c H1 locs1 119 4616 Q (F0 m 1577 ls [])) : W p l e room_1 s m #[Value.ref b] below meth c H locs 119 4616 Q (F0 m 1217 ls []) := by
  have C0 := B0.1
  have hok := h1.okR
  refine lv_aload_n C0.1 C0.2.1 dL_law_1217 rfl (lv_at hl 1 rfl) ?_
  refine lw_arg B0 hS hl 1 (by omega) rfl dL_law_1218 dL_law_1219 dL_law_1220 dL_law_1221 dL_law_1222 ?_
  refine lw_arg B0 hS hl 2 (by omega) rfl dL_law_1223 dL_law_1224 dL_law_1225 dL_law_1226 dL_law_1227 ?_
  refine mm_callVi (C := "OrangeHeaps") (y := yX9_corners) (bytes := cX9_corners) (maxL := 3) (n := 2) (ret := (some .int)) (rm := rX9_corners) (As := [.int (zI (xs (i + 1)).toInt), .int (zI (xs (i + 2)).toInt)]) (rest := []) C0 ⟨tw_710, tw_711, tw_1, tw_712, by decide +kernel⟩ tw_709 (c_X9_corners l G _ h1 (rI_of _) (rI_of _)) hM h1.1.1 (ci := 8) rfl rfl hl.1 rfl (Nat.le_of_ble_eq_true rfl) ⟨rfl, rfl, (Nat.le_of_ble_eq_true rfl), (Nat.le_of_ble_eq_true rfl), (Nat.le_of_ble_eq_true rfl), (Nat.le_of_ble_eq_true rfl)⟩ dL_law_1228 hS (fun z1 E1 H locs hp hM hS => ?_)
  obtain ⟨hz1, h1, hf1⟩ := hp
  replace h2 := rf.kept h2 (fun q _ _ => hf1 q (by omega))
  refine lv_aload_n C0.1 C0.2.1 dL_law_1231 rfl (lv_at hl 2 rfl) ?_
  refine lw_arg B0 hS hl 1 (by omega) rfl dL_law_1232 dL_law_1233 dL_law_1234 dL_law_1235 dL_law_1236 ?_
  refine lw_arg B0 hS hl 2 (by omega) rfl dL_law_1237 dL_law_1238 dL_law_1239 dL_law_1240 dL_law_1241 ?_
  obtain ⟨fs9, hob⟩ := h2.obj
  refine mm_callVi (C := "OrangeHeapsModel") (y := yX10_corners) (bytes := cX10_corners) (maxL := 6) (n := 2) (ret := (some .int)) (rm := rX10_corners) (As := [.int (zI (xs (i + 1)).toInt), .int (zI (xs (i + 2)).toInt)]) (rest := [.int (zI z1)]) C0 ⟨tw_1280, tw_1281, tw_10, tw_1282, by decide +kernel⟩ tw_1279 (c_X10_corners l G _ h2 hok (rI_of _) (rI_of _)) hM hob (ci := 9) rfl rfl hl.1 rfl (Nat.le_of_ble_eq_true rfl) ⟨rfl, rfl, (Nat.le_of_ble_eq_true rfl), (Nat.le_of_ble_eq_true rfl), (Nat.le_of_ble_eq_true rfl), (Nat.le_of_ble_eq_true rfl)⟩ dL_law_1242 hS (fun z2 E2 H locs hp hM hS => ?_)
  obtain ⟨hz2, h2, hf2⟩ := hp
  replace h1 := st.kept h1 (fun q _ => hf2 q (by omega))
  exact lv_icmp_eq (tgt := 1577) C0.1 C0.2.1 dL_law_1245 (by decide) (fun _ => kk _ _ _ _ h1 h2 hM hS) (fun c9 => absurd (by rw [hz1, hz2]) c9)
set_option maxHeartbeats 4000000 in
theorem lw_case28 (B0 : lwB G p s m c b L xs) (hi : i + 6 ≤ L) {hx hm : Nat} (hap : hx + 106 ≤ hm) {S : mST} {E : mE} (h1 : st G E hx S) (h2 : rf G E hm S) (hM : mm_M G E H) (hS : va_S (mm_A G) s.heap H locs) (hl : lv_has ls 4 [(0, .ref b), (1, .ref hx), (2, .ref hm), (3, .int (nI i))])
    (kk : ∀ (S1 : mST) (E1 : mE) (H1 : Heap) (locs1 : List Loc), st G E1 hx S1 → rf G E1 hm S1 → mm_M G E1 H1 → va_S (mm_A G) s.heap H1 locs1 → W p l e room_1 s m #[Value.ref b] below meth c H1 locs1 119 4616 Q (F0 m 1577 ls [])) : W p l e room_1 s m #[Value.ref b] below meth c H locs 119 4616 Q (F0 m 1250 ls []) := by
  have C0 := B0.1
  have hok := h1.okR
  refine lv_aload_n C0.1 C0.2.1 dL_law_1250 rfl (lv_at hl 1 rfl) ?_
  refine lw_arg B0 hS hl 1 (by omega) rfl dL_law_1251 dL_law_1252 dL_law_1253 dL_law_1254 dL_law_1255 ?_
  refine mm_callVi (C := "OrangeHeaps") (y := yX9_string) (bytes := cX9_string) (maxL := 2) (n := 1) (ret := (some .int)) (rm := rX9_string) (As := [.int (zI (xs (i + 1)).toInt)]) (rest := []) C0 ⟨tw_717, tw_718, tw_1, tw_719, by decide +kernel⟩ tw_716 (c_X9_string l G _ h1 (rI_of _)) hM h1.1.1 (ci := 8) rfl rfl hl.1 rfl (Nat.le_of_ble_eq_true rfl) ⟨rfl, rfl, (Nat.le_of_ble_eq_true rfl), (Nat.le_of_ble_eq_true rfl), (Nat.le_of_ble_eq_true rfl), (Nat.le_of_ble_eq_true rfl)⟩ dL_law_1256 hS (fun z1 E1 H locs hp hM hS => ?_)
  obtain ⟨hz1, h1, hf1⟩ := hp
  replace h2 := rf.kept h2 (fun q _ _ => hf1 q (by omega))
  refine lv_aload_n C0.1 C0.2.1 dL_law_1259 rfl (lv_at hl 2 rfl) ?_
  refine lw_arg B0 hS hl 1 (by omega) rfl dL_law_1260 dL_law_1261 dL_law_1262 dL_law_1263 dL_law_1264 ?_
  obtain ⟨fs9, hob⟩ := h2.obj
  refine mm_callVi (C := "OrangeHeapsModel") (y := yX10_string) (bytes := cX10_string) (maxL := 11) (n := 1) (ret := (some .int)) (rm := rX10_string) (As := [.int (zI (xs (i + 1)).toInt)]) (rest := [.int (zI z1)]) C0 ⟨tw_1285, tw_1286, tw_10, tw_1287, by decide +kernel⟩ tw_1284 (c_X10_string l G _ h2 hok (rI_of _)) hM hob (ci := 9) rfl rfl hl.1 rfl (Nat.le_of_ble_eq_true rfl) ⟨rfl, rfl, (Nat.le_of_ble_eq_true rfl), (Nat.le_of_ble_eq_true rfl), (Nat.le_of_ble_eq_true rfl), (Nat.le_of_ble_eq_true rfl)⟩ dL_law_1265 hS (fun z2 E2 H locs hp hM hS => ?_)
  obtain ⟨hz2, h2, hf2⟩ := hp
  replace h1 := st.kept h1 (fun q _ => hf2 q (by omega))
  exact lv_icmp_eq (tgt := 1577) C0.1 C0.2.1 dL_law_1268 (by decide) (fun _ => kk _ _ _ _ h1 h2 hM hS) (fun c9 => absurd (by rw [hz1, hz2]) c9)
set_option maxHeartbeats 4000000 in
theorem lw_case29 (B0 : lwB G p s m c b L xs) (hi : i + 6 ≤ L) {hx hm : Nat} (hap : hx + 106 ≤ hm) {S : mST} {E : mE} (h1 : st G E hx S) (h2 : rf G E hm S) (hM : mm_M G E H) (hS : va_S (mm_A G) s.heap H locs) (hl : lv_has ls 4 [(0, .ref b), (1, .ref hx), (2, .ref hm), (3, .int (nI i))])
    (kk : ∀ (S1 : mST) (E1 : mE) (H1 : Heap) (locs1 : List Loc), st G E1 hx S1 → rf G E1 hm S1 → mm_M G E1 H1 → va_S (mm_A G) s.heap H1 locs1 → W p l e room_1 s m #[Value.ref b] below meth c H1 locs1 119 4616 Q (F0 m 1577 ls [])) : W p l e room_1 s m #[Value.ref b] below meth c H locs 119 4616 Q (F0 m 1273 ls []) := by
  have C0 := B0.1
  have hok := h1.okR
  refine lv_aload_n C0.1 C0.2.1 dL_law_1273 rfl (lv_at hl 1 rfl) ?_
  refine mm_callVi (C := "OrangeHeaps") (y := yX9_claims) (bytes := cX9_claims) (maxL := 2) (n := 0) (ret := (some .int)) (rm := rX9_claims) (As := []) (rest := []) C0 ⟨tw_725, tw_726, tw_1, tw_727, by decide +kernel⟩ tw_724 (c_X9_claims l G _ h1 ) hM h1.1.1 (ci := 8) rfl rfl hl.1 rfl (Nat.le_of_ble_eq_true rfl) ⟨rfl, rfl, (Nat.le_of_ble_eq_true rfl), (Nat.le_of_ble_eq_true rfl), (Nat.le_of_ble_eq_true rfl), (Nat.le_of_ble_eq_true rfl)⟩ dL_law_1274 hS (fun z1 E1 H locs hp hM hS => ?_)
  obtain ⟨hz1, h1, hf1⟩ := hp
  replace h2 := rf.kept h2 (fun q _ _ => hf1 q (by omega))
  refine lv_aload_n C0.1 C0.2.1 dL_law_1277 rfl (lv_at hl 2 rfl) ?_
  obtain ⟨fs9, hob⟩ := h2.obj
  refine mm_callVi (C := "OrangeHeapsModel") (y := yX10_claims) (bytes := cX10_claims) (maxL := 3) (n := 0) (ret := (some .int)) (rm := rX10_claims) (As := []) (rest := [.int (zI z1)]) C0 ⟨tw_1052, tw_1053, tw_10, tw_1054, by decide +kernel⟩ tw_1051 (c_X10_claims l G _ h2 hok ) hM hob (ci := 9) rfl rfl hl.1 rfl (Nat.le_of_ble_eq_true rfl) ⟨rfl, rfl, (Nat.le_of_ble_eq_true rfl), (Nat.le_of_ble_eq_true rfl), (Nat.le_of_ble_eq_true rfl), (Nat.le_of_ble_eq_true rfl)⟩ dL_law_1278 hS (fun z2 E2 H locs hp hM hS => ?_)
  obtain ⟨hz2, h2, hf2⟩ := hp
  replace h1 := st.kept h1 (fun q _ => hf2 q (by omega))
  exact lv_icmp_eq (tgt := 1577) C0.1 C0.2.1 dL_law_1281 (by decide) (fun _ => kk _ _ _ _ h1 h2 hM hS) (fun c9 => absurd (by rw [hz1, hz2]) c9)
set_option maxHeartbeats 4000000 in
theorem lw_case30 (B0 : lwB G p s m c b L xs) (hi : i + 6 ≤ L) {hx hm : Nat} (hap : hx + 106 ≤ hm) {S : mST} {E : mE} (h1 : st G E hx S) (h2 : rf G E hm S) (hM : mm_M G E H) (hS : va_S (mm_A G) s.heap H locs) (hl : lv_has ls 4 [(0, .ref b), (1, .ref hx), (2, .ref hm), (3, .int (nI i))])
    (kk : ∀ (S1 : mST) (E1 : mE) (H1 : Heap) (locs1 : List Loc), st G E1 hx S1 → rf G E1 hm S1 → mm_M G E1 H1 → va_S (mm_A G) s.heap H1 locs1 → W p l e room_1 s m #[Value.ref b] below meth c H1 locs1 119 4616 Q (F0 m 1577 ls [])) : W p l e room_1 s m #[Value.ref b] below meth c H locs 119 4616 Q (F0 m 1286 ls []) := by
  have C0 := B0.1
  have hok := h1.okR
  refine lv_aload_n C0.1 C0.2.1 dL_law_1286 rfl (lv_at hl 1 rfl) ?_
  refine mm_callVi (C := "OrangeHeaps") (y := yX9_image) (bytes := cX9_image) (maxL := 2) (n := 0) (ret := (some .int)) (rm := rX9_image) (As := []) (rest := []) C0 ⟨tw_856, tw_857, tw_1, tw_858, by decide +kernel⟩ tw_855 (c_X9_image l G _ h1 ) hM h1.1.1 (ci := 8) rfl rfl hl.1 rfl (Nat.le_of_ble_eq_true rfl) ⟨rfl, rfl, (Nat.le_of_ble_eq_true rfl), (Nat.le_of_ble_eq_true rfl), (Nat.le_of_ble_eq_true rfl), (Nat.le_of_ble_eq_true rfl)⟩ dL_law_1287 hS (fun z1 E1 H locs hp hM hS => ?_)
  obtain ⟨hz1, h1, hf1⟩ := hp
  replace h2 := rf.kept h2 (fun q _ _ => hf1 q (by omega))
  refine lv_aload_n C0.1 C0.2.1 dL_law_1290 rfl (lv_at hl 2 rfl) ?_
  obtain ⟨fs9, hob⟩ := h2.obj
  refine mm_callVi (C := "OrangeHeapsModel") (y := yX10_image) (bytes := cX10_image) (maxL := 2) (n := 0) (ret := (some .int)) (rm := rX10_image) (As := []) (rest := [.int (zI z1)]) C0 ⟨tw_1290, tw_1291, tw_10, tw_1292, by decide +kernel⟩ tw_1289 (c_X10_image l G _ h2 hok ) hM hob (ci := 9) rfl rfl hl.1 rfl (Nat.le_of_ble_eq_true rfl) ⟨rfl, rfl, (Nat.le_of_ble_eq_true rfl), (Nat.le_of_ble_eq_true rfl), (Nat.le_of_ble_eq_true rfl), (Nat.le_of_ble_eq_true rfl)⟩ dL_law_1291 hS (fun z2 E2 H locs hp hM hS => ?_)
  obtain ⟨hz2, h2, hf2⟩ := hp
  replace h1 := st.kept h1 (fun q _ => hf2 q (by omega))
  exact lv_icmp_eq (tgt := 1577) C0.1 C0.2.1 dL_law_1294 (by decide) (fun _ => kk _ _ _ _ h1 h2 hM hS) (fun c9 => absurd (by rw [hz1, hz2]) c9)
set_option maxHeartbeats 4000000 in
theorem lw_case31 (B0 : lwB G p s m c b L xs) (hi : i + 6 ≤ L) {hx hm : Nat} (hap : hx + 106 ≤ hm) {S : mST} {E : mE} (h1 : st G E hx S) (h2 : rf G E hm S) (hM : mm_M G E H) (hS : va_S (mm_A G) s.heap H locs) (hl : lv_has ls 4 [(0, .ref b), (1, .ref hx), (2, .ref hm), (3, .int (nI i))])
    (kk : ∀ (S1 : mST) (E1 : mE) (H1 : Heap) (locs1 : List Loc), st G E1 hx S1 → rf G E1 hm S1 → mm_M G E1 H1 → va_S (mm_A G) s.heap H1 locs1 → W p l e room_1 s m #[Value.ref b] below meth c H1 locs1 119 4616 Q (F0 m 1577 ls [])) : W p l e room_1 s m #[Value.ref b] below meth c H locs 119 4616 Q (F0 m 1299 ls []) := by
  have C0 := B0.1
  have hok := h1.okR
  refine lv_aload_n C0.1 C0.2.1 dL_law_1299 rfl (lv_at hl 1 rfl) ?_
  refine mm_callVi (C := "OrangeHeaps") (y := yX9_restore) (bytes := cX9_restore) (maxL := 2) (n := 0) (ret := (some .int)) (rm := rX9_restore) (As := []) (rest := []) C0 ⟨tw_864, tw_865, tw_1, tw_866, by decide +kernel⟩ tw_863 (c_X9_restore l G _ h1 h2.im ) hM h1.1.1 (ci := 8) rfl rfl hl.1 rfl (Nat.le_of_ble_eq_true rfl) ⟨rfl, rfl, (Nat.le_of_ble_eq_true rfl), (Nat.le_of_ble_eq_true rfl), (Nat.le_of_ble_eq_true rfl), (Nat.le_of_ble_eq_true rfl)⟩ dL_law_1300 hS (fun z1 E1 H locs hp hM hS => ?_)
  obtain ⟨hz1, h1, hf1⟩ := hp
  replace h2 := rf.kept h2 (fun q _ _ => hf1 q (by omega))
  refine lv_aload_n C0.1 C0.2.1 dL_law_1303 rfl (lv_at hl 2 rfl) ?_
  obtain ⟨fs9, hob⟩ := h2.obj
  refine mm_callVi (C := "OrangeHeapsModel") (y := yX10_restore) (bytes := cX10_restore) (maxL := 2) (n := 0) (ret := (some .int)) (rm := rX10_restore) (As := []) (rest := [.int (zI z1)]) C0 ⟨tw_1294, tw_1295, tw_10, tw_1296, by decide +kernel⟩ tw_1293 (c_X10_restore l G _ h2 hok ) hM hob (ci := 9) rfl rfl hl.1 rfl (Nat.le_of_ble_eq_true rfl) ⟨rfl, rfl, (Nat.le_of_ble_eq_true rfl), (Nat.le_of_ble_eq_true rfl), (Nat.le_of_ble_eq_true rfl), (Nat.le_of_ble_eq_true rfl)⟩ dL_law_1304 hS (fun z2 E2 H locs hp hM hS => ?_)
  obtain ⟨hz2, h2, hf2⟩ := hp
  replace h1 := st.kept h1 (fun q _ => hf2 q (by omega))
  exact lv_icmp_eq (tgt := 1577) C0.1 C0.2.1 dL_law_1307 (by decide) (fun _ => kk _ _ _ _ h1 h2 hM hS) (fun c9 => absurd (by rw [hz1, hz2]) c9)
set_option maxHeartbeats 4000000 in
theorem lw_case32 (B0 : lwB G p s m c b L xs) (hi : i + 6 ≤ L) {hx hm : Nat} (hap : hx + 106 ≤ hm) {S : mST} {E : mE} (h1 : st G E hx S) (h2 : rf G E hm S) (hM : mm_M G E H) (hS : va_S (mm_A G) s.heap H locs) (hl : lv_has ls 4 [(0, .ref b), (1, .ref hx), (2, .ref hm), (3, .int (nI i))])
    (kk : ∀ (S1 : mST) (E1 : mE) (H1 : Heap) (locs1 : List Loc), st G E1 hx S1 → rf G E1 hm S1 → mm_M G E1 H1 → va_S (mm_A G) s.heap H1 locs1 → W p l e room_1 s m #[Value.ref b] below meth c H1 locs1 119 4616 Q (F0 m 1577 ls [])) : W p l e room_1 s m #[Value.ref b] below meth c H locs 119 4616 Q (F0 m 1312 ls []) := by
  have C0 := B0.1
  have hok := h1.okR
  refine lv_aload_n C0.1 C0.2.1 dL_law_1312 rfl (lv_at hl 1 rfl) ?_
  refine lw_arg B0 hS hl 1 (by omega) rfl dL_law_1313 dL_law_1314 dL_law_1315 dL_law_1316 dL_law_1317 ?_
  refine lw_arg B0 hS hl 2 (by omega) rfl dL_law_1318 dL_law_1319 dL_law_1320 dL_law_1321 dL_law_1322 ?_
  refine lw_arg B0 hS hl 3 (by omega) rfl dL_law_1323 dL_law_1324 dL_law_1325 dL_law_1326 dL_law_1327 ?_
  refine lw_arg B0 hS hl 4 (by omega) rfl dL_law_1328 dL_law_1329 dL_law_1330 dL_law_1331 dL_law_1332 ?_
  refine lw_arg B0 hS hl 5 (by omega) rfl dL_law_1333 dL_law_1334 dL_law_1335 dL_law_1336 dL_law_1337 ?_
  refine mm_callVi (C := "OrangeHeaps") (y := yX9_heap) (bytes := cX9_heap) (maxL := 10) (n := 5) (ret := (some .int)) (rm := rX9_heap) (As := [.int (zI (xs (i + 1)).toInt), .int (zI (xs (i + 2)).toInt), .int (zI (xs (i + 3)).toInt), .int (zI (xs (i + 4)).toInt), .int (zI (xs (i + 5)).toInt)]) (rest := []) C0 ⟨tw_868, tw_869, tw_1, tw_870, by decide +kernel⟩ tw_867 (c_X9_heap l G _ h1 (rI_of _) (rI_of _) (rI_of _) (rI_of _) (rI_of _)) hM h1.1.1 (ci := 8) rfl rfl hl.1 rfl (Nat.le_of_ble_eq_true rfl) ⟨rfl, rfl, (Nat.le_of_ble_eq_true rfl), (Nat.le_of_ble_eq_true rfl), (Nat.le_of_ble_eq_true rfl), (Nat.le_of_ble_eq_true rfl)⟩ dL_law_1338 hS (fun z1 E1 H locs hp hM hS => ?_)
  obtain ⟨hz1, h1, hf1⟩ := hp
  replace h2 := rf.kept h2 (fun q _ _ => hf1 q (by omega))
  refine lv_aload_n C0.1 C0.2.1 dL_law_1341 rfl (lv_at hl 2 rfl) ?_
  refine lw_arg B0 hS hl 1 (by omega) rfl dL_law_1342 dL_law_1343 dL_law_1344 dL_law_1345 dL_law_1346 ?_
  refine lw_arg B0 hS hl 2 (by omega) rfl dL_law_1347 dL_law_1348 dL_law_1349 dL_law_1350 dL_law_1351 ?_
  refine lw_arg B0 hS hl 3 (by omega) rfl dL_law_1352 dL_law_1353 dL_law_1354 dL_law_1355 dL_law_1356 ?_
  refine lw_arg B0 hS hl 4 (by omega) rfl dL_law_1357 dL_law_1358 dL_law_1359 dL_law_1360 dL_law_1361 ?_
  refine lw_arg B0 hS hl 5 (by omega) rfl dL_law_1362 dL_law_1363 dL_law_1364 dL_law_1365 dL_law_1366 ?_
  obtain ⟨fs9, hob⟩ := h2.obj
  refine mm_callVi (C := "OrangeHeapsModel") (y := yX10_heap) (bytes := cX10_heap) (maxL := 10) (n := 5) (ret := (some .int)) (rm := rX10_heap) (As := [.int (zI (xs (i + 1)).toInt), .int (zI (xs (i + 2)).toInt), .int (zI (xs (i + 3)).toInt), .int (zI (xs (i + 4)).toInt), .int (zI (xs (i + 5)).toInt)]) (rest := [.int (zI z1)]) C0 ⟨tw_1320, tw_1321, tw_10, tw_1322, by decide +kernel⟩ tw_1319 (c_X10_heap l G _ h2 hok (rI_of _) (rI_of _) (rI_of _) (rI_of _) (rI_of _)) hM hob (ci := 9) rfl rfl hl.1 rfl (Nat.le_of_ble_eq_true rfl) ⟨rfl, rfl, (Nat.le_of_ble_eq_true rfl), (Nat.le_of_ble_eq_true rfl), (Nat.le_of_ble_eq_true rfl), (Nat.le_of_ble_eq_true rfl)⟩ dL_law_1367 hS (fun z2 E2 H locs hp hM hS => ?_)
  obtain ⟨hz2, h2, hf2⟩ := hp
  replace h1 := st.kept h1 (fun q _ => hf2 q (by omega))
  exact lv_icmp_eq (tgt := 1577) C0.1 C0.2.1 dL_law_1370 (by decide) (fun _ => kk _ _ _ _ h1 h2 hM hS) (fun c9 => absurd (by rw [hz1, hz2]) c9)
set_option maxHeartbeats 4000000 in
theorem lw_case33 (B0 : lwB G p s m c b L xs) (hi : i + 6 ≤ L) {hx hm : Nat} (hap : hx + 106 ≤ hm) {S : mST} {E : mE} (h1 : st G E hx S) (h2 : rf G E hm S) (hM : mm_M G E H) (hS : va_S (mm_A G) s.heap H locs) (hl : lv_has ls 4 [(0, .ref b), (1, .ref hx), (2, .ref hm), (3, .int (nI i))])
    (kk : ∀ (S1 : mST) (E1 : mE) (H1 : Heap) (locs1 : List Loc), st G E1 hx S1 → rf G E1 hm S1 → mm_M G E1 H1 → va_S (mm_A G) s.heap H1 locs1 → W p l e room_1 s m #[Value.ref b] below meth c H1 locs1 119 4616 Q (F0 m 1577 ls [])) : W p l e room_1 s m #[Value.ref b] below meth c H locs 119 4616 Q (F0 m 1375 ls []) := by
  have C0 := B0.1
  have hok := h1.okR
  refine lv_aload_n C0.1 C0.2.1 dL_law_1375 rfl (lv_at hl 1 rfl) ?_
  refine lw_arg B0 hS hl 1 (by omega) rfl dL_law_1376 dL_law_1377 dL_law_1378 dL_law_1379 dL_law_1380 ?_
  refine lw_arg B0 hS hl 2 (by omega) rfl dL_law_1381 dL_law_1382 dL_law_1383 dL_law_1384 dL_law_1385 ?_
  refine lw_arg B0 hS hl 3 (by omega) rfl dL_law_1386 dL_law_1387 dL_law_1388 dL_law_1389 dL_law_1390 ?_
  refine mm_callVi (C := "OrangeHeaps") (y := yX9_sheet) (bytes := cX9_sheet) (maxL := 4) (n := 3) (ret := (some .int)) (rm := rX9_sheet) (As := [.int (zI (xs (i + 1)).toInt), .int (zI (xs (i + 2)).toInt), .int (zI (xs (i + 3)).toInt)]) (rest := []) C0 ⟨tw_886, tw_887, tw_1, tw_888, by decide +kernel⟩ tw_885 (c_X9_sheet l G _ h1 (rI_of _) (rI_of _) (rI_of _)) hM h1.1.1 (ci := 8) rfl rfl hl.1 rfl (Nat.le_of_ble_eq_true rfl) ⟨rfl, rfl, (Nat.le_of_ble_eq_true rfl), (Nat.le_of_ble_eq_true rfl), (Nat.le_of_ble_eq_true rfl), (Nat.le_of_ble_eq_true rfl)⟩ dL_law_1391 hS (fun z1 E1 H locs hp hM hS => ?_)
  obtain ⟨hz1, h1, hf1⟩ := hp
  replace h2 := rf.kept h2 (fun q _ _ => hf1 q (by omega))
  refine lv_aload_n C0.1 C0.2.1 dL_law_1394 rfl (lv_at hl 2 rfl) ?_
  refine lw_arg B0 hS hl 1 (by omega) rfl dL_law_1395 dL_law_1396 dL_law_1397 dL_law_1398 dL_law_1399 ?_
  refine lw_arg B0 hS hl 2 (by omega) rfl dL_law_1400 dL_law_1401 dL_law_1402 dL_law_1403 dL_law_1404 ?_
  refine lw_arg B0 hS hl 3 (by omega) rfl dL_law_1405 dL_law_1406 dL_law_1407 dL_law_1408 dL_law_1409 ?_
  obtain ⟨fs9, hob⟩ := h2.obj
  refine mm_callVi (C := "OrangeHeapsModel") (y := yX10_sheet) (bytes := cX10_sheet) (maxL := 5) (n := 3) (ret := (some .int)) (rm := rX10_sheet) (As := [.int (zI (xs (i + 1)).toInt), .int (zI (xs (i + 2)).toInt), .int (zI (xs (i + 3)).toInt)]) (rest := [.int (zI z1)]) C0 ⟨tw_1298, tw_1299, tw_10, tw_1300, by decide +kernel⟩ tw_1297 (c_X10_sheet l G _ h2 hok (rI_of _) (rI_of _) (rI_of _)) hM hob (ci := 9) rfl rfl hl.1 rfl (Nat.le_of_ble_eq_true rfl) ⟨rfl, rfl, (Nat.le_of_ble_eq_true rfl), (Nat.le_of_ble_eq_true rfl), (Nat.le_of_ble_eq_true rfl), (Nat.le_of_ble_eq_true rfl)⟩ dL_law_1410 hS (fun z2 E2 H locs hp hM hS => ?_)
  obtain ⟨hz2, h2, hf2⟩ := hp
  replace h1 := st.kept h1 (fun q _ => hf2 q (by omega))
  exact lv_icmp_eq (tgt := 1577) C0.1 C0.2.1 dL_law_1413 (by decide) (fun _ => kk _ _ _ _ h1 h2 hM hS) (fun c9 => absurd (by rw [hz1, hz2]) c9)
set_option maxHeartbeats 4000000 in
theorem lw_case34 (B0 : lwB G p s m c b L xs) (hi : i + 6 ≤ L) {hx hm : Nat} (hap : hx + 106 ≤ hm) {S : mST} {E : mE} (h1 : st G E hx S) (h2 : rf G E hm S) (hM : mm_M G E H) (hS : va_S (mm_A G) s.heap H locs) (hl : lv_has ls 4 [(0, .ref b), (1, .ref hx), (2, .ref hm), (3, .int (nI i))])
    (kk : ∀ (S1 : mST) (E1 : mE) (H1 : Heap) (locs1 : List Loc), st G E1 hx S1 → rf G E1 hm S1 → mm_M G E1 H1 → va_S (mm_A G) s.heap H1 locs1 → W p l e room_1 s m #[Value.ref b] below meth c H1 locs1 119 4616 Q (F0 m 1577 ls [])) : W p l e room_1 s m #[Value.ref b] below meth c H locs 119 4616 Q (F0 m 1418 ls []) := by
  have C0 := B0.1
  have hok := h1.okR
  refine lv_aload_n C0.1 C0.2.1 dL_law_1418 rfl (lv_at hl 1 rfl) ?_
  refine lw_arg B0 hS hl 1 (by omega) rfl dL_law_1419 dL_law_1420 dL_law_1421 dL_law_1422 dL_law_1423 ?_
  refine mm_callVi (C := "OrangeHeaps") (y := yX9_drop) (bytes := cX9_drop) (maxL := 3) (n := 1) (ret := (some .int)) (rm := rX9_drop) (As := [.int (zI (xs (i + 1)).toInt)]) (rest := []) C0 ⟨tw_894, tw_895, tw_1, tw_896, by decide +kernel⟩ tw_893 (c_X9_drop l G _ h1 (rI_of _)) hM h1.1.1 (ci := 8) rfl rfl hl.1 rfl (Nat.le_of_ble_eq_true rfl) ⟨rfl, rfl, (Nat.le_of_ble_eq_true rfl), (Nat.le_of_ble_eq_true rfl), (Nat.le_of_ble_eq_true rfl), (Nat.le_of_ble_eq_true rfl)⟩ dL_law_1424 hS (fun z1 E1 H locs hp hM hS => ?_)
  obtain ⟨hz1, h1, hf1⟩ := hp
  replace h2 := rf.kept h2 (fun q _ _ => hf1 q (by omega))
  refine lv_aload_n C0.1 C0.2.1 dL_law_1427 rfl (lv_at hl 2 rfl) ?_
  refine lw_arg B0 hS hl 1 (by omega) rfl dL_law_1428 dL_law_1429 dL_law_1430 dL_law_1431 dL_law_1432 ?_
  obtain ⟨fs9, hob⟩ := h2.obj
  refine mm_callVi (C := "OrangeHeapsModel") (y := yX10_drop) (bytes := cX10_drop) (maxL := 2) (n := 1) (ret := (some .int)) (rm := rX10_drop) (As := [.int (zI (xs (i + 1)).toInt)]) (rest := [.int (zI z1)]) C0 ⟨tw_1305, tw_1306, tw_10, tw_1307, by decide +kernel⟩ tw_1304 (c_X10_drop l G _ h2 hok (rI_of _)) hM hob (ci := 9) rfl rfl hl.1 rfl (Nat.le_of_ble_eq_true rfl) ⟨rfl, rfl, (Nat.le_of_ble_eq_true rfl), (Nat.le_of_ble_eq_true rfl), (Nat.le_of_ble_eq_true rfl), (Nat.le_of_ble_eq_true rfl)⟩ dL_law_1433 hS (fun z2 E2 H locs hp hM hS => ?_)
  obtain ⟨hz2, h2, hf2⟩ := hp
  replace h1 := st.kept h1 (fun q _ => hf2 q (by omega))
  exact lv_icmp_eq (tgt := 1577) C0.1 C0.2.1 dL_law_1436 (by decide) (fun _ => kk _ _ _ _ h1 h2 hM hS) (fun c9 => absurd (by rw [hz1, hz2]) c9)
set_option maxHeartbeats 4000000 in
theorem lw_case35 (B0 : lwB G p s m c b L xs) (hi : i + 6 ≤ L) {hx hm : Nat} (hap : hx + 106 ≤ hm) {S : mST} {E : mE} (h1 : st G E hx S) (h2 : rf G E hm S) (hM : mm_M G E H) (hS : va_S (mm_A G) s.heap H locs) (hl : lv_has ls 4 [(0, .ref b), (1, .ref hx), (2, .ref hm), (3, .int (nI i))])
    (kk : ∀ (S1 : mST) (E1 : mE) (H1 : Heap) (locs1 : List Loc), st G E1 hx S1 → rf G E1 hm S1 → mm_M G E1 H1 → va_S (mm_A G) s.heap H1 locs1 → W p l e room_1 s m #[Value.ref b] below meth c H1 locs1 119 4616 Q (F0 m 1577 ls [])) : W p l e room_1 s m #[Value.ref b] below meth c H locs 119 4616 Q (F0 m 1441 ls []) := by
  have C0 := B0.1
  have hok := h1.okR
  refine lv_aload_n C0.1 C0.2.1 dL_law_1441 rfl (lv_at hl 1 rfl) ?_
  refine lw_arg B0 hS hl 1 (by omega) rfl dL_law_1442 dL_law_1443 dL_law_1444 dL_law_1445 dL_law_1446 ?_
  refine lw_arg B0 hS hl 2 (by omega) rfl dL_law_1447 dL_law_1448 dL_law_1449 dL_law_1450 dL_law_1451 ?_
  refine lw_arg B0 hS hl 3 (by omega) rfl dL_law_1452 dL_law_1453 dL_law_1454 dL_law_1455 dL_law_1456 ?_
  refine lw_long B0 hS hl 4 (by omega) rfl rfl dL_law_1457 dL_law_1458 dL_law_1459 dL_law_1460 dL_law_1461 dL_law_1462 dL_law_1463 dL_law_1465 dL_law_1466 dL_law_1467 dL_law_1468 dL_law_1469 dL_law_1470 dL_law_1471 dL_law_1472 dL_law_1475 dL_law_1476 ?_
  refine mm_callVi (C := "OrangeHeaps") (y := yX9_item) (bytes := cX9_item) (maxL := 7) (n := 4) (ret := (some .int)) (rm := rX9_item) (As := [.int (zI (xs (i + 1)).toInt), .int (zI (xs (i + 2)).toInt), .int (zI (xs (i + 3)).toInt), .long (zL (lgv (xs (i + 4)) (xs (i + (4 + 1)))).toInt)]) (rest := []) C0 ⟨tw_898, tw_899, tw_1, tw_900, by decide +kernel⟩ tw_897 (c_X9_item l G _ h1 (rI_of _) (rI_of _) (rI_of _) (rL_of _)) hM h1.1.1 (ci := 8) rfl rfl hl.1 rfl (Nat.le_of_ble_eq_true rfl) ⟨rfl, rfl, (Nat.le_of_ble_eq_true rfl), (Nat.le_of_ble_eq_true rfl), (Nat.le_of_ble_eq_true rfl), (Nat.le_of_ble_eq_true rfl)⟩ dL_law_1477 hS (fun z1 E1 H locs hp hM hS => ?_)
  obtain ⟨hz1, h1, hf1⟩ := hp
  replace h2 := rf.kept h2 (fun q _ _ => hf1 q (by omega))
  refine lv_aload_n C0.1 C0.2.1 dL_law_1480 rfl (lv_at hl 2 rfl) ?_
  refine lw_arg B0 hS hl 1 (by omega) rfl dL_law_1481 dL_law_1482 dL_law_1483 dL_law_1484 dL_law_1485 ?_
  refine lw_arg B0 hS hl 2 (by omega) rfl dL_law_1486 dL_law_1487 dL_law_1488 dL_law_1489 dL_law_1490 ?_
  refine lw_arg B0 hS hl 3 (by omega) rfl dL_law_1491 dL_law_1492 dL_law_1493 dL_law_1494 dL_law_1495 ?_
  refine lw_long B0 hS hl 4 (by omega) rfl rfl dL_law_1496 dL_law_1497 dL_law_1498 dL_law_1499 dL_law_1500 dL_law_1501 dL_law_1502 dL_law_1504 dL_law_1505 dL_law_1506 dL_law_1507 dL_law_1508 dL_law_1509 dL_law_1510 dL_law_1511 dL_law_1514 dL_law_1515 ?_
  obtain ⟨fs9, hob⟩ := h2.obj
  refine mm_callVi (C := "OrangeHeapsModel") (y := yX10_item) (bytes := cX10_item) (maxL := 7) (n := 4) (ret := (some .int)) (rm := rX10_item) (As := [.int (zI (xs (i + 1)).toInt), .int (zI (xs (i + 2)).toInt), .int (zI (xs (i + 3)).toInt), .long (zL (lgv (xs (i + 4)) (xs (i + (4 + 1)))).toInt)]) (rest := [.int (zI z1)]) C0 ⟨tw_1309, tw_1310, tw_10, tw_1311, by decide +kernel⟩ tw_1308 (c_X10_item l G _ h2 hok (rI_of _) (rI_of _) (rI_of _) (rL_of _)) hM hob (ci := 9) rfl rfl hl.1 rfl (Nat.le_of_ble_eq_true rfl) ⟨rfl, rfl, (Nat.le_of_ble_eq_true rfl), (Nat.le_of_ble_eq_true rfl), (Nat.le_of_ble_eq_true rfl), (Nat.le_of_ble_eq_true rfl)⟩ dL_law_1516 hS (fun z2 E2 H locs hp hM hS => ?_)
  obtain ⟨hz2, h2, hf2⟩ := hp
  replace h1 := st.kept h1 (fun q _ => hf2 q (by omega))
  exact lv_icmp_eq (tgt := 1577) C0.1 C0.2.1 dL_law_1519 (by decide) (fun _ => kk _ _ _ _ h1 h2 hM hS) (fun c9 => absurd (by rw [hz1, hz2]) c9)
set_option maxHeartbeats 4000000 in
theorem lw_case36 (B0 : lwB G p s m c b L xs) (hi : i + 6 ≤ L) {hx hm : Nat} (hap : hx + 106 ≤ hm) {S : mST} {E : mE} (h1 : st G E hx S) (h2 : rf G E hm S) (hM : mm_M G E H) (hS : va_S (mm_A G) s.heap H locs) (hl : lv_has ls 4 [(0, .ref b), (1, .ref hx), (2, .ref hm), (3, .int (nI i))])
    (kk : ∀ (S1 : mST) (E1 : mE) (H1 : Heap) (locs1 : List Loc), st G E1 hx S1 → rf G E1 hm S1 → mm_M G E1 H1 → va_S (mm_A G) s.heap H1 locs1 → W p l e room_1 s m #[Value.ref b] below meth c H1 locs1 119 4616 Q (F0 m 1577 ls [])) : W p l e room_1 s m #[Value.ref b] below meth c H locs 119 4616 Q (F0 m 1524 ls []) := by
  have C0 := B0.1
  have hok := h1.okR
  refine lv_aload_n C0.1 C0.2.1 dL_law_1524 rfl (lv_at hl 1 rfl) ?_
  refine lw_arg B0 hS hl 1 (by omega) rfl dL_law_1525 dL_law_1526 dL_law_1527 dL_law_1528 dL_law_1529 ?_
  refine lw_arg B0 hS hl 2 (by omega) rfl dL_law_1530 dL_law_1531 dL_law_1532 dL_law_1533 dL_law_1534 ?_
  refine lw_arg B0 hS hl 3 (by omega) rfl dL_law_1535 dL_law_1536 dL_law_1537 dL_law_1538 dL_law_1539 ?_
  refine lw_arg B0 hS hl 4 (by omega) rfl dL_law_1540 dL_law_1541 dL_law_1542 dL_law_1543 dL_law_1544 ?_
  refine mm_callVi (C := "OrangeHeaps") (y := yX9_film) (bytes := cX9_film) (maxL := 9) (n := 4) (ret := (some .int)) (rm := rX9_film) (As := [.int (zI (xs (i + 1)).toInt), .int (zI (xs (i + 2)).toInt), .int (zI (xs (i + 3)).toInt), .int (zI (xs (i + 4)).toInt)]) (rest := []) C0 ⟨tw_906, tw_907, tw_1, tw_908, by decide +kernel⟩ tw_905 (c_X9_film l G _ h1 (rI_of _) (rI_of _) (rI_of _) (rI_of _)) hM h1.1.1 (ci := 8) rfl rfl hl.1 rfl (Nat.le_of_ble_eq_true rfl) ⟨rfl, rfl, (Nat.le_of_ble_eq_true rfl), (Nat.le_of_ble_eq_true rfl), (Nat.le_of_ble_eq_true rfl), (Nat.le_of_ble_eq_true rfl)⟩ dL_law_1545 hS (fun z1 E1 H locs hp hM hS => ?_)
  obtain ⟨hz1, h1, hf1⟩ := hp
  replace h2 := rf.kept h2 (fun q _ _ => hf1 q (by omega))
  refine lv_aload_n C0.1 C0.2.1 dL_law_1548 rfl (lv_at hl 2 rfl) ?_
  refine lw_arg B0 hS hl 1 (by omega) rfl dL_law_1549 dL_law_1550 dL_law_1551 dL_law_1552 dL_law_1553 ?_
  refine lw_arg B0 hS hl 2 (by omega) rfl dL_law_1554 dL_law_1555 dL_law_1556 dL_law_1557 dL_law_1558 ?_
  refine lw_arg B0 hS hl 3 (by omega) rfl dL_law_1559 dL_law_1560 dL_law_1561 dL_law_1562 dL_law_1563 ?_
  refine lw_arg B0 hS hl 4 (by omega) rfl dL_law_1564 dL_law_1565 dL_law_1566 dL_law_1567 dL_law_1568 ?_
  obtain ⟨fs9, hob⟩ := h2.obj
  refine mm_callVi (C := "OrangeHeapsModel") (y := yX10_film) (bytes := cX10_film) (maxL := 8) (n := 4) (ret := (some .int)) (rm := rX10_film) (As := [.int (zI (xs (i + 1)).toInt), .int (zI (xs (i + 2)).toInt), .int (zI (xs (i + 3)).toInt), .int (zI (xs (i + 4)).toInt)]) (rest := [.int (zI z1)]) C0 ⟨tw_1325, tw_1326, tw_10, tw_1327, by decide +kernel⟩ tw_1324 (c_X10_film l G _ h2 hok (rI_of _) (rI_of _) (rI_of _) (rI_of _)) hM hob (ci := 9) rfl rfl hl.1 rfl (Nat.le_of_ble_eq_true rfl) ⟨rfl, rfl, (Nat.le_of_ble_eq_true rfl), (Nat.le_of_ble_eq_true rfl), (Nat.le_of_ble_eq_true rfl), (Nat.le_of_ble_eq_true rfl)⟩ dL_law_1569 hS (fun z2 E2 H locs hp hM hS => ?_)
  obtain ⟨hz2, h2, hf2⟩ := hp
  replace h1 := st.kept h1 (fun q _ => hf2 q (by omega))
  exact lv_icmp_eq (tgt := 1577) C0.1 C0.2.1 dL_law_1572 (by decide) (fun _ => kk _ _ _ _ h1 h2 hM hS) (fun c9 => absurd (by rw [hz1, hz2]) c9)
end LW
