/-! the one text: its letters, and where a letter stands in it -/
def kdS (j : Nat) : Int := ([115, 116, 111, 99, 104] : List Int).getD j 0
def kdF (x : Int) : Nat → Nat → Int
  | _, 0 => -1
  | j, n + 1 => if kdS j = x then (j : Int) else kdF x (j + 1) n
def kdO (x : Int) : Int := kdF x 0 5
theorem kdF_y {x : Int} {j n m : Nat} (hn : n = m + 1) (h : kdS j = x) : kdF x j n = (j : Int) := by subst hn; rw [kdF, if_pos h]
theorem kdF_n {x : Int} {j n m : Nat} (hn : n = m + 1) (h : ¬ kdS j = x) : kdF x j n = kdF x (j + 1) m := by subst hn; rw [kdF, if_neg h]
theorem kdF_b {x : Int} : ∀ n j : Nat, j + n ≤ 5 → -1 ≤ kdF x j n ∧ kdF x j n < 5
  | 0, _, _ => by rw [kdF]; omega
  | n + 1, j, h => by
    rw [kdF]; split
    · omega
    · exact kdF_b n (j + 1) (by omega)
theorem kdS_b : ∀ j : Nat, j < 5 → ((([[115, 116, 111, 99, 104]] : List (List Int32)).getD 0 []).getD j 0) = zI (kdS j) := by decide +kernel
theorem kdS_r : ∀ j : Nat, j < 5 → 32 ≤ kdS j ∧ kdS j ≤ 126 := by decide +kernel
theorem kdO_0 : kdO 0 = -1 := by decide +kernel
theorem zI_y {a : Int} (h : -128 ≤ a ∧ a < 128) : (zI a).toInt8.toInt32 = zI a := Int32.toInt_inj.mp (by
  rw [zI_toInt ⟨by omega, by omega⟩, Int8.toInt_toInt32]
  show ((Int32.ofInt a).toInt8).toInt = _
  rw [Int32.toInt8_ofInt, Int8.toInt_ofInt_of_le (by omega) (by omega)])
section MTX
variable {p : Program} {l : Launch} {e : Env} {R : Room} {s : State} {m : MethodId} {args : Array Value} {below : List Frame} {meth : Method} {c : Code} {H : Heap} {locs : List Loc} {cells slots : Nat} {Q : State → Prop} {cc : ByteArray} {pc nL : Nat} {ls : Array Slot} {rest st : List Value} {own : String} {G : mG} {E : mE} {a b : Nat} {H0 : Heap}
theorem mm_txt (C0 : mm_Cx G p s m args c cc nL own) : va_OF "java/lang/String" "coder" "B" (.int 0) (mm_q G) (mm_A G) s s.heap ∧ va_OF "java/lang/String" "value" "[B" (.ref (mm_v G)) (mm_q G) (mm_A G) s s.heap ∧ va_T .byte (mm_v G) 5 (fun j => .int ((([[115, 116, 111, 99, 104]] : List (List Int32)).getD 0 []).getD j 0)) (mm_A G) s s.heap := (C0.2.2.2.2.2.2.2.2.1.1 0 (by decide)).2
theorem mm_tcod (C0 : mm_Cx G p s m args c cc nL own) (hS : va_S (mm_A G) s.heap H locs) {index : Nat} (hlink : Cond.fieldLink own index "java/lang/String" "coder" "B" ∈ wsG) (hdg : decode cc pc = .ok (.getfield index, 3)) (kk : W p l e R s m args below meth c H locs cells slots Q (F0 m (pc + 3) ls (.int (zI 0) :: rest))) : W p l e R s m args below meth c H locs cells slots Q (F0 m pc ls (.ref (mm_q G) :: rest)) :=
  vk_getf C0.1 C0.2.1 (mm_txt C0).1 hS C0.2.2.2.1 (C0.2.2.2.2.1 _ hlink) (fun x h => h) hdg kk
theorem mm_tval (C0 : mm_Cx G p s m args c cc nL own) (hS : va_S (mm_A G) s.heap H locs) {index : Nat} (hlink : Cond.fieldLink own index "java/lang/String" "value" "[B" ∈ wsG) (hdg : decode cc pc = .ok (.getfield index, 3)) (kk : W p l e R s m args below meth c H locs cells slots Q (F0 m (pc + 3) ls (.ref (mm_v G) :: rest))) : W p l e R s m args below meth c H locs cells slots Q (F0 m pc ls (.ref (mm_q G) :: rest)) :=
  vk_getf C0.1 C0.2.1 (mm_txt C0).2.1 hS C0.2.2.2.1 (C0.2.2.2.2.1 _ hlink) (fun x h => h) hdg kk
theorem mm_tlen (C0 : mm_Cx G p s m args c cc nL own) (hS : va_S (mm_A G) s.heap H locs) (hdg : decode cc pc = .ok (.arraylength, 1)) (kk : W p l e R s m args below meth c H locs cells slots Q (F0 m (pc + 1) ls (.int (zI 5) :: rest))) : W p l e R s m args below meth c H locs cells slots Q (F0 m pc ls (.ref (mm_v G) :: rest)) :=
  va_tlen C0.1 C0.2.1 (mm_txt C0).2.2 hS (v := zI 5) (by decide) hdg kk
theorem mm_tald (C0 : mm_Cx G p s m args c cc nL own) (hS : va_S (mm_A G) s.heap H locs) (k : Nat) {i : Int} (hi : i = (k : Int)) (hk : k < 5) (hdg : decode cc pc = .ok (.baload, 1)) (kk : W p l e R s m args below meth c H locs cells slots Q (F0 m (pc + 1) ls (.int (zI (kdS k)) :: rest))) : W p l e R s m args below meth c H locs cells slots Q (F0 m pc ls (.int (zI i) :: .ref (mm_v G) :: rest)) := by
  obtain ⟨h1, h2⟩ := zI_in hi hk (by decide)
  exact va_tb C0.1 C0.2.1 (mm_txt C0).2.2 hS h1 (v := .int (zI (kdS k))) (by rw [h2]; exact congrArg Value.int (kdS_b k hk)) hdg kk
theorem mm_tsta (C0 : mm_Cx G p s m args c cc nL own) (hS : va_S (mm_A G) s.heap H locs) {index : Nat} (hlink : Cond.fieldLink own index "java/lang/String" "COMPACT_STRINGS" "Z" ∈ wsG) (hdg : decode cc pc = .ok (.getstatic index, 3)) (kk : W p l e R s m args below meth c H locs cells slots Q (F0 m (pc + 3) ls (.int (zI 1) :: rest))) : W p l e R s m args below meth c H locs cells slots Q (F0 m pc ls rest) :=
  va_gets C0.1 C0.2.1 C0.2.2.2.2.2.2.2.2.2 hS C0.2.2.2.1 (C0.2.2.2.2.1 _ hlink) (fun x h => h) hdg kk
theorem mm_ldcT (C0 : mm_Cx G p s m args c cc nL "OrangeHeaps$Tape") (hdg : decode cc pc = .ok (.ldc 76, 2)) (kk : W p l e R s m args below meth c H locs cells slots Q (F0 m (pc + 2) ls (.ref (mm_q G) :: rest))) : W p l e R s m args below meth c H locs cells slots Q (F0 m pc ls rest) :=
  va_ldcS C0.1 C0.2.1 C0.2.2.2.1 C0.2.2.2.2.2.2.2.1 hdg kk
theorem mm_bret (C0 : mm_Cx G p s m args c cc nL own) {post : Int → mE → Prop} (hr : meth.sig.returnType = some .byte) (hlk : meth.locks = false) (hM : mm_M G E H) (hS : va_S (mm_A G) s.heap H locs) {z : Int} (hz : z = 0) (hdg : decode cc pc = .ok (.ireturn, 1)) (hp : post z E) : W p l e R s m args below meth c H locs 0 0 (mm_Zi G below args s post) (F0 m pc ls [.int (zI z)]) :=
  W.zret C0.1 C0.2.1 hr (by subst hz; rfl) (fun t ht hW => ⟨⟨zI z, E, rfl, ⟨z, rfl, hp⟩, by show mm_M G E t.heap; rw [ht]; exact hM⟩, hS.F ht⟩) hS.2.2 hdg hlk
theorem mm_callKi (C0 : mm_Cx G p s m args c cc nL own) {y : MethodName} {bytes : ByteArray} {maxL n index : Nat} {ret : Option FieldType} {rm : Room} (hw : mm_Vw "java/lang/String" y bytes maxL ret n) (hlink : Cond.methodLink own index y ∈ wsG) {As : List Value} {post : Int → mE → Prop} (hC : mm_Ci l y (.code y bytes maxL ret :: wsG) rm G (.ref (mm_q G) :: As) E post) (hM : mm_M G E H) (hn : As.length = n) (hl : ls.size = nL) (hst : st = As.reverse ++ .ref (mm_q G) :: rest) (hW : (rest.map fun v => v.category).sum ≤ 8) (hR : rm.cells = 0 ∧ rm.slots = 0 ∧ rm.frames + 1 ≤ R.frames ∧ 8 + (maxL + 11) + rm.locals ≤ R.locals ∧ cells ≤ R.cells ∧ slots ≤ R.slots) (hdg : decode cc pc = .ok (.invokevirtual index, 3)) (hS : va_S (mm_A G) s.heap H locs)
    (kk : ∀ (z : Int) (E1 : mE) (H1 : Heap) (locs1 : List Loc), post z E1 → mm_M G E1 H1 → va_S (mm_A G) s.heap H1 locs1 → W p l e R s m args below meth c H1 locs1 cells slots Q (F0 m (pc + 3) ls (.int (zI z) :: rest))) : W p l e R s m args below meth c H locs cells slots Q (F0 m pc ls st) := by
  obtain ⟨hx, hb, hml, hown, hts, hK, hlo⟩ := C0
  obtain ⟨w1, w2, w3, w4, w5⟩ := hw
  obtain ⟨r1, r2, r3, r4, r5, r6⟩ := hR
  subst hst
  refine va_calli (va_runV (As := As) (rest := rest) ⟨hx, hb, hml, hown, hts⟩ hC (cwV n hts (wsG_V hlink w1 w2 w3 w4) rfl r1 r2 w5 ⟨r3, r4⟩) ⟨mm_blind G _ E, vk_recv hlo.2.2.1 (i := 0) (by decide) hS, fun U hU hWm => ⟨rfl, va_K.moved hWm.alike hK, by rw [hU]; exact hM, by rw [hU]; exact Nat.le_trans hlo.1 hS.1, kW.moved hlo.2 hWm hU hS⟩⟩ rfl hn hl rfl (lv_room hW) hdg ⟨r5, r6⟩) hS (fun q _ h => h) (fun q h => h) (fun r u t H1 locs1 ht hvm hw hB hz1 hk1 hS1 => ?_)
  have hB : mm_M G u H1 := by rw [← ht]; exact hB
  obtain ⟨z, rfl, hp⟩ := hw
  exact kk z u H1 locs1 hp hB hS1
end MTX
def rJ0_coder_7d493 : Room := { frames := 0, cells := 0, slots := 0, locals := 0 }
theorem vw_J0_coder_7d493 : mm_Vw RJ0 yJ0_coder_7d493 cJ0_coder_7d493 1 (some .byte) 0 := ⟨tw_774, tw_775, tw_13, tw_776, by decide +kernel⟩
set_option maxHeartbeats 4000000 in
set_option maxRecDepth 100000 in
theorem c_J0_coder_7d493 (l : Launch) (G : mG) (E0 : mE)  : mm_Ci l yJ0_coder_7d493 (.code yJ0_coder_7d493 cJ0_coder_7d493 1 (some .byte) :: wsG) rJ0_coder_7d493 G [.ref (mm_q G)] E0 (fun z E => z = 0 ∧ E = E0) := by
  refine mm_of_iF (by decide +kernel) (Nat.le_of_ble_eq_true rfl) ?_
  intro p e s m args below meth c ls C0 hr hlk hM hl hS
  have hl : lv_has ls 1 [(0, .ref (mm_q G))] := hl
  refine mm_tsta C0 hS tw_767 dJ0_coder_7d493_0 ?_
  refine z_if_eq (tgt := 13) C0.1 C0.2.1 dJ0_coder_7d493_3 (by decide) ⟨by omega, by omega⟩ (fun c_3 => ?_) (fun c_3 => ?_)
  · skip
    omega
  · skip
    refine lv_aload_n C0.1 C0.2.1 dJ0_coder_7d493_6 rfl (lv_at hl 0 rfl) ?_
    refine mm_tcod C0 hS tw_1329 dJ0_coder_7d493_7 ?_
    refine lv_goto (tgt := 14) C0.1 C0.2.1 dJ0_coder_7d493_10 (by decide) ?_
    exact mm_bret (z := 0) C0 hr hlk hM hS rfl dJ0_coder_7d493_14 ⟨rfl, rfl⟩

def rJ0_isLatin1_aae02 : Room := { frames := 0, cells := 0, slots := 0, locals := 0 }
theorem vw_J0_isLatin1_aae02 : mm_Vw RJ0 yJ0_isLatin1_aae02 cJ0_isLatin1_aae02 1 (some .boolean) 0 := ⟨tw_764, tw_765, tw_13, tw_766, by decide +kernel⟩
set_option maxHeartbeats 4000000 in
set_option maxRecDepth 100000 in
theorem c_J0_isLatin1_aae02 (l : Launch) (G : mG) (E0 : mE)  : mm_Ci l yJ0_isLatin1_aae02 (.code yJ0_isLatin1_aae02 cJ0_isLatin1_aae02 1 (some .boolean) :: wsG) rJ0_isLatin1_aae02 G [.ref (mm_q G)] E0 (fun z E => z = 1 ∧ E = E0) := by
  refine mm_of_iF (by decide +kernel) (Nat.le_of_ble_eq_true rfl) ?_
  intro p e s m args below meth c ls C0 hr hlk hM hl hS
  have hl : lv_has ls 1 [(0, .ref (mm_q G))] := hl
  refine mm_tsta C0 hS tw_767 dJ0_isLatin1_aae02_0 ?_
  refine z_if_eq (tgt := 17) C0.1 C0.2.1 dJ0_isLatin1_aae02_3 (by decide) ⟨by omega, by omega⟩ (fun c_3 => ?_) (fun c_3 => ?_)
  · skip
    omega
  · skip
    refine lv_aload_n C0.1 C0.2.1 dJ0_isLatin1_aae02_6 rfl (lv_at hl 0 rfl) ?_
    refine mm_tcod C0 hS tw_1329 dJ0_isLatin1_aae02_7 ?_
    refine z_if_ne (tgt := 17) C0.1 C0.2.1 dJ0_isLatin1_aae02_10 (by decide) ⟨by omega, by omega⟩ (fun c_10 => ?_) (fun c_10 => ?_)
    · skip
      omega
    · skip
      refine lv_iconst (v := zI 1) C0.1 C0.2.1 dJ0_isLatin1_aae02_13 rfl ?_
      refine lv_goto (tgt := 18) C0.1 C0.2.1 dJ0_isLatin1_aae02_14 (by decide) ?_
      exact mm_zret (z := 1) C0 hr hlk hM hS (by omega) dJ0_isLatin1_aae02_18 (⟨rfl, rfl⟩)

def rJ0_length_8abf5 : Room := { frames := 1, cells := 0, slots := 0, locals := 20 }
theorem vw_J0_length_8abf5 : mm_Vw RJ0 yJ0_length_8abf5 cJ0_length_8abf5 1 (some .int) 0 := ⟨tw_770, tw_771, tw_13, tw_772, by decide +kernel⟩
set_option maxHeartbeats 4000000 in
set_option maxRecDepth 100000 in
theorem c_J0_length_8abf5 (l : Launch) (G : mG) (E0 : mE)  : mm_Ci l yJ0_length_8abf5 (.code yJ0_length_8abf5 cJ0_length_8abf5 1 (some .int) :: wsG) rJ0_length_8abf5 G [.ref (mm_q G)] E0 (fun z E => z = 5 ∧ E = E0) := by
  refine mm_of_iF (by decide +kernel) (Nat.le_of_ble_eq_true rfl) ?_
  intro p e s m args below meth c ls C0 hr hlk hM hl hS
  have hl : lv_has ls 1 [(0, .ref (mm_q G))] := hl
  refine lv_aload_n C0.1 C0.2.1 dJ0_length_8abf5_0 rfl (lv_at hl 0 rfl) ?_
  refine mm_tval C0 hS tw_1330 dJ0_length_8abf5_1 ?_
  refine mm_tlen C0 hS dJ0_length_8abf5_4 ?_
  refine lv_aload_n C0.1 C0.2.1 dJ0_length_8abf5_5 rfl (lv_at hl 0 rfl) ?_
  refine mm_callKi (As := []) C0 vw_J0_coder_7d493 tw_773 (c_J0_coder_7d493 l G _ ) hM rfl hl.1 rfl (Nat.le_of_ble_eq_true rfl) ⟨rfl, rfl, Nat.le_of_ble_eq_true rfl, Nat.le_of_ble_eq_true rfl, Nat.zero_le _, Nat.zero_le _⟩ dJ0_length_8abf5_6 hS (fun z_6 E1 H locs hp hM hS => ?_)
  obtain ⟨hz_6, hEq⟩ := hp
  rw [hEq] at hM
  refine z_asI (b := 0) (hz_6) ?_
  refine lv_ishr C0.1 C0.2.1 dJ0_length_8abf5_9 ?_
  rw [show zI 5 >>> (zI 0 &&& 31) = zI 5 by decide]
  exact mm_iret (z := 5) C0 hr hlk hM hS dJ0_length_8abf5_10 (⟨rfl, rfl⟩)

def rJ1_canEncode_9a6ad : Room := { frames := 0, cells := 0, slots := 0, locals := 0 }
theorem sw_J1_canEncode_9a6ad : mm_Sw yJ1_canEncode_9a6ad cJ1_canEncode_9a6ad 1 (some .boolean) 1 := ⟨tw_781, tw_14, tw_782, by decide +kernel⟩
set_option maxHeartbeats 4000000 in
set_option maxRecDepth 100000 in
theorem c_J1_canEncode_9a6ad (l : Launch) (G : mG) (E0 : mE) {x : Int} (h0 : 0 ≤ x) (h1 : x < 128) : mm_Ci l yJ1_canEncode_9a6ad (.code yJ1_canEncode_9a6ad cJ1_canEncode_9a6ad 1 (some .boolean) :: wsG) rJ1_canEncode_9a6ad G [.int (zI (x))] E0 (fun z E => z = 1 ∧ E = E0) := by
  refine mm_of_iF (by decide +kernel) (Nat.le_of_ble_eq_true rfl) ?_
  intro p e s m args below meth c ls C0 hr hlk hM hl hS
  have hl : lv_has ls 1 [(0, .int (zI (x)))] := hl
  refine lv_iload_n C0.1 C0.2.1 dJ1_canEncode_9a6ad_0 rfl (lv_at hl 0 rfl) ?_
  refine z_if_lt (tgt := 15) C0.1 C0.2.1 dJ1_canEncode_9a6ad_1 (by decide) ⟨by omega, by omega⟩ (fun c_1 => ?_) (fun c_1 => ?_)
  · skip
    omega
  · skip
    refine lv_iload_n C0.1 C0.2.1 dJ1_canEncode_9a6ad_4 rfl (lv_at hl 0 rfl) ?_
    refine lv_sipush (v := zI 255) C0.1 C0.2.1 dJ1_canEncode_9a6ad_5 rfl ?_
    refine z_icmp_gt (tgt := 15) C0.1 C0.2.1 dJ1_canEncode_9a6ad_8 (by decide) ⟨by omega, by omega⟩ ⟨by omega, by omega⟩ (fun c_8 => ?_) (fun c_8 => ?_)
    · skip
      omega
    · skip
      refine lv_iconst (v := zI 1) C0.1 C0.2.1 dJ1_canEncode_9a6ad_11 rfl ?_
      refine lv_goto (tgt := 16) C0.1 C0.2.1 dJ1_canEncode_9a6ad_12 (by decide) ?_
      exact mm_zret (z := 1) C0 hr hlk hM hS (by omega) dJ1_canEncode_9a6ad_16 (⟨rfl, rfl⟩)

def rJ1_indexOfChar_4cfef : Room := { frames := 0, cells := 0, slots := 0, locals := 0 }
theorem sw_J1_indexOfChar_4cfef : mm_Sw yJ1_indexOfChar_4cfef cJ1_indexOfChar_4cfef 6 (some .int) 4 := ⟨tw_786, tw_14, tw_787, by decide +kernel⟩
set_option maxHeartbeats 4000000 in
set_option maxRecDepth 100000 in
theorem c_J1_indexOfChar_4cfef (l : Launch) (G : mG) (E0 : mE) {x : Int} (h0 : 0 ≤ x) (h1 : x < 128) : mm_Ci l yJ1_indexOfChar_4cfef (.code yJ1_indexOfChar_4cfef cJ1_indexOfChar_4cfef 6 (some .int) :: wsG) rJ1_indexOfChar_4cfef G [.ref (mm_v G), .int (zI (x)), .int (zI (0)), .int (zI (5))] E0 (fun z E => z = kdO x ∧ E = E0) := by
  refine mm_of_iF (by decide +kernel) (Nat.le_of_ble_eq_true rfl) ?_
  intro p e s m args below meth c ls C0 hr hlk hM hl hS
  have hl : lv_has ls 6 [(0, .ref (mm_v G)), (1, .int (zI (x))), (2, .int (zI (0))), (3, .int (zI (5)))] := hl
  refine lv_iload_n C0.1 C0.2.1 dJ1_indexOfChar_4cfef_0 rfl (lv_at hl 1 rfl) ?_
  refine lv_i2b (v := zI (x)) C0.1 C0.2.1 dJ1_indexOfChar_4cfef_1 (zI_y ⟨by omega, by omega⟩) ?_
  refine lv_istore (lv' := [(4, .int (zI (x))), (0, .ref (mm_v G)), (1, .int (zI (x))), (2, .int (zI (0))), (3, .int (zI (5)))]) C0.1 C0.2.1 dJ1_indexOfChar_4cfef_2 hl (by decide) rfl (fun ls hl => ?_)
  refine lv_iload_n C0.1 C0.2.1 dJ1_indexOfChar_4cfef_4 rfl (lv_at hl 3 rfl) ?_
  refine lv_istore (lv' := [(5, .int (zI (0))), (4, .int (zI (x))), (0, .ref (mm_v G)), (1, .int (zI (x))), (2, .int (zI (0))), (3, .int (zI (5)))]) C0.1 C0.2.1 dJ1_indexOfChar_4cfef_5 hl (by decide) rfl (fun ls hl => ?_)
  have L7 : ∀ (k7 : Nat) (u : Nat) (H : Heap) (locs : List Loc) (ls : Array Slot), (u ≤ 5) → (kdO x = kdF x u (5 - u)) → 5 - u < k7 → mm_M G E0 H → va_S (mm_A G) s.heap H locs → lv_has ls 6 [(0, .ref (mm_v G)), (1, .int (zI (x))), (2, .int (zI (0))), (3, .int (zI (5))), (4, .int (zI (x))), (5, .int (zI ((u : Int))))] → W p l e rJ1_indexOfChar_4cfef s m args below meth c H locs 0 0 (mm_Zi G below args s (fun z E => z = kdO x ∧ E = E0)) (F0 m 7 ls []) := by
    intro k7
    induction k7 with
    | zero => intro u H locs ls hu hkd hk hM hS hl; exact absurd hk (Nat.not_lt_zero _)
    | succ k7 ih7 =>
      intro u H locs ls hu hkd hk7 hM hS hl
      refine lv_iload C0.1 C0.2.1 dJ1_indexOfChar_4cfef_7 (lv_at hl 5 rfl) ?_
      refine lv_iload_n C0.1 C0.2.1 dJ1_indexOfChar_4cfef_9 rfl (lv_at hl 3 rfl) ?_
      refine z_icmp_ge (tgt := 31) C0.1 C0.2.1 dJ1_indexOfChar_4cfef_10 (by decide) ⟨by omega, by omega⟩ ⟨by omega, by omega⟩ (fun c_10 => ?_) (fun c_10 => ?_)
      · skip
        refine lv_iconst (v := zI (-1)) C0.1 C0.2.1 dJ1_indexOfChar_4cfef_31 rfl ?_
        exact mm_iret (z := (-1)) C0 hr hlk hM hS dJ1_indexOfChar_4cfef_32 (⟨(hkd.trans (by rw [show 5 - u = 0 by omega]; rfl)).symm, rfl⟩)
      · skip
        refine lv_aload_n C0.1 C0.2.1 dJ1_indexOfChar_4cfef_13 rfl (lv_at hl 0 rfl) ?_
        refine lv_iload C0.1 C0.2.1 dJ1_indexOfChar_4cfef_14 (lv_at hl 5 rfl) ?_
        refine mm_tald C0 hS u rfl (by omega) dJ1_indexOfChar_4cfef_16 ?_
        have hkr := kdS_r u (by omega)
        refine lv_iload C0.1 C0.2.1 dJ1_indexOfChar_4cfef_17 (lv_at hl 4 rfl) ?_
        refine z_icmp_ne (tgt := 25) C0.1 C0.2.1 dJ1_indexOfChar_4cfef_19 (by decide) ⟨by omega, by omega⟩ ⟨by omega, by omega⟩ (fun c_19 => ?_) (fun c_19 => ?_)
        · skip
          refine lv_iinc (v := zI (((u + 1 : Nat) : Int))) (lv' := [(5, .int (zI (((u + 1 : Nat) : Int)))), (0, .ref (mm_v G)), (1, .int (zI (x))), (2, .int (zI (0))), (3, .int (zI (5))), (4, .int (zI (x)))]) C0.1 C0.2.1 dJ1_indexOfChar_4cfef_25 hl (k := 5) rfl (z_inc (a := (u : Int)) (n := 1) (by omega)) (by decide) rfl (fun ls hl => ?_)
          refine lv_goto (tgt := 7) C0.1 C0.2.1 dJ1_indexOfChar_4cfef_28 (by decide) ?_
          exact ih7  (u + 1) _ _ _ (by omega) (hkd.trans (kdF_n (by omega) c_19))  (by omega) hM hS (lv_sub hl [1, 2, 3, 4, 5, 0] rfl)
        · skip
          refine lv_iload C0.1 C0.2.1 dJ1_indexOfChar_4cfef_22 (lv_at hl 5 rfl) ?_
          exact mm_iret (z := (u : Int)) C0 hr hlk hM hS dJ1_indexOfChar_4cfef_24 (⟨(hkd.trans (kdF_y (m := 4 - u) (by omega) c_19)).symm, rfl⟩)
  exact L7 (_ + 1) 0 _ _ _ (Nat.zero_le _) (rfl)  (Nat.lt_succ_self _) hM hS (lv_sub hl [2, 3, 4, 5, 1, 0] rfl)

def rJ1_indexOf_4cfef : Room := { frames := 1, cells := 0, slots := 0, locals := 25 }
theorem sw_J1_indexOf_4cfef : mm_Sw yJ1_indexOf_4cfef cJ1_indexOf_4cfef 4 (some .int) 4 := ⟨tw_778, tw_14, tw_779, by decide +kernel⟩
set_option maxHeartbeats 4000000 in
set_option maxRecDepth 100000 in
theorem c_J1_indexOf_4cfef (l : Launch) (G : mG) (E0 : mE) {x : Int} (h0 : 0 ≤ x) (h1 : x < 128) : mm_Ci l yJ1_indexOf_4cfef (.code yJ1_indexOf_4cfef cJ1_indexOf_4cfef 4 (some .int) :: wsG) rJ1_indexOf_4cfef G [.ref (mm_v G), .int (zI (x)), .int (zI (0)), .int (zI (5))] E0 (fun z E => z = kdO x ∧ E = E0) := by
  refine mm_of_iF (by decide +kernel) (Nat.le_of_ble_eq_true rfl) ?_
  intro p e s m args below meth c ls C0 hr hlk hM hl hS
  have hl : lv_has ls 4 [(0, .ref (mm_v G)), (1, .int (zI (x))), (2, .int (zI (0))), (3, .int (zI (5)))] := hl
  refine lv_iload_n C0.1 C0.2.1 dJ1_indexOf_4cfef_0 rfl (lv_at hl 1 rfl) ?_
  refine mm_callSi (As := [.int (zI (x))]) C0 sw_J1_canEncode_9a6ad tw_780 (c_J1_canEncode_9a6ad l G _ h0 h1) hM rfl hl.1 rfl (Nat.le_of_ble_eq_true rfl) ⟨rfl, rfl, Nat.le_of_ble_eq_true rfl, Nat.le_of_ble_eq_true rfl, Nat.zero_le _, Nat.zero_le _⟩ dJ1_indexOf_4cfef_1 hS (fun z_1 E1 H locs hp hM hS => ?_)
  obtain ⟨hz_1, hEq⟩ := hp
  rw [hEq] at hM
  refine z_asI (b := 1) (hz_1) ?_
  refine z_if_ne (tgt := 9) C0.1 C0.2.1 dJ1_indexOf_4cfef_4 (by decide) ⟨by omega, by omega⟩ (fun c_4 => ?_) (fun c_4 => ?_)
  · skip
    refine lv_iload_n C0.1 C0.2.1 dJ1_indexOf_4cfef_9 rfl (lv_at hl 2 rfl) ?_
    refine lv_iconst (v := zI 0) C0.1 C0.2.1 dJ1_indexOf_4cfef_10 rfl ?_
    refine z_imax C0.1 C0.2.1 (C0.2.2.1.trans hl.1.symm) C0.2.2.2.1 (C0.2.2.2.2.1 _ tml_tw_783) (C0.2.2.2.2.1 _ tms_max) (C0.2.2.2.2.1 _ tmi) (C0.2.2.2.2.1 _ tmc_max) (Nat.le_of_ble_eq_true rfl) (Nat.le_of_ble_eq_true rfl) (Nat.zero_le _) (Nat.zero_le _) ⟨by omega, by omega⟩ ⟨by omega, by omega⟩ dJ1_indexOf_4cfef_11 ?_
    refine z_asI (a := (max (0) (0))) (b := 0) (by omega) ?_
    refine lv_istore_n (lv' := [(2, .int (zI (0))), (0, .ref (mm_v G)), (1, .int (zI (x))), (3, .int (zI (5)))]) C0.1 C0.2.1 dJ1_indexOf_4cfef_14 rfl hl (by decide) rfl (fun ls hl => ?_)
    refine lv_iload_n C0.1 C0.2.1 dJ1_indexOf_4cfef_15 rfl (lv_at hl 3 rfl) ?_
    refine lv_aload_n C0.1 C0.2.1 dJ1_indexOf_4cfef_16 rfl (lv_at hl 1 rfl) ?_
    refine mm_tlen C0 hS dJ1_indexOf_4cfef_17 ?_
    refine z_imin C0.1 C0.2.1 (C0.2.2.1.trans hl.1.symm) C0.2.2.2.1 (C0.2.2.2.2.1 _ tml_tw_784) (C0.2.2.2.2.1 _ tms_min) (C0.2.2.2.2.1 _ tmi) (C0.2.2.2.2.1 _ tmc_min) (Nat.le_of_ble_eq_true rfl) (Nat.le_of_ble_eq_true rfl) (Nat.zero_le _) (Nat.zero_le _) ⟨by omega, by omega⟩ ⟨by omega, by omega⟩ dJ1_indexOf_4cfef_18 ?_
    refine z_asI (a := (min (5) (5))) (b := 5) (by omega) ?_
    refine lv_istore_n (lv' := [(3, .int (zI (5))), (2, .int (zI (0))), (0, .ref (mm_v G)), (1, .int (zI (x)))]) C0.1 C0.2.1 dJ1_indexOf_4cfef_21 rfl hl (by decide) rfl (fun ls hl => ?_)
    refine lv_iload_n C0.1 C0.2.1 dJ1_indexOf_4cfef_22 rfl (lv_at hl 1 rfl) ?_
    refine lv_iload_n C0.1 C0.2.1 dJ1_indexOf_4cfef_23 rfl (lv_at hl 0 rfl) ?_
    refine z_icmp_lt (tgt := 29) C0.1 C0.2.1 dJ1_indexOf_4cfef_24 (by decide) ⟨by omega, by omega⟩ ⟨by omega, by omega⟩ (fun c_24 => ?_) (fun c_24 => ?_)
    · skip
      refine lv_aload_n C0.1 C0.2.1 dJ1_indexOf_4cfef_29 rfl (lv_at hl 2 rfl) ?_
      refine lv_iload_n C0.1 C0.2.1 dJ1_indexOf_4cfef_30 rfl (lv_at hl 3 rfl) ?_
      refine lv_iload_n C0.1 C0.2.1 dJ1_indexOf_4cfef_31 rfl (lv_at hl 1 rfl) ?_
      refine lv_iload_n C0.1 C0.2.1 dJ1_indexOf_4cfef_32 rfl (lv_at hl 0 rfl) ?_
      refine mm_callSi (As := [.ref (mm_v G), .int (zI (x)), .int (zI (0)), .int (zI (5))]) C0 sw_J1_indexOfChar_4cfef tw_785 (c_J1_indexOfChar_4cfef l G _ h0 h1) hM rfl hl.1 rfl (Nat.le_of_ble_eq_true rfl) ⟨rfl, rfl, Nat.le_of_ble_eq_true rfl, Nat.le_of_ble_eq_true rfl, Nat.zero_le _, Nat.zero_le _⟩ dJ1_indexOf_4cfef_33 hS (fun z_33 E2 H locs hp hM hS => ?_)
      obtain ⟨hz_33, hEq⟩ := hp
      rw [hEq] at hM
      refine z_asI (b := (kdO x)) (hz_33) ?_
      exact mm_iret (z := (kdO x)) C0 hr hlk hM hS dJ1_indexOf_4cfef_36 (⟨rfl, rfl⟩)
    · skip
      omega
  · skip
    omega

def rJ0_indexOf_7cf53 : Room := { frames := 2, cells := 0, slots := 0, locals := 48 }
theorem vw_J0_indexOf_7cf53 : mm_Vw RJ0 yJ0_indexOf_7cf53 cJ0_indexOf_7cf53 3 (some .int) 2 := ⟨tw_760, tw_761, tw_13, tw_762, by decide +kernel⟩
set_option maxHeartbeats 4000000 in
set_option maxRecDepth 100000 in
theorem c_J0_indexOf_7cf53 (l : Launch) (G : mG) (E0 : mE) {x : Int} (h0 : 0 ≤ x) (h1 : x < 128) : mm_Ci l yJ0_indexOf_7cf53 (.code yJ0_indexOf_7cf53 cJ0_indexOf_7cf53 3 (some .int) :: wsG) rJ0_indexOf_7cf53 G [.ref (mm_q G), .int (zI (x)), .int (zI (0))] E0 (fun z E => z = kdO x ∧ E = E0) := by
  refine mm_of_iF (by decide +kernel) (Nat.le_of_ble_eq_true rfl) ?_
  intro p e s m args below meth c ls C0 hr hlk hM hl hS
  have hl : lv_has ls 3 [(0, .ref (mm_q G)), (1, .int (zI (x))), (2, .int (zI (0)))] := hl
  refine lv_aload_n C0.1 C0.2.1 dJ0_indexOf_7cf53_0 rfl (lv_at hl 0 rfl) ?_
  refine mm_callKi (As := []) C0 vw_J0_isLatin1_aae02 tw_763 (c_J0_isLatin1_aae02 l G _ ) hM rfl hl.1 rfl (Nat.le_of_ble_eq_true rfl) ⟨rfl, rfl, Nat.le_of_ble_eq_true rfl, Nat.le_of_ble_eq_true rfl, Nat.zero_le _, Nat.zero_le _⟩ dJ0_indexOf_7cf53_1 hS (fun z_1 E1 H locs hp hM hS => ?_)
  obtain ⟨hz_1, hEq⟩ := hp
  rw [hEq] at hM
  refine z_asI (b := 1) (hz_1) ?_
  refine z_if_eq (tgt := 23) C0.1 C0.2.1 dJ0_indexOf_7cf53_4 (by decide) ⟨by omega, by omega⟩ (fun c_4 => ?_) (fun c_4 => ?_)
  · skip
    omega
  · skip
    refine lv_aload_n C0.1 C0.2.1 dJ0_indexOf_7cf53_7 rfl (lv_at hl 0 rfl) ?_
    refine mm_tval C0 hS tw_1330 dJ0_indexOf_7cf53_8 ?_
    refine lv_iload_n C0.1 C0.2.1 dJ0_indexOf_7cf53_11 rfl (lv_at hl 1 rfl) ?_
    refine lv_iload_n C0.1 C0.2.1 dJ0_indexOf_7cf53_12 rfl (lv_at hl 2 rfl) ?_
    refine lv_aload_n C0.1 C0.2.1 dJ0_indexOf_7cf53_13 rfl (lv_at hl 0 rfl) ?_
    refine mm_callKi (As := []) C0 vw_J0_length_8abf5 tw_769 (c_J0_length_8abf5 l G _ ) hM rfl hl.1 rfl (Nat.le_of_ble_eq_true rfl) ⟨rfl, rfl, Nat.le_of_ble_eq_true rfl, Nat.le_of_ble_eq_true rfl, Nat.zero_le _, Nat.zero_le _⟩ dJ0_indexOf_7cf53_14 hS (fun z_14 E2 H locs hp hM hS => ?_)
    obtain ⟨hz_14, hEq⟩ := hp
    rw [hEq] at hM
    refine z_asI (b := 5) (hz_14) ?_
    refine mm_callSi (As := [.ref (mm_v G), .int (zI (x)), .int (zI (0)), .int (zI (5))]) C0 sw_J1_indexOf_4cfef tw_777 (c_J1_indexOf_4cfef l G _ h0 h1) hM rfl hl.1 rfl (Nat.le_of_ble_eq_true rfl) ⟨rfl, rfl, Nat.le_of_ble_eq_true rfl, Nat.le_of_ble_eq_true rfl, Nat.zero_le _, Nat.zero_le _⟩ dJ0_indexOf_7cf53_17 hS (fun z_17 E3 H locs hp hM hS => ?_)
    obtain ⟨hz_17, hEq⟩ := hp
    rw [hEq] at hM
    refine z_asI (b := (kdO x)) (hz_17) ?_
    refine lv_goto (tgt := 36) C0.1 C0.2.1 dJ0_indexOf_7cf53_20 (by decide) ?_
    exact mm_iret (z := (kdO x)) C0 hr hlk hM hS dJ0_indexOf_7cf53_36 (⟨rfl, rfl⟩)

def rJ0_indexOf_0f7a4 : Room := { frames := 3, cells := 0, slots := 0, locals := 70 }
theorem vw_J0_indexOf_0f7a4 : mm_Vw RJ0 yJ0_indexOf_0f7a4 cJ0_indexOf_0f7a4 2 (some .int) 1 := ⟨tw_756, tw_757, tw_13, tw_758, by decide +kernel⟩
set_option maxHeartbeats 4000000 in
set_option maxRecDepth 100000 in
theorem c_J0_indexOf_0f7a4 (l : Launch) (G : mG) (E0 : mE) {x : Int} (h0 : 0 ≤ x) (h1 : x < 128) : mm_Ci l yJ0_indexOf_0f7a4 (.code yJ0_indexOf_0f7a4 cJ0_indexOf_0f7a4 2 (some .int) :: wsG) rJ0_indexOf_0f7a4 G [.ref (mm_q G), .int (zI (x))] E0 (fun z E => z = kdO x ∧ E = E0) := by
  refine mm_of_iF (by decide +kernel) (Nat.le_of_ble_eq_true rfl) ?_
  intro p e s m args below meth c ls C0 hr hlk hM hl hS
  have hl : lv_has ls 2 [(0, .ref (mm_q G)), (1, .int (zI (x)))] := hl
  refine lv_aload_n C0.1 C0.2.1 dJ0_indexOf_0f7a4_0 rfl (lv_at hl 0 rfl) ?_
  refine lv_iload_n C0.1 C0.2.1 dJ0_indexOf_0f7a4_1 rfl (lv_at hl 1 rfl) ?_
  refine lv_iconst (v := zI 0) C0.1 C0.2.1 dJ0_indexOf_0f7a4_2 rfl ?_
  refine mm_callKi (As := [.int (zI (x)), .int (zI (0))]) C0 vw_J0_indexOf_7cf53 tw_759 (c_J0_indexOf_7cf53 l G _ h0 h1) hM rfl hl.1 rfl (Nat.le_of_ble_eq_true rfl) ⟨rfl, rfl, Nat.le_of_ble_eq_true rfl, Nat.le_of_ble_eq_true rfl, Nat.zero_le _, Nat.zero_le _⟩ dJ0_indexOf_0f7a4_3 hS (fun z_3 E1 H locs hp hM hS => ?_)
  obtain ⟨hz_3, hEq⟩ := hp
  rw [hEq] at hM
  refine z_asI (b := (kdO x)) (hz_3) ?_
  exact mm_iret (z := (kdO x)) C0 hr hlk hM hS dJ0_indexOf_0f7a4_6 (⟨rfl, rfl⟩)
