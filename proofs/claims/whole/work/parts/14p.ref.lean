theorem trf_b {a m : Nat} (h : a ≤ m) : trf a ≤ trf m := up_le up_trf h
theorem tr_sq {v X : Nat} (h : rtP 2 (8 * v + 1) X) : (X * X = 8 * v + 1 ↔ ∃ c, trf c = v) ∧ (X * X = 8 * v + 1 → trf ((X - 1) / 2) = v) := by
  have k1 : X * X = 8 * v + 1 → trf ((X - 1) / 2) = v := fun q => by
    have q2 := wt_2 q
    rw [shp_k1] at q2
    have ho : X % 2 = 1 := by
      rcases (show X % 2 = 0 ∨ X % 2 = 1 by omega) with q | q
      · have : X * X % 2 = 0 := by rw [Nat.mul_mod, q]
        omega
      · exact q
    unfold trf
    rw [show (X - 1) / 2 = X / 2 by omega]
    exact q2
  refine ⟨⟨fun q => ⟨_, k1 q⟩, fun ⟨c, hc⟩ => ?_⟩, k1⟩
  have h3 : shp 1 0 c = v := by rw [shp_k1]; exact hc
  rw [rt_ex2 h (wt_1 h3)]
  exact wt_1 h3
theorem up_inj9 {a b : Nat} (h : trf a = trf b) : a = b := by
  rcases Nat.lt_trichotomy a b with q | q | q
  · have := up_trf a b q; omega
  · exact q
  · have := up_trf b a q; omega
def trZ (v : Nat) (z : Int) : Prop := (∃ c : Nat, trf c = v ∧ z = (c : Int)) ∨ ((∀ c, trf c ≠ v) ∧ z = -1)

def rX10_triangleOf : Room := { frames := 0, cells := 0, slots := 0, locals := 0 }
theorem sw_X10_triangleOf : mm_Sw yX10_triangleOf cX10_triangleOf 1 (some .int) 1 := ⟨tw_1254, tw_10, tw_1255, by decide +kernel⟩
set_option maxHeartbeats 4000000 in
set_option maxRecDepth 100000 in
theorem c_X10_triangleOf (l : Launch) (G : mG) (E0 : mE) {aa : Int} {a : Nat} (haa : aa = (a : Int)) (ha : a ≤ 30000) : mm_Ci l yX10_triangleOf (.code yX10_triangleOf cX10_triangleOf 1 (some .int) :: wsG) rX10_triangleOf G [.int (zI (aa))] E0 (fun z E => z = (trf a : Int) ∧ E = E0) := by
  refine mm_of_i (by decide +kernel) (Nat.le_of_ble_eq_true rfl) ?_
  intro p e s m args below meth c ls C0 hr hlk hM hl hS
  have hl : lv_has ls 1 [(0, .int (zI (aa)))] := hl
  have h2 := trf2 a
  obtain ⟨q9, hq9⟩ : ∃ q, q = a * (a + 1) := ⟨_, rfl⟩
  have hqb : q9 ≤ 30000 * 30001 := hq9 ▸ Nat.mul_le_mul ha (by omega)
  have hqz : (a : Int) * ((a : Int) + 1) = (q9 : Int) := by rw [hq9, Int.natCast_mul]; rfl
  rw [← hq9] at h2
  clear hq9
  refine lv_iload_n C0.1 C0.2.1 dX10_triangleOf_0 rfl (lv_at hl 0 rfl) ?_
  refine lv_iload_n C0.1 C0.2.1 dX10_triangleOf_1 rfl (lv_at hl 0 rfl) ?_
  refine lv_iconst (v := zI 1) C0.1 C0.2.1 dX10_triangleOf_2 rfl ?_
  refine z_iadd C0.1 C0.2.1 dX10_triangleOf_3 ?_
  refine z_imul C0.1 C0.2.1 dX10_triangleOf_4 ?_
  refine z_asI (a := ((aa) * (((aa) + (1))))) (b := (q9 : Int)) (by rw [haa]; exact hqz) ?_
  refine lv_iconst (v := zI 2) C0.1 C0.2.1 dX10_triangleOf_5 rfl ?_
  refine z_idivp C0.1 C0.2.1 dX10_triangleOf_6 ⟨by omega, by omega⟩ ⟨by omega, by omega⟩ (by omega) (by omega) ?_
  exact mm_iret (z := (((q9 : Int)) / (2))) C0 hr hlk hM hS dX10_triangleOf_7 (⟨by omega, rfl⟩)

def rX10_triangle : Room := { frames := 1, cells := 0, slots := 0, locals := 27 }
theorem sw_X10_triangle : mm_Sw yX10_triangle cX10_triangle 3 (some .int) 1 := ⟨tw_1257, tw_10, tw_1258, by decide +kernel⟩
set_option maxHeartbeats 4000000 in
set_option maxRecDepth 100000 in
theorem c_X10_triangle (l : Launch) (G : mG) (E0 : mE) {vv : Int} {v : Nat} (hvv : vv = (v : Int)) (hv : v ≤ 100000000) : mm_Ci l yX10_triangle (.code yX10_triangle cX10_triangle 3 (some .int) :: wsG) rX10_triangle G [.int (zI (vv))] E0 (fun z E => trZ v z ∧ E = E0) := by
  refine mm_of_i (by decide +kernel) (Nat.le_of_ble_eq_true rfl) ?_
  intro p e s m args below meth c ls C0 hr hlk hM hl hS
  have hl : lv_has ls 3 [(0, .int (zI (vv)))] := hl
  have hX := rtF_p (8 * v + 1)
  obtain ⟨X, hXe⟩ : ∃ X, X = rtF (8 * v + 1) := ⟨_, rfl⟩
  rw [← hXe] at hX
  obtain ⟨hs1, hs2⟩ := tr_sq hX
  obtain ⟨q9, hq9⟩ : ∃ q, q = X * X := ⟨_, rfl⟩
  have hqn : q9 ≤ 8 * v + 1 := by rw [hq9, ← Nat.pow_two]; exact hX.1
  rw [← hq9] at hs1 hs2
  have hqz : hid ((X : Int) * (X : Int) = (q9 : Int)) := by rw [hq9]; exact (Int.natCast_mul _ _).symm
  have hX9 := rt_31 hX (by omega)
  have hXp : 1 ≤ X := Nat.pos_of_ne_zero fun q => by have h9 := hX.2; rw [q, Nat.pow_two] at h9; omega
  clear hq9
  refine mm_ldc2 (z := 8) C0 tw_1020 rfl dX10_triangle_0 ?_
  refine lv_iload_n C0.1 C0.2.1 dX10_triangle_3 rfl (lv_at hl 0 rfl) ?_
  refine z_i2l C0.1 C0.2.1 dX10_triangle_4 ⟨by omega, by omega⟩ ?_
  refine z_lmul C0.1 C0.2.1 dX10_triangle_5 ?_
  refine lv_lconst (v := zL 1) C0.1 C0.2.1 dX10_triangle_6 rfl ?_
  refine z_ladd C0.1 C0.2.1 dX10_triangle_7 ?_
  refine z_asL (a := ((((8) * (vv))) + (1))) (b := ((8 * v + 1 : Nat) : Int)) (by omega) ?_
  refine mm_callSl (As := [.long (zL (((8 * v + 1 : Nat) : Int)))]) C0 sw_X10_rootLong tw_1196 (c_X10_rootLong l G _ (8 * v + 1) rfl (by omega)) hM rfl hl.1 rfl (Nat.le_of_ble_eq_true rfl) ⟨rfl, rfl, Nat.le_of_ble_eq_true rfl, Nat.le_of_ble_eq_true rfl, Nat.zero_le _, Nat.zero_le _⟩ dX10_triangle_8 hS (fun z_8 E1 H locs hp hM hS => ?_)
  obtain ⟨hz_8, hEq⟩ := hp
  rw [hEq] at hM
  refine z_asL (b := (X : Int)) (hz_8.trans (by rw [hXe])) ?_
  refine lv_lstore_n (lv' := [(1, .long (zL ((X : Int)))), (0, .int (zI (vv)))]) C0.1 C0.2.1 dX10_triangle_11 rfl hl (by decide) rfl (fun ls hl => ?_)
  refine lv_lload_n C0.1 C0.2.1 dX10_triangle_12 rfl (lv_at hl 0 rfl) ?_
  refine lv_lload_n C0.1 C0.2.1 dX10_triangle_13 rfl (lv_at hl 0 rfl) ?_
  refine z_lmul C0.1 C0.2.1 dX10_triangle_14 ?_
  refine z_asL (a := (((X : Int)) * ((X : Int)))) (b := (q9 : Int)) ((show _ = _ from hqz)) ?_
  refine mm_ldc2 (z := 8) C0 tw_1020 rfl dX10_triangle_15 ?_
  refine lv_iload_n C0.1 C0.2.1 dX10_triangle_18 rfl (lv_at hl 1 rfl) ?_
  refine z_i2l C0.1 C0.2.1 dX10_triangle_19 ⟨by omega, by omega⟩ ?_
  refine z_lmul C0.1 C0.2.1 dX10_triangle_20 ?_
  refine lv_lconst (v := zL 1) C0.1 C0.2.1 dX10_triangle_21 rfl ?_
  refine z_ladd C0.1 C0.2.1 dX10_triangle_22 ?_
  refine z_lcmp_ne (tgt := 38) C0.1 C0.2.1 dX10_triangle_23 dX10_triangle_24 (by decide) ⟨by omega, by omega⟩ ⟨by omega, by omega⟩ (fun c_23 => ?_) (fun c_23 => ?_)
  · skip
    refine lv_iconst (v := zI (-1)) C0.1 C0.2.1 dX10_triangle_38 rfl ?_
    exact mm_iret (z := (-1)) C0 hr hlk hM hS dX10_triangle_39 (⟨Or.inr ⟨fun c hc => by have := hs1.mpr ⟨c, hc⟩; omega, rfl⟩, rfl⟩)
  · skip
    refine lv_lload_n C0.1 C0.2.1 dX10_triangle_27 rfl (lv_at hl 0 rfl) ?_
    refine lv_lconst (v := zL 1) C0.1 C0.2.1 dX10_triangle_28 rfl ?_
    refine z_lsub C0.1 C0.2.1 dX10_triangle_29 ?_
    refine mm_ldc2 (z := 2) C0 tw_1089 rfl dX10_triangle_30 ?_
    refine z_ldivp C0.1 C0.2.1 dX10_triangle_33 ⟨by omega, by omega⟩ ⟨by omega, by omega⟩ (by omega) (by omega) ?_
    refine z_asL (a := (((((X : Int)) - (1))) / (2))) (b := (((X - 1) / 2 : Nat) : Int)) (by omega) ?_
    refine z_l2i C0.1 C0.2.1 dX10_triangle_34 ?_
    refine lv_goto (tgt := 39) C0.1 C0.2.1 dX10_triangle_35 (by decide) ?_
    exact mm_iret (z := (((X - 1) / 2 : Nat) : Int)) C0 hr hlk hM hS dX10_triangle_39 (⟨Or.inl ⟨_, hs2 (by omega), rfl⟩, rfl⟩)

def rX10_three : Room := { frames := 2, cells := 0, slots := 0, locals := 49 }
theorem vw_X10_three : mm_Vw RX10 yX10_three cX10_three 6 (some .int) 2 := ⟨tw_1249, tw_1250, tw_10, tw_1251, by decide +kernel⟩
set_option maxHeartbeats 4000000 in
set_option maxRecDepth 100000 in
theorem c_X10_three (l : Launch) (G : mG) (E0 : mE) {h : Nat} {S : mST} (hF : rf G E0 h S) (hok : okR S) {n i : Int} (hr_n : rI n) (hr_i : rI i) : mm_Ci l yX10_three (.code yX10_three cX10_three 6 (some .int) :: wsG) rX10_three G [.ref (h), .int (zI (n)), .int (zI (i))] E0 (fun z E => z = (pf_three S n i).1 ∧ rf G E h (pf_three S n i).2 ∧ ∀ q : Nat, (q < h ∨ h + 13 ≤ q) → E q = E0 q) := by
  refine mm_of_i (by decide +kernel) (Nat.le_of_ble_eq_true rfl) ?_
  intro p e s m args below meth c ls C0 hr hlk hM hl hS
  have hl : lv_has ls 6 [(0, .ref (h)), (1, .int (zI (n))), (2, .int (zI (i)))] := hl
  obtain ⟨hr_n1, hr_n2⟩ := hr_n
  obtain ⟨hr_i1, hr_i2⟩ := hr_i
  obtain ⟨R, x2, x3, x4, x5, x6, x7, hX⟩ := hF
  have hX0 := hX
  obtain ⟨hTk, hPk, hKk, hSk⟩ := hok
  obtain ⟨hO, hR, hRp, ⟨fh, fc, hH, hC, hPa⟩, hTp, hCl, hKp, hSh, him⟩ := hX
  
  refine lv_iload_n C0.1 C0.2.1 dX10_three_0 rfl (lv_at hl 1 rfl) ?_
  refine z_i2l C0.1 C0.2.1 dX10_three_1 ⟨by omega, by omega⟩ ?_
  refine lv_lconst (v := zL 0) C0.1 C0.2.1 dX10_three_2 rfl ?_
  refine mm_ldc2 (z := 1000000) C0 tw_1252 rfl dX10_three_3 ?_
  refine mm_callSi (As := [.long (zL (n)), .long (zL (0)), .long (zL (1000000))]) C0 sw_X10_in tw_985 (c_X10_in l G _ (v := n) (lo := 0) (hi := 1000000) ⟨by omega, by omega⟩ ⟨by omega, by omega⟩ ⟨by omega, by omega⟩) hM rfl hl.1 rfl (Nat.le_of_ble_eq_true rfl) ⟨rfl, rfl, Nat.le_of_ble_eq_true rfl, Nat.le_of_ble_eq_true rfl, Nat.zero_le _, Nat.zero_le _⟩ dX10_three_6 hS (fun z_6 E1 H locs hp hM hS => ?_)
  obtain ⟨hz_6, hEq⟩ := hp
  rw [hEq] at hM
  have hz_6b := if01 hz_6
  refine z_if_eq (tgt := 24) C0.1 C0.2.1 dX10_three_9 (by decide) ⟨by omega, by omega⟩ (fun c_9 => ?_) (fun c_9 => ?_)
  · skip
    refine lv_iconst (v := zI (-1)) C0.1 C0.2.1 dX10_three_24 rfl ?_
    exact mm_iret (z := (-1)) C0 hr hlk hM hS dX10_three_25 (by have he : pf_three S n i = ((-1), S) := (by unfold pf_three; rw [if_neg (by omega)]); rw [he]; exact ⟨rfl, hX0.rf, fun _ _ => rfl⟩)
  · skip
    refine lv_iload_n C0.1 C0.2.1 dX10_three_12 rfl (lv_at hl 2 rfl) ?_
    refine z_i2l C0.1 C0.2.1 dX10_three_13 ⟨by omega, by omega⟩ ?_
    refine lv_lconst (v := zL 0) C0.1 C0.2.1 dX10_three_14 rfl ?_
    refine mm_ldc2 (z := 2) C0 tw_1089 rfl dX10_three_15 ?_
    refine mm_callSi (As := [.long (zL (i)), .long (zL (0)), .long (zL (2))]) C0 sw_X10_in tw_985 (c_X10_in l G _ (v := i) (lo := 0) (hi := 2) ⟨by omega, by omega⟩ ⟨by omega, by omega⟩ ⟨by omega, by omega⟩) hM rfl hl.1 rfl (Nat.le_of_ble_eq_true rfl) ⟨rfl, rfl, Nat.le_of_ble_eq_true rfl, Nat.le_of_ble_eq_true rfl, Nat.zero_le _, Nat.zero_le _⟩ dX10_three_18 hS (fun z_18 E2 H locs hp hM hS => ?_)
    obtain ⟨hz_18, hEq⟩ := hp
    rw [hEq] at hM
    have hz_18b := if01 hz_18
    refine z_if_ne (tgt := 26) C0.1 C0.2.1 dX10_three_21 (by decide) ⟨by omega, by omega⟩ (fun c_21 => ?_) (fun c_21 => ?_)
    · skip
      refine lv_iconst (v := zI 0) C0.1 C0.2.1 dX10_three_26 rfl ?_
      refine lv_istore_n (lv' := [(3, .int (zI (0))), (0, .ref (h)), (1, .int (zI (n))), (2, .int (zI (i)))]) C0.1 C0.2.1 dX10_three_27 rfl hl (by decide) rfl (fun ls hl => ?_)
      have L28 : ∀ (k28 : Nat) (a : Nat) (H : Heap) (locs : List Loc) (ls : Array Slot), (a ≤ 20000) → (∀ x, x < a → ∀ y, x ≤ y → ¬ ∃ w, y ≤ w ∧ trf x + trf y + trf w = n.toNat) → 20001 - a < k28 → mm_M G E0 H → va_S (mm_A G) s.heap H locs → lv_has ls 6 [(0, .ref (h)), (1, .int (zI (n))), (2, .int (zI (i))), (3, .int (zI ((a : Int))))] → W p l e rX10_three s m args below meth c H locs 0 0 (mm_Zi G below args s (fun z E => z = (pf_three S n i).1 ∧ rf G E h (pf_three S n i).2 ∧ ∀ q : Nat, (q < h ∨ h + 13 ≤ q) → E q = E0 q)) (F0 m 28 ls []) := by
        intro k28
        induction k28 with
        | zero => intro a H locs ls ha9 hnA hk hM hS hl; exact absurd hk (Nat.not_lt_zero _)
        | succ k28 ih28 =>
          intro a H locs ls ha9 hnA hk28 hM hS hl
          have hta := trf_b (a := a) ha9
          have htk : trf 20000 = 200010000 := by decide +kernel
          refine lv_iconst (v := zI 3) C0.1 C0.2.1 dX10_three_28 rfl ?_
          refine lv_iload_n C0.1 C0.2.1 dX10_three_29 rfl (lv_at hl 3 rfl) ?_
          refine mm_callSi (As := [.int (zI ((a : Int)))]) C0 sw_X10_triangleOf tw_1253 (c_X10_triangleOf l G _ (a := a) rfl (by omega)) hM rfl hl.1 rfl (Nat.le_of_ble_eq_true rfl) ⟨rfl, rfl, Nat.le_of_ble_eq_true rfl, Nat.le_of_ble_eq_true rfl, Nat.zero_le _, Nat.zero_le _⟩ dX10_three_30 hS (fun z_30 E3 H locs hp hM hS => ?_)
          obtain ⟨hz_30, hEq⟩ := hp
          rw [hEq] at hM
          refine z_asI (b := (trf a : Int)) (hz_30) ?_
          refine z_imul C0.1 C0.2.1 dX10_three_33 ?_
          refine lv_iload_n C0.1 C0.2.1 dX10_three_34 rfl (lv_at hl 1 rfl) ?_
          refine z_icmp_gt (tgt := 114) C0.1 C0.2.1 dX10_three_35 (by decide) ⟨by omega, by omega⟩ ⟨by omega, by omega⟩ (fun c_35 => ?_) (fun c_35 => ?_)
          · skip
            have hnone : ∀ x y, x ≤ y → ¬ ∃ w, y ≤ w ∧ trf x + trf y + trf w = n.toNat := fun x y hxy => if q : x < a then hnA x q y hxy else fun ⟨w, h1, h2⟩ => by have h3 := trf_b (show a ≤ x by omega); have h4 := trf_b h1; have h5 := trf_b hxy; omega
            refine lv_bipush (v := zI (-4)) C0.1 C0.2.1 dX10_three_114 rfl ?_
            exact mm_iret (z := (-4)) C0 hr hlk hM hS dX10_three_116 (by have he : pf_three S n i = ((-4), S) := (by unfold pf_three; rw [if_pos (by omega), fn3_e (Or.inr ⟨hnone, rfl⟩)]); rw [he]; exact ⟨rfl, hX0.rf, fun _ _ => rfl⟩)
          · skip
            have halt : a < 20000 := Nat.lt_of_le_of_ne ha9 fun q => by subst q; omega
            refine lv_iload_n C0.1 C0.2.1 dX10_three_38 rfl (lv_at hl 3 rfl) ?_
            refine lv_istore (lv' := [(4, .int (zI ((a : Int)))), (0, .ref (h)), (1, .int (zI (n))), (2, .int (zI (i))), (3, .int (zI ((a : Int))))]) C0.1 C0.2.1 dX10_three_39 hl (by decide) rfl (fun ls hl => ?_)
            have L41 : ∀ (k41 : Nat) (b : Nat) (H : Heap) (locs : List Loc) (ls : Array Slot), (a ≤ b) → (b ≤ 20000) → (∀ y, a ≤ y → y < b → ¬ ∃ w, y ≤ w ∧ trf a + trf y + trf w = n.toNat) → 20001 - b < k41 → mm_M G E0 H → va_S (mm_A G) s.heap H locs → lv_has ls 6 [(0, .ref (h)), (1, .int (zI (n))), (2, .int (zI (i))), (3, .int (zI ((a : Int)))), (4, .int (zI ((b : Int))))] → W p l e rX10_three s m args below meth c H locs 0 0 (mm_Zi G below args s (fun z E => z = (pf_three S n i).1 ∧ rf G E h (pf_three S n i).2 ∧ ∀ q : Nat, (q < h ∨ h + 13 ≤ q) → E q = E0 q)) (F0 m 41 ls []) := by
              intro k41
              induction k41 with
              | zero => intro b H locs ls hab hb9 hnB hk hM hS hl; exact absurd hk (Nat.not_lt_zero _)
              | succ k41 ih41 =>
                intro b H locs ls hab hb9 hnB hk41 hM hS hl
                have htb := trf_b (a := b) hb9
                have htab := trf_b hab
                refine lv_iload_n C0.1 C0.2.1 dX10_three_41 rfl (lv_at hl 3 rfl) ?_
                refine mm_callSi (As := [.int (zI ((a : Int)))]) C0 sw_X10_triangleOf tw_1253 (c_X10_triangleOf l G _ (a := a) rfl (by omega)) hM rfl hl.1 rfl (Nat.le_of_ble_eq_true rfl) ⟨rfl, rfl, Nat.le_of_ble_eq_true rfl, Nat.le_of_ble_eq_true rfl, Nat.zero_le _, Nat.zero_le _⟩ dX10_three_42 hS (fun z_42 E4 H locs hp hM hS => ?_)
                obtain ⟨hz_42, hEq⟩ := hp
                rw [hEq] at hM
                refine z_asI (b := (trf a : Int)) (hz_42) ?_
                refine lv_iconst (v := zI 2) C0.1 C0.2.1 dX10_three_45 rfl ?_
                refine lv_iload C0.1 C0.2.1 dX10_three_46 (lv_at hl 4 rfl) ?_
                refine mm_callSi (As := [.int (zI ((b : Int)))]) C0 sw_X10_triangleOf tw_1253 (c_X10_triangleOf l G _ (a := b) rfl (by omega)) hM rfl hl.1 rfl (Nat.le_of_ble_eq_true rfl) ⟨rfl, rfl, Nat.le_of_ble_eq_true rfl, Nat.le_of_ble_eq_true rfl, Nat.zero_le _, Nat.zero_le _⟩ dX10_three_48 hS (fun z_48 E5 H locs hp hM hS => ?_)
                obtain ⟨hz_48, hEq⟩ := hp
                rw [hEq] at hM
                refine z_asI (b := (trf b : Int)) (hz_48) ?_
                refine z_imul C0.1 C0.2.1 dX10_three_51 ?_
                refine z_iadd C0.1 C0.2.1 dX10_three_52 ?_
                refine lv_iload_n C0.1 C0.2.1 dX10_three_53 rfl (lv_at hl 1 rfl) ?_
                refine z_icmp_gt (tgt := 108) C0.1 C0.2.1 dX10_three_54 (by decide) ⟨by omega, by omega⟩ ⟨by omega, by omega⟩ (fun c_54 => ?_) (fun c_54 => ?_)
                · skip
                  have hall : ∀ y, a ≤ y → ¬ ∃ w, y ≤ w ∧ trf a + trf y + trf w = n.toNat := fun y hy => if q : y < b then hnB y hy q else fun ⟨w, h1, h2⟩ => by have h3 := trf_b (show b ≤ y by omega); have h4 := trf_b h1; omega
                  refine lv_iinc (v := zI (((a + 1 : Nat) : Int))) (lv' := [(3, .int (zI (((a + 1 : Nat) : Int)))), (0, .ref (h)), (1, .int (zI (n))), (2, .int (zI (i))), (4, .int (zI ((b : Int))))]) C0.1 C0.2.1 dX10_three_108 hl (k := 3) rfl (z_inc (a := (a : Int)) (n := 1) (by omega)) (by decide) rfl (fun ls hl => ?_)
                  refine lv_goto (tgt := 28) C0.1 C0.2.1 dX10_three_111 (by decide) ?_
                  exact ih28  (a + 1) _ _ _ (by omega) (fun x hx => if q : x = a then (by subst q; exact hall) else hnA x (by omega))  (by omega) hM hS (lv_sub hl [1, 2, 3, 0] rfl)
                · skip
                  have hblt : b < 20000 := Nat.lt_of_le_of_ne hb9 fun q => by subst q; omega
                  refine lv_iload_n C0.1 C0.2.1 dX10_three_57 rfl (lv_at hl 1 rfl) ?_
                  refine lv_iload_n C0.1 C0.2.1 dX10_three_58 rfl (lv_at hl 3 rfl) ?_
                  refine mm_callSi (As := [.int (zI ((a : Int)))]) C0 sw_X10_triangleOf tw_1253 (c_X10_triangleOf l G _ (a := a) rfl (by omega)) hM rfl hl.1 rfl (Nat.le_of_ble_eq_true rfl) ⟨rfl, rfl, Nat.le_of_ble_eq_true rfl, Nat.le_of_ble_eq_true rfl, Nat.zero_le _, Nat.zero_le _⟩ dX10_three_59 hS (fun z_59 E6 H locs hp hM hS => ?_)
                  obtain ⟨hz_59, hEq⟩ := hp
                  rw [hEq] at hM
                  refine z_asI (b := (trf a : Int)) (hz_59) ?_
                  refine z_isub C0.1 C0.2.1 dX10_three_62 ?_
                  refine lv_iload C0.1 C0.2.1 dX10_three_63 (lv_at hl 4 rfl) ?_
                  refine mm_callSi (As := [.int (zI ((b : Int)))]) C0 sw_X10_triangleOf tw_1253 (c_X10_triangleOf l G _ (a := b) rfl (by omega)) hM rfl hl.1 rfl (Nat.le_of_ble_eq_true rfl) ⟨rfl, rfl, Nat.le_of_ble_eq_true rfl, Nat.le_of_ble_eq_true rfl, Nat.zero_le _, Nat.zero_le _⟩ dX10_three_65 hS (fun z_65 E7 H locs hp hM hS => ?_)
                  obtain ⟨hz_65, hEq⟩ := hp
                  rw [hEq] at hM
                  refine z_asI (b := (trf b : Int)) (hz_65) ?_
                  refine z_isub C0.1 C0.2.1 dX10_three_68 ?_
                  refine mm_callSi (As := [.int (zI (((((n) - ((trf a : Int)))) - ((trf b : Int)))))]) C0 sw_X10_triangle tw_1256 (c_X10_triangle l G _ (v := n.toNat - trf a - trf b) (by omega) (by omega)) hM rfl hl.1 rfl (Nat.le_of_ble_eq_true rfl) ⟨rfl, rfl, Nat.le_of_ble_eq_true rfl, Nat.le_of_ble_eq_true rfl, Nat.zero_le _, Nat.zero_le _⟩ dX10_three_69 hS (fun z_69 E8 H locs hp hM hS => ?_)
                  obtain ⟨hz_69, hEq⟩ := hp
                  rw [hEq] at hM
                  have hzb : -1 ≤ z_69 := by rcases hz_69 with ⟨c8, -, h⟩ | ⟨-, h⟩ <;> omega
                  have hzc : z_69 ≤ 100000000 := by rcases hz_69 with ⟨c8, h1, h⟩ | ⟨-, h⟩; (have h7 : c8 ≤ trf c8 := (by have := trf2 c8; rcases Nat.eq_zero_or_pos c8 with q | q; omega; have := Nat.mul_le_mul_left c8 (show 2 ≤ c8 + 1 by omega); omega); omega); omega
                  refine lv_istore (lv' := [(5, .int (zI (z_69))), (0, .ref (h)), (1, .int (zI (n))), (2, .int (zI (i))), (3, .int (zI ((a : Int)))), (4, .int (zI ((b : Int))))]) C0.1 C0.2.1 dX10_three_72 hl (by decide) rfl (fun ls hl => ?_)
                  refine lv_iload C0.1 C0.2.1 dX10_three_74 (lv_at hl 0 rfl) ?_
                  refine lv_iload C0.1 C0.2.1 dX10_three_76 (lv_at hl 5 rfl) ?_
                  refine z_icmp_lt (tgt := 102) C0.1 C0.2.1 dX10_three_78 (by decide) ⟨by omega, by omega⟩ ⟨by omega, by omega⟩ (fun c_78 => ?_) (fun c_78 => ?_)
                  · skip
                    have hnb : ¬ ∃ w, b ≤ w ∧ trf a + trf b + trf w = n.toNat := fun ⟨w, h1, h2⟩ => by rcases hz_69 with ⟨c8, h3, h4⟩ | ⟨h3, h4⟩; (have h5 : c8 = w := up_inj9 (by omega); omega); exact h3 w (by omega)
                    refine lv_iinc (v := zI (((b + 1 : Nat) : Int))) (lv' := [(4, .int (zI (((b + 1 : Nat) : Int)))), (5, .int (zI (z_69))), (0, .ref (h)), (1, .int (zI (n))), (2, .int (zI (i))), (3, .int (zI ((a : Int))))]) C0.1 C0.2.1 dX10_three_102 hl (k := 5) rfl (z_inc (a := (b : Int)) (n := 1) (by omega)) (by decide) rfl (fun ls hl => ?_)
                    refine lv_goto (tgt := 41) C0.1 C0.2.1 dX10_three_105 (by decide) ?_
                    exact ih41  (b + 1) _ _ _ (by omega) (by omega) (fun y h1 h2 => if q : y = b then (by subst q; exact hnb) else hnB y h1 (by omega))  (by omega) hM hS (lv_sub hl [2, 3, 4, 5, 0] rfl)
                  · skip
                    have hr9 : ∀ z : Int, (∀ c8 : Nat, z_69 = (c8 : Int) → z = sel3 i a b c8) → r3 n.toNat i z := fun z hzz => by rcases hz_69 with ⟨c8, h3, h4⟩ | ⟨h3, h4⟩; exact Or.inl ⟨a, b, c8, hab, by omega, by omega, hnA, hnB, hzz c8 h4⟩; omega
                    refine lv_iload_n C0.1 C0.2.1 dX10_three_81 rfl (lv_at hl 3 rfl) ?_
                    refine z_if_ne (tgt := 89) C0.1 C0.2.1 dX10_three_82 (by decide) ⟨by omega, by omega⟩ (fun c_82 => ?_) (fun c_82 => ?_)
                    · skip
                      refine lv_iload_n C0.1 C0.2.1 dX10_three_89 rfl (lv_at hl 3 rfl) ?_
                      refine lv_iconst (v := zI 1) C0.1 C0.2.1 dX10_three_90 rfl ?_
                      refine z_icmp_ne (tgt := 99) C0.1 C0.2.1 dX10_three_91 (by decide) ⟨by omega, by omega⟩ ⟨by omega, by omega⟩ (fun c_91 => ?_) (fun c_91 => ?_)
                      · skip
                        refine lv_iload C0.1 C0.2.1 dX10_three_99 (lv_at hl 0 rfl) ?_
                        exact mm_iret (z := z_69) C0 hr hlk hM hS dX10_three_101 (by have he : pf_three S n i = (z_69, S) := (by unfold pf_three; rw [if_pos (by omega), fn3_e (hr9 _ (fun c8 h9 => by unfold sel3; rw [if_neg (by omega), if_neg (by omega)]; exact h9))]); rw [he]; exact ⟨rfl, hX0.rf, fun _ _ => rfl⟩)
                      · skip
                        refine lv_iload C0.1 C0.2.1 dX10_three_94 (lv_at hl 5 rfl) ?_
                        refine lv_goto (tgt := 101) C0.1 C0.2.1 dX10_three_96 (by decide) ?_
                        exact mm_iret (z := (b : Int)) C0 hr hlk hM hS dX10_three_101 (by have he : pf_three S n i = ((b : Int), S) := (by unfold pf_three; rw [if_pos (by omega), fn3_e (hr9 _ (fun c8 h9 => by unfold sel3; rw [if_neg (by omega), if_pos (by omega)]))]); rw [he]; exact ⟨rfl, hX0.rf, fun _ _ => rfl⟩)
                    · skip
                      refine lv_iload_n C0.1 C0.2.1 dX10_three_85 rfl (lv_at hl 4 rfl) ?_
                      refine lv_goto (tgt := 101) C0.1 C0.2.1 dX10_three_86 (by decide) ?_
                      exact mm_iret (z := (a : Int)) C0 hr hlk hM hS dX10_three_101 (by have he : pf_three S n i = ((a : Int), S) := (by unfold pf_three; rw [if_pos (by omega), fn3_e (hr9 _ (fun c8 h9 => by unfold sel3; rw [if_pos (by omega)]))]); rw [he]; exact ⟨rfl, hX0.rf, fun _ _ => rfl⟩)
            exact L41 (_ + 1) a _ _ _ (Nat.le_refl _) (ha9) (fun y h1 h2 => by omega)  (Nat.lt_succ_self _) hM hS (lv_sub hl [1, 2, 3, 4, 0] rfl)
      exact L28 (_ + 1) 0 _ _ _ (Nat.zero_le _) (fun x hx => absurd hx (Nat.not_lt_zero _))  (Nat.lt_succ_self _) hM hS (lv_sub hl [1, 2, 3, 0] rfl)
    · skip
      refine lv_iconst (v := zI (-1)) C0.1 C0.2.1 dX10_three_24 rfl ?_
      exact mm_iret (z := (-1)) C0 hr hlk hM hS dX10_three_25 (by have he : pf_three S n i = ((-1), S) := (by unfold pf_three; rw [if_neg (by omega)]); rw [he]; exact ⟨rfl, hX0.rf, fun _ _ => rfl⟩)
