theorem sqf_m {a b : Nat} (h : a ≤ b) : a * a ≤ b * b := Nat.mul_le_mul h h
theorem pI_eq {n l a : Nat} (h1 : pI sqf n l a) (h2 : ∀ x, l ≤ x → x < a → ¬ ∃ y, x ≤ y ∧ ps sqf n x y) (h3 : ¬ a * a + a * a = n) : ∀ x, l ≤ x → ¬ ∃ y, x ≤ y ∧ ps sqf n x y := fun x hx => by
  rintro ⟨y, hy, hp⟩
  rcases Nat.lt_or_ge x a with q | q
  · exact h2 x hx q ⟨y, hy, hp⟩
  · have := h1 x y hx hy hp
    have e1 : x = a := by omega
    have e2 : y = a := by omega
    subst e1; subst e2
    exact h3 hp
theorem q4_n {n a b : Nat} (h : a * a + b * b ≤ n) (h2 : ∀ x, b ≤ x → ¬ ∃ y, x ≤ y ∧ ps sqf (n - a * a - b * b) x y) : ¬ q4 n a b := fun ⟨_, _, x, y, q1, q2, q3⟩ => h2 x q1 ⟨y, q2, by unfold ps sqf; omega⟩
theorem q4_big {n a y : Nat} (h : n < a * a + 3 * (y * y)) : ∀ z, y ≤ z → ¬ q4 n a z := fun z hz ⟨_, _, c, d, q1, q2, q3⟩ => by
  have h1 := sqf_m hz
  have h2 := sqf_m q1
  have h3 := sqf_m q2
  omega
theorem q4_s {n a : Nat} (h : s7 (n - a * a) = true) : ∀ z, ¬ q4 n a z := fun z ⟨_, q, _⟩ => by rw [h] at q; exact absurd q (by decide)
theorem q4_out {n a : Nat} (h : n < 4 * (a * a)) : ∀ x y, a ≤ x → x ≤ y → ¬ q4 n x y := fun x y hx hy ⟨_, _, c, d, q1, q2, q3⟩ => by
  have h1 := sqf_m hx
  have h2 := sqf_m hy
  have h3 := sqf_m q1
  have h4 := sqf_m q2
  omega
theorem pI_lo {n l a b : Nat} (h : pI sqf n l b) (h2 : ∀ x, l ≤ x → x < a → ¬ ∃ y, x ≤ y ∧ ps sqf n x y) (hs : n < a * a + b * b) (hab : a ≤ b) : pI sqf n l (b - 1) := fun x y hx hy hp => by
  rcases Nat.lt_or_ge x a with q | q
  · exact absurd ⟨y, hy, hp⟩ (h2 x hx q)
  · have h1 := h x y hx hy hp
    rcases Nat.lt_or_ge y b with q2 | q2
    · omega
    · have e : y = b := by omega
      subst e
      have := sqf_m q
      unfold ps sqf at hp; omega
theorem pI_hi {n l a b : Nat} (h : pI sqf n l b) (h2 : ∀ x, l ≤ x → x < a → ¬ ∃ y, x ≤ y ∧ ps sqf n x y) (hla : l ≤ a) (hs : a * a + b * b < n) : ∀ x, l ≤ x → x < a + 1 → ¬ ∃ y, x ≤ y ∧ ps sqf n x y := fun x hx hxa => by
  rcases Nat.lt_or_ge x a with q | q
  · exact h2 x hx q
  · have e : x = a := by omega
    subst e
    rintro ⟨y, hy, hp⟩
    have h1 := sqf_m (h x y hx hy hp)
    unfold ps sqf at hp; omega

def rX10_four : Room := { frames := 1, cells := 0, slots := 0, locals := 27 }
theorem vw_X10_four : mm_Vw RX10 yX10_four cX10_four 8 (some .int) 2 := ⟨tw_1260, tw_1261, tw_10, tw_1262, by decide +kernel⟩
set_option maxHeartbeats 4000000 in
set_option maxRecDepth 100000 in
theorem c_X10_four (l : Launch) (G : mG) (E0 : mE) {h : Nat} {S : mST} (hF : rf G E0 h S) (hok : okR S) {n i : Int} (hr_n : rI n) (hr_i : rI i) : mm_Ci l yX10_four (.code yX10_four cX10_four 8 (some .int) :: wsG) rX10_four G [.ref (h), .int (zI (n)), .int (zI (i))] E0 (fun z E => z = (pf_four S n i).1 ∧ rf G E h (pf_four S n i).2 ∧ ∀ q : Nat, (q < h ∨ h + 13 ≤ q) → E q = E0 q) := by
  refine mm_of_i (by decide +kernel) (Nat.le_of_ble_eq_true rfl) ?_
  intro p e s m args below meth c ls C0 hr hlk hM hl hS
  have hl : lv_has ls 8 [(0, .ref (h)), (1, .int (zI (n))), (2, .int (zI (i)))] := hl
  obtain ⟨hr_n1, hr_n2⟩ := hr_n
  obtain ⟨hr_i1, hr_i2⟩ := hr_i
  obtain ⟨R, x2, x3, x4, x5, x6, x7, hX⟩ := hF
  have hX0 := hX
  obtain ⟨hTk, hPk, hKk, hSk⟩ := hok
  obtain ⟨hO, hR, hRp, ⟨fh, fc, hH, hC, hPa⟩, hTp, hCl, hKp, hSh, him⟩ := hX
  
  refine lv_iload_n C0.1 C0.2.1 dX10_four_0 rfl (lv_at hl 1 rfl) ?_
  refine z_i2l C0.1 C0.2.1 dX10_four_1 ⟨by omega, by omega⟩ ?_
  refine lv_lconst (v := zL 0) C0.1 C0.2.1 dX10_four_2 rfl ?_
  refine mm_ldc2 (z := 1000000) C0 tw_1252 rfl dX10_four_3 ?_
  refine mm_callSi (As := [.long (zL (n)), .long (zL (0)), .long (zL (1000000))]) C0 sw_X10_in tw_985 (c_X10_in l G _ (v := n) (lo := 0) (hi := 1000000) ⟨by omega, by omega⟩ ⟨by omega, by omega⟩ ⟨by omega, by omega⟩) hM rfl hl.1 rfl (Nat.le_of_ble_eq_true rfl) ⟨rfl, rfl, Nat.le_of_ble_eq_true rfl, Nat.le_of_ble_eq_true rfl, Nat.zero_le _, Nat.zero_le _⟩ dX10_four_6 hS (fun z_6 E1 H locs hp hM hS => ?_)
  obtain ⟨hz_6, hEq⟩ := hp
  rw [hEq] at hM
  have hz_6b := if01 hz_6
  refine z_if_eq (tgt := 24) C0.1 C0.2.1 dX10_four_9 (by decide) ⟨by omega, by omega⟩ (fun c_9 => ?_) (fun c_9 => ?_)
  · skip
    refine lv_iconst (v := zI (-1)) C0.1 C0.2.1 dX10_four_24 rfl ?_
    exact mm_iret (z := (-1)) C0 hr hlk hM hS dX10_four_25 (by have he : pf_four S n i = ((-1), S) := (by unfold pf_four; rw [if_neg (by omega)]); rw [he]; exact ⟨rfl, hX0.rf, fun _ _ => rfl⟩)
  · skip
    refine lv_iload_n C0.1 C0.2.1 dX10_four_12 rfl (lv_at hl 2 rfl) ?_
    refine z_i2l C0.1 C0.2.1 dX10_four_13 ⟨by omega, by omega⟩ ?_
    refine lv_lconst (v := zL 0) C0.1 C0.2.1 dX10_four_14 rfl ?_
    refine mm_ldc2 (z := 3) C0 tw_1006 rfl dX10_four_15 ?_
    refine mm_callSi (As := [.long (zL (i)), .long (zL (0)), .long (zL (3))]) C0 sw_X10_in tw_985 (c_X10_in l G _ (v := i) (lo := 0) (hi := 3) ⟨by omega, by omega⟩ ⟨by omega, by omega⟩ ⟨by omega, by omega⟩) hM rfl hl.1 rfl (Nat.le_of_ble_eq_true rfl) ⟨rfl, rfl, Nat.le_of_ble_eq_true rfl, Nat.le_of_ble_eq_true rfl, Nat.zero_le _, Nat.zero_le _⟩ dX10_four_18 hS (fun z_18 E2 H locs hp hM hS => ?_)
    obtain ⟨hz_18, hEq⟩ := hp
    rw [hEq] at hM
    have hz_18b := if01 hz_18
    refine z_if_ne (tgt := 26) C0.1 C0.2.1 dX10_four_21 (by decide) ⟨by omega, by omega⟩ (fun c_21 => ?_) (fun c_21 => ?_)
    · skip
      refine lv_iconst (v := zI 0) C0.1 C0.2.1 dX10_four_26 rfl ?_
      refine lv_istore_n (lv' := [(3, .int (zI (0))), (0, .ref (h)), (1, .int (zI (n))), (2, .int (zI (i)))]) C0.1 C0.2.1 dX10_four_27 rfl hl (by decide) rfl (fun ls hl => ?_)
      have L28 : ∀ (k28 : Nat) (a : Nat) (H : Heap) (locs : List Loc) (ls : Array Slot), (a ≤ 1001) → (∀ x, x < a → ∀ y, x ≤ y → ¬ q4 n.toNat x y) → 1002 - a < k28 → mm_M G E0 H → va_S (mm_A G) s.heap H locs → lv_has ls 8 [(0, .ref (h)), (1, .int (zI (n))), (2, .int (zI (i))), (3, .int (zI ((a : Int))))] → W p l e rX10_four s m args below meth c H locs 0 0 (mm_Zi G below args s (fun z E => z = (pf_four S n i).1 ∧ rf G E h (pf_four S n i).2 ∧ ∀ q : Nat, (q < h ∨ h + 13 ≤ q) → E q = E0 q)) (F0 m 28 ls []) := by
        intro k28
        induction k28 with
        | zero => intro a H locs ls ha9 hnA hk hM hS hl; exact absurd hk (Nat.not_lt_zero _)
        | succ k28 ih28 =>
          intro a H locs ls ha9 hnA hk28 hM hS hl
          obtain ⟨q1, hq1⟩ : ∃ q, q = a * a := ⟨_, rfl⟩
          have hq1b : q1 ≤ 1001 * 1001 := hq1 ▸ Nat.mul_le_mul (by omega) (by omega)
          have hq1z0 : ((a : Nat) : Int) * ((a : Nat) : Int) = (q1 : Int) := by rw [hq1]; exact (Int.natCast_mul _ _).symm
          have hq1z : hid (((a : Nat) : Int) * ((a : Nat) : Int) = (q1 : Int)) := hq1z0
          have hq1h : hid (q1 = a * a) := hq1
          have hq1y : hid (4 * ((a : Nat) : Int) * ((a : Nat) : Int) = ((4 * q1 : Nat) : Int)) := by show _ = _; rw [Int.mul_assoc, hq1z0]; omega
          clear hq1z0 hq1
          refine lv_iconst (v := zI 4) C0.1 C0.2.1 dX10_four_28 rfl ?_
          refine lv_iload_n C0.1 C0.2.1 dX10_four_29 rfl (lv_at hl 3 rfl) ?_
          refine z_imul C0.1 C0.2.1 dX10_four_30 ?_
          refine lv_iload_n C0.1 C0.2.1 dX10_four_31 rfl (lv_at hl 3 rfl) ?_
          refine z_imul C0.1 C0.2.1 dX10_four_32 ?_
          refine z_asI (a := ((((4) * ((a : Int)))) * ((a : Int)))) (b := ((4 * q1 : Nat) : Int)) ((show _ = _ from hq1y)) ?_
          refine lv_iload_n C0.1 C0.2.1 dX10_four_33 rfl (lv_at hl 1 rfl) ?_
          refine z_icmp_gt (tgt := 209) C0.1 C0.2.1 dX10_four_34 (by decide) ⟨by omega, by omega⟩ ⟨by omega, by omega⟩ (fun c_34 => ?_) (fun c_34 => ?_)
          · skip
            have hnone : ∀ x y, x ≤ y → ¬ q4 n.toNat x y := fun x y hxy => if q : x < a then hnA x q y hxy else q4_out (a := a) (by rw [← show q1 = _ from hq1h]; omega) x y (by omega) hxy
            refine lv_bipush (v := zI (-4)) C0.1 C0.2.1 dX10_four_209 rfl ?_
            exact mm_iret (z := (-4)) C0 hr hlk hM hS dX10_four_211 (by have he : pf_four S n i = ((-4), S) := (by unfold pf_four; rw [if_pos (by omega), fn4_e (Or.inr ⟨hnone, rfl⟩)]); rw [he]; exact ⟨rfl, hX0.rf, fun _ _ => rfl⟩)
          · skip
            have halt : a ≤ 1000 := Nat.le_of_not_lt fun q => by have h9 := sqf_m (show 1001 ≤ a from q); rw [← show q1 = _ from hq1h] at h9; omega
            refine lv_iload_n C0.1 C0.2.1 dX10_four_37 rfl (lv_at hl 3 rfl) ?_
            refine lv_istore (lv' := [(4, .int (zI ((a : Int)))), (0, .ref (h)), (1, .int (zI (n))), (2, .int (zI (i))), (3, .int (zI ((a : Int))))]) C0.1 C0.2.1 dX10_four_38 hl (by decide) rfl (fun ls hl => ?_)
            have L40 : ∀ (k40 : Nat) (b : Nat) (H : Heap) (locs : List Loc) (ls : Array Slot), (a ≤ b) → (b ≤ 1001) → (∀ y, a ≤ y → y < b → ¬ q4 n.toNat a y) → 1002 - b < k40 → mm_M G E0 H → va_S (mm_A G) s.heap H locs → lv_has ls 8 [(0, .ref (h)), (1, .int (zI (n))), (2, .int (zI (i))), (3, .int (zI ((a : Int)))), (4, .int (zI ((b : Int))))] → W p l e rX10_four s m args below meth c H locs 0 0 (mm_Zi G below args s (fun z E => z = (pf_four S n i).1 ∧ rf G E h (pf_four S n i).2 ∧ ∀ q : Nat, (q < h ∨ h + 13 ≤ q) → E q = E0 q)) (F0 m 40 ls []) := by
              intro k40
              induction k40 with
              | zero => intro b H locs ls hab hb9 hnB hk hM hS hl; exact absurd hk (Nat.not_lt_zero _)
              | succ k40 ih40 =>
                intro b H locs ls hab hb9 hnB hk40 hM hS hl
                obtain ⟨q2, hq2⟩ : ∃ q, q = b * b := ⟨_, rfl⟩
                have hq2b : q2 ≤ 1001 * 1001 := hq2 ▸ Nat.mul_le_mul (by omega) (by omega)
                have hq2z0 : ((b : Nat) : Int) * ((b : Nat) : Int) = (q2 : Int) := by rw [hq2]; exact (Int.natCast_mul _ _).symm
                have hq2z : hid (((b : Nat) : Int) * ((b : Nat) : Int) = (q2 : Int)) := hq2z0
                have hq2h : hid (q2 = b * b) := hq2
                have hq2y : hid (3 * ((b : Nat) : Int) * ((b : Nat) : Int) = ((3 * q2 : Nat) : Int)) := by show _ = _; rw [Int.mul_assoc, hq2z0]; omega
                clear hq2z0 hq2
                refine lv_iload_n C0.1 C0.2.1 dX10_four_40 rfl (lv_at hl 3 rfl) ?_
                refine lv_iload_n C0.1 C0.2.1 dX10_four_41 rfl (lv_at hl 3 rfl) ?_
                refine z_imul C0.1 C0.2.1 dX10_four_42 ?_
                refine z_asI (a := (((a : Int)) * ((a : Int)))) (b := (q1 : Int)) ((show _ = _ from hq1z)) ?_
                refine lv_iconst (v := zI 3) C0.1 C0.2.1 dX10_four_43 rfl ?_
                refine lv_iload C0.1 C0.2.1 dX10_four_44 (lv_at hl 4 rfl) ?_
                refine z_imul C0.1 C0.2.1 dX10_four_46 ?_
                refine lv_iload C0.1 C0.2.1 dX10_four_47 (lv_at hl 4 rfl) ?_
                refine z_imul C0.1 C0.2.1 dX10_four_49 ?_
                refine z_asI (a := ((((3) * ((b : Int)))) * ((b : Int)))) (b := ((3 * q2 : Nat) : Int)) ((show _ = _ from hq2y)) ?_
                refine z_iadd C0.1 C0.2.1 dX10_four_50 ?_
                refine lv_iload_n C0.1 C0.2.1 dX10_four_51 rfl (lv_at hl 1 rfl) ?_
                refine z_icmp_gt (tgt := 203) C0.1 C0.2.1 dX10_four_52 (by decide) ⟨by omega, by omega⟩ ⟨by omega, by omega⟩ (fun c_52 => ?_) (fun c_52 => ?_)
                · skip
                  have hall : ∀ y, a ≤ y → ¬ q4 n.toNat a y := fun y hy => if q : y < b then hnB y hy q else q4_big (y := b) (by rw [← show q1 = _ from hq1h, ← show q2 = _ from hq2h]; omega) y (by omega)
                  refine lv_iinc (v := zI (((a + 1 : Nat) : Int))) (lv' := [(3, .int (zI (((a + 1 : Nat) : Int)))), (0, .ref (h)), (1, .int (zI (n))), (2, .int (zI (i))), (4, .int (zI ((b : Int))))]) C0.1 C0.2.1 dX10_four_203 hl (k := 3) rfl (z_inc (a := (a : Int)) (n := 1) (by omega)) (by decide) rfl (fun ls hl => ?_)
                  refine lv_goto (tgt := 28) C0.1 C0.2.1 dX10_four_206 (by decide) ?_
                  exact ih28  (a + 1) _ _ _ (by omega) (fun x hx => if q : x = a then (by subst q; exact hall) else hnA x (by omega))  (by omega) hM hS (lv_sub hl [1, 2, 3, 0] rfl)
                · skip
                  have hblt : b ≤ 1000 := Nat.le_of_not_lt fun q => by have h9 := sqf_m (show 1001 ≤ b from q); rw [← show q2 = _ from hq2h] at h9; omega
                  refine lv_iload_n C0.1 C0.2.1 dX10_four_55 rfl (lv_at hl 1 rfl) ?_
                  refine lv_iload_n C0.1 C0.2.1 dX10_four_56 rfl (lv_at hl 3 rfl) ?_
                  refine lv_iload_n C0.1 C0.2.1 dX10_four_57 rfl (lv_at hl 3 rfl) ?_
                  refine z_imul C0.1 C0.2.1 dX10_four_58 ?_
                  refine z_asI (a := (((a : Int)) * ((a : Int)))) (b := (q1 : Int)) ((show _ = _ from hq1z)) ?_
                  refine z_isub C0.1 C0.2.1 dX10_four_59 ?_
                  refine mm_callSi (As := [.int (zI (((n) - ((q1 : Int)))))]) C0 sw_X10_isSeven tw_1263 (c_X10_isSeven l G _ (n := n.toNat - q1) (by omega) (by omega)) hM rfl hl.1 rfl (Nat.le_of_ble_eq_true rfl) ⟨rfl, rfl, Nat.le_of_ble_eq_true rfl, Nat.le_of_ble_eq_true rfl, Nat.zero_le _, Nat.zero_le _⟩ dX10_four_60 hS (fun z_60 E3 H locs hp hM hS => ?_)
                  obtain ⟨hz_60, hEq⟩ := hp
                  rw [hEq] at hM
                  have hz01 : z_60 = 0 ∨ z_60 = 1 := hz_60.elim (fun h => Or.inr h.1) (fun h => Or.inl h.1)
                  refine z_if_ne (tgt := 203) C0.1 C0.2.1 dX10_four_63 (by decide) ⟨by omega, by omega⟩ (fun c_63 => ?_) (fun c_63 => ?_)
                  · skip
                    have hsv : s7 (n.toNat - a * a) = true := by rw [← show q1 = _ from hq1h]; exact hz_60.elim (fun h => h.2) (fun h => by omega)
                    have hall : ∀ y, a ≤ y → ¬ q4 n.toNat a y := fun y _ => q4_s hsv y
                    refine lv_iinc (v := zI (((a + 1 : Nat) : Int))) (lv' := [(3, .int (zI (((a + 1 : Nat) : Int)))), (0, .ref (h)), (1, .int (zI (n))), (2, .int (zI (i))), (4, .int (zI ((b : Int))))]) C0.1 C0.2.1 dX10_four_203 hl (k := 3) rfl (z_inc (a := (a : Int)) (n := 1) (by omega)) (by decide) rfl (fun ls hl => ?_)
                    refine lv_goto (tgt := 28) C0.1 C0.2.1 dX10_four_206 (by decide) ?_
                    exact ih28  (a + 1) _ _ _ (by omega) (fun x hx => if q : x = a then (by subst q; exact hall) else hnA x (by omega))  (by omega) hM hS (lv_sub hl [1, 2, 3, 0] rfl)
                  · skip
                    have hsv : s7 (n.toNat - a * a) = false := by rw [← show q1 = _ from hq1h]; exact hz_60.elim (fun h => by omega) (fun h => h.2)
                    obtain ⟨t9, ht9⟩ : ∃ t, t = n.toNat - q1 - q2 := ⟨_, rfl⟩
                    refine lv_iload_n C0.1 C0.2.1 dX10_four_66 rfl (lv_at hl 1 rfl) ?_
                    refine lv_iload_n C0.1 C0.2.1 dX10_four_67 rfl (lv_at hl 3 rfl) ?_
                    refine lv_iload_n C0.1 C0.2.1 dX10_four_68 rfl (lv_at hl 3 rfl) ?_
                    refine z_imul C0.1 C0.2.1 dX10_four_69 ?_
                    refine z_asI (a := (((a : Int)) * ((a : Int)))) (b := (q1 : Int)) ((show _ = _ from hq1z)) ?_
                    refine z_isub C0.1 C0.2.1 dX10_four_70 ?_
                    refine lv_iload C0.1 C0.2.1 dX10_four_71 (lv_at hl 4 rfl) ?_
                    refine lv_iload C0.1 C0.2.1 dX10_four_73 (lv_at hl 4 rfl) ?_
                    refine z_imul C0.1 C0.2.1 dX10_four_75 ?_
                    refine z_asI (a := (((b : Int)) * ((b : Int)))) (b := (q2 : Int)) ((show _ = _ from hq2z)) ?_
                    refine z_isub C0.1 C0.2.1 dX10_four_76 ?_
                    refine z_asI (a := ((((n) - ((q1 : Int)))) - ((q2 : Int)))) (b := (t9 : Int)) (by omega) ?_
                    refine lv_istore (lv' := [(5, .int (zI ((t9 : Int)))), (0, .ref (h)), (1, .int (zI (n))), (2, .int (zI (i))), (3, .int (zI ((a : Int)))), (4, .int (zI ((b : Int))))]) C0.1 C0.2.1 dX10_four_77 hl (by decide) rfl (fun ls hl => ?_)
                    refine lv_iload C0.1 C0.2.1 dX10_four_79 (lv_at hl 5 rfl) ?_
                    refine lv_istore (lv' := [(6, .int (zI ((b : Int)))), (5, .int (zI ((t9 : Int)))), (0, .ref (h)), (1, .int (zI (n))), (2, .int (zI (i))), (3, .int (zI ((a : Int)))), (4, .int (zI ((b : Int))))]) C0.1 C0.2.1 dX10_four_81 hl (by decide) rfl (fun ls hl => ?_)
                    refine lv_iload C0.1 C0.2.1 dX10_four_83 (lv_at hl 1 rfl) ?_
                    refine z_i2l C0.1 C0.2.1 dX10_four_85 ⟨by omega, by omega⟩ ?_
                    refine mm_callSl (As := [.long (zL ((t9 : Int)))]) C0 sw_X10_rootLong tw_1196 (c_X10_rootLong l G _ t9 rfl (by omega)) hM rfl hl.1 rfl (Nat.le_of_ble_eq_true rfl) ⟨rfl, rfl, Nat.le_of_ble_eq_true rfl, Nat.le_of_ble_eq_true rfl, Nat.zero_le _, Nat.zero_le _⟩ dX10_four_86 hS (fun z_86 E4 H locs hp hM hS => ?_)
                    obtain ⟨hz_86, hEq⟩ := hp
                    rw [hEq] at hM
                    refine z_asL (b := (rtF t9 : Int)) (hz_86) ?_
                    have hrt := rtF_p t9
                    obtain ⟨r9, hr9⟩ : ∃ r, r = rtF t9 := ⟨_, rfl⟩
                    rw [← hr9] at hrt
                    have hr9b := rt_31 hrt (by omega)
                    have hbr : b ≤ r9 := (rt_sq hrt).mp (by rw [← show q2 = _ from hq2h]; omega)
                    have hpr : pI sqf t9 b r9 := pI_0 up_sqf (by have h9 := hrt.2; rw [Nat.pow_two] at h9; exact h9) b
                    have hr10 : r9 ≤ 1001 := Nat.le_of_not_lt fun q => by have h8 := hrt.1; rw [Nat.pow_two] at h8; have h7 := sqf_m (show 1002 ≤ r9 from q); omega
                    refine z_l2i C0.1 C0.2.1 dX10_four_89 ?_
                    refine z_asI (a := (rtF t9 : Int)) (b := (r9 : Int)) (by rw [hr9]) ?_
                    refine lv_istore (lv' := [(7, .int (zI ((r9 : Int)))), (6, .int (zI ((b : Int)))), (5, .int (zI ((t9 : Int)))), (0, .ref (h)), (1, .int (zI (n))), (2, .int (zI (i))), (3, .int (zI ((a : Int)))), (4, .int (zI ((b : Int))))]) C0.1 C0.2.1 dX10_four_90 hl (by decide) rfl (fun ls hl => ?_)
                    have L92 : ∀ (k92 : Nat) (c8 d8 : Nat) (H : Heap) (locs : List Loc) (ls : Array Slot), (b ≤ c8) → (c8 ≤ d8) → (d8 ≤ 1001) → (pI sqf t9 b d8) → (∀ x, b ≤ x → x < c8 → ¬ ∃ y, x ≤ y ∧ ps sqf t9 x y) → d8 - c8 < k92 → mm_M G E0 H → va_S (mm_A G) s.heap H locs → lv_has ls 8 [(0, .ref (h)), (1, .int (zI (n))), (2, .int (zI (i))), (3, .int (zI ((a : Int)))), (4, .int (zI ((b : Int)))), (5, .int (zI ((t9 : Int)))), (6, .int (zI ((c8 : Int)))), (7, .int (zI ((d8 : Int))))] → W p l e rX10_four s m args below meth c H locs 0 0 (mm_Zi G below args s (fun z E => z = (pf_four S n i).1 ∧ rf G E h (pf_four S n i).2 ∧ ∀ q : Nat, (q < h ∨ h + 13 ≤ q) → E q = E0 q)) (F0 m 92 ls []) := by
                      intro k92
                      induction k92 with
                      | zero => intro c8 d8 H locs ls hbc hcd hd9 hpi9 hno9 hk hM hS hl; exact absurd hk (Nat.not_lt_zero _)
                      | succ k92 ih92 =>
                        intro c8 d8 H locs ls hbc hcd hd9 hpi9 hno9 hk92 hM hS hl
                        obtain ⟨q3, hq3⟩ : ∃ q, q = c8 * c8 := ⟨_, rfl⟩
                        have hq3b : q3 ≤ 1001 * 1001 := hq3 ▸ Nat.mul_le_mul (by omega) (by omega)
                        have hq3z0 : ((c8 : Nat) : Int) * ((c8 : Nat) : Int) = (q3 : Int) := by rw [hq3]; exact (Int.natCast_mul _ _).symm
                        have hq3z : hid (((c8 : Nat) : Int) * ((c8 : Nat) : Int) = (q3 : Int)) := hq3z0
                        have hq3h : hid (q3 = c8 * c8) := hq3
                        clear hq3z0 hq3
                        obtain ⟨vd8, hvd8⟩ : ∃ q, q = d8 * d8 := ⟨_, rfl⟩
                        have hvd8b : vd8 ≤ 1001 * 1001 := hvd8 ▸ Nat.mul_le_mul (by omega) (by omega)
                        have hvd8z0 : ((d8 : Nat) : Int) * ((d8 : Nat) : Int) = (vd8 : Int) := by rw [hvd8]; exact (Int.natCast_mul _ _).symm
                        have hvd8z : hid (((d8 : Nat) : Int) * ((d8 : Nat) : Int) = (vd8 : Int)) := hvd8z0
                        have hvd8h : hid (vd8 = d8 * d8) := hvd8
                        clear hvd8z0 hvd8
                        refine lv_iload C0.1 C0.2.1 dX10_four_92 (lv_at hl 6 rfl) ?_
                        refine lv_iload C0.1 C0.2.1 dX10_four_94 (lv_at hl 7 rfl) ?_
                        refine z_icmp_ge (tgt := 143) C0.1 C0.2.1 dX10_four_96 (by decide) ⟨by omega, by omega⟩ ⟨by omega, by omega⟩ (fun c_96 => ?_) (fun c_96 => ?_)
                        · skip
                          refine lv_iload C0.1 C0.2.1 dX10_four_143 (lv_at hl 6 rfl) ?_
                          refine lv_iload C0.1 C0.2.1 dX10_four_145 (lv_at hl 7 rfl) ?_
                          refine z_icmp_gt (tgt := 197) C0.1 C0.2.1 dX10_four_147 (by decide) ⟨by omega, by omega⟩ ⟨by omega, by omega⟩ (fun c_147 => ?_) (fun c_147 => ?_)
                          · skip
                            have hnb : ¬ q4 n.toNat a b := fun q => by omega
                            refine lv_iinc (v := zI (((b + 1 : Nat) : Int))) (lv' := [(4, .int (zI (((b + 1 : Nat) : Int)))), (0, .ref (h)), (1, .int (zI (n))), (2, .int (zI (i))), (3, .int (zI ((a : Int)))), (5, .int (zI ((t9 : Int)))), (6, .int (zI ((c8 : Int)))), (7, .int (zI ((d8 : Int))))]) C0.1 C0.2.1 dX10_four_197 hl (k := 4) rfl (z_inc (a := (b : Int)) (n := 1) (by omega)) (by decide) rfl (fun ls hl => ?_)
                            refine lv_goto (tgt := 40) C0.1 C0.2.1 dX10_four_200 (by decide) ?_
                            exact ih40  (b + 1) _ _ _ (by omega) (by omega) (fun y h1 h2 => if q : y = b then (by subst q; exact hnb) else hnB y h1 (by omega))  (by omega) hM hS (lv_sub hl [1, 2, 3, 4, 0] rfl)
                          · skip
                            refine lv_iload C0.1 C0.2.1 dX10_four_150 (lv_at hl 6 rfl) ?_
                            refine lv_iload C0.1 C0.2.1 dX10_four_152 (lv_at hl 6 rfl) ?_
                            refine z_imul C0.1 C0.2.1 dX10_four_154 ?_
                            refine z_asI (a := (((c8 : Int)) * ((c8 : Int)))) (b := (q3 : Int)) ((show _ = _ from hq3z)) ?_
                            refine lv_iload C0.1 C0.2.1 dX10_four_155 (lv_at hl 7 rfl) ?_
                            refine lv_iload C0.1 C0.2.1 dX10_four_157 (lv_at hl 7 rfl) ?_
                            refine z_imul C0.1 C0.2.1 dX10_four_159 ?_
                            refine z_asI (a := (((d8 : Int)) * ((d8 : Int)))) (b := (vd8 : Int)) ((show _ = _ from hvd8z)) ?_
                            refine z_iadd C0.1 C0.2.1 dX10_four_160 ?_
                            refine lv_iload C0.1 C0.2.1 dX10_four_161 (lv_at hl 5 rfl) ?_
                            refine z_icmp_ne (tgt := 197) C0.1 C0.2.1 dX10_four_163 (by decide) ⟨by omega, by omega⟩ ⟨by omega, by omega⟩ (fun c_163 => ?_) (fun c_163 => ?_)
                            · skip
                              have hnb : ¬ q4 n.toNat a b := q4_n (by rw [← show q1 = _ from hq1h, ← show q2 = _ from hq2h]; omega) (by rw [← show q1 = _ from hq1h, ← show q2 = _ from hq2h, ← ht9]; have hcde : c8 = d8 := (by omega); have e3 : q3 = vd8 := (by rw [show q3 = _ from hq3h, show vd8 = _ from hvd8h, hcde]); exact pI_eq (a := d8) hpi9 (by rw [← hcde]; exact hno9) (by rw [← show vd8 = _ from hvd8h]; omega))
                              refine lv_iinc (v := zI (((b + 1 : Nat) : Int))) (lv' := [(4, .int (zI (((b + 1 : Nat) : Int)))), (0, .ref (h)), (1, .int (zI (n))), (2, .int (zI (i))), (3, .int (zI ((a : Int)))), (5, .int (zI ((t9 : Int)))), (6, .int (zI ((c8 : Int)))), (7, .int (zI ((d8 : Int))))]) C0.1 C0.2.1 dX10_four_197 hl (k := 4) rfl (z_inc (a := (b : Int)) (n := 1) (by omega)) (by decide) rfl (fun ls hl => ?_)
                              refine lv_goto (tgt := 40) C0.1 C0.2.1 dX10_four_200 (by decide) ?_
                              exact ih40  (b + 1) _ _ _ (by omega) (by omega) (fun y h1 h2 => if q : y = b then (by subst q; exact hnb) else hnB y h1 (by omega))  (by omega) hM hS (lv_sub hl [1, 2, 3, 4, 0] rfl)
                            · skip
                              have hr9x : ∀ z : Int, z = sel4 i a b c8 d8 → r4 n.toNat i z := fun z hzz => Or.inl ⟨a, b, c8, d8, hab, hbc, hcd, hsv, by rw [← show q1 = _ from hq1h, ← show q2 = _ from hq2h, ← show q3 = _ from hq3h, ← show vd8 = _ from hvd8h]; omega, hnA, hnB, fun x h1 h2 q => hno9 x h1 h2 (by obtain ⟨y, h3, h4⟩ := q; exact ⟨y, h3, by unfold ps sqf; rw [← show q1 = _ from hq1h, ← show q2 = _ from hq2h] at h4; omega⟩), hzz⟩
                              refine lv_iload_n C0.1 C0.2.1 dX10_four_166 rfl (lv_at hl 2 rfl) ?_
                              refine z_if_ne (tgt := 174) C0.1 C0.2.1 dX10_four_167 (by decide) ⟨by omega, by omega⟩ (fun c_167 => ?_) (fun c_167 => ?_)
                              · skip
                                refine lv_iload_n C0.1 C0.2.1 dX10_four_174 rfl (lv_at hl 2 rfl) ?_
                                refine lv_iconst (v := zI 1) C0.1 C0.2.1 dX10_four_175 rfl ?_
                                refine z_icmp_ne (tgt := 184) C0.1 C0.2.1 dX10_four_176 (by decide) ⟨by omega, by omega⟩ ⟨by omega, by omega⟩ (fun c_176 => ?_) (fun c_176 => ?_)
                                · skip
                                  refine lv_iload_n C0.1 C0.2.1 dX10_four_184 rfl (lv_at hl 2 rfl) ?_
                                  refine lv_iconst (v := zI 2) C0.1 C0.2.1 dX10_four_185 rfl ?_
                                  refine z_icmp_ne (tgt := 194) C0.1 C0.2.1 dX10_four_186 (by decide) ⟨by omega, by omega⟩ ⟨by omega, by omega⟩ (fun c_186 => ?_) (fun c_186 => ?_)
                                  · skip
                                    refine lv_iload C0.1 C0.2.1 dX10_four_194 (lv_at hl 7 rfl) ?_
                                    exact mm_iret (z := (d8 : Int)) C0 hr hlk hM hS dX10_four_196 (by have he : pf_four S n i = ((d8 : Int), S) := (by unfold pf_four; rw [if_pos (by omega), fn4_e (hr9x _ (by unfold sel4; rw [if_neg (by omega), if_neg (by omega), if_neg (by omega)]))]); rw [he]; exact ⟨rfl, hX0.rf, fun _ _ => rfl⟩)
                                  · skip
                                    refine lv_iload C0.1 C0.2.1 dX10_four_189 (lv_at hl 6 rfl) ?_
                                    refine lv_goto (tgt := 196) C0.1 C0.2.1 dX10_four_191 (by decide) ?_
                                    exact mm_iret (z := (c8 : Int)) C0 hr hlk hM hS dX10_four_196 (by have he : pf_four S n i = ((c8 : Int), S) := (by unfold pf_four; rw [if_pos (by omega), fn4_e (hr9x _ (by unfold sel4; rw [if_neg (by omega), if_neg (by omega), if_pos (by omega)]))]); rw [he]; exact ⟨rfl, hX0.rf, fun _ _ => rfl⟩)
                                · skip
                                  refine lv_iload C0.1 C0.2.1 dX10_four_179 (lv_at hl 4 rfl) ?_
                                  refine lv_goto (tgt := 196) C0.1 C0.2.1 dX10_four_181 (by decide) ?_
                                  exact mm_iret (z := (b : Int)) C0 hr hlk hM hS dX10_four_196 (by have he : pf_four S n i = ((b : Int), S) := (by unfold pf_four; rw [if_pos (by omega), fn4_e (hr9x _ (by unfold sel4; rw [if_neg (by omega), if_pos (by omega)]))]); rw [he]; exact ⟨rfl, hX0.rf, fun _ _ => rfl⟩)
                              · skip
                                refine lv_iload_n C0.1 C0.2.1 dX10_four_170 rfl (lv_at hl 3 rfl) ?_
                                refine lv_goto (tgt := 196) C0.1 C0.2.1 dX10_four_171 (by decide) ?_
                                exact mm_iret (z := (a : Int)) C0 hr hlk hM hS dX10_four_196 (by have he : pf_four S n i = ((a : Int), S) := (by unfold pf_four; rw [if_pos (by omega), fn4_e (hr9x _ (by unfold sel4; rw [if_pos (by omega)]))]); rw [he]; exact ⟨rfl, hX0.rf, fun _ _ => rfl⟩)
                        · skip
                          refine lv_iload C0.1 C0.2.1 dX10_four_99 (lv_at hl 6 rfl) ?_
                          refine lv_iload C0.1 C0.2.1 dX10_four_101 (lv_at hl 6 rfl) ?_
                          refine z_imul C0.1 C0.2.1 dX10_four_103 ?_
                          refine z_asI (a := (((c8 : Int)) * ((c8 : Int)))) (b := (q3 : Int)) ((show _ = _ from hq3z)) ?_
                          refine lv_iload C0.1 C0.2.1 dX10_four_104 (lv_at hl 7 rfl) ?_
                          refine lv_iload C0.1 C0.2.1 dX10_four_106 (lv_at hl 7 rfl) ?_
                          refine z_imul C0.1 C0.2.1 dX10_four_108 ?_
                          refine z_asI (a := (((d8 : Int)) * ((d8 : Int)))) (b := (vd8 : Int)) ((show _ = _ from hvd8z)) ?_
                          refine z_iadd C0.1 C0.2.1 dX10_four_109 ?_
                          refine lv_iload C0.1 C0.2.1 dX10_four_110 (lv_at hl 5 rfl) ?_
                          refine z_icmp_eq (tgt := 143) C0.1 C0.2.1 dX10_four_112 (by decide) ⟨by omega, by omega⟩ ⟨by omega, by omega⟩ (fun c_112 => ?_) (fun c_112 => ?_)
                          · skip
                            refine lv_iload C0.1 C0.2.1 dX10_four_143 (lv_at hl 6 rfl) ?_
                            refine lv_iload C0.1 C0.2.1 dX10_four_145 (lv_at hl 7 rfl) ?_
                            refine z_icmp_gt (tgt := 197) C0.1 C0.2.1 dX10_four_147 (by decide) ⟨by omega, by omega⟩ ⟨by omega, by omega⟩ (fun c_147 => ?_) (fun c_147 => ?_)
                            · skip
                              have hnb : ¬ q4 n.toNat a b := fun q => by omega
                              refine lv_iinc (v := zI (((b + 1 : Nat) : Int))) (lv' := [(4, .int (zI (((b + 1 : Nat) : Int)))), (0, .ref (h)), (1, .int (zI (n))), (2, .int (zI (i))), (3, .int (zI ((a : Int)))), (5, .int (zI ((t9 : Int)))), (6, .int (zI ((c8 : Int)))), (7, .int (zI ((d8 : Int))))]) C0.1 C0.2.1 dX10_four_197 hl (k := 4) rfl (z_inc (a := (b : Int)) (n := 1) (by omega)) (by decide) rfl (fun ls hl => ?_)
                              refine lv_goto (tgt := 40) C0.1 C0.2.1 dX10_four_200 (by decide) ?_
                              exact ih40  (b + 1) _ _ _ (by omega) (by omega) (fun y h1 h2 => if q : y = b then (by subst q; exact hnb) else hnB y h1 (by omega))  (by omega) hM hS (lv_sub hl [1, 2, 3, 4, 0] rfl)
                            · skip
                              refine lv_iload C0.1 C0.2.1 dX10_four_150 (lv_at hl 6 rfl) ?_
                              refine lv_iload C0.1 C0.2.1 dX10_four_152 (lv_at hl 6 rfl) ?_
                              refine z_imul C0.1 C0.2.1 dX10_four_154 ?_
                              refine z_asI (a := (((c8 : Int)) * ((c8 : Int)))) (b := (q3 : Int)) ((show _ = _ from hq3z)) ?_
                              refine lv_iload C0.1 C0.2.1 dX10_four_155 (lv_at hl 7 rfl) ?_
                              refine lv_iload C0.1 C0.2.1 dX10_four_157 (lv_at hl 7 rfl) ?_
                              refine z_imul C0.1 C0.2.1 dX10_four_159 ?_
                              refine z_asI (a := (((d8 : Int)) * ((d8 : Int)))) (b := (vd8 : Int)) ((show _ = _ from hvd8z)) ?_
                              refine z_iadd C0.1 C0.2.1 dX10_four_160 ?_
                              refine lv_iload C0.1 C0.2.1 dX10_four_161 (lv_at hl 5 rfl) ?_
                              refine z_icmp_ne (tgt := 197) C0.1 C0.2.1 dX10_four_163 (by decide) ⟨by omega, by omega⟩ ⟨by omega, by omega⟩ (fun c_163 => ?_) (fun c_163 => ?_)
                              · skip
                                have hnb : ¬ q4 n.toNat a b := q4_n (by rw [← show q1 = _ from hq1h, ← show q2 = _ from hq2h]; omega) (by rw [← show q1 = _ from hq1h, ← show q2 = _ from hq2h, ← ht9]; have hcde : c8 = d8 := (by omega); have e3 : q3 = vd8 := (by rw [show q3 = _ from hq3h, show vd8 = _ from hvd8h, hcde]); exact pI_eq (a := d8) hpi9 (by rw [← hcde]; exact hno9) (by rw [← show vd8 = _ from hvd8h]; omega))
                                refine lv_iinc (v := zI (((b + 1 : Nat) : Int))) (lv' := [(4, .int (zI (((b + 1 : Nat) : Int)))), (0, .ref (h)), (1, .int (zI (n))), (2, .int (zI (i))), (3, .int (zI ((a : Int)))), (5, .int (zI ((t9 : Int)))), (6, .int (zI ((c8 : Int)))), (7, .int (zI ((d8 : Int))))]) C0.1 C0.2.1 dX10_four_197 hl (k := 4) rfl (z_inc (a := (b : Int)) (n := 1) (by omega)) (by decide) rfl (fun ls hl => ?_)
                                refine lv_goto (tgt := 40) C0.1 C0.2.1 dX10_four_200 (by decide) ?_
                                exact ih40  (b + 1) _ _ _ (by omega) (by omega) (fun y h1 h2 => if q : y = b then (by subst q; exact hnb) else hnB y h1 (by omega))  (by omega) hM hS (lv_sub hl [1, 2, 3, 4, 0] rfl)
                              · skip
                                have hr9x : ∀ z : Int, z = sel4 i a b c8 d8 → r4 n.toNat i z := fun z hzz => Or.inl ⟨a, b, c8, d8, hab, hbc, hcd, hsv, by rw [← show q1 = _ from hq1h, ← show q2 = _ from hq2h, ← show q3 = _ from hq3h, ← show vd8 = _ from hvd8h]; omega, hnA, hnB, fun x h1 h2 q => hno9 x h1 h2 (by obtain ⟨y, h3, h4⟩ := q; exact ⟨y, h3, by unfold ps sqf; rw [← show q1 = _ from hq1h, ← show q2 = _ from hq2h] at h4; omega⟩), hzz⟩
                                refine lv_iload_n C0.1 C0.2.1 dX10_four_166 rfl (lv_at hl 2 rfl) ?_
                                refine z_if_ne (tgt := 174) C0.1 C0.2.1 dX10_four_167 (by decide) ⟨by omega, by omega⟩ (fun c_167 => ?_) (fun c_167 => ?_)
                                · skip
                                  refine lv_iload_n C0.1 C0.2.1 dX10_four_174 rfl (lv_at hl 2 rfl) ?_
                                  refine lv_iconst (v := zI 1) C0.1 C0.2.1 dX10_four_175 rfl ?_
                                  refine z_icmp_ne (tgt := 184) C0.1 C0.2.1 dX10_four_176 (by decide) ⟨by omega, by omega⟩ ⟨by omega, by omega⟩ (fun c_176 => ?_) (fun c_176 => ?_)
                                  · skip
                                    refine lv_iload_n C0.1 C0.2.1 dX10_four_184 rfl (lv_at hl 2 rfl) ?_
                                    refine lv_iconst (v := zI 2) C0.1 C0.2.1 dX10_four_185 rfl ?_
                                    refine z_icmp_ne (tgt := 194) C0.1 C0.2.1 dX10_four_186 (by decide) ⟨by omega, by omega⟩ ⟨by omega, by omega⟩ (fun c_186 => ?_) (fun c_186 => ?_)
                                    · skip
                                      refine lv_iload C0.1 C0.2.1 dX10_four_194 (lv_at hl 7 rfl) ?_
                                      exact mm_iret (z := (d8 : Int)) C0 hr hlk hM hS dX10_four_196 (by have he : pf_four S n i = ((d8 : Int), S) := (by unfold pf_four; rw [if_pos (by omega), fn4_e (hr9x _ (by unfold sel4; rw [if_neg (by omega), if_neg (by omega), if_neg (by omega)]))]); rw [he]; exact ⟨rfl, hX0.rf, fun _ _ => rfl⟩)
                                    · skip
                                      refine lv_iload C0.1 C0.2.1 dX10_four_189 (lv_at hl 6 rfl) ?_
                                      refine lv_goto (tgt := 196) C0.1 C0.2.1 dX10_four_191 (by decide) ?_
                                      exact mm_iret (z := (c8 : Int)) C0 hr hlk hM hS dX10_four_196 (by have he : pf_four S n i = ((c8 : Int), S) := (by unfold pf_four; rw [if_pos (by omega), fn4_e (hr9x _ (by unfold sel4; rw [if_neg (by omega), if_neg (by omega), if_pos (by omega)]))]); rw [he]; exact ⟨rfl, hX0.rf, fun _ _ => rfl⟩)
                                  · skip
                                    refine lv_iload C0.1 C0.2.1 dX10_four_179 (lv_at hl 4 rfl) ?_
                                    refine lv_goto (tgt := 196) C0.1 C0.2.1 dX10_four_181 (by decide) ?_
                                    exact mm_iret (z := (b : Int)) C0 hr hlk hM hS dX10_four_196 (by have he : pf_four S n i = ((b : Int), S) := (by unfold pf_four; rw [if_pos (by omega), fn4_e (hr9x _ (by unfold sel4; rw [if_neg (by omega), if_pos (by omega)]))]); rw [he]; exact ⟨rfl, hX0.rf, fun _ _ => rfl⟩)
                                · skip
                                  refine lv_iload_n C0.1 C0.2.1 dX10_four_170 rfl (lv_at hl 3 rfl) ?_
                                  refine lv_goto (tgt := 196) C0.1 C0.2.1 dX10_four_171 (by decide) ?_
                                  exact mm_iret (z := (a : Int)) C0 hr hlk hM hS dX10_four_196 (by have he : pf_four S n i = ((a : Int), S) := (by unfold pf_four; rw [if_pos (by omega), fn4_e (hr9x _ (by unfold sel4; rw [if_pos (by omega)]))]); rw [he]; exact ⟨rfl, hX0.rf, fun _ _ => rfl⟩)
                          · skip
                            refine lv_iload C0.1 C0.2.1 dX10_four_115 (lv_at hl 6 rfl) ?_
                            refine lv_iload C0.1 C0.2.1 dX10_four_117 (lv_at hl 6 rfl) ?_
                            refine z_imul C0.1 C0.2.1 dX10_four_119 ?_
                            refine z_asI (a := (((c8 : Int)) * ((c8 : Int)))) (b := (q3 : Int)) ((show _ = _ from hq3z)) ?_
                            refine lv_iload C0.1 C0.2.1 dX10_four_120 (lv_at hl 7 rfl) ?_
                            refine lv_iload C0.1 C0.2.1 dX10_four_122 (lv_at hl 7 rfl) ?_
                            refine z_imul C0.1 C0.2.1 dX10_four_124 ?_
                            refine z_asI (a := (((d8 : Int)) * ((d8 : Int)))) (b := (vd8 : Int)) ((show _ = _ from hvd8z)) ?_
                            refine z_iadd C0.1 C0.2.1 dX10_four_125 ?_
                            refine lv_iload C0.1 C0.2.1 dX10_four_126 (lv_at hl 5 rfl) ?_
                            refine z_icmp_ge (tgt := 137) C0.1 C0.2.1 dX10_four_128 (by decide) ⟨by omega, by omega⟩ ⟨by omega, by omega⟩ (fun c_128 => ?_) (fun c_128 => ?_)
                            · skip
                              refine lv_iinc (v := zI (((d8 - 1 : Nat) : Int))) (lv' := [(7, .int (zI (((d8 - 1 : Nat) : Int)))), (0, .ref (h)), (1, .int (zI (n))), (2, .int (zI (i))), (3, .int (zI ((a : Int)))), (4, .int (zI ((b : Int)))), (5, .int (zI ((t9 : Int)))), (6, .int (zI ((c8 : Int))))]) C0.1 C0.2.1 dX10_four_137 hl (k := 7) rfl (z_inc (a := (d8 : Int)) (n := (-1)) (by omega)) (by decide) rfl (fun ls hl => ?_)
                              refine lv_goto (tgt := 92) C0.1 C0.2.1 dX10_four_140 (by decide) ?_
                              exact ih92  c8 (d8 - 1) _ _ _ (by omega) (by omega) (by omega) (pI_lo hpi9 hno9 (by rw [← show q3 = _ from hq3h, ← show vd8 = _ from hvd8h]; omega) hcd) (hno9)  (by omega) hM hS (lv_sub hl [1, 2, 3, 4, 5, 6, 7, 0] rfl)
                            · skip
                              refine lv_iinc (v := zI (((c8 + 1 : Nat) : Int))) (lv' := [(6, .int (zI (((c8 + 1 : Nat) : Int)))), (0, .ref (h)), (1, .int (zI (n))), (2, .int (zI (i))), (3, .int (zI ((a : Int)))), (4, .int (zI ((b : Int)))), (5, .int (zI ((t9 : Int)))), (7, .int (zI ((d8 : Int))))]) C0.1 C0.2.1 dX10_four_131 hl (k := 6) rfl (z_inc (a := (c8 : Int)) (n := 1) (by omega)) (by decide) rfl (fun ls hl => ?_)
                              refine lv_goto (tgt := 92) C0.1 C0.2.1 dX10_four_134 (by decide) ?_
                              exact ih92  (c8 + 1) d8 _ _ _ (by omega) (by omega) (by omega) (hpi9) (pI_hi hpi9 hno9 hbc (by rw [← show q3 = _ from hq3h, ← show vd8 = _ from hvd8h]; omega))  (by omega) hM hS (lv_sub hl [1, 2, 3, 4, 5, 6, 0, 7] rfl)
                    exact L92 (_ + 1) b r9 _ _ _ (Nat.le_refl _) (hbr) (hr10) (hpr) (fun x h1 h2 => by omega)  (Nat.lt_succ_self _) hM hS (lv_sub hl [3, 4, 5, 6, 7, 2, 1, 0] rfl)
            exact L40 (_ + 1) a _ _ _ (Nat.le_refl _) (by omega) (fun y h1 h2 => by omega)  (Nat.lt_succ_self _) hM hS (lv_sub hl [1, 2, 3, 4, 0] rfl)
      exact L28 (_ + 1) 0 _ _ _ (Nat.zero_le _) (fun x hx => absurd hx (Nat.not_lt_zero _))  (Nat.lt_succ_self _) hM hS (lv_sub hl [1, 2, 3, 0] rfl)
    · skip
      refine lv_iconst (v := zI (-1)) C0.1 C0.2.1 dX10_four_24 rfl ?_
      exact mm_iret (z := (-1)) C0 hr hlk hM hS dX10_four_25 (by have he : pf_four S n i = ((-1), S) := (by unfold pf_four; rw [if_neg (by omega)]); rw [he]; exact ⟨rfl, hX0.rf, fun _ _ => rfl⟩)
