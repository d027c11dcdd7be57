theorem sq_no2 {v : Int} {t : Nat} (ht : rtP 2 v.toNat t) (hv : 0 ≤ v) (h : ¬ (t : Int) * (t : Int) = v) : ¬ sq v := by
  rintro ⟨x, hx⟩
  have e3 : ((x * x : Nat) : Int) = v := by rw [Int.natCast_mul]; exact hx
  have e4 : (x + 1) * (x + 1) = x * x + 2 * x + 1 := by grind
  have e2 : rtP 2 v.toNat x := ⟨by rw [Nat.pow_two]; omega, by rw [Nat.pow_two]; omega⟩
  exact h (by rw [rt_uniq (by omega) ht e2]; exact hx)

def rX0_rootOf : Room := { frames := 0, cells := 0, slots := 0, locals := 0 }
theorem sw_X0_rootOf : mm_Sw yX0_rootOf cX0_rootOf 7 (some .long) 1 := ⟨tw_565, tw_12, tw_566, by decide +kernel⟩
set_option maxHeartbeats 4000000 in
set_option maxRecDepth 100000 in
theorem c_X0_rootOf (l : Launch) (G : mG) (E0 : mE) {v : Int} (N : Nat) (hv : v = (N : Int)) (hN : N < 4611686018427387904) : mm_Cl l yX0_rootOf (.code yX0_rootOf cX0_rootOf 7 (some .long) :: wsG) rX0_rootOf G [.long (zL (v))] E0 (fun z E => (∃ t : Nat, z = (t : Int) ∧ rtP 2 N t) ∧ E = E0) := by
  refine mm_of_l (by decide +kernel) (Nat.le_of_ble_eq_true rfl) ?_
  intro p e s m args below meth c ls C0 hr hlk hM hl hS
  have hl : lv_has ls 7 [(0, .long (zL (v)))] := hl
  refine lv_lconst (v := zL 0) C0.1 C0.2.1 dX0_rootOf_0 rfl ?_
  refine lv_lstore_n (lv' := [(2, .long (zL (0))), (0, .long (zL (v)))]) C0.1 C0.2.1 dX0_rootOf_1 rfl hl (by decide) rfl (fun ls hl => ?_)
  refine lv_bipush (v := zI 30) C0.1 C0.2.1 dX0_rootOf_2 rfl ?_
  refine lv_istore (lv' := [(4, .int (zI (30))), (2, .long (zL (0))), (0, .long (zL (v)))]) C0.1 C0.2.1 dX0_rootOf_4 hl (by decide) rfl (fun ls hl => ?_)
  have L6 : ∀ (k6 : Nat) (u r : Nat) (H : Heap) (locs : List Loc) (ls : Array Slot), (u ≤ 31) → (r * r ≤ N) → (N < (r + 2 ^ u) * (r + 2 ^ u)) → (r + 2 ^ u ≤ 2147483648) → u < k6 → mm_M G E0 H → va_S (mm_A G) s.heap H locs → lv_has ls 7 [(0, .long (zL (v))), (2, .long (zL ((r : Int)))), (4, .int (zI ((u : Int) - 1)))] → W p l e rX0_rootOf s m args below meth c H locs 0 0 (mm_Zl G below args s (fun z E => (∃ t : Nat, z = (t : Int) ∧ rtP 2 N t) ∧ E = E0)) (F0 m 6 ls []) := by
    intro k6
    induction k6 with
    | zero => intro u r H locs ls hu h1 h2 h3 hk hM hS hl; exact absurd hk (Nat.not_lt_zero _)
    | succ k6 ih6 =>
      intro u r H locs ls hu h1 h2 h3 hk6 hM hS hl
      refine lv_iload C0.1 C0.2.1 dX0_rootOf_6 (lv_at hl 2 rfl) ?_
      refine z_if_lt (tgt := 38) C0.1 C0.2.1 dX0_rootOf_8 (by decide) ⟨by omega, by omega⟩ (fun c_8 => ?_) (fun c_8 => ?_)
      · skip
        have hu0 : u = 0 := by omega
        rw [hu0] at h2
        refine lv_lload_n C0.1 C0.2.1 dX0_rootOf_38 rfl (lv_at hl 1 rfl) ?_
        exact mm_lret (z := (r : Int)) C0 hr hlk hM hS dX0_rootOf_39 (⟨⟨r, rfl, by rw [Nat.pow_two]; exact h1, by rw [Nat.pow_two]; exact h2⟩, rfl⟩)
      · skip
        have hp : 2 ^ u = 2 * 2 ^ (u - 1) := by rw [← Nat.pow_succ']; congr 1; omega
        have hpp : 0 < 2 ^ (u - 1) := Nat.pow_pos (by omega)
        refine lv_lload_n C0.1 C0.2.1 dX0_rootOf_11 rfl (lv_at hl 1 rfl) ?_
        refine lv_lconst (v := zL 1) C0.1 C0.2.1 dX0_rootOf_12 rfl ?_
        refine lv_iload C0.1 C0.2.1 dX0_rootOf_13 (lv_at hl 2 rfl) ?_
        refine z_shl1 (k := u - 1) C0.1 C0.2.1 dX0_rootOf_15 (by omega) (by omega) ?_
        refine z_ladd C0.1 C0.2.1 dX0_rootOf_16 ?_
        refine z_asL (a := (((r : Int)) + (((2 ^ (u - 1) : Nat) : Int)))) (b := (((r + 2 ^ (u - 1)) : Nat) : Int)) (by omega) ?_
        refine lv_lstore (lv' := [(5, .long (zL ((((r + 2 ^ (u - 1)) : Nat) : Int)))), (0, .long (zL (v))), (2, .long (zL ((r : Int)))), (4, .int (zI ((u : Int) - 1)))]) C0.1 C0.2.1 dX0_rootOf_17 hl (by decide) rfl (fun ls hl => ?_)
        refine lv_lload C0.1 C0.2.1 dX0_rootOf_19 (lv_at hl 0 rfl) ?_
        refine lv_lload C0.1 C0.2.1 dX0_rootOf_21 (lv_at hl 0 rfl) ?_
        refine z_lmul C0.1 C0.2.1 dX0_rootOf_23 ?_
        have hsq : (r + 2 ^ (u - 1)) * (r + 2 ^ (u - 1)) ≤ 2147483648 * 2147483648 := Nat.mul_le_mul (by omega) (by omega)
        refine z_asL (a := (((((r + 2 ^ (u - 1)) : Nat) : Int)) * ((((r + 2 ^ (u - 1)) : Nat) : Int)))) (b := (((r + 2 ^ (u - 1)) * (r + 2 ^ (u - 1)) : Nat) : Int)) ((Int.natCast_mul _ _).symm) ?_
        refine lv_lload_n C0.1 C0.2.1 dX0_rootOf_24 rfl (lv_at hl 1 rfl) ?_
        refine z_lcmp_gt (tgt := 32) C0.1 C0.2.1 dX0_rootOf_25 dX0_rootOf_26 (by decide) ⟨by omega, by omega⟩ ⟨by omega, by omega⟩ (fun c_25 => ?_) (fun c_25 => ?_)
        · skip
          have hc9 : N < (r + 2 ^ (u - 1)) * (r + 2 ^ (u - 1)) := by omega
          refine lv_iinc (v := zI (((u - 1 : Nat) : Int) - 1)) (lv' := [(4, .int (zI (((u - 1 : Nat) : Int) - 1))), (5, .long (zL ((((r + 2 ^ (u - 1)) : Nat) : Int)))), (0, .long (zL (v))), (2, .long (zL ((r : Int))))]) C0.1 C0.2.1 dX0_rootOf_32 hl (k := 3) rfl (z_inc (a := (u : Int) - 1) (n := (-1)) (by omega)) (by decide) rfl (fun ls hl => ?_)
          refine lv_goto (tgt := 6) C0.1 C0.2.1 dX0_rootOf_35 (by decide) ?_
          exact ih6  (u - 1) r _ _ _ (by omega) (h1) (hc9) (by omega)  (by omega) hM hS (lv_sub hl [2, 3, 0] rfl)
        · skip
          have hc9 : (r + 2 ^ (u - 1)) * (r + 2 ^ (u - 1)) ≤ N := by omega
          refine lv_lload C0.1 C0.2.1 dX0_rootOf_29 (lv_at hl 0 rfl) ?_
          refine lv_lstore_n (lv' := [(2, .long (zL ((((r + 2 ^ (u - 1)) : Nat) : Int)))), (5, .long (zL ((((r + 2 ^ (u - 1)) : Nat) : Int)))), (0, .long (zL (v))), (4, .int (zI ((u : Int) - 1)))]) C0.1 C0.2.1 dX0_rootOf_31 rfl hl (by decide) rfl (fun ls hl => ?_)
          refine lv_iinc (v := zI (((u - 1 : Nat) : Int) - 1)) (lv' := [(4, .int (zI (((u - 1 : Nat) : Int) - 1))), (2, .long (zL ((((r + 2 ^ (u - 1)) : Nat) : Int)))), (5, .long (zL ((((r + 2 ^ (u - 1)) : Nat) : Int)))), (0, .long (zL (v)))]) C0.1 C0.2.1 dX0_rootOf_32 hl (k := 3) rfl (z_inc (a := (u : Int) - 1) (n := (-1)) (by omega)) (by decide) rfl (fun ls hl => ?_)
          refine lv_goto (tgt := 6) C0.1 C0.2.1 dX0_rootOf_35 (by decide) ?_
          exact ih6  (u - 1) (r + 2 ^ (u - 1)) _ _ _ (by omega) (hc9) (by rw [show r + 2 ^ (u - 1) + 2 ^ (u - 1) = r + 2 ^ u by omega]; exact h2) (by omega)  (by omega) hM hS (lv_sub hl [3, 1, 0] rfl)
  exact L6 (_ + 1) 31 0 _ _ _ (Nat.le_refl _) (Nat.zero_le _) (by simpa using hN) (by omega)  (Nat.lt_succ_self _) hM hS (lv_sub hl [2, 1, 0] rfl)

def rX0_isSquare : Room := { frames := 1, cells := 0, slots := 0, locals := 26 }
theorem sw_X0_isSquare : mm_Sw yX0_isSquare cX0_isSquare 4 (some .boolean) 1 := ⟨tw_559, tw_12, tw_560, by decide +kernel⟩
set_option maxHeartbeats 4000000 in
set_option maxRecDepth 100000 in
theorem c_X0_isSquare (l : Launch) (G : mG) (E0 : mE) {v : Int} (hv1 : -4611686018427387904 < v) (hv2 : v < 4611686018427387904) : mm_Ci l yX0_isSquare (.code yX0_isSquare cX0_isSquare 4 (some .boolean) :: wsG) rX0_isSquare G [.long (zL (v))] E0 (fun z E => ((z = 1 ∧ sq v) ∨ (z = 0 ∧ ¬ sq v)) ∧ E = E0) := by
  refine mm_of_i (by decide +kernel) (Nat.le_of_ble_eq_true rfl) ?_
  intro p e s m args below meth c ls C0 hr hlk hM hl hS
  have hl : lv_has ls 4 [(0, .long (zL (v)))] := hl
  refine lv_lload_n C0.1 C0.2.1 dX0_isSquare_0 rfl (lv_at hl 0 rfl) ?_
  refine lv_lconst (v := zL 0) C0.1 C0.2.1 dX0_isSquare_1 rfl ?_
  refine z_lcmp_lt (tgt := 40) C0.1 C0.2.1 dX0_isSquare_2 dX0_isSquare_3 (by decide) ⟨by omega, by omega⟩ ⟨by omega, by omega⟩ (fun c_2 => ?_) (fun c_2 => ?_)
  · skip
    have hns : ¬ sq v := fun q => by obtain ⟨r, hr⟩ := q; have := Int.mul_nonneg (show (0 : Int) ≤ (r : Int) by omega) (show (0 : Int) ≤ (r : Int) by omega); omega
    refine lv_iconst (v := zI 0) C0.1 C0.2.1 dX0_isSquare_40 rfl ?_
    exact mm_zret (z := 0) C0 hr hlk hM hS (by omega) dX0_isSquare_41 (⟨Or.inr ⟨rfl, hns⟩, rfl⟩)
  · skip
    refine mm_ldc2 (z := 144680414395695635) C0 tw_561 rfl dX0_isSquare_6 ?_
    refine lv_lload_n C0.1 C0.2.1 dX0_isSquare_9 rfl (lv_at hl 0 rfl) ?_
    refine mm_ldc2 (z := 63) C0 tw_562 rfl dX0_isSquare_10 ?_
    refine z_land63 C0.1 C0.2.1 dX0_isSquare_13 ⟨by omega, by omega⟩ (by omega) ?_
    refine z_l2i C0.1 C0.2.1 dX0_isSquare_14 ?_
    refine z_asI (b := ((((v) % 64).toNat : Nat) : Int)) (by omega) ?_
    refine z_bit (b := (if sqm 64 ((v) % 64).toNat then (1 : Int) else 0)) C0.1 C0.2.1 dX0_isSquare_15 dX0_isSquare_16 dX0_isSquare_17 (bit64 _ (by omega)) ?_
    refine lv_lconst (v := zL 0) C0.1 C0.2.1 dX0_isSquare_18 rfl ?_
    refine z_lcmp_eq (tgt := 40) C0.1 C0.2.1 dX0_isSquare_19 dX0_isSquare_20 (by decide) (by split <;> exact ⟨by omega, by omega⟩) ⟨by omega, by omega⟩ (fun c_19 => ?_) (fun c_19 => ?_)
    · skip
      have hns : ¬ sq v := sqm_no (m := 64) (by omega) c_19
      refine lv_iconst (v := zI 0) C0.1 C0.2.1 dX0_isSquare_40 rfl ?_
      exact mm_zret (z := 0) C0 hr hlk hM hS (by omega) dX0_isSquare_41 (⟨Or.inr ⟨rfl, hns⟩, rfl⟩)
    · skip
      refine mm_ldc2 (z := 288872697407275667) C0 tw_563 rfl dX0_isSquare_23 ?_
      refine lv_lload_n C0.1 C0.2.1 dX0_isSquare_26 rfl (lv_at hl 0 rfl) ?_
      refine mm_ldc2 (z := 63) C0 tw_562 rfl dX0_isSquare_27 ?_
      refine z_lremp C0.1 C0.2.1 dX0_isSquare_30 ⟨by omega, by omega⟩ ⟨by omega, by omega⟩ (by omega) (by omega) ?_
      refine z_l2i C0.1 C0.2.1 dX0_isSquare_31 ?_
      refine z_asI (b := (((((v) % (63))).toNat : Nat) : Int)) (by omega) ?_
      refine z_bit (b := (if sqm 63 (((v) % (63))).toNat then (1 : Int) else 0)) C0.1 C0.2.1 dX0_isSquare_32 dX0_isSquare_33 dX0_isSquare_34 (bit63 _ (by omega)) ?_
      refine lv_lconst (v := zL 0) C0.1 C0.2.1 dX0_isSquare_35 rfl ?_
      refine z_lcmp_ne (tgt := 42) C0.1 C0.2.1 dX0_isSquare_36 dX0_isSquare_37 (by decide) (by split <;> exact ⟨by omega, by omega⟩) ⟨by omega, by omega⟩ (fun c_36 => ?_) (fun c_36 => ?_)
      · skip
        refine lv_lload_n C0.1 C0.2.1 dX0_isSquare_42 rfl (lv_at hl 0 rfl) ?_
        refine mm_callSl (As := [.long (zL (v))]) C0 sw_X0_rootOf tw_564 (c_X0_rootOf l G _ v.toNat (by omega) (by omega)) hM rfl hl.1 rfl (Nat.le_of_ble_eq_true rfl) ⟨rfl, rfl, Nat.le_of_ble_eq_true rfl, Nat.le_of_ble_eq_true rfl, Nat.zero_le _, Nat.zero_le _⟩ dX0_isSquare_43 hS (fun z_43 E1 H locs hp hM hS => ?_)
        obtain ⟨hz_43, hEq⟩ := hp
        rw [hEq] at hM
        obtain ⟨t, ht1, ht2⟩ := hz_43
        refine z_asL (b := (t : Int)) (ht1) ?_
        have htb : t ≤ 2147483648 := Nat.le_of_not_lt fun q => by have h9 := ht2.1; rw [Nat.pow_two] at h9; have h8 := Nat.mul_le_mul q q; omega
        have htt : ((t * t : Nat) : Int) = (t : Int) * (t : Int) := Int.natCast_mul _ _
        have htm : t * t ≤ 2147483648 * 2147483648 := Nat.mul_le_mul htb htb
        refine lv_lstore_n (lv' := [(2, .long (zL ((t : Int)))), (0, .long (zL (v)))]) C0.1 C0.2.1 dX0_isSquare_46 rfl hl (by decide) rfl (fun ls hl => ?_)
        refine lv_lload_n C0.1 C0.2.1 dX0_isSquare_47 rfl (lv_at hl 0 rfl) ?_
        refine lv_lload_n C0.1 C0.2.1 dX0_isSquare_48 rfl (lv_at hl 0 rfl) ?_
        refine z_lmul C0.1 C0.2.1 dX0_isSquare_49 ?_
        refine lv_lload_n C0.1 C0.2.1 dX0_isSquare_50 rfl (lv_at hl 1 rfl) ?_
        refine z_lcmp_ne (tgt := 59) C0.1 C0.2.1 dX0_isSquare_51 dX0_isSquare_52 (by decide) ⟨by omega, by omega⟩ ⟨by omega, by omega⟩ (fun c_51 => ?_) (fun c_51 => ?_)
        · skip
          have hns : ¬ sq v := fun q => sq_no2 ht2 (by omega) c_51 q
          refine lv_iconst (v := zI 0) C0.1 C0.2.1 dX0_isSquare_59 rfl ?_
          exact mm_zret (z := 0) C0 hr hlk hM hS (by omega) dX0_isSquare_60 (⟨Or.inr ⟨rfl, hns⟩, rfl⟩)
        · skip
          have hys : sq v := ⟨t, c_51⟩
          refine lv_iconst (v := zI 1) C0.1 C0.2.1 dX0_isSquare_55 rfl ?_
          refine lv_goto (tgt := 60) C0.1 C0.2.1 dX0_isSquare_56 (by decide) ?_
          exact mm_zret (z := 1) C0 hr hlk hM hS (by omega) dX0_isSquare_60 (⟨Or.inl ⟨rfl, hys⟩, rfl⟩)
      · skip
        have hns : ¬ sq v := sqm_no (m := 63) (by omega) c_36
        refine lv_iconst (v := zI 0) C0.1 C0.2.1 dX0_isSquare_40 rfl ?_
        exact mm_zret (z := 0) C0 hr hlk hM hS (by omega) dX0_isSquare_41 (⟨Or.inr ⟨rfl, hns⟩, rfl⟩)

def rX0_close : Room := { frames := 0, cells := 0, slots := 0, locals := 0 }
theorem sw_X0_close : mm_Sw yX0_close cX0_close 2 (some .int) 2 := ⟨tw_632, tw_12, tw_633, by decide +kernel⟩
set_option maxHeartbeats 4000000 in
set_option maxRecDepth 100000 in
theorem c_X0_close (l : Launch) (G : mG) (E0 : mE) {i : Int} {n : Nat} (hi : rI i) (hn : n < 2147483648) : mm_Ci l yX0_close (.code yX0_close cX0_close 2 (some .int) :: wsG) rX0_close G [.int (zI (i)), .int (zI ((n : Int)))] E0 (fun z E => z = clo i n ∧ E = E0) := by
  refine mm_of_i (by decide +kernel) (Nat.le_of_ble_eq_true rfl) ?_
  intro p e s m args below meth c ls C0 hr hlk hM hl hS
  have hl : lv_has ls 2 [(0, .int (zI (i))), (1, .int (zI ((n : Int))))] := hl
  obtain ⟨hi1, hi2⟩ := hi
  refine lv_iload_n C0.1 C0.2.1 dX0_close_0 rfl (lv_at hl 0 rfl) ?_
  refine lv_iconst (v := zI (-1)) C0.1 C0.2.1 dX0_close_1 rfl ?_
  refine z_icmp_ne (tgt := 9) C0.1 C0.2.1 dX0_close_2 (by decide) ⟨by omega, by omega⟩ ⟨by omega, by omega⟩ (fun c_2 => ?_) (fun c_2 => ?_)
  · skip
    refine lv_bipush (v := zI (-4)) C0.1 C0.2.1 dX0_close_9 rfl ?_
    exact mm_iret (z := (-4)) C0 hr hlk hM hS dX0_close_11 (⟨by unfold clo; rw [if_neg (by omega)], rfl⟩)
  · skip
    refine lv_iload_n C0.1 C0.2.1 dX0_close_5 rfl (lv_at hl 1 rfl) ?_
    refine lv_goto (tgt := 11) C0.1 C0.2.1 dX0_close_6 (by decide) ?_
    exact mm_iret (z := (n : Int)) C0 hr hlk hM hS dX0_close_11 (⟨by unfold clo; rw [if_pos (by omega)], rfl⟩)

def rX0_triangle : Room := { frames := 0, cells := 0, slots := 0, locals := 0 }
theorem sw_X0_triangle : mm_Sw yX0_triangle cX0_triangle 2 (some .long) 1 := ⟨tw_665, tw_12, tw_666, by decide +kernel⟩
set_option maxHeartbeats 4000000 in
set_option maxRecDepth 100000 in
theorem c_X0_triangle (l : Launch) (G : mG) (E0 : mE) {a : Nat} (ha : a < 2000000000) : mm_Cl l yX0_triangle (.code yX0_triangle cX0_triangle 2 (some .long) :: wsG) rX0_triangle G [.long (zL ((a : Int)))] E0 (fun z E => z = ((a * (a + 1) / 2 : Nat) : Int) ∧ E = E0) := by
  refine mm_of_l (by decide +kernel) (Nat.le_of_ble_eq_true rfl) ?_
  intro p e s m args below meth c ls C0 hr hlk hM hl hS
  have hl : lv_has ls 2 [(0, .long (zL ((a : Int))))] := hl
  have hm : a * (a + 1) ≤ 2000000000 * 2000000000 := Nat.mul_le_mul (by omega) (by omega)
  refine lv_lload_n C0.1 C0.2.1 dX0_triangle_0 rfl (lv_at hl 0 rfl) ?_
  refine lv_lload_n C0.1 C0.2.1 dX0_triangle_1 rfl (lv_at hl 0 rfl) ?_
  refine lv_lconst (v := zL 1) C0.1 C0.2.1 dX0_triangle_2 rfl ?_
  refine z_ladd C0.1 C0.2.1 dX0_triangle_3 ?_
  refine z_lmul C0.1 C0.2.1 dX0_triangle_4 ?_
  refine z_asL (a := (((a : Int)) * ((((a : Int)) + (1))))) (b := ((a * (a + 1) : Nat) : Int)) (by simp only [Int.natCast_mul, Int.natCast_add]; rfl) ?_
  refine mm_ldc2 (z := 2) C0 tw_667 rfl dX0_triangle_5 ?_
  refine z_ldivp C0.1 C0.2.1 dX0_triangle_8 ⟨by omega, by omega⟩ ⟨by omega, by omega⟩ (by omega) (by omega) ?_
  exact mm_lret (z := ((((a * (a + 1) : Nat) : Int)) / (2))) C0 hr hlk hM hS dX0_triangle_9 (⟨by omega, rfl⟩)

def rX0_offs : Room := { frames := 2, cells := 0, slots := 0, locals := 49 }
theorem sw_X0_offs : mm_Sw yX0_offs cX0_offs 6 (some .int) 3 := ⟨tw_627, tw_12, tw_628, by decide +kernel⟩
set_option maxHeartbeats 4000000 in
set_option maxRecDepth 100000 in
theorem c_X0_offs (l : Launch) (G : mG) (E0 : mE) {d f i : Int} (hd1 : 2 ≤ d) (hd2 : d ≤ 9999) (hf1 : -99 ≤ f) (hf2 : f ≤ 99) (hi : rI i) : mm_Ci l yX0_offs (.code yX0_offs cX0_offs 6 (some .int) :: wsG) rX0_offs G [.int (zI (d)), .int (zI (f)), .int (zI (i))] E0 (fun z E => z = scan (fun y => bq (sq (d * (y : Int) * (y : Int) + f))) (fun y => (y : Int)) i 0 0 10000 ∧ E = E0) := by
  refine mm_of_i (by decide +kernel) (Nat.le_of_ble_eq_true rfl) ?_
  intro p e s m args below meth c ls C0 hr hlk hM hl hS
  have hl : lv_has ls 6 [(0, .int (zI (d))), (1, .int (zI (f))), (2, .int (zI (i)))] := hl
  obtain ⟨hi1, hi2⟩ := hi
  refine lv_iconst (v := zI 0) C0.1 C0.2.1 dX0_offs_0 rfl ?_
  refine lv_istore_n (lv' := [(3, .int (zI (0))), (0, .int (zI (d))), (1, .int (zI (f))), (2, .int (zI (i)))]) C0.1 C0.2.1 dX0_offs_1 rfl hl (by decide) rfl (fun ls hl => ?_)
  refine lv_lconst (v := zL 0) C0.1 C0.2.1 dX0_offs_2 rfl ?_
  refine lv_lstore (lv' := [(4, .long (zL (0))), (3, .int (zI (0))), (0, .int (zI (d))), (1, .int (zI (f))), (2, .int (zI (i)))]) C0.1 C0.2.1 dX0_offs_3 hl (by decide) rfl (fun ls hl => ?_)
  have L5 : ∀ (k5 : Nat) (y n : Nat) (H : Heap) (locs : List Loc) (ls : Array Slot), (y ≤ 10000) → (n ≤ y) → (hid (scan (fun y => bq (sq (d * (y : Int) * (y : Int) + f))) (fun y => (y : Int)) i 0 0 10000 = scan (fun y => bq (sq (d * (y : Int) * (y : Int) + f))) (fun y => (y : Int)) i y n (10000 - y))) → 10000 - y < k5 → mm_M G E0 H → va_S (mm_A G) s.heap H locs → lv_has ls 6 [(0, .int (zI (d))), (1, .int (zI (f))), (2, .int (zI (i))), (3, .int (zI ((n : Int)))), (4, .long (zL ((y : Int))))] → W p l e rX0_offs s m args below meth c H locs 0 0 (mm_Zi G below args s (fun z E => z = scan (fun y => bq (sq (d * (y : Int) * (y : Int) + f))) (fun y => (y : Int)) i 0 0 10000 ∧ E = E0)) (F0 m 5 ls []) := by
    intro k5
    induction k5 with
    | zero => intro y n H locs ls hy hn hSC hk hM hS hl; exact absurd hk (Nat.not_lt_zero _)
    | succ k5 ih5 =>
      intro y n H locs ls hy hn hSC hk5 hM hS hl
      have hb1 : 0 ≤ d * (y : Int) := Int.mul_nonneg (by omega) (by omega)
      have hb2 : d * (y : Int) ≤ 9999 * 10000 := Int.mul_le_mul hd2 (by omega) (by omega) (by omega)
      have hb3 : 0 ≤ d * (y : Int) * (y : Int) := Int.mul_nonneg hb1 (by omega)
      have hb4 : d * (y : Int) * (y : Int) ≤ 9999 * 10000 * 10000 := Int.mul_le_mul hb2 (by omega) (by omega) (by omega)
      refine lv_lload C0.1 C0.2.1 dX0_offs_5 (lv_at hl 4 rfl) ?_
      refine mm_ldc2 (z := 9999) C0 tw_629 rfl dX0_offs_7 ?_
      refine z_lcmp_gt (tgt := 52) C0.1 C0.2.1 dX0_offs_10 dX0_offs_11 (by decide) ⟨by omega, by omega⟩ ⟨by omega, by omega⟩ (fun c_10 => ?_) (fun c_10 => ?_)
      · skip
        refine lv_iload_n C0.1 C0.2.1 dX0_offs_52 rfl (lv_at hl 2 rfl) ?_
        refine lv_iload_n C0.1 C0.2.1 dX0_offs_53 rfl (lv_at hl 3 rfl) ?_
        refine mm_callSi (As := [.int (zI (i)), .int (zI ((n : Int)))]) C0 sw_X0_close tw_631 (c_X0_close l G _ ⟨by omega, by omega⟩ (by omega)) hM rfl hl.1 rfl (Nat.le_of_ble_eq_true rfl) ⟨rfl, rfl, Nat.le_of_ble_eq_true rfl, Nat.le_of_ble_eq_true rfl, Nat.zero_le _, Nat.zero_le _⟩ dX0_offs_54 hS (fun z_54 E1 H locs hp hM hS => ?_)
        obtain ⟨hz_54, hEq⟩ := hp
        rw [hEq] at hM
        refine z_asI (b := clo i n) (hz_54) ?_
        exact mm_iret (z := clo i n) C0 hr hlk hM hS dX0_offs_57 (⟨(Eq.trans hSC (by rw [show 10000 - y = 0 by omega]; exact scan_0 _ _ _ _ _)).symm, rfl⟩)
      · skip
        refine lv_iload_n C0.1 C0.2.1 dX0_offs_14 rfl (lv_at hl 0 rfl) ?_
        refine z_i2l C0.1 C0.2.1 dX0_offs_15 ⟨by omega, by omega⟩ ?_
        refine lv_lload C0.1 C0.2.1 dX0_offs_16 (lv_at hl 4 rfl) ?_
        refine z_lmul C0.1 C0.2.1 dX0_offs_18 ?_
        refine lv_lload C0.1 C0.2.1 dX0_offs_19 (lv_at hl 4 rfl) ?_
        refine z_lmul C0.1 C0.2.1 dX0_offs_21 ?_
        refine lv_iload_n C0.1 C0.2.1 dX0_offs_22 rfl (lv_at hl 1 rfl) ?_
        refine z_i2l C0.1 C0.2.1 dX0_offs_23 ⟨by omega, by omega⟩ ?_
        refine z_ladd C0.1 C0.2.1 dX0_offs_24 ?_
        refine mm_callSi (As := [.long (zL (((((((d) * ((y : Int)))) * ((y : Int)))) + (f))))]) C0 sw_X0_isSquare tw_630 (c_X0_isSquare l G _ (by omega) (by omega)) hM rfl hl.1 rfl (Nat.le_of_ble_eq_true rfl) ⟨rfl, rfl, Nat.le_of_ble_eq_true rfl, Nat.le_of_ble_eq_true rfl, Nat.zero_le _, Nat.zero_le _⟩ dX0_offs_25 hS (fun z_25 E2 H locs hp hM hS => ?_)
        obtain ⟨hz_25, hEq⟩ := hp
        rw [hEq] at hM
        have hz01 : z_25 = 0 ∨ z_25 = 1 := hz_25.elim (fun h => Or.inr h.1) (fun h => Or.inl h.1)
        refine z_if_eq (tgt := 43) C0.1 C0.2.1 dX0_offs_28 (by decide) ⟨by omega, by omega⟩ (fun c_28 => ?_) (fun c_28 => ?_)
        · skip
          have hs9 : ¬ sq (d * (y : Int) * (y : Int) + f) := hz_25.elim (fun h => by omega) (fun h => h.2)
          refine lv_lload C0.1 C0.2.1 dX0_offs_43 (lv_at hl 4 rfl) ?_
          refine lv_lconst (v := zL 1) C0.1 C0.2.1 dX0_offs_45 rfl ?_
          refine z_ladd C0.1 C0.2.1 dX0_offs_46 ?_
          refine z_asL (a := (((y : Int)) + (1))) (b := ((y + 1 : Nat) : Int)) (by omega) ?_
          refine lv_lstore (lv' := [(4, .long (zL (((y + 1 : Nat) : Int)))), (0, .int (zI (d))), (1, .int (zI (f))), (2, .int (zI (i))), (3, .int (zI ((n : Int))))]) C0.1 C0.2.1 dX0_offs_47 hl (by decide) rfl (fun ls hl => ?_)
          refine lv_goto (tgt := 5) C0.1 C0.2.1 dX0_offs_49 (by decide) ?_
          exact ih5  (y + 1) n _ _ _ (by omega) (by omega) (Eq.trans hSC (scan_f (by omega) (bq_f hs9)))  (by omega) hM hS (lv_sub hl [1, 2, 3, 4, 0] rfl)
        · skip
          have hs9 : sq (d * (y : Int) * (y : Int) + f) := hz_25.elim (fun h => h.2) (fun h => by omega)
          refine lv_iload_n C0.1 C0.2.1 dX0_offs_31 rfl (lv_at hl 3 rfl) ?_
          refine lv_iload_n C0.1 C0.2.1 dX0_offs_32 rfl (lv_at hl 2 rfl) ?_
          refine z_icmp_ne (tgt := 40) C0.1 C0.2.1 dX0_offs_33 (by decide) ⟨by omega, by omega⟩ ⟨by omega, by omega⟩ (fun c_33 => ?_) (fun c_33 => ?_)
          · skip
            refine lv_iinc (v := zI (((n + 1 : Nat) : Int))) (lv' := [(3, .int (zI (((n + 1 : Nat) : Int)))), (0, .int (zI (d))), (1, .int (zI (f))), (2, .int (zI (i))), (4, .long (zL ((y : Int))))]) C0.1 C0.2.1 dX0_offs_40 hl (k := 3) rfl (z_inc (a := (n : Int)) (n := 1) (by omega)) (by decide) rfl (fun ls hl => ?_)
            refine lv_lload C0.1 C0.2.1 dX0_offs_43 (lv_at hl 4 rfl) ?_
            refine lv_lconst (v := zL 1) C0.1 C0.2.1 dX0_offs_45 rfl ?_
            refine z_ladd C0.1 C0.2.1 dX0_offs_46 ?_
            refine z_asL (a := (((y : Int)) + (1))) (b := ((y + 1 : Nat) : Int)) (by omega) ?_
            refine lv_lstore (lv' := [(4, .long (zL (((y + 1 : Nat) : Int)))), (3, .int (zI (((n + 1 : Nat) : Int)))), (0, .int (zI (d))), (1, .int (zI (f))), (2, .int (zI (i)))]) C0.1 C0.2.1 dX0_offs_47 hl (by decide) rfl (fun ls hl => ?_)
            refine lv_goto (tgt := 5) C0.1 C0.2.1 dX0_offs_49 (by decide) ?_
            exact ih5  (y + 1) (n + 1) _ _ _ (by omega) (by omega) (Eq.trans hSC (scan_t (by omega) (bq_t hs9) (by omega)))  (by omega) hM hS (lv_sub hl [2, 3, 4, 1, 0] rfl)
          · skip
            refine lv_lload C0.1 C0.2.1 dX0_offs_36 (lv_at hl 4 rfl) ?_
            refine z_l2i C0.1 C0.2.1 dX0_offs_38 ?_
            exact mm_iret (z := (y : Int)) C0 hr hlk hM hS dX0_offs_39 (⟨(Eq.trans hSC (scan_hit (m := 9999 - y) (by omega) (bq_t hs9) (by omega))).symm, rfl⟩)
  exact L5 (_ + 1) 0 0 _ _ _ (Nat.zero_le _) (Nat.zero_le _) (rfl)  (Nat.lt_succ_self _) hM hS (lv_sub hl [2, 3, 4, 1, 0] rfl)
