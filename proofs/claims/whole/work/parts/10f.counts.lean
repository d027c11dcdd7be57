theorem trf2 (x : Nat) : trf x * 2 = x * (x + 1) := ev2 x
theorem scan_skip {p : Nat → Bool} {v : Nat → Int} {i : Int} : ∀ {k y c n m : Nat}, n = m + k → (∀ j, y ≤ j → j < y + k → p j = false) → scan p v i y c n = scan p v i (y + k) c m
  | 0, y, c, n, m, hn, _ => by rw [hn]; rfl
  | k + 1, y, c, n, m, hn, h => by
    rw [scan_f (m := m + k) (by omega) (h y (Nat.le_refl _) (by omega)), scan_skip (k := k) (m := m) rfl (fun j h1 h2 => h j (by omega) (by omega)), show y + 1 + k = y + (k + 1) by omega]
noncomputable def rcB (y : Nat) : Bool := bq (1 ≤ y % 501 ∧ ∃ b, y % 501 < b ∧ y % 501 * (y % 501) + b * b = y / 501 * (y / 501))
def rcV (y : Nat) : Int := 1000 * ((y % 501 : Nat) : Int) + ((y / 501 : Nat) : Int)
theorem rc_ix {c a : Nat} (ha : a < 501) : (501 * c + a) % 501 = a ∧ (501 * c + a) / 501 = c := by omega
theorem rcB_t {c a b : Nat} (ha : a < 501) (h1 : 1 ≤ a) (hab : a < b) (h : a * a + b * b = c * c) : rcB (501 * c + a) = true := by
  obtain ⟨e1, e2⟩ := rc_ix (c := c) ha
  unfold rcB; rw [e1, e2]; exact bq_t ⟨h1, b, hab, h⟩
theorem rcB_f {c a : Nat} (ha : a < 501) (h : ¬ (1 ≤ a ∧ ∃ b, a < b ∧ a * a + b * b = c * c)) : rcB (501 * c + a) = false := by
  obtain ⟨e1, e2⟩ := rc_ix (c := c) ha
  unfold rcB; rw [e1, e2]; exact bq_f h
theorem rcV_e {c a : Nat} (ha : a < 501) : rcV (501 * c + a) = 1000 * (a : Int) + (c : Int) := by
  obtain ⟨e1, e2⟩ := rc_ix (c := c) ha
  unfold rcV; rw [e1, e2]
def pJ (n a b : Nat) : Prop := ∀ x y, a ≤ x → x < y → x * x + y * y = n → y ≤ b
theorem pJ_0 {c : Nat} (hc : 0 < c) : pJ (c * c) 1 (c - 1) := fun x y hx hy hp => by
  have := Nat.mul_le_mul hx hx
  rcases Nat.lt_or_ge y c with q | q
  · omega
  · have := Nat.mul_le_mul q q; omega
theorem pJ_dn {n a b : Nat} (h : pJ n a b) (hs : n < a * a + b * b) : pJ n a (b - 1) := fun x y hx hy hp => by
  have h1 := h x y hx hy hp
  rcases Nat.lt_or_ge y b with q | q
  · omega
  · have hyb : y = b := by omega
    subst hyb
    have := Nat.mul_le_mul hx hx
    omega
theorem pJ_no {n a b : Nat} (h : pJ n a b) (hs : b ≤ a ∨ a * a + b * b < n) : ¬ ∃ y, a < y ∧ a * a + y * y = n := by
  rintro ⟨y, hy, hp⟩
  have h1 := h a y (Nat.le_refl _) hy hp
  have := Nat.mul_le_mul h1 h1
  rcases hs with q | q <;> omega
theorem pJ_nil {n a b : Nat} (h : pJ n a b) (hab : b ≤ a) : ∀ j, a ≤ j → ¬ ∃ y, j < y ∧ j * j + y * y = n := fun j hj => by
  rintro ⟨y, hy, hp⟩
  have h1 := h j y hj hy hp
  omega
theorem r3_end {n a : Nat} {i : Int} (hno : ∀ x, x < a → ∀ y, x ≤ y → ¬ ∃ w, y ≤ w ∧ trf x + trf y + trf w = n) (h : n < 3 * trf a) : r3 n i (-4) := by
  refine Or.inr ⟨fun x y hxy => ?_, rfl⟩
  rcases Nat.lt_or_ge x a with q | q
  · exact hno x q y hxy
  · rintro ⟨w, hw, hs⟩
    have a1 := up_le up_trf q
    have a2 := up_le up_trf hxy
    have a3 := up_le up_trf hw
    omega
theorem r4_end {n a : Nat} {i : Int} (hno : ∀ x, x < a → ∀ y, x ≤ y → ¬ q4 n x y) (h : n < 4 * (a * a)) : r4 n i (-4) := by
  refine Or.inr ⟨fun x y hxy => ?_, rfl⟩
  rcases Nat.lt_or_ge x a with q | q
  · exact hno x q y hxy
  · rintro ⟨-, -, c, d, h1, h2, h3⟩
    have a1 := Nat.mul_le_mul q q
    have a2 := Nat.mul_le_mul hxy hxy
    have a3 := Nat.mul_le_mul h1 h1
    have a4 := Nat.mul_le_mul h2 h2
    omega
theorem q4_far {n a b : Nat} (h : n < a * a + 3 * (b * b)) : ∀ y, b ≤ y → ¬ q4 n a y := fun y hy => by
  rintro ⟨-, -, c, d, h1, h2, h3⟩
  have a2 := Nat.mul_le_mul hy hy
  have a3 := Nat.mul_le_mul h1 h1
  have a4 := Nat.mul_le_mul h2 h2
  omega

def rX0_threeTriangles : Room := { frames := 1, cells := 0, slots := 0, locals := 26 }
theorem sw_X0_threeTriangles : mm_Sw yX0_threeTriangles cX0_threeTriangles 14 (some .int) 2 := ⟨tw_660, tw_12, tw_661, by decide +kernel⟩
set_option maxHeartbeats 4000000 in
set_option maxRecDepth 100000 in
theorem c_X0_threeTriangles (l : Launch) (G : mG) (E0 : mE) {n : Nat} {i : Int} (hn : n ≤ 1000000) (hi0 : 0 ≤ i) (hi2 : i ≤ 2) : mm_Ci l yX0_threeTriangles (.code yX0_threeTriangles cX0_threeTriangles 14 (some .int) :: wsG) rX0_threeTriangles G [.long (zL ((n : Int))), .int (zI (i))] E0 (fun z E => r3 n i z ∧ E = E0) := by
  refine mm_of_i (by decide +kernel) (Nat.le_of_ble_eq_true rfl) ?_
  intro p e s m args below meth c ls C0 hr hlk hM hl hS
  have hl : lv_has ls 14 [(0, .long (zL ((n : Int)))), (2, .int (zI (i)))] := hl
  refine lv_lconst (v := zL 0) C0.1 C0.2.1 dX0_threeTriangles_0 rfl ?_
  refine lv_lstore_n (lv' := [(3, .long (zL (0))), (0, .long (zL ((n : Int)))), (2, .int (zI (i)))]) C0.1 C0.2.1 dX0_threeTriangles_1 rfl hl (by decide) rfl (fun ls hl => ?_)
  have L2 : ∀ (k2 : Nat) (a : Nat) (H : Heap) (locs : List Loc) (ls : Array Slot), (a ≤ 1000) → (∀ x, x < a → ∀ y, x ≤ y → ¬ ∃ w, y ≤ w ∧ trf x + trf y + trf w = n) → 1001 - a < k2 → mm_M G E0 H → va_S (mm_A G) s.heap H locs → lv_has ls 14 [(0, .long (zL ((n : Int)))), (2, .int (zI (i))), (3, .long (zL ((a : Int))))] → W p l e rX0_threeTriangles s m args below meth c H locs 0 0 (mm_Zi G below args s (fun z E => r3 n i z ∧ E = E0)) (F0 m 2 ls []) := by
    intro k2
    induction k2 with
    | zero => intro a H locs ls ha hno hk hM hS hl; exact absurd hk (Nat.not_lt_zero _)
    | succ k2 ih2 =>
      intro a H locs ls ha hno hk2 hM hS hl
      have ht1 : trf a * 2 = a * (a + 1) := trf2 a
      have ha2 : a * (a + 1) ≤ 1000 * 1001 := Nat.mul_le_mul (by omega) (by omega)
      refine lv_lload_n C0.1 C0.2.1 dX0_threeTriangles_2 rfl (lv_at hl 2 rfl) ?_
      refine mm_ldc2 (z := 1000000) C0 tw_662 rfl dX0_threeTriangles_3 ?_
      refine z_lcmp_ge (tgt := 142) C0.1 C0.2.1 dX0_threeTriangles_6 dX0_threeTriangles_7 (by decide) ⟨by omega, by omega⟩ ⟨by omega, by omega⟩ (fun c_6 => ?_) (fun c_6 => ?_)
      · skip
        omega
      · skip
        refine mm_ldc2 (z := 3) C0 tw_663 rfl dX0_threeTriangles_10 ?_
        refine lv_lload_n C0.1 C0.2.1 dX0_threeTriangles_13 rfl (lv_at hl 2 rfl) ?_
        refine mm_callSl (As := [.long (zL ((a : Int)))]) C0 sw_X0_triangle tw_664 (c_X0_triangle l G _ (a := a) (by omega)) hM rfl hl.1 rfl (Nat.le_of_ble_eq_true rfl) ⟨rfl, rfl, Nat.le_of_ble_eq_true rfl, Nat.le_of_ble_eq_true rfl, Nat.zero_le _, Nat.zero_le _⟩ dX0_threeTriangles_14 hS (fun z_14 E1 H locs hp hM hS => ?_)
        obtain ⟨hz_14, hEq⟩ := hp
        rw [hEq] at hM
        refine z_asL (b := ((trf a : Nat) : Int)) (hz_14) ?_
        refine z_lmul C0.1 C0.2.1 dX0_threeTriangles_17 ?_
        refine lv_lload_n C0.1 C0.2.1 dX0_threeTriangles_18 rfl (lv_at hl 0 rfl) ?_
        refine z_lcmp_gt (tgt := 142) C0.1 C0.2.1 dX0_threeTriangles_19 dX0_threeTriangles_20 (by decide) ⟨by omega, by omega⟩ ⟨by omega, by omega⟩ (fun c_19 => ?_) (fun c_19 => ?_)
        · skip
          refine lv_bipush (v := zI (-4)) C0.1 C0.2.1 dX0_threeTriangles_142 rfl ?_
          exact mm_iret (z := (-4)) C0 hr hlk hM hS dX0_threeTriangles_144 (⟨r3_end hno (by omega), rfl⟩)
        · skip
          refine lv_lload_n C0.1 C0.2.1 dX0_threeTriangles_23 rfl (lv_at hl 0 rfl) ?_
          refine lv_lload_n C0.1 C0.2.1 dX0_threeTriangles_24 rfl (lv_at hl 2 rfl) ?_
          refine mm_callSl (As := [.long (zL ((a : Int)))]) C0 sw_X0_triangle tw_664 (c_X0_triangle l G _ (a := a) (by omega)) hM rfl hl.1 rfl (Nat.le_of_ble_eq_true rfl) ⟨rfl, rfl, Nat.le_of_ble_eq_true rfl, Nat.le_of_ble_eq_true rfl, Nat.zero_le _, Nat.zero_le _⟩ dX0_threeTriangles_25 hS (fun z_25 E2 H locs hp hM hS => ?_)
          obtain ⟨hz_25, hEq⟩ := hp
          rw [hEq] at hM
          refine z_asL (b := ((trf a : Nat) : Int)) (hz_25) ?_
          refine z_lsub C0.1 C0.2.1 dX0_threeTriangles_28 ?_
          refine z_asL (a := (((n : Int)) - (((trf a : Nat) : Int)))) (b := ((n - trf a : Nat) : Int)) (by omega) ?_
          refine lv_lstore (lv' := [(5, .long (zL (((n - trf a : Nat) : Int)))), (0, .long (zL ((n : Int)))), (2, .int (zI (i))), (3, .long (zL ((a : Int))))]) C0.1 C0.2.1 dX0_threeTriangles_29 hl (by decide) rfl (fun ls hl => ?_)
          refine lv_lload_n C0.1 C0.2.1 dX0_threeTriangles_31 rfl (lv_at hl 3 rfl) ?_
          refine lv_lstore (lv' := [(7, .long (zL ((a : Int)))), (5, .long (zL (((n - trf a : Nat) : Int)))), (0, .long (zL ((n : Int)))), (2, .int (zI (i))), (3, .long (zL ((a : Int))))]) C0.1 C0.2.1 dX0_threeTriangles_32 hl (by decide) rfl (fun ls hl => ?_)
          refine mm_ldc2 (z := 2) C0 tw_667 rfl dX0_threeTriangles_34 ?_
          refine lv_lload C0.1 C0.2.1 dX0_threeTriangles_37 (lv_at hl 1 rfl) ?_
          refine z_lmul C0.1 C0.2.1 dX0_threeTriangles_39 ?_
          refine z_asL (a := ((2) * (((n - trf a : Nat) : Int)))) (b := ((2 * (n - trf a) : Nat) : Int)) (by omega) ?_
          refine mm_callSl (As := [.long (zL (((2 * (n - trf a) : Nat) : Int)))]) C0 sw_X0_rootOf tw_564 (c_X0_rootOf l G _ (2 * (n - trf a)) rfl (by omega)) hM rfl hl.1 rfl (Nat.le_of_ble_eq_true rfl) ⟨rfl, rfl, Nat.le_of_ble_eq_true rfl, Nat.le_of_ble_eq_true rfl, Nat.zero_le _, Nat.zero_le _⟩ dX0_threeTriangles_40 hS (fun z_40 E3 H locs hp hM hS => ?_)
          obtain ⟨hz_40, hEq⟩ := hp
          rw [hEq] at hM
          obtain ⟨t, ht1_, ht2_⟩ := hz_40
          refine z_asL (b := (t : Int)) (ht1_) ?_
          have htb : t ≤ 1500 := Nat.le_of_not_lt fun q => by have h9 := ht2_.1; rw [Nat.pow_two] at h9; have h8 := Nat.mul_le_mul q q; omega
          have ht3 : n - trf a < trf (t + 1) := by have h9 := ht2_.2; rw [Nat.pow_two] at h9; have h8 := trf2 (t + 1); have h7 : (t + 1) * (t + 1 + 1) = (t + 1) * (t + 1) + (t + 1) := Nat.mul_succ _ _; omega
          replace ht2_ : hid _ := ht2_
          refine lv_lstore (lv' := [(9, .long (zL ((t : Int)))), (7, .long (zL ((a : Int)))), (5, .long (zL (((n - trf a : Nat) : Int)))), (0, .long (zL ((n : Int)))), (2, .int (zI (i))), (3, .long (zL ((a : Int))))]) C0.1 C0.2.1 dX0_threeTriangles_43 hl (by decide) rfl (fun ls hl => ?_)
          refine lv_iconst (v := zI 0) C0.1 C0.2.1 dX0_threeTriangles_45 rfl ?_
          refine lv_istore (lv' := [(11, .int (zI (0))), (9, .long (zL ((t : Int)))), (7, .long (zL ((a : Int)))), (5, .long (zL (((n - trf a : Nat) : Int)))), (0, .long (zL ((n : Int)))), (2, .int (zI (i))), (3, .long (zL ((a : Int))))]) C0.1 C0.2.1 dX0_threeTriangles_46 hl (by decide) rfl (fun ls hl => ?_)
          have L48 : ∀ (k48 : Nat) (b cc_ st : Nat) (H : Heap) (locs : List Loc) (ls : Array Slot), (st + a = b + (t - cc_)) → (cc_ ≤ t) → (a ≤ b) → (b ≤ 2000) → (pI trf (n - trf a) b cc_) → (∀ y, a ≤ y → y < b → ¬ ∃ w, y ≤ w ∧ ps trf (n - trf a) y w) → 5000 + cc_ - b < k48 → mm_M G E0 H → va_S (mm_A G) s.heap H locs → lv_has ls 14 [(0, .long (zL ((n : Int)))), (2, .int (zI (i))), (3, .long (zL ((a : Int)))), (5, .long (zL (((n - trf a : Nat) : Int)))), (7, .long (zL ((b : Int)))), (9, .long (zL ((cc_ : Int)))), (11, .int (zI ((st : Int))))] → W p l e rX0_threeTriangles s m args below meth c H locs 0 0 (mm_Zi G below args s (fun z E => r3 n i z ∧ E = E0)) (F0 m 48 ls []) := by
            intro k48
            induction k48 with
            | zero => intro b cc_ st H locs ls hst hct hab hb hpI hno2 hk hM hS hl; exact absurd hk (Nat.not_lt_zero _)
            | succ k48 ih48 =>
              intro b cc_ st H locs ls hst hct hab hb hpI hno2 hk48 hM hS hl
              have hb2 : trf b * 2 = b * (b + 1) := trf2 b
              have hb3 : b * (b + 1) ≤ 2000 * 2001 := Nat.mul_le_mul (by omega) (by omega)
              have hc2 : trf cc_ * 2 = cc_ * (cc_ + 1) := trf2 cc_
              have hc3 : cc_ * (cc_ + 1) ≤ 2000 * 2001 := Nat.mul_le_mul (by omega) (by omega)
              refine lv_iload C0.1 C0.2.1 dX0_threeTriangles_48 (lv_at hl 6 rfl) ?_
              refine mm_ldc (z := 1000000) C0 tw_653 rfl dX0_threeTriangles_50 ?_
              refine z_icmp_ge (tgt := 135) C0.1 C0.2.1 dX0_threeTriangles_52 (by decide) ⟨by omega, by omega⟩ ⟨by omega, by omega⟩ (fun c_52 => ?_) (fun c_52 => ?_)
              · skip
                omega
              · skip
                refine lv_lload C0.1 C0.2.1 dX0_threeTriangles_55 (lv_at hl 4 rfl) ?_
                refine lv_lload C0.1 C0.2.1 dX0_threeTriangles_57 (lv_at hl 5 rfl) ?_
                refine z_lcmp_gt (tgt := 135) C0.1 C0.2.1 dX0_threeTriangles_59 dX0_threeTriangles_60 (by decide) ⟨by omega, by omega⟩ ⟨by omega, by omega⟩ (fun c_59 => ?_) (fun c_59 => ?_)
                · skip
                  have hno9 : ∀ y, a ≤ y → ¬ ∃ w, y ≤ w ∧ trf a + trf y + trf w = n := fun y hy q => by have h9 := (ps_sub (f := trf) (n := n) (a := a) (by omega)).mpr q; exact (Nat.lt_or_ge y b).elim (fun h8 => hno2 y hy h8 h9) (fun h8 => pI_nil hpI (by omega) y h8 h9)
                  refine lv_lload_n C0.1 C0.2.1 dX0_threeTriangles_135 rfl (lv_at hl 2 rfl) ?_
                  refine lv_lconst (v := zL 1) C0.1 C0.2.1 dX0_threeTriangles_136 rfl ?_
                  refine z_ladd C0.1 C0.2.1 dX0_threeTriangles_137 ?_
                  refine z_asL (a := (((a : Int)) + (1))) (b := ((a + 1 : Nat) : Int)) (by omega) ?_
                  refine lv_lstore_n (lv' := [(3, .long (zL (((a + 1 : Nat) : Int)))), (0, .long (zL ((n : Int)))), (2, .int (zI (i))), (5, .long (zL (((n - trf a : Nat) : Int)))), (7, .long (zL ((b : Int)))), (9, .long (zL ((cc_ : Int)))), (11, .int (zI ((st : Int))))]) C0.1 C0.2.1 dX0_threeTriangles_138 rfl hl (by decide) rfl (fun ls hl => ?_)
                  refine lv_goto (tgt := 2) C0.1 C0.2.1 dX0_threeTriangles_139 (by decide) ?_
                  exact ih2  (a + 1) _ _ _ (by have h9 := trf2 a; have h8 : a = 1000 → a * (a + 1) = 1000 * 1001 := fun q => (by rw [q]); omega) (fun x h => if q : x = a then (fun y hy => by subst q; exact hno9 y hy) else hno x (by omega))  (by omega) hM hS (lv_sub hl [1, 2, 0] rfl)
                · skip
                  refine lv_lload C0.1 C0.2.1 dX0_threeTriangles_63 (lv_at hl 4 rfl) ?_
                  refine mm_callSl (As := [.long (zL ((b : Int)))]) C0 sw_X0_triangle tw_664 (c_X0_triangle l G _ (a := b) (by omega)) hM rfl hl.1 rfl (Nat.le_of_ble_eq_true rfl) ⟨rfl, rfl, Nat.le_of_ble_eq_true rfl, Nat.le_of_ble_eq_true rfl, Nat.zero_le _, Nat.zero_le _⟩ dX0_threeTriangles_65 hS (fun z_65 E4 H locs hp hM hS => ?_)
                  obtain ⟨hz_65, hEq⟩ := hp
                  rw [hEq] at hM
                  refine z_asL (b := ((trf b : Nat) : Int)) (hz_65) ?_
                  refine lv_lload C0.1 C0.2.1 dX0_threeTriangles_68 (lv_at hl 5 rfl) ?_
                  refine mm_callSl (As := [.long (zL ((cc_ : Int)))]) C0 sw_X0_triangle tw_664 (c_X0_triangle l G _ (a := cc_) (by omega)) hM rfl hl.1 rfl (Nat.le_of_ble_eq_true rfl) ⟨rfl, rfl, Nat.le_of_ble_eq_true rfl, Nat.le_of_ble_eq_true rfl, Nat.zero_le _, Nat.zero_le _⟩ dX0_threeTriangles_70 hS (fun z_70 E5 H locs hp hM hS => ?_)
                  obtain ⟨hz_70, hEq⟩ := hp
                  rw [hEq] at hM
                  refine z_asL (b := ((trf cc_ : Nat) : Int)) (hz_70) ?_
                  refine z_ladd C0.1 C0.2.1 dX0_threeTriangles_73 ?_
                  refine z_asL (a := ((((trf b : Nat) : Int)) + (((trf cc_ : Nat) : Int)))) (b := ((trf b + trf cc_ : Nat) : Int)) (by omega) ?_
                  refine lv_lstore (lv' := [(12, .long (zL (((trf b + trf cc_ : Nat) : Int)))), (0, .long (zL ((n : Int)))), (2, .int (zI (i))), (3, .long (zL ((a : Int)))), (5, .long (zL (((n - trf a : Nat) : Int)))), (7, .long (zL ((b : Int)))), (9, .long (zL ((cc_ : Int)))), (11, .int (zI ((st : Int))))]) C0.1 C0.2.1 dX0_threeTriangles_74 hl (by decide) rfl (fun ls hl => ?_)
                  refine lv_lload C0.1 C0.2.1 dX0_threeTriangles_76 (lv_at hl 0 rfl) ?_
                  refine lv_lload C0.1 C0.2.1 dX0_threeTriangles_78 (lv_at hl 4 rfl) ?_
                  refine z_lcmp_ne (tgt := 106) C0.1 C0.2.1 dX0_threeTriangles_80 dX0_threeTriangles_81 (by decide) ⟨by omega, by omega⟩ ⟨by omega, by omega⟩ (fun c_80 => ?_) (fun c_80 => ?_)
                  · skip
                    refine lv_lload C0.1 C0.2.1 dX0_threeTriangles_106 (lv_at hl 0 rfl) ?_
                    refine lv_lload C0.1 C0.2.1 dX0_threeTriangles_108 (lv_at hl 4 rfl) ?_
                    refine z_lcmp_le (tgt := 123) C0.1 C0.2.1 dX0_threeTriangles_110 dX0_threeTriangles_111 (by decide) ⟨by omega, by omega⟩ ⟨by omega, by omega⟩ (fun c_110 => ?_) (fun c_110 => ?_)
                    · skip
                      have hlt : trf b + trf cc_ < n - trf a := by omega
                      refine lv_lload C0.1 C0.2.1 dX0_threeTriangles_123 (lv_at hl 5 rfl) ?_
                      refine lv_lconst (v := zL 1) C0.1 C0.2.1 dX0_threeTriangles_125 rfl ?_
                      refine z_ladd C0.1 C0.2.1 dX0_threeTriangles_126 ?_
                      refine z_asL (a := (((b : Int)) + (1))) (b := ((b + 1 : Nat) : Int)) (by omega) ?_
                      refine lv_lstore (lv' := [(7, .long (zL (((b + 1 : Nat) : Int)))), (12, .long (zL (((trf b + trf cc_ : Nat) : Int)))), (0, .long (zL ((n : Int)))), (2, .int (zI (i))), (3, .long (zL ((a : Int)))), (5, .long (zL (((n - trf a : Nat) : Int)))), (9, .long (zL ((cc_ : Int)))), (11, .int (zI ((st : Int))))]) C0.1 C0.2.1 dX0_threeTriangles_127 hl (by decide) rfl (fun ls hl => ?_)
                      refine lv_iinc (v := zI (((st + 1 : Nat) : Int))) (lv' := [(11, .int (zI (((st + 1 : Nat) : Int)))), (7, .long (zL (((b + 1 : Nat) : Int)))), (12, .long (zL (((trf b + trf cc_ : Nat) : Int)))), (0, .long (zL ((n : Int)))), (2, .int (zI (i))), (3, .long (zL ((a : Int)))), (5, .long (zL (((n - trf a : Nat) : Int)))), (9, .long (zL ((cc_ : Int))))]) C0.1 C0.2.1 dX0_threeTriangles_129 hl (k := 7) rfl (z_inc (a := (st : Int)) (n := 1) (by omega)) (by decide) rfl (fun ls hl => ?_)
                      refine lv_goto (tgt := 48) C0.1 C0.2.1 dX0_threeTriangles_132 (by decide) ?_
                      exact ih48  (b + 1) cc_ (st + 1) _ _ _ (by omega) (hct) (by omega) (by omega) (pI_up hpI) (fun y h1 h2 => if q : y = b then (by rw [q]; exact pI_no up_trf hpI hlt) else hno2 y h1 (by omega))  (by omega) hM hS (lv_sub hl [3, 4, 5, 6, 1, 7, 0] rfl)
                    · skip
                      have hgt : n - trf a < trf b + trf cc_ := by omega
                      have hc0 : 0 < cc_ := Nat.pos_of_ne_zero fun q => by rw [q] at hgt; rw [show b = 0 by omega] at hgt; simp [trf] at hgt
                      refine lv_lload C0.1 C0.2.1 dX0_threeTriangles_114 (lv_at hl 6 rfl) ?_
                      refine lv_lconst (v := zL 1) C0.1 C0.2.1 dX0_threeTriangles_116 rfl ?_
                      refine z_lsub C0.1 C0.2.1 dX0_threeTriangles_117 ?_
                      refine z_asL (a := (((cc_ : Int)) - (1))) (b := ((cc_ - 1 : Nat) : Int)) (by omega) ?_
                      refine lv_lstore (lv' := [(9, .long (zL (((cc_ - 1 : Nat) : Int)))), (12, .long (zL (((trf b + trf cc_ : Nat) : Int)))), (0, .long (zL ((n : Int)))), (2, .int (zI (i))), (3, .long (zL ((a : Int)))), (5, .long (zL (((n - trf a : Nat) : Int)))), (7, .long (zL ((b : Int)))), (11, .int (zI ((st : Int))))]) C0.1 C0.2.1 dX0_threeTriangles_118 hl (by decide) rfl (fun ls hl => ?_)
                      refine lv_goto (tgt := 129) C0.1 C0.2.1 dX0_threeTriangles_120 (by decide) ?_
                      refine lv_iinc (v := zI (((st + 1 : Nat) : Int))) (lv' := [(11, .int (zI (((st + 1 : Nat) : Int)))), (9, .long (zL (((cc_ - 1 : Nat) : Int)))), (12, .long (zL (((trf b + trf cc_ : Nat) : Int)))), (0, .long (zL ((n : Int)))), (2, .int (zI (i))), (3, .long (zL ((a : Int)))), (5, .long (zL (((n - trf a : Nat) : Int)))), (7, .long (zL ((b : Int))))]) C0.1 C0.2.1 dX0_threeTriangles_129 hl (k := 7) rfl (z_inc (a := (st : Int)) (n := 1) (by omega)) (by decide) rfl (fun ls hl => ?_)
                      refine lv_goto (tgt := 48) C0.1 C0.2.1 dX0_threeTriangles_132 (by decide) ?_
                      exact ih48  b (cc_ - 1) (st + 1) _ _ _ (by omega) (by omega) (hab) (hb) (pI_dn up_trf hpI hgt) (hno2)  (by omega) hM hS (lv_sub hl [3, 4, 5, 6, 7, 1, 0] rfl)
                  · skip
                    have heq : ps trf (n - trf a) b cc_ := by unfold ps; omega
                    have hrr : ∀ z : Int, z = sel3 i a b cc_ → r3 n i z := fun z hz => Or.inl ⟨a, b, cc_, hab, by omega, by unfold ps at heq; omega, hno, fun y h1 h2 q => hno2 y h1 h2 ((ps_sub (by omega)).mpr q), hz⟩
                    refine lv_iload_n C0.1 C0.2.1 dX0_threeTriangles_84 rfl (lv_at hl 2 rfl) ?_
                    refine z_if_ne (tgt := 92) C0.1 C0.2.1 dX0_threeTriangles_85 (by decide) ⟨by omega, by omega⟩ (fun c_85 => ?_) (fun c_85 => ?_)
                    · skip
                      refine lv_iload_n C0.1 C0.2.1 dX0_threeTriangles_92 rfl (lv_at hl 2 rfl) ?_
                      refine lv_iconst (v := zI 1) C0.1 C0.2.1 dX0_threeTriangles_93 rfl ?_
                      refine z_icmp_ne (tgt := 102) C0.1 C0.2.1 dX0_threeTriangles_94 (by decide) ⟨by omega, by omega⟩ ⟨by omega, by omega⟩ (fun c_94 => ?_) (fun c_94 => ?_)
                      · skip
                        refine lv_lload C0.1 C0.2.1 dX0_threeTriangles_102 (lv_at hl 6 rfl) ?_
                        refine z_l2i C0.1 C0.2.1 dX0_threeTriangles_104 ?_
                        exact mm_iret (z := (cc_ : Int)) C0 hr hlk hM hS dX0_threeTriangles_105 (⟨hrr _ (by unfold sel3; rw [if_neg (by omega), if_neg (by omega)]), rfl⟩)
                      · skip
                        refine lv_lload C0.1 C0.2.1 dX0_threeTriangles_97 (lv_at hl 5 rfl) ?_
                        refine lv_goto (tgt := 104) C0.1 C0.2.1 dX0_threeTriangles_99 (by decide) ?_
                        refine z_l2i C0.1 C0.2.1 dX0_threeTriangles_104 ?_
                        exact mm_iret (z := (b : Int)) C0 hr hlk hM hS dX0_threeTriangles_105 (⟨hrr _ (by unfold sel3; rw [if_neg (by omega), if_pos (by omega)]), rfl⟩)
                    · skip
                      refine lv_lload_n C0.1 C0.2.1 dX0_threeTriangles_88 rfl (lv_at hl 3 rfl) ?_
                      refine lv_goto (tgt := 104) C0.1 C0.2.1 dX0_threeTriangles_89 (by decide) ?_
                      refine z_l2i C0.1 C0.2.1 dX0_threeTriangles_104 ?_
                      exact mm_iret (z := (a : Int)) C0 hr hlk hM hS dX0_threeTriangles_105 (⟨hrr _ (by unfold sel3; rw [if_pos (by omega)]), rfl⟩)
          exact L48 (_ + 1) a t 0 _ _ _ (by omega) (Nat.le_refl _) (Nat.le_refl _) (by omega) (pI_0 up_trf ht3 a) (fun y h1 h2 => by omega)  (Nat.lt_succ_self _) hM hS (lv_sub hl [4, 5, 6, 3, 2, 1, 0] rfl)
  exact L2 (_ + 1) 0 _ _ _ (Nat.zero_le _) (fun x h => absurd h (Nat.not_lt_zero _))  (Nat.lt_succ_self _) hM hS (lv_sub hl [1, 2, 0] rfl)

def rX0_fourSquares : Room := { frames := 2, cells := 0, slots := 0, locals := 56 }
theorem sw_X0_fourSquares : mm_Sw yX0_fourSquares cX0_fourSquares 13 (some .int) 2 := ⟨tw_673, tw_12, tw_674, by decide +kernel⟩
set_option maxHeartbeats 4000000 in
set_option maxRecDepth 100000 in
theorem c_X0_fourSquares (l : Launch) (G : mG) (E0 : mE) {n : Nat} {i : Int} (hn : n ≤ 1000000) (hi0 : 0 ≤ i) (hi2 : i ≤ 3) : mm_Ci l yX0_fourSquares (.code yX0_fourSquares cX0_fourSquares 13 (some .int) :: wsG) rX0_fourSquares G [.long (zL ((n : Int))), .int (zI (i))] E0 (fun z E => r4 n i z ∧ E = E0) := by
  refine mm_of_i (by decide +kernel) (Nat.le_of_ble_eq_true rfl) ?_
  intro p e s m args below meth c ls C0 hr hlk hM hl hS
  have hl : lv_has ls 13 [(0, .long (zL ((n : Int)))), (2, .int (zI (i)))] := hl
  refine lv_lconst (v := zL 0) C0.1 C0.2.1 dX0_fourSquares_0 rfl ?_
  refine lv_lstore_n (lv' := [(3, .long (zL (0))), (0, .long (zL ((n : Int)))), (2, .int (zI (i)))]) C0.1 C0.2.1 dX0_fourSquares_1 rfl hl (by decide) rfl (fun ls hl => ?_)
  have L2 : ∀ (k2 : Nat) (a : Nat) (H : Heap) (locs : List Loc) (ls : Array Slot), (a ≤ 600) → (∀ x, x < a → ∀ y, x ≤ y → ¬ q4 n x y) → 601 - a < k2 → mm_M G E0 H → va_S (mm_A G) s.heap H locs → lv_has ls 13 [(0, .long (zL ((n : Int)))), (2, .int (zI (i))), (3, .long (zL ((a : Int))))] → W p l e rX0_fourSquares s m args below meth c H locs 0 0 (mm_Zi G below args s (fun z E => r4 n i z ∧ E = E0)) (F0 m 2 ls []) := by
    intro k2
    induction k2 with
    | zero => intro a H locs ls ha hno hk hM hS hl; exact absurd hk (Nat.not_lt_zero _)
    | succ k2 ih2 =>
      intro a H locs ls ha hno hk2 hM hS hl
      have haa : a * a ≤ 600 * 600 := Nat.mul_le_mul ha ha
      have ha9 : a = 600 → a * a = 600 * 600 := fun q => by rw [q]
      have haz : ((a * a : Nat) : Int) = (a : Int) * (a : Int) := Int.natCast_mul _ _
      have ha4 : (4 : Int) * (a : Int) * (a : Int) = 4 * ((a : Int) * (a : Int)) := Int.mul_assoc _ _ _
      refine lv_lload_n C0.1 C0.2.1 dX0_fourSquares_2 rfl (lv_at hl 2 rfl) ?_
      refine mm_ldc2 (z := 1000000) C0 tw_662 rfl dX0_fourSquares_3 ?_
      refine z_lcmp_ge (tgt := 150) C0.1 C0.2.1 dX0_fourSquares_6 dX0_fourSquares_7 (by decide) ⟨by omega, by omega⟩ ⟨by omega, by omega⟩ (fun c_6 => ?_) (fun c_6 => ?_)
      · skip
        omega
      · skip
        refine mm_ldc2 (z := 4) C0 tw_675 rfl dX0_fourSquares_10 ?_
        refine lv_lload_n C0.1 C0.2.1 dX0_fourSquares_13 rfl (lv_at hl 2 rfl) ?_
        refine z_lmul C0.1 C0.2.1 dX0_fourSquares_14 ?_
        refine lv_lload_n C0.1 C0.2.1 dX0_fourSquares_15 rfl (lv_at hl 2 rfl) ?_
        refine z_lmul C0.1 C0.2.1 dX0_fourSquares_16 ?_
        refine z_asL (a := ((((4) * ((a : Int)))) * ((a : Int)))) (b := ((4 * (a * a) : Nat) : Int)) (by rw [Int.mul_assoc]; simp only [Int.natCast_mul]; rfl) ?_
        refine lv_lload_n C0.1 C0.2.1 dX0_fourSquares_17 rfl (lv_at hl 0 rfl) ?_
        refine z_lcmp_gt (tgt := 150) C0.1 C0.2.1 dX0_fourSquares_18 dX0_fourSquares_19 (by decide) ⟨by omega, by omega⟩ ⟨by omega, by omega⟩ (fun c_18 => ?_) (fun c_18 => ?_)
        · skip
          refine lv_bipush (v := zI (-4)) C0.1 C0.2.1 dX0_fourSquares_150 rfl ?_
          exact mm_iret (z := (-4)) C0 hr hlk hM hS dX0_fourSquares_152 (⟨r4_end hno (by omega), rfl⟩)
        · skip
          refine lv_lload_n C0.1 C0.2.1 dX0_fourSquares_22 rfl (lv_at hl 0 rfl) ?_
          refine lv_lload_n C0.1 C0.2.1 dX0_fourSquares_23 rfl (lv_at hl 2 rfl) ?_
          refine lv_lload_n C0.1 C0.2.1 dX0_fourSquares_24 rfl (lv_at hl 2 rfl) ?_
          refine z_lmul C0.1 C0.2.1 dX0_fourSquares_25 ?_
          refine z_asL (a := (((a : Int)) * ((a : Int)))) (b := ((a * a : Nat) : Int)) ((Int.natCast_mul _ _).symm) ?_
          refine z_lsub C0.1 C0.2.1 dX0_fourSquares_26 ?_
          refine z_asL (a := (((n : Int)) - (((a * a : Nat) : Int)))) (b := ((n - a * a : Nat) : Int)) (by omega) ?_
          refine lv_lstore (lv' := [(5, .long (zL (((n - a * a : Nat) : Int)))), (0, .long (zL ((n : Int)))), (2, .int (zI (i))), (3, .long (zL ((a : Int))))]) C0.1 C0.2.1 dX0_fourSquares_27 hl (by decide) rfl (fun ls hl => ?_)
          refine lv_lload C0.1 C0.2.1 dX0_fourSquares_29 (lv_at hl 0 rfl) ?_
          refine mm_callSi (As := [.long (zL (((n - a * a : Nat) : Int)))]) C0 sw_X0_needsFour tw_676 (c_X0_needsFour l G _ (n := n - a * a) (by omega)) hM rfl hl.1 rfl (Nat.le_of_ble_eq_true rfl) ⟨rfl, rfl, Nat.le_of_ble_eq_true rfl, Nat.le_of_ble_eq_true rfl, Nat.zero_le _, Nat.zero_le _⟩ dX0_fourSquares_31 hS (fun z_31 E1 H locs hp hM hS => ?_)
          obtain ⟨hz_31, hEq⟩ := hp
          rw [hEq] at hM
          refine z_asI (b := (if s7 (n - a * a) = true then (1 : Int) else 0)) (hz_31) ?_
          refine z_if_eq (tgt := 40) C0.1 C0.2.1 dX0_fourSquares_34 (by decide) (by split <;> exact ⟨by omega, by omega⟩) (fun c_34 => ?_) (fun c_34 => ?_)
          · skip
            have hs7 : s7 (n - a * a) = false := Bool.eq_false_iff.mpr fun q => by rw [if_pos q] at c_34; omega
            refine lv_lload_n C0.1 C0.2.1 dX0_fourSquares_40 rfl (lv_at hl 3 rfl) ?_
            refine lv_lstore (lv' := [(7, .long (zL ((a : Int)))), (5, .long (zL (((n - a * a : Nat) : Int)))), (0, .long (zL ((n : Int)))), (2, .int (zI (i))), (3, .long (zL ((a : Int))))]) C0.1 C0.2.1 dX0_fourSquares_41 hl (by decide) rfl (fun ls hl => ?_)
            have L43 : ∀ (k43 : Nat) (b : Nat) (H : Heap) (locs : List Loc) (ls : Array Slot), (a ≤ b) → (b ≤ 700) → (∀ y, a ≤ y → y < b → ¬ q4 n a y) → 701 - b < k43 → mm_M G E0 H → va_S (mm_A G) s.heap H locs → lv_has ls 13 [(0, .long (zL ((n : Int)))), (2, .int (zI (i))), (3, .long (zL ((a : Int)))), (5, .long (zL (((n - a * a : Nat) : Int)))), (7, .long (zL ((b : Int))))] → W p l e rX0_fourSquares s m args below meth c H locs 0 0 (mm_Zi G below args s (fun z E => r4 n i z ∧ E = E0)) (F0 m 43 ls []) := by
              intro k43
              induction k43 with
              | zero => intro b H locs ls hab hb hno2 hk hM hS hl; exact absurd hk (Nat.not_lt_zero _)
              | succ k43 ih43 =>
                intro b H locs ls hab hb hno2 hk43 hM hS hl
                have hbb : b * b ≤ 700 * 700 := Nat.mul_le_mul hb hb
                have hb9 : b = 700 → b * b = 700 * 700 := fun q => by rw [q]
                have hbz : ((b * b : Nat) : Int) = (b : Int) * (b : Int) := Int.natCast_mul _ _
                have hb4 : (3 : Int) * (b : Int) * (b : Int) = 3 * ((b : Int) * (b : Int)) := Int.mul_assoc _ _ _
                refine lv_lload C0.1 C0.2.1 dX0_fourSquares_43 (lv_at hl 4 rfl) ?_
                refine mm_ldc2 (z := 1000000) C0 tw_662 rfl dX0_fourSquares_45 ?_
                refine z_lcmp_ge (tgt := 143) C0.1 C0.2.1 dX0_fourSquares_48 dX0_fourSquares_49 (by decide) ⟨by omega, by omega⟩ ⟨by omega, by omega⟩ (fun c_48 => ?_) (fun c_48 => ?_)
                · skip
                  omega
                · skip
                  refine mm_ldc2 (z := 3) C0 tw_663 rfl dX0_fourSquares_52 ?_
                  refine lv_lload C0.1 C0.2.1 dX0_fourSquares_55 (lv_at hl 4 rfl) ?_
                  refine z_lmul C0.1 C0.2.1 dX0_fourSquares_57 ?_
                  refine lv_lload C0.1 C0.2.1 dX0_fourSquares_58 (lv_at hl 4 rfl) ?_
                  refine z_lmul C0.1 C0.2.1 dX0_fourSquares_60 ?_
                  refine z_asL (a := ((((3) * ((b : Int)))) * ((b : Int)))) (b := ((3 * (b * b) : Nat) : Int)) (by rw [Int.mul_assoc]; simp only [Int.natCast_mul]; rfl) ?_
                  refine lv_lload C0.1 C0.2.1 dX0_fourSquares_61 (lv_at hl 3 rfl) ?_
                  refine z_lcmp_gt (tgt := 143) C0.1 C0.2.1 dX0_fourSquares_63 dX0_fourSquares_64 (by decide) ⟨by omega, by omega⟩ ⟨by omega, by omega⟩ (fun c_63 => ?_) (fun c_63 => ?_)
                  · skip
                    have hno9 : ∀ y, a ≤ y → ¬ q4 n a y := fun y hy q => (Nat.lt_or_ge y b).elim (fun h8 => hno2 y hy h8 q) (fun h8 => q4_far (by omega) y h8 q)
                    refine lv_lload_n C0.1 C0.2.1 dX0_fourSquares_143 rfl (lv_at hl 2 rfl) ?_
                    refine lv_lconst (v := zL 1) C0.1 C0.2.1 dX0_fourSquares_144 rfl ?_
                    refine z_ladd C0.1 C0.2.1 dX0_fourSquares_145 ?_
                    refine z_asL (a := (((a : Int)) + (1))) (b := ((a + 1 : Nat) : Int)) (by omega) ?_
                    refine lv_lstore_n (lv' := [(3, .long (zL (((a + 1 : Nat) : Int)))), (0, .long (zL ((n : Int)))), (2, .int (zI (i))), (5, .long (zL (((n - a * a : Nat) : Int)))), (7, .long (zL ((b : Int))))]) C0.1 C0.2.1 dX0_fourSquares_146 rfl hl (by decide) rfl (fun ls hl => ?_)
                    refine lv_goto (tgt := 2) C0.1 C0.2.1 dX0_fourSquares_147 (by decide) ?_
                    exact ih2  (a + 1) _ _ _ (by omega) (fun x h => if q : x = a then (fun y hy => by subst q; exact hno9 y hy) else hno x (by omega))  (by omega) hM hS (lv_sub hl [1, 2, 0] rfl)
                  · skip
                    refine lv_lload C0.1 C0.2.1 dX0_fourSquares_67 (lv_at hl 3 rfl) ?_
                    refine lv_lload C0.1 C0.2.1 dX0_fourSquares_69 (lv_at hl 4 rfl) ?_
                    refine lv_lload C0.1 C0.2.1 dX0_fourSquares_71 (lv_at hl 4 rfl) ?_
                    refine z_lmul C0.1 C0.2.1 dX0_fourSquares_73 ?_
                    refine z_asL (a := (((b : Int)) * ((b : Int)))) (b := ((b * b : Nat) : Int)) ((Int.natCast_mul _ _).symm) ?_
                    refine z_lsub C0.1 C0.2.1 dX0_fourSquares_74 ?_
                    refine z_asL (a := ((((n - a * a : Nat) : Int)) - (((b * b : Nat) : Int)))) (b := ((n - a * a - b * b : Nat) : Int)) (by omega) ?_
                    refine lv_lstore (lv' := [(9, .long (zL (((n - a * a - b * b : Nat) : Int)))), (0, .long (zL ((n : Int)))), (2, .int (zI (i))), (3, .long (zL ((a : Int)))), (5, .long (zL (((n - a * a : Nat) : Int)))), (7, .long (zL ((b : Int))))]) C0.1 C0.2.1 dX0_fourSquares_75 hl (by decide) rfl (fun ls hl => ?_)
                    refine lv_lload C0.1 C0.2.1 dX0_fourSquares_77 (lv_at hl 0 rfl) ?_
                    refine lv_lload C0.1 C0.2.1 dX0_fourSquares_79 (lv_at hl 5 rfl) ?_
                    refine mm_callSl (As := [.long (zL (((n - a * a - b * b : Nat) : Int))), .long (zL ((b : Int)))]) C0 sw_X0_lesserOfPair tw_681 (c_X0_lesserOfPair l G _ (n := n - a * a - b * b) (g := b) (by omega) (by omega)) hM rfl hl.1 rfl (Nat.le_of_ble_eq_true rfl) ⟨rfl, rfl, Nat.le_of_ble_eq_true rfl, Nat.le_of_ble_eq_true rfl, Nat.zero_le _, Nat.zero_le _⟩ dX0_fourSquares_81 hS (fun z_81 E2 H locs hp hM hS => ?_)
                    obtain ⟨hz_81, hEq⟩ := hp
                    rw [hEq] at hM
                    have hzb := lsr_b hz_81 (by omega)
                    refine lv_lstore (lv' := [(11, .long (zL (z_81))), (9, .long (zL (((n - a * a - b * b : Nat) : Int)))), (0, .long (zL ((n : Int)))), (2, .int (zI (i))), (3, .long (zL ((a : Int)))), (5, .long (zL (((n - a * a : Nat) : Int)))), (7, .long (zL ((b : Int))))]) C0.1 C0.2.1 dX0_fourSquares_84 hl (by decide) rfl (fun ls hl => ?_)
                    refine lv_lload C0.1 C0.2.1 dX0_fourSquares_86 (lv_at hl 0 rfl) ?_
                    refine lv_lconst (v := zL 0) C0.1 C0.2.1 dX0_fourSquares_88 rfl ?_
                    refine z_lcmp_lt (tgt := 134) C0.1 C0.2.1 dX0_fourSquares_89 dX0_fourSquares_90 (by decide) ⟨by omega, by omega⟩ ⟨by omega, by omega⟩ (fun c_89 => ?_) (fun c_89 => ?_)
                    · skip
                      have hnb : ¬ q4 n a b := fun q => by obtain ⟨-, -, c2, d2, h1, h2, h3⟩ := q; exact hz_81.elim (fun ⟨c, d, l1, l2, l3, l4, l5⟩ => by omega) (fun ⟨l1, l2⟩ => l1 c2 h1 ⟨d2, h2, by unfold ps sqf; omega⟩)
                      refine lv_lload C0.1 C0.2.1 dX0_fourSquares_134 (lv_at hl 6 rfl) ?_
                      refine lv_lconst (v := zL 1) C0.1 C0.2.1 dX0_fourSquares_136 rfl ?_
                      refine z_ladd C0.1 C0.2.1 dX0_fourSquares_137 ?_
                      refine z_asL (a := (((b : Int)) + (1))) (b := ((b + 1 : Nat) : Int)) (by omega) ?_
                      refine lv_lstore (lv' := [(7, .long (zL (((b + 1 : Nat) : Int)))), (11, .long (zL (z_81))), (9, .long (zL (((n - a * a - b * b : Nat) : Int)))), (0, .long (zL ((n : Int)))), (2, .int (zI (i))), (3, .long (zL ((a : Int)))), (5, .long (zL (((n - a * a : Nat) : Int))))]) C0.1 C0.2.1 dX0_fourSquares_138 hl (by decide) rfl (fun ls hl => ?_)
                      refine lv_goto (tgt := 43) C0.1 C0.2.1 dX0_fourSquares_140 (by decide) ?_
                      exact ih43  (b + 1) _ _ _ (by omega) (by omega) (fun y h1 h2 => if q : y = b then (by rw [q]; exact hnb) else hno2 y h1 (by omega))  (by omega) hM hS (lv_sub hl [3, 4, 5, 6, 0] rfl)
                    · skip
                      obtain ⟨cc_, d, l1, l2, l3, l4, l5⟩ : ∃ c d, b ≤ c ∧ c ≤ d ∧ ps sqf (n - a * a - b * b) c d ∧ (∀ x, b ≤ x → x < c → ¬ ∃ y, x ≤ y ∧ ps sqf (n - a * a - b * b) x y) ∧ z_81 = (c : Int) := hz_81.elim (fun h => h) (fun h => by have h9 := h.2; omega)
                      have hps : cc_ * cc_ + d * d = n - a * a - b * b := l3
                      have hcz : ((cc_ * cc_ : Nat) : Int) = (cc_ : Int) * (cc_ : Int) := Int.natCast_mul _ _
                      have hzz : z_81 * z_81 = ((cc_ * cc_ : Nat) : Int) := by rw [l5, hcz]
                      have hrr : ∀ z : Int, z = sel4 i a b cc_ d → r4 n i z := fun z hz => Or.inl ⟨a, b, cc_, d, hab, l1, l2, hs7, by omega, hno, hno2, fun x h1 h2 ⟨y, q1, q2⟩ => l4 x h1 h2 ⟨y, q1, by unfold ps sqf; omega⟩, hz⟩
                      refine lv_iload_n C0.1 C0.2.1 dX0_fourSquares_93 rfl (lv_at hl 3 rfl) ?_
                      refine z_if_ne (tgt := 101) C0.1 C0.2.1 dX0_fourSquares_94 (by decide) ⟨by omega, by omega⟩ (fun c_94 => ?_) (fun c_94 => ?_)
                      · skip
                        refine lv_iload_n C0.1 C0.2.1 dX0_fourSquares_101 rfl (lv_at hl 3 rfl) ?_
                        refine lv_iconst (v := zI 1) C0.1 C0.2.1 dX0_fourSquares_102 rfl ?_
                        refine z_icmp_ne (tgt := 111) C0.1 C0.2.1 dX0_fourSquares_103 (by decide) ⟨by omega, by omega⟩ ⟨by omega, by omega⟩ (fun c_103 => ?_) (fun c_103 => ?_)
                        · skip
                          refine lv_iload_n C0.1 C0.2.1 dX0_fourSquares_111 rfl (lv_at hl 3 rfl) ?_
                          refine lv_iconst (v := zI 2) C0.1 C0.2.1 dX0_fourSquares_112 rfl ?_
                          refine z_icmp_ne (tgt := 121) C0.1 C0.2.1 dX0_fourSquares_113 (by decide) ⟨by omega, by omega⟩ ⟨by omega, by omega⟩ (fun c_113 => ?_) (fun c_113 => ?_)
                          · skip
                            refine lv_lload C0.1 C0.2.1 dX0_fourSquares_121 (lv_at hl 1 rfl) ?_
                            refine lv_lload C0.1 C0.2.1 dX0_fourSquares_123 (lv_at hl 0 rfl) ?_
                            refine lv_lload C0.1 C0.2.1 dX0_fourSquares_125 (lv_at hl 0 rfl) ?_
                            refine z_lmul C0.1 C0.2.1 dX0_fourSquares_127 ?_
                            refine z_lsub C0.1 C0.2.1 dX0_fourSquares_128 ?_
                            refine mm_callSl (As := [.long (zL (((((n - a * a - b * b : Nat) : Int)) - (((z_81) * (z_81))))))]) C0 sw_X0_rootOf tw_564 (c_X0_rootOf l G _ (d * d) (by omega) (by omega)) hM rfl hl.1 rfl (Nat.le_of_ble_eq_true rfl) ⟨rfl, rfl, Nat.le_of_ble_eq_true rfl, Nat.le_of_ble_eq_true rfl, Nat.zero_le _, Nat.zero_le _⟩ dX0_fourSquares_129 hS (fun z_129 E3 H locs hp hM hS => ?_)
                            obtain ⟨hz_129, hEq⟩ := hp
                            rw [hEq] at hM
                            obtain ⟨t, ht1, ht2⟩ := hz_129
                            refine z_asL (b := (d : Int)) (by rw [ht1, rt_uniq (by omega) ht2 (show rtP 2 (d * d) d from ⟨by rw [Nat.pow_two]; exact Nat.le_refl _, by rw [Nat.pow_two]; exact Nat.mul_lt_mul_of_lt_of_le (by omega) (by omega) (by omega)⟩)]) ?_
                            refine z_l2i C0.1 C0.2.1 dX0_fourSquares_132 ?_
                            exact mm_iret (z := (d : Int)) C0 hr hlk hM hS dX0_fourSquares_133 (⟨hrr _ (by unfold sel4; rw [if_neg (by omega), if_neg (by omega), if_neg (by omega)]), rfl⟩)
                          · skip
                            refine lv_lload C0.1 C0.2.1 dX0_fourSquares_116 (lv_at hl 0 rfl) ?_
                            refine lv_goto (tgt := 132) C0.1 C0.2.1 dX0_fourSquares_118 (by decide) ?_
                            refine z_l2i C0.1 C0.2.1 dX0_fourSquares_132 ?_
                            exact mm_iret (z := z_81) C0 hr hlk hM hS dX0_fourSquares_133 (⟨hrr _ (by unfold sel4; rw [if_neg (by omega), if_neg (by omega), if_pos (by omega)]; exact l5), rfl⟩)
                        · skip
                          refine lv_lload C0.1 C0.2.1 dX0_fourSquares_106 (lv_at hl 6 rfl) ?_
                          refine lv_goto (tgt := 132) C0.1 C0.2.1 dX0_fourSquares_108 (by decide) ?_
                          refine z_l2i C0.1 C0.2.1 dX0_fourSquares_132 ?_
                          exact mm_iret (z := (b : Int)) C0 hr hlk hM hS dX0_fourSquares_133 (⟨hrr _ (by unfold sel4; rw [if_neg (by omega), if_pos (by omega)]), rfl⟩)
                      · skip
                        refine lv_lload_n C0.1 C0.2.1 dX0_fourSquares_97 rfl (lv_at hl 4 rfl) ?_
                        refine lv_goto (tgt := 132) C0.1 C0.2.1 dX0_fourSquares_98 (by decide) ?_
                        refine z_l2i C0.1 C0.2.1 dX0_fourSquares_132 ?_
                        exact mm_iret (z := (a : Int)) C0 hr hlk hM hS dX0_fourSquares_133 (⟨hrr _ (by unfold sel4; rw [if_pos (by omega)]), rfl⟩)
            exact L43 (_ + 1) a _ _ _ (Nat.le_refl _) (by omega) (fun y h1 h2 => by omega)  (Nat.lt_succ_self _) hM hS (lv_sub hl [2, 3, 4, 1, 0] rfl)
          · skip
            have hs7 : s7 (n - a * a) = true := Classical.byContradiction fun q => c_34 (if_neg q)
            have hno9 : ∀ y, a ≤ y → ¬ q4 n a y := fun y _ q => by rw [q.2.1] at hs7; exact absurd hs7 (by decide)
            refine lv_goto (tgt := 143) C0.1 C0.2.1 dX0_fourSquares_37 (by decide) ?_
            refine lv_lload_n C0.1 C0.2.1 dX0_fourSquares_143 rfl (lv_at hl 3 rfl) ?_
            refine lv_lconst (v := zL 1) C0.1 C0.2.1 dX0_fourSquares_144 rfl ?_
            refine z_ladd C0.1 C0.2.1 dX0_fourSquares_145 ?_
            refine z_asL (a := (((a : Int)) + (1))) (b := ((a + 1 : Nat) : Int)) (by omega) ?_
            refine lv_lstore_n (lv' := [(3, .long (zL (((a + 1 : Nat) : Int)))), (5, .long (zL (((n - a * a : Nat) : Int)))), (0, .long (zL ((n : Int)))), (2, .int (zI (i)))]) C0.1 C0.2.1 dX0_fourSquares_146 rfl hl (by decide) rfl (fun ls hl => ?_)
            refine lv_goto (tgt := 2) C0.1 C0.2.1 dX0_fourSquares_147 (by decide) ?_
            exact ih2  (a + 1) _ _ _ (by omega) (fun x h => if q : x = a then (fun y hy => by subst q; exact hno9 y hy) else hno x (by omega))  (by omega) hM hS (lv_sub hl [2, 3, 0] rfl)
  exact L2 (_ + 1) 0 _ _ _ (Nat.zero_le _) (fun x h => absurd h (Nat.not_lt_zero _))  (Nat.lt_succ_self _) hM hS (lv_sub hl [1, 2, 0] rfl)
