/-- three from the least on, by the first, then the second: the first such row, its i-th -/
def sel3 (i : Int) (a b c : Nat) : Int := if i = 0 then (a : Int) else if i = 1 then (b : Int) else (c : Int)
def r3 (n : Nat) (i z : Int) : Prop := (∃ a b c, a ≤ b ∧ b ≤ c ∧ trf a + trf b + trf c = n ∧ (∀ x, x < a → ∀ y, x ≤ y → ¬ ∃ w, y ≤ w ∧ trf x + trf y + trf w = n) ∧ (∀ y, a ≤ y → y < b → ¬ ∃ w, y ≤ w ∧ trf a + trf y + trf w = n) ∧ z = sel3 i a b c) ∨ ((∀ x y, x ≤ y → ¬ ∃ w, y ≤ w ∧ trf x + trf y + trf w = n) ∧ z = -4)
theorem ps_sub {f : Nat → Nat} {n a x : Nat} (hx : f a ≤ n) : (∃ y, x ≤ y ∧ ps f (n - f a) x y) ↔ ∃ w, x ≤ w ∧ f a + f x + f w = n := ⟨fun ⟨y, h, hp⟩ => ⟨y, h, by unfold ps at hp; omega⟩, fun ⟨y, h, hp⟩ => ⟨y, h, by unfold ps; omega⟩⟩
def sel4 (i : Int) (a b c d : Nat) : Int := if i = 0 then (a : Int) else if i = 1 then (b : Int) else if i = 2 then (c : Int) else (d : Int)
/-- four from the least on: the first row whose rest behind the first isn't one that needs four -/
def q4 (n x y : Nat) : Prop := x * x ≤ n ∧ s7 (n - x * x) = false ∧ ∃ c d, y ≤ c ∧ c ≤ d ∧ x * x + y * y + (c * c + d * d) = n
def r4 (n : Nat) (i z : Int) : Prop := (∃ a b c d, a ≤ b ∧ b ≤ c ∧ c ≤ d ∧ s7 (n - a * a) = false ∧ a * a + b * b + (c * c + d * d) = n ∧ (∀ x, x < a → ∀ y, x ≤ y → ¬ q4 n x y) ∧ (∀ y, a ≤ y → y < b → ¬ q4 n a y) ∧ (∀ x, b ≤ x → x < c → ¬ ∃ y, x ≤ y ∧ a * a + b * b + (x * x + y * y) = n) ∧ z = sel4 i a b c d) ∨ ((∀ x y, x ≤ y → ¬ q4 n x y) ∧ z = -4)
noncomputable def fwR (n : Nat) : Int := if n = 0 then 0 else if bq (sq (n : Int)) = true then 1 else if bq (∃ a b, 1 ≤ a ∧ a ≤ b ∧ ps sqf n a b) = true then 2 else if s7 n = true then 4 else 3
theorem lsr_pos {n : Nat} {z : Int} (h : lsr n 1 z) : (0 < z ↔ ∃ a b, 1 ≤ a ∧ a ≤ b ∧ ps sqf n a b) ∧ rL z ∨ ¬ rL z := by
  by_cases hz : rL z
  · left
    refine ⟨?_, hz⟩
    rcases h with ⟨c, d, h1, h2, h3, -, rfl⟩ | ⟨h1, rfl⟩
    · exact ⟨fun _ => ⟨c, d, h1, h2, h3⟩, fun _ => by omega⟩
    · exact ⟨fun q => by omega, fun ⟨a, b, q1, q2, q3⟩ => absurd ⟨b, q2, q3⟩ (h1 a q1)⟩
  · exact Or.inr hz
theorem lsr_b {n l : Nat} {z : Int} (h : lsr n l z) (hn : n ≤ 1000000000) : -1 ≤ z ∧ z ≤ 40000 := by
  rcases h with ⟨c, d, h1, h2, h3, -, rfl⟩ | ⟨h1, rfl⟩
  · have : c ≤ 40000 := Nat.le_of_not_lt fun q => by have := Nat.mul_le_mul q q; unfold ps sqf at h3; omega
    omega
  · omega

def rX0_fewestSquares : Room := { frames := 2, cells := 0, slots := 0, locals := 56 }
theorem sw_X0_fewestSquares : mm_Sw yX0_fewestSquares cX0_fewestSquares 2 (some .int) 1 := ⟨tw_690, tw_12, tw_691, by decide +kernel⟩
set_option maxHeartbeats 4000000 in
set_option maxRecDepth 100000 in
theorem c_X0_fewestSquares (l : Launch) (G : mG) (E0 : mE) {n : Nat} (hn : n ≤ 1000000000) : mm_Ci l yX0_fewestSquares (.code yX0_fewestSquares cX0_fewestSquares 2 (some .int) :: wsG) rX0_fewestSquares G [.long (zL ((n : Int)))] E0 (fun z E => z = fwR n ∧ E = E0) := by
  refine mm_of_i (by decide +kernel) (Nat.le_of_ble_eq_true rfl) ?_
  intro p e s m args below meth c ls C0 hr hlk hM hl hS
  have hl : lv_has ls 2 [(0, .long (zL ((n : Int))))] := hl
  refine lv_lload_n C0.1 C0.2.1 dX0_fewestSquares_0 rfl (lv_at hl 0 rfl) ?_
  refine lv_lconst (v := zL 0) C0.1 C0.2.1 dX0_fewestSquares_1 rfl ?_
  refine z_lcmp_ne (tgt := 8) C0.1 C0.2.1 dX0_fewestSquares_2 dX0_fewestSquares_3 (by decide) ⟨by omega, by omega⟩ ⟨by omega, by omega⟩ (fun c_2 => ?_) (fun c_2 => ?_)
  · skip
    refine lv_lload_n C0.1 C0.2.1 dX0_fewestSquares_8 rfl (lv_at hl 0 rfl) ?_
    refine mm_callSi (As := [.long (zL ((n : Int)))]) C0 sw_X0_isSquare tw_630 (c_X0_isSquare l G _ (by omega) (by omega)) hM rfl hl.1 rfl (Nat.le_of_ble_eq_true rfl) ⟨rfl, rfl, Nat.le_of_ble_eq_true rfl, Nat.le_of_ble_eq_true rfl, Nat.zero_le _, Nat.zero_le _⟩ dX0_fewestSquares_9 hS (fun z_9 E1 H locs hp hM hS => ?_)
    obtain ⟨hz_9, hEq⟩ := hp
    rw [hEq] at hM
    have hz01 : z_9 = 0 ∨ z_9 = 1 := hz_9.elim (fun h => Or.inr h.1) (fun h => Or.inl h.1)
    refine z_if_eq (tgt := 17) C0.1 C0.2.1 dX0_fewestSquares_12 (by decide) ⟨by omega, by omega⟩ (fun c_12 => ?_) (fun c_12 => ?_)
    · skip
      have hs9 : ¬ sq (n : Int) := hz_9.elim (fun h => by omega) (fun h => h.2)
      refine lv_lload_n C0.1 C0.2.1 dX0_fewestSquares_17 rfl (lv_at hl 0 rfl) ?_
      refine lv_lconst (v := zL 1) C0.1 C0.2.1 dX0_fewestSquares_18 rfl ?_
      refine mm_callSl (As := [.long (zL ((n : Int))), .long (zL (1))]) C0 sw_X0_lesserOfPair tw_681 (c_X0_lesserOfPair l G _ (g := 1) hn (by omega)) hM rfl hl.1 rfl (Nat.le_of_ble_eq_true rfl) ⟨rfl, rfl, Nat.le_of_ble_eq_true rfl, Nat.le_of_ble_eq_true rfl, Nat.zero_le _, Nat.zero_le _⟩ dX0_fewestSquares_19 hS (fun z_19 E2 H locs hp hM hS => ?_)
      obtain ⟨hz_19, hEq⟩ := hp
      rw [hEq] at hM
      have hzb := lsr_b hz_19 hn
      refine lv_lconst (v := zL 0) C0.1 C0.2.1 dX0_fewestSquares_22 rfl ?_
      refine z_lcmp_le (tgt := 29) C0.1 C0.2.1 dX0_fewestSquares_23 dX0_fewestSquares_24 (by decide) ⟨by omega, by omega⟩ ⟨by omega, by omega⟩ (fun c_23 => ?_) (fun c_23 => ?_)
      · skip
        have hl9 : ¬ ∃ a b, 1 ≤ a ∧ a ≤ b ∧ ps sqf n a b := fun q => ((lsr_pos hz_19).elim (fun h => by have h8 := h.1.mpr q; omega) (fun h => absurd ⟨by omega, by omega⟩ h))
        refine lv_lload_n C0.1 C0.2.1 dX0_fewestSquares_29 rfl (lv_at hl 0 rfl) ?_
        refine mm_callSi (As := [.long (zL ((n : Int)))]) C0 sw_X0_needsFour tw_676 (c_X0_needsFour l G _ hn) hM rfl hl.1 rfl (Nat.le_of_ble_eq_true rfl) ⟨rfl, rfl, Nat.le_of_ble_eq_true rfl, Nat.le_of_ble_eq_true rfl, Nat.zero_le _, Nat.zero_le _⟩ dX0_fewestSquares_30 hS (fun z_30 E3 H locs hp hM hS => ?_)
        obtain ⟨hz_30, hEq⟩ := hp
        rw [hEq] at hM
        refine z_asI (b := (if s7 n = true then (1 : Int) else 0)) (hz_30) ?_
        refine z_if_eq (tgt := 40) C0.1 C0.2.1 dX0_fewestSquares_33 (by decide) (by split <;> exact ⟨by omega, by omega⟩) (fun c_33 => ?_) (fun c_33 => ?_)
        · skip
          have hs7 : ¬ s7 n = true := fun q => by rw [if_pos q] at c_33; omega
          refine lv_iconst (v := zI 3) C0.1 C0.2.1 dX0_fewestSquares_40 rfl ?_
          exact mm_iret (z := 3) C0 hr hlk hM hS dX0_fewestSquares_41 (⟨by unfold fwR; rw [if_neg (by omega), if_neg (by rw [bq_f hs9]; decide), if_neg (by rw [bq_f hl9]; decide), if_neg hs7], rfl⟩)
        · skip
          have hs7 : s7 n = true := Classical.byContradiction fun q => c_33 (if_neg q)
          refine lv_iconst (v := zI 4) C0.1 C0.2.1 dX0_fewestSquares_36 rfl ?_
          refine lv_goto (tgt := 41) C0.1 C0.2.1 dX0_fewestSquares_37 (by decide) ?_
          exact mm_iret (z := 4) C0 hr hlk hM hS dX0_fewestSquares_41 (⟨by unfold fwR; rw [if_neg (by omega), if_neg (by rw [bq_f hs9]; decide), if_neg (by rw [bq_f hl9]; decide), if_pos hs7], rfl⟩)
      · skip
        have hl9 : ∃ a b, 1 ≤ a ∧ a ≤ b ∧ ps sqf n a b := ((lsr_pos hz_19).elim (fun h => h.1.mp c_23) (fun h => absurd ⟨by omega, by omega⟩ h))
        refine lv_iconst (v := zI 2) C0.1 C0.2.1 dX0_fewestSquares_27 rfl ?_
        exact mm_iret (z := 2) C0 hr hlk hM hS dX0_fewestSquares_28 (⟨by unfold fwR; rw [if_neg (by omega), if_neg (by rw [bq_f hs9]; decide), if_pos (bq_t hl9)], rfl⟩)
    · skip
      have hs9 : sq (n : Int) := hz_9.elim (fun h => h.2) (fun h => by omega)
      refine lv_iconst (v := zI 1) C0.1 C0.2.1 dX0_fewestSquares_15 rfl ?_
      exact mm_iret (z := 1) C0 hr hlk hM hS dX0_fewestSquares_16 (⟨by unfold fwR; rw [if_neg (by omega), if_pos (bq_t hs9)], rfl⟩)
  · skip
    refine lv_iconst (v := zI 0) C0.1 C0.2.1 dX0_fewestSquares_6 rfl ?_
    exact mm_iret (z := 0) C0 hr hlk hM hS dX0_fewestSquares_7 (⟨by unfold fwR; rw [if_pos (by omega)], rfl⟩)

def rX0_walls : Room := { frames := 1, cells := 0, slots := 0, locals := 21 }
theorem sw_X0_walls : mm_Sw yX0_walls cX0_walls 8 (some .int) 2 := ⟨tw_697, tw_12, tw_698, by decide +kernel⟩
set_option maxHeartbeats 4000000 in
set_option maxRecDepth 100000 in
theorem c_X0_walls (l : Launch) (G : mG) (E0 : mE) {w : Nat} {i : Int} (hw : w ≤ 999) (hi : rI i) : mm_Ci l yX0_walls (.code yX0_walls cX0_walls 8 (some .int) :: wsG) rX0_walls G [.long (zL ((w : Int))), .int (zI (i))] E0 (fun z E => z = scan (wlB (8 * w * w)) (fun u => ((u + 4 * w : Nat) : Int)) i 1 0 3000 ∧ E = E0) := by
  refine mm_of_i (by decide +kernel) (Nat.le_of_ble_eq_true rfl) ?_
  intro p e s m args below meth c ls C0 hr hlk hM hl hS
  have hl : lv_has ls 8 [(0, .long (zL ((w : Int)))), (2, .int (zI (i)))] := hl
  obtain ⟨hi1, hi2⟩ := hi
  have hww : w * w ≤ 999 * 999 := Nat.mul_le_mul hw hw
  have e8 : 8 * w * w = 8 * (w * w) := Nat.mul_assoc _ _ _
  refine mm_ldc2 (z := 8) C0 tw_679 rfl dX0_walls_0 ?_
  refine lv_lload_n C0.1 C0.2.1 dX0_walls_3 rfl (lv_at hl 0 rfl) ?_
  refine z_lmul C0.1 C0.2.1 dX0_walls_4 ?_
  refine lv_lload_n C0.1 C0.2.1 dX0_walls_5 rfl (lv_at hl 0 rfl) ?_
  refine z_lmul C0.1 C0.2.1 dX0_walls_6 ?_
  refine z_asL (a := ((((8) * ((w : Int)))) * ((w : Int)))) (b := ((8 * w * w : Nat) : Int)) (by simp only [Int.natCast_mul]; rfl) ?_
  refine lv_lstore_n (lv' := [(3, .long (zL (((8 * w * w : Nat) : Int)))), (0, .long (zL ((w : Int)))), (2, .int (zI (i)))]) C0.1 C0.2.1 dX0_walls_7 rfl hl (by decide) rfl (fun ls hl => ?_)
  refine lv_iconst (v := zI 0) C0.1 C0.2.1 dX0_walls_8 rfl ?_
  refine lv_istore (lv' := [(5, .int (zI (0))), (3, .long (zL (((8 * w * w : Nat) : Int)))), (0, .long (zL ((w : Int)))), (2, .int (zI (i)))]) C0.1 C0.2.1 dX0_walls_9 hl (by decide) rfl (fun ls hl => ?_)
  refine lv_lconst (v := zL 1) C0.1 C0.2.1 dX0_walls_11 rfl ?_
  refine lv_lstore (lv' := [(6, .long (zL (1))), (5, .int (zI (0))), (3, .long (zL (((8 * w * w : Nat) : Int)))), (0, .long (zL ((w : Int)))), (2, .int (zI (i)))]) C0.1 C0.2.1 dX0_walls_12 hl (by decide) rfl (fun ls hl => ?_)
  have L14 : ∀ (k14 : Nat) (u cn : Nat) (H : Heap) (locs : List Loc) (ls : Array Slot), (0 < u) → (u ≤ 3000) → (cn ≤ u) → (hid (scan (wlB (8 * w * w)) (fun u => ((u + 4 * w : Nat) : Int)) i 1 0 3000 = scan (wlB (8 * w * w)) (fun u => ((u + 4 * w : Nat) : Int)) i u cn (3001 - u))) → 3001 - u < k14 → mm_M G E0 H → va_S (mm_A G) s.heap H locs → lv_has ls 8 [(0, .long (zL ((w : Int)))), (2, .int (zI (i))), (3, .long (zL (((8 * w * w : Nat) : Int)))), (5, .int (zI ((cn : Int)))), (6, .long (zL ((u : Int))))] → W p l e rX0_walls s m args below meth c H locs 0 0 (mm_Zi G below args s (fun z E => z = scan (wlB (8 * w * w)) (fun u => ((u + 4 * w : Nat) : Int)) i 1 0 3000 ∧ E = E0)) (F0 m 14 ls []) := by
    intro k14
    induction k14 with
    | zero => intro u cn H locs ls hu0 hu hcn hSC hk hM hS hl; exact absurd hk (Nat.not_lt_zero _)
    | succ k14 ih14 =>
      intro u cn H locs ls hu0 hu hcn hSC hk14 hM hS hl
      have huu : u * u ≤ 3000 * 3000 := Nat.mul_le_mul hu hu
      have hu9 : u = 3000 → u * u = 3000 * 3000 := fun q => by rw [q]
      refine lv_lload C0.1 C0.2.1 dX0_walls_14 (lv_at hl 4 rfl) ?_
      refine mm_ldc2 (z := 1000000) C0 tw_662 rfl dX0_walls_16 ?_
      refine z_lcmp_ge (tgt := 70) C0.1 C0.2.1 dX0_walls_19 dX0_walls_20 (by decide) ⟨by omega, by omega⟩ ⟨by omega, by omega⟩ (fun c_19 => ?_) (fun c_19 => ?_)
      · skip
        omega
      · skip
        refine lv_lload C0.1 C0.2.1 dX0_walls_23 (lv_at hl 4 rfl) ?_
        refine lv_lload C0.1 C0.2.1 dX0_walls_25 (lv_at hl 4 rfl) ?_
        refine z_lmul C0.1 C0.2.1 dX0_walls_27 ?_
        refine z_asL (a := (((u : Int)) * ((u : Int)))) (b := ((u * u : Nat) : Int)) ((Int.natCast_mul _ _).symm) ?_
        refine lv_lload_n C0.1 C0.2.1 dX0_walls_28 rfl (lv_at hl 2 rfl) ?_
        refine z_lcmp_gt (tgt := 70) C0.1 C0.2.1 dX0_walls_29 dX0_walls_30 (by decide) ⟨by omega, by omega⟩ ⟨by omega, by omega⟩ (fun c_29 => ?_) (fun c_29 => ?_)
        · skip
          refine lv_iload_n C0.1 C0.2.1 dX0_walls_70 rfl (lv_at hl 1 rfl) ?_
          refine lv_iload C0.1 C0.2.1 dX0_walls_71 (lv_at hl 3 rfl) ?_
          refine mm_callSi (As := [.int (zI (i)), .int (zI ((cn : Int)))]) C0 sw_X0_close tw_631 (c_X0_close l G _ ⟨by omega, by omega⟩ (by omega)) hM rfl hl.1 rfl (Nat.le_of_ble_eq_true rfl) ⟨rfl, rfl, Nat.le_of_ble_eq_true rfl, Nat.le_of_ble_eq_true rfl, Nat.zero_le _, Nat.zero_le _⟩ dX0_walls_73 hS (fun z_73 E1 H locs hp hM hS => ?_)
          obtain ⟨hz_73, hEq⟩ := hp
          rw [hEq] at hM
          refine z_asI (b := clo i cn) (hz_73) ?_
          exact mm_iret (z := clo i cn) C0 hr hlk hM hS dX0_walls_76 (⟨(Eq.trans hSC (scan_end (wl_end (by omega)))).symm, rfl⟩)
        · skip
          refine lv_lload_n C0.1 C0.2.1 dX0_walls_33 rfl (lv_at hl 2 rfl) ?_
          refine lv_lload C0.1 C0.2.1 dX0_walls_34 (lv_at hl 4 rfl) ?_
          refine z_lremp C0.1 C0.2.1 dX0_walls_36 ⟨by omega, by omega⟩ ⟨by omega, by omega⟩ (by omega) (by omega) ?_
          have hml := Nat.mod_lt (8 * w * w) hu0
          refine z_asL (a := ((((8 * w * w : Nat) : Int)) % ((u : Int)))) (b := ((8 * w * w % u : Nat) : Int)) ((Int.natCast_emod _ _).symm) ?_
          refine lv_lconst (v := zL 0) C0.1 C0.2.1 dX0_walls_37 rfl ?_
          refine z_lcmp_ne (tgt := 61) C0.1 C0.2.1 dX0_walls_38 dX0_walls_39 (by decide) ⟨by omega, by omega⟩ ⟨by omega, by omega⟩ (fun c_38 => ?_) (fun c_38 => ?_)
          · skip
            have hw9 : wlB (8 * w * w) u = false := by unfold wlB; rw [beq_eq_false_iff_ne.mpr (by omega), Bool.and_false]
            refine lv_lload C0.1 C0.2.1 dX0_walls_61 (lv_at hl 4 rfl) ?_
            refine lv_lconst (v := zL 1) C0.1 C0.2.1 dX0_walls_63 rfl ?_
            refine z_ladd C0.1 C0.2.1 dX0_walls_64 ?_
            refine z_asL (a := (((u : Int)) + (1))) (b := ((u + 1 : Nat) : Int)) (by omega) ?_
            refine lv_lstore (lv' := [(6, .long (zL (((u + 1 : Nat) : Int)))), (0, .long (zL ((w : Int)))), (2, .int (zI (i))), (3, .long (zL (((8 * w * w : Nat) : Int)))), (5, .int (zI ((cn : Int))))]) C0.1 C0.2.1 dX0_walls_65 hl (by decide) rfl (fun ls hl => ?_)
            refine lv_goto (tgt := 14) C0.1 C0.2.1 dX0_walls_67 (by decide) ?_
            exact ih14  (u + 1) cn _ _ _ (by omega) (by omega) (by omega) (Eq.trans hSC (scan_f (by omega) hw9))  (by omega) hM hS (lv_sub hl [1, 2, 3, 4, 0] rfl)
          · skip
            have hw9 : wlB (8 * w * w) u = true := by unfold wlB; rw [decide_eq_true (by omega), Bool.true_and, beq_iff_eq]; omega
            refine lv_iload C0.1 C0.2.1 dX0_walls_42 (lv_at hl 3 rfl) ?_
            refine lv_iload_n C0.1 C0.2.1 dX0_walls_44 rfl (lv_at hl 1 rfl) ?_
            refine z_icmp_ne (tgt := 58) C0.1 C0.2.1 dX0_walls_45 (by decide) ⟨by omega, by omega⟩ ⟨by omega, by omega⟩ (fun c_45 => ?_) (fun c_45 => ?_)
            · skip
              refine lv_iinc (v := zI (((cn + 1 : Nat) : Int))) (lv' := [(5, .int (zI (((cn + 1 : Nat) : Int)))), (0, .long (zL ((w : Int)))), (2, .int (zI (i))), (3, .long (zL (((8 * w * w : Nat) : Int)))), (6, .long (zL ((u : Int))))]) C0.1 C0.2.1 dX0_walls_58 hl (k := 3) rfl (z_inc (a := (cn : Int)) (n := 1) (by omega)) (by decide) rfl (fun ls hl => ?_)
              refine lv_lload C0.1 C0.2.1 dX0_walls_61 (lv_at hl 4 rfl) ?_
              refine lv_lconst (v := zL 1) C0.1 C0.2.1 dX0_walls_63 rfl ?_
              refine z_ladd C0.1 C0.2.1 dX0_walls_64 ?_
              refine z_asL (a := (((u : Int)) + (1))) (b := ((u + 1 : Nat) : Int)) (by omega) ?_
              refine lv_lstore (lv' := [(6, .long (zL (((u + 1 : Nat) : Int)))), (5, .int (zI (((cn + 1 : Nat) : Int)))), (0, .long (zL ((w : Int)))), (2, .int (zI (i))), (3, .long (zL (((8 * w * w : Nat) : Int))))]) C0.1 C0.2.1 dX0_walls_65 hl (by decide) rfl (fun ls hl => ?_)
              refine lv_goto (tgt := 14) C0.1 C0.2.1 dX0_walls_67 (by decide) ?_
              exact ih14  (u + 1) (cn + 1) _ _ _ (by omega) (by omega) (by omega) (Eq.trans hSC (scan_t (by omega) hw9 (by omega)))  (by omega) hM hS (lv_sub hl [2, 3, 4, 1, 0] rfl)
            · skip
              refine lv_lload C0.1 C0.2.1 dX0_walls_48 (lv_at hl 4 rfl) ?_
              refine mm_ldc2 (z := 4) C0 tw_675 rfl dX0_walls_50 ?_
              refine lv_lload_n C0.1 C0.2.1 dX0_walls_53 rfl (lv_at hl 0 rfl) ?_
              refine z_lmul C0.1 C0.2.1 dX0_walls_54 ?_
              refine z_ladd C0.1 C0.2.1 dX0_walls_55 ?_
              refine z_asL (a := (((u : Int)) + (((4) * ((w : Int)))))) (b := ((u + 4 * w : Nat) : Int)) (by omega) ?_
              refine z_l2i C0.1 C0.2.1 dX0_walls_56 ?_
              exact mm_iret (z := ((u + 4 * w : Nat) : Int)) C0 hr hlk hM hS dX0_walls_57 (⟨(Eq.trans hSC (scan_hit (m := 3000 - u) (by omega) hw9 (by omega))).symm, rfl⟩)
  exact L14 (_ + 1) 1 0 _ _ _ (by omega) (by omega) (by omega) (rfl)  (Nat.lt_succ_self _) hM hS (lv_sub hl [3, 4, 2, 1, 0] rfl)

def rX0_flatHeaps : Room := { frames := 2, cells := 0, slots := 0, locals := 49 }
theorem sw_X0_flatHeaps : mm_Sw yX0_flatHeaps cX0_flatHeaps 6 (some .int) 2 := ⟨tw_704, tw_12, tw_705, by decide +kernel⟩
set_option maxHeartbeats 4000000 in
set_option maxRecDepth 100000 in
theorem c_X0_flatHeaps (l : Launch) (G : mG) (E0 : mE) {k : Nat} {i : Int} (hk : 3 ≤ k) (hk2 : k ≤ 99) (hi : rI i) : mm_Ci l yX0_flatHeaps (.code yX0_flatHeaps cX0_flatHeaps 6 (some .int) :: wsG) rX0_flatHeaps G [.long (zL ((k : Int))), .int (zI (i))] E0 (fun z E => z = scan (fun n => bq (sq ((shp 4 k n : Nat) : Int))) (fun n => (n : Int)) i 1 0 3000 ∧ E = E0) := by
  refine mm_of_i (by decide +kernel) (Nat.le_of_ble_eq_true rfl) ?_
  intro p e s m args below meth c ls C0 hr hlk hM hl hS
  have hl : lv_has ls 6 [(0, .long (zL ((k : Int)))), (2, .int (zI (i)))] := hl
  obtain ⟨hi1, hi2⟩ := hi
  refine lv_iconst (v := zI 0) C0.1 C0.2.1 dX0_flatHeaps_0 rfl ?_
  refine lv_istore_n (lv' := [(3, .int (zI (0))), (0, .long (zL ((k : Int)))), (2, .int (zI (i)))]) C0.1 C0.2.1 dX0_flatHeaps_1 rfl hl (by decide) rfl (fun ls hl => ?_)
  refine lv_lconst (v := zL 1) C0.1 C0.2.1 dX0_flatHeaps_2 rfl ?_
  refine lv_lstore (lv' := [(4, .long (zL (1))), (3, .int (zI (0))), (0, .long (zL ((k : Int)))), (2, .int (zI (i)))]) C0.1 C0.2.1 dX0_flatHeaps_3 hl (by decide) rfl (fun ls hl => ?_)
  have L5 : ∀ (k5 : Nat) (n cn : Nat) (H : Heap) (locs : List Loc) (ls : Array Slot), (0 < n) → (n ≤ 3001) → (cn ≤ n) → (hid (scan (fun n => bq (sq ((shp 4 k n : Nat) : Int))) (fun n => (n : Int)) i 1 0 3000 = scan (fun n => bq (sq ((shp 4 k n : Nat) : Int))) (fun n => (n : Int)) i n cn (3001 - n))) → 3001 - n < k5 → mm_M G E0 H → va_S (mm_A G) s.heap H locs → lv_has ls 6 [(0, .long (zL ((k : Int)))), (2, .int (zI (i))), (3, .int (zI ((cn : Int)))), (4, .long (zL ((n : Int))))] → W p l e rX0_flatHeaps s m args below meth c H locs 0 0 (mm_Zi G below args s (fun z E => z = scan (fun n => bq (sq ((shp 4 k n : Nat) : Int))) (fun n => (n : Int)) i 1 0 3000 ∧ E = E0)) (F0 m 5 ls []) := by
    intro k5
    induction k5 with
    | zero => intro n cn H locs ls hn0 hn hcn hSC hk hM hS hl; exact absurd hk (Nat.not_lt_zero _)
    | succ k5 ih5 =>
      intro n cn H locs ls hn0 hn hcn hSC hk5 hM hS hl
      refine lv_lload C0.1 C0.2.1 dX0_flatHeaps_5 (lv_at hl 3 rfl) ?_
      refine mm_ldc2 (z := 3000) C0 tw_706 rfl dX0_flatHeaps_7 ?_
      refine z_lcmp_gt (tgt := 67) C0.1 C0.2.1 dX0_flatHeaps_10 dX0_flatHeaps_11 (by decide) ⟨by omega, by omega⟩ ⟨by omega, by omega⟩ (fun c_10 => ?_) (fun c_10 => ?_)
      · skip
        refine lv_iload_n C0.1 C0.2.1 dX0_flatHeaps_67 rfl (lv_at hl 1 rfl) ?_
        refine lv_iload_n C0.1 C0.2.1 dX0_flatHeaps_68 rfl (lv_at hl 2 rfl) ?_
        refine mm_callSi (As := [.int (zI (i)), .int (zI ((cn : Int)))]) C0 sw_X0_close tw_631 (c_X0_close l G _ ⟨by omega, by omega⟩ (by omega)) hM rfl hl.1 rfl (Nat.le_of_ble_eq_true rfl) ⟨rfl, rfl, Nat.le_of_ble_eq_true rfl, Nat.le_of_ble_eq_true rfl, Nat.zero_le _, Nat.zero_le _⟩ dX0_flatHeaps_69 hS (fun z_69 E1 H locs hp hM hS => ?_)
        obtain ⟨hz_69, hEq⟩ := hp
        rw [hEq] at hM
        refine z_asI (b := clo i cn) (hz_69) ?_
        exact mm_iret (z := clo i cn) C0 hr hlk hM hS dX0_flatHeaps_72 (⟨(Eq.trans hSC (by rw [show 3001 - n = 0 by omega]; exact scan_0 _ _ _ _ _)).symm, rfl⟩)
      · skip
        have hg := facN_ge (n := n) (c := (k : Int) - 5) hk (by omega) (by omega)
        have hfz := facN_z hg.1
        have hev := ev4 hk hn0
        have hF : facN n (k - 2) ((k : Int) - 5) ≤ 400000 := by have h9 : (n : Int) * ((k - 2 : Nat) : Int) ≤ 3000 * 97 := Int.mul_le_mul (by omega) (by omega) (by omega) (by omega); omega
        have hm1 : n * (n + 1) ≤ 3000 * 3001 := Nat.mul_le_mul (by omega) (by omega)
        have hm2 : n * (n + 1) * facN n (k - 2) ((k : Int) - 5) ≤ 3000 * 3001 * 400000 := Nat.mul_le_mul hm1 hF
        refine lv_lload C0.1 C0.2.1 dX0_flatHeaps_14 (lv_at hl 3 rfl) ?_
        refine lv_lload C0.1 C0.2.1 dX0_flatHeaps_16 (lv_at hl 3 rfl) ?_
        refine lv_lconst (v := zL 1) C0.1 C0.2.1 dX0_flatHeaps_18 rfl ?_
        refine z_ladd C0.1 C0.2.1 dX0_flatHeaps_19 ?_
        refine z_lmul C0.1 C0.2.1 dX0_flatHeaps_20 ?_
        refine z_asL (a := (((n : Int)) * ((((n : Int)) + (1))))) (b := ((n * (n + 1) : Nat) : Int)) (by simp only [Int.natCast_mul, Int.natCast_add]; rfl) ?_
        refine lv_lload_n C0.1 C0.2.1 dX0_flatHeaps_21 rfl (lv_at hl 0 rfl) ?_
        refine mm_ldc2 (z := 2) C0 tw_667 rfl dX0_flatHeaps_22 ?_
        refine z_lsub C0.1 C0.2.1 dX0_flatHeaps_25 ?_
        refine lv_lload C0.1 C0.2.1 dX0_flatHeaps_26 (lv_at hl 3 rfl) ?_
        refine z_lmul C0.1 C0.2.1 dX0_flatHeaps_28 ?_
        refine lv_lload_n C0.1 C0.2.1 dX0_flatHeaps_29 rfl (lv_at hl 0 rfl) ?_
        refine mm_ldc2 (z := 5) C0 tw_707 rfl dX0_flatHeaps_30 ?_
        refine z_lsub C0.1 C0.2.1 dX0_flatHeaps_33 ?_
        refine z_lsub C0.1 C0.2.1 dX0_flatHeaps_34 ?_
        refine z_asL (a := (((((((k : Int)) - (2))) * ((n : Int)))) - ((((k : Int)) - (5))))) (b := ((facN n (k - 2) ((k : Int) - 5) : Nat) : Int)) (by rw [hfz, show ((k - 2 : Nat) : Int) = (k : Int) - 2 by omega, Int.mul_comm]) ?_
        refine z_lmul C0.1 C0.2.1 dX0_flatHeaps_35 ?_
        refine z_asL (a := ((((n * (n + 1) : Nat) : Int)) * (((facN n (k - 2) ((k : Int) - 5) : Nat) : Int)))) (b := ((n * (n + 1) * facN n (k - 2) ((k : Int) - 5) : Nat) : Int)) ((Int.natCast_mul _ _).symm) ?_
        refine mm_ldc2 (z := 6) C0 tw_708 rfl dX0_flatHeaps_36 ?_
        refine z_ldivp C0.1 C0.2.1 dX0_flatHeaps_39 ⟨by omega, by omega⟩ ⟨by omega, by omega⟩ (by omega) (by omega) ?_
        refine z_asL (a := ((((n * (n + 1) * facN n (k - 2) ((k : Int) - 5) : Nat) : Int)) / (6))) (b := ((shp 4 k n : Nat) : Int)) (by omega) ?_
        refine mm_callSi (As := [.long (zL (((shp 4 k n : Nat) : Int)))]) C0 sw_X0_isSquare tw_630 (c_X0_isSquare l G _ (by omega) (by omega)) hM rfl hl.1 rfl (Nat.le_of_ble_eq_true rfl) ⟨rfl, rfl, Nat.le_of_ble_eq_true rfl, Nat.le_of_ble_eq_true rfl, Nat.zero_le _, Nat.zero_le _⟩ dX0_flatHeaps_40 hS (fun z_40 E2 H locs hp hM hS => ?_)
        obtain ⟨hz_40, hEq⟩ := hp
        rw [hEq] at hM
        have hz01 : z_40 = 0 ∨ z_40 = 1 := hz_40.elim (fun h => Or.inr h.1) (fun h => Or.inl h.1)
        refine z_if_eq (tgt := 58) C0.1 C0.2.1 dX0_flatHeaps_43 (by decide) ⟨by omega, by omega⟩ (fun c_43 => ?_) (fun c_43 => ?_)
        · skip
          have hs9 : ¬ sq ((shp 4 k n : Nat) : Int) := hz_40.elim (fun h => by omega) (fun h => h.2)
          refine lv_lload C0.1 C0.2.1 dX0_flatHeaps_58 (lv_at hl 3 rfl) ?_
          refine lv_lconst (v := zL 1) C0.1 C0.2.1 dX0_flatHeaps_60 rfl ?_
          refine z_ladd C0.1 C0.2.1 dX0_flatHeaps_61 ?_
          refine z_asL (a := (((n : Int)) + (1))) (b := ((n + 1 : Nat) : Int)) (by omega) ?_
          refine lv_lstore (lv' := [(4, .long (zL (((n + 1 : Nat) : Int)))), (0, .long (zL ((k : Int)))), (2, .int (zI (i))), (3, .int (zI ((cn : Int))))]) C0.1 C0.2.1 dX0_flatHeaps_62 hl (by decide) rfl (fun ls hl => ?_)
          refine lv_goto (tgt := 5) C0.1 C0.2.1 dX0_flatHeaps_64 (by decide) ?_
          exact ih5  (n + 1) cn _ _ _ (by omega) (by omega) (by omega) (Eq.trans hSC (scan_f (by omega) (bq_f hs9)))  (by omega) hM hS (lv_sub hl [1, 2, 3, 0] rfl)
        · skip
          have hs9 : sq ((shp 4 k n : Nat) : Int) := hz_40.elim (fun h => h.2) (fun h => by omega)
          refine lv_iload_n C0.1 C0.2.1 dX0_flatHeaps_46 rfl (lv_at hl 2 rfl) ?_
          refine lv_iload_n C0.1 C0.2.1 dX0_flatHeaps_47 rfl (lv_at hl 1 rfl) ?_
          refine z_icmp_ne (tgt := 55) C0.1 C0.2.1 dX0_flatHeaps_48 (by decide) ⟨by omega, by omega⟩ ⟨by omega, by omega⟩ (fun c_48 => ?_) (fun c_48 => ?_)
          · skip
            refine lv_iinc (v := zI (((cn + 1 : Nat) : Int))) (lv' := [(3, .int (zI (((cn + 1 : Nat) : Int)))), (0, .long (zL ((k : Int)))), (2, .int (zI (i))), (4, .long (zL ((n : Int))))]) C0.1 C0.2.1 dX0_flatHeaps_55 hl (k := 2) rfl (z_inc (a := (cn : Int)) (n := 1) (by omega)) (by decide) rfl (fun ls hl => ?_)
            refine lv_lload C0.1 C0.2.1 dX0_flatHeaps_58 (lv_at hl 3 rfl) ?_
            refine lv_lconst (v := zL 1) C0.1 C0.2.1 dX0_flatHeaps_60 rfl ?_
            refine z_ladd C0.1 C0.2.1 dX0_flatHeaps_61 ?_
            refine z_asL (a := (((n : Int)) + (1))) (b := ((n + 1 : Nat) : Int)) (by omega) ?_
            refine lv_lstore (lv' := [(4, .long (zL (((n + 1 : Nat) : Int)))), (3, .int (zI (((cn + 1 : Nat) : Int)))), (0, .long (zL ((k : Int)))), (2, .int (zI (i)))]) C0.1 C0.2.1 dX0_flatHeaps_62 hl (by decide) rfl (fun ls hl => ?_)
            refine lv_goto (tgt := 5) C0.1 C0.2.1 dX0_flatHeaps_64 (by decide) ?_
            exact ih5  (n + 1) (cn + 1) _ _ _ (by omega) (by omega) (by omega) (Eq.trans hSC (scan_t (by omega) (bq_t hs9) (by omega)))  (by omega) hM hS (lv_sub hl [2, 3, 1, 0] rfl)
          · skip
            refine lv_lload C0.1 C0.2.1 dX0_flatHeaps_51 (lv_at hl 3 rfl) ?_
            refine z_l2i C0.1 C0.2.1 dX0_flatHeaps_53 ?_
            exact mm_iret (z := (n : Int)) C0 hr hlk hM hS dX0_flatHeaps_54 (⟨(Eq.trans hSC (scan_hit (m := 3000 - n) (by omega) (bq_t hs9) (by omega))).symm, rfl⟩)
  exact L5 (_ + 1) 1 0 _ _ _ (by omega) (by omega) (by omega) (rfl)  (Nat.lt_succ_self _) hM hS (lv_sub hl [2, 3, 1, 0] rfl)

def rX0_strings : Room := { frames := 0, cells := 0, slots := 0, locals := 0 }
theorem sw_X0_strings : mm_Sw yX0_strings cX0_strings 9 (some .int) 1 := ⟨tw_722, tw_12, tw_723, by decide +kernel⟩
set_option maxHeartbeats 4000000 in
set_option maxRecDepth 100000 in
theorem c_X0_strings (l : Launch) (G : mG) (E0 : mE) {w : Nat} (hl0 : 1 ≤ w) (hl2 : w ≤ 100000) : mm_Ci l yX0_strings (.code yX0_strings cX0_strings 9 (some .int) :: wsG) rX0_strings G [.long (zL ((w : Int)))] E0 (fun z E => z = (cntB (stB w) ((w + 2) / 3) : Int) ∧ E = E0) := by
  refine mm_of_i (by decide +kernel) (Nat.le_of_ble_eq_true rfl) ?_
  intro p e s m args below meth c ls C0 hr hlk hM hl hS
  have hl : lv_has ls 9 [(0, .long (zL ((w : Int))))] := hl
  refine lv_iconst (v := zI 0) C0.1 C0.2.1 dX0_strings_0 rfl ?_
  refine lv_istore_n (lv' := [(2, .int (zI (0))), (0, .long (zL ((w : Int))))]) C0.1 C0.2.1 dX0_strings_1 rfl hl (by decide) rfl (fun ls hl => ?_)
  refine lv_lconst (v := zL 1) C0.1 C0.2.1 dX0_strings_2 rfl ?_
  refine lv_lstore_n (lv' := [(3, .long (zL (1))), (2, .int (zI (0))), (0, .long (zL ((w : Int))))]) C0.1 C0.2.1 dX0_strings_3 rfl hl (by decide) rfl (fun ls hl => ?_)
  have L4 : ∀ (k4 : Nat) (a : Nat) (H : Heap) (locs : List Loc) (ls : Array Slot), (0 < a) → (3 * a < w + 3) → w + 3 - a < k4 → mm_M G E0 H → va_S (mm_A G) s.heap H locs → lv_has ls 9 [(0, .long (zL ((w : Int)))), (2, .int (zI (((cntB (stB w) a : Nat) : Int)))), (3, .long (zL ((a : Int))))] → W p l e rX0_strings s m args below meth c H locs 0 0 (mm_Zi G below args s (fun z E => z = (cntB (stB w) ((w + 2) / 3) : Int) ∧ E = E0)) (F0 m 4 ls []) := by
    intro k4
    induction k4 with
    | zero => intro a H locs ls ha0 ha hk hM hS hl; exact absurd hk (Nat.not_lt_zero _)
    | succ k4 ih4 =>
      intro a H locs ls ha0 ha hk4 hM hS hl
      have hcl := cntB_le (stB w) a
      refine mm_ldc2 (z := 3) C0 tw_663 rfl dX0_strings_4 ?_
      refine lv_lload_n C0.1 C0.2.1 dX0_strings_7 rfl (lv_at hl 2 rfl) ?_
      refine z_lmul C0.1 C0.2.1 dX0_strings_8 ?_
      refine lv_lload_n C0.1 C0.2.1 dX0_strings_9 rfl (lv_at hl 0 rfl) ?_
      refine z_lcmp_ge (tgt := 64) C0.1 C0.2.1 dX0_strings_10 dX0_strings_11 (by decide) ⟨by omega, by omega⟩ ⟨by omega, by omega⟩ (fun c_10 => ?_) (fun c_10 => ?_)
      · skip
        refine lv_iload_n C0.1 C0.2.1 dX0_strings_64 rfl (lv_at hl 1 rfl) ?_
        exact mm_iret (z := ((cntB (stB w) a : Nat) : Int)) C0 hr hlk hM hS dX0_strings_65 (⟨by rw [show (w + 2) / 3 = a by omega], rfl⟩)
      · skip
        refine lv_lload_n C0.1 C0.2.1 dX0_strings_14 rfl (lv_at hl 0 rfl) ?_
        refine lv_lload_n C0.1 C0.2.1 dX0_strings_15 rfl (lv_at hl 0 rfl) ?_
        refine mm_ldc2 (z := 2) C0 tw_667 rfl dX0_strings_16 ?_
        refine lv_lload_n C0.1 C0.2.1 dX0_strings_19 rfl (lv_at hl 2 rfl) ?_
        refine z_lmul C0.1 C0.2.1 dX0_strings_20 ?_
        refine z_lsub C0.1 C0.2.1 dX0_strings_21 ?_
        have m0 : 0 ≤ (w : Int) * ((w : Int) - 2 * (a : Int)) := Int.mul_nonneg (by omega) (by omega)
        have m1 : (w : Int) * ((w : Int) - 2 * (a : Int)) ≤ 100000 * 100000 := Int.mul_le_mul (by omega) (by omega) (by omega) (by omega)
        have d0 : 0 ≤ (w : Int) * ((w : Int) - 2 * (a : Int)) / (2 * ((w : Int) - (a : Int))) := Int.ediv_nonneg m0 (by omega)
        have d1 : (w : Int) * ((w : Int) - 2 * (a : Int)) / (2 * ((w : Int) - (a : Int))) ≤ (w : Int) * ((w : Int) - 2 * (a : Int)) := Int.ediv_le_self _ m0
        have r0 := Int.emod_nonneg ((w : Int) * ((w : Int) - 2 * (a : Int))) (show (2 * ((w : Int) - (a : Int))) ≠ 0 by omega)
        have r1 := Int.emod_lt_of_pos ((w : Int) * ((w : Int) - 2 * (a : Int))) (show 0 < (2 * ((w : Int) - (a : Int))) by omega)
        refine z_lmul C0.1 C0.2.1 dX0_strings_22 ?_
        refine lv_lstore (lv' := [(5, .long (zL ((((w : Int)) * ((((w : Int)) - (((2) * ((a : Int)))))))))), (0, .long (zL ((w : Int)))), (2, .int (zI (((cntB (stB w) a : Nat) : Int)))), (3, .long (zL ((a : Int))))]) C0.1 C0.2.1 dX0_strings_23 hl (by decide) rfl (fun ls hl => ?_)
        refine mm_ldc2 (z := 2) C0 tw_667 rfl dX0_strings_25 ?_
        refine lv_lload_n C0.1 C0.2.1 dX0_strings_28 rfl (lv_at hl 1 rfl) ?_
        refine lv_lload_n C0.1 C0.2.1 dX0_strings_29 rfl (lv_at hl 3 rfl) ?_
        refine z_lsub C0.1 C0.2.1 dX0_strings_30 ?_
        refine z_lmul C0.1 C0.2.1 dX0_strings_31 ?_
        refine lv_lstore (lv' := [(7, .long (zL (((2) * ((((w : Int)) - ((a : Int)))))))), (5, .long (zL ((((w : Int)) * ((((w : Int)) - (((2) * ((a : Int)))))))))), (0, .long (zL ((w : Int)))), (2, .int (zI (((cntB (stB w) a : Nat) : Int)))), (3, .long (zL ((a : Int))))]) C0.1 C0.2.1 dX0_strings_32 hl (by decide) rfl (fun ls hl => ?_)
        refine lv_lload C0.1 C0.2.1 dX0_strings_34 (lv_at hl 1 rfl) ?_
        refine lv_lload C0.1 C0.2.1 dX0_strings_36 (lv_at hl 0 rfl) ?_
        refine z_lremp C0.1 C0.2.1 dX0_strings_38 ⟨by omega, by omega⟩ ⟨by omega, by omega⟩ (by omega) (by omega) ?_
        refine lv_lconst (v := zL 0) C0.1 C0.2.1 dX0_strings_39 rfl ?_
        refine z_lcmp_ne (tgt := 57) C0.1 C0.2.1 dX0_strings_40 dX0_strings_41 (by decide) ⟨by omega, by omega⟩ ⟨by omega, by omega⟩ (fun c_40 => ?_) (fun c_40 => ?_)
        · skip
          have hs9 : ¬ stB w a = true := fun q => by unfold stB at q; simp only [Bool.and_eq_true, beq_iff_eq, decide_eq_true_eq] at q; exact c_40 q.1.2
          refine lv_lload_n C0.1 C0.2.1 dX0_strings_57 rfl (lv_at hl 4 rfl) ?_
          refine lv_lconst (v := zL 1) C0.1 C0.2.1 dX0_strings_58 rfl ?_
          refine z_ladd C0.1 C0.2.1 dX0_strings_59 ?_
          refine z_asL (a := (((a : Int)) + (1))) (b := ((a + 1 : Nat) : Int)) (by omega) ?_
          refine lv_lstore_n (lv' := [(3, .long (zL (((a + 1 : Nat) : Int)))), (7, .long (zL (((2) * ((((w : Int)) - ((a : Int)))))))), (5, .long (zL ((((w : Int)) * ((((w : Int)) - (((2) * ((a : Int)))))))))), (0, .long (zL ((w : Int)))), (2, .int (zI (((cntB (stB w) a : Nat) : Int))))]) C0.1 C0.2.1 dX0_strings_60 rfl hl (by decide) rfl (fun ls hl => ?_)
          refine lv_goto (tgt := 4) C0.1 C0.2.1 dX0_strings_61 (by decide) ?_
          exact ih4  (a + 1) _ _ _ (by omega) (by omega)  (by omega) hM hS (by rw [cntB_s, if_neg hs9]; exact lv_sub hl [3, 4, 0] rfl)
        · skip
          refine lv_lload C0.1 C0.2.1 dX0_strings_44 (lv_at hl 1 rfl) ?_
          refine lv_lload C0.1 C0.2.1 dX0_strings_46 (lv_at hl 0 rfl) ?_
          refine z_ldivp C0.1 C0.2.1 dX0_strings_48 ⟨by omega, by omega⟩ ⟨by omega, by omega⟩ (by omega) (by omega) ?_
          refine lv_lload_n C0.1 C0.2.1 dX0_strings_49 rfl (lv_at hl 4 rfl) ?_
          refine z_lcmp_le (tgt := 57) C0.1 C0.2.1 dX0_strings_50 dX0_strings_51 (by decide) ⟨by omega, by omega⟩ ⟨by omega, by omega⟩ (fun c_50 => ?_) (fun c_50 => ?_)
          · skip
            have hs9 : ¬ stB w a = true := fun q => by unfold stB at q; simp only [Bool.and_eq_true, beq_iff_eq, decide_eq_true_eq] at q; omega
            refine lv_lload_n C0.1 C0.2.1 dX0_strings_57 rfl (lv_at hl 4 rfl) ?_
            refine lv_lconst (v := zL 1) C0.1 C0.2.1 dX0_strings_58 rfl ?_
            refine z_ladd C0.1 C0.2.1 dX0_strings_59 ?_
            refine z_asL (a := (((a : Int)) + (1))) (b := ((a + 1 : Nat) : Int)) (by omega) ?_
            refine lv_lstore_n (lv' := [(3, .long (zL (((a + 1 : Nat) : Int)))), (7, .long (zL (((2) * ((((w : Int)) - ((a : Int)))))))), (5, .long (zL ((((w : Int)) * ((((w : Int)) - (((2) * ((a : Int)))))))))), (0, .long (zL ((w : Int)))), (2, .int (zI (((cntB (stB w) a : Nat) : Int))))]) C0.1 C0.2.1 dX0_strings_60 rfl hl (by decide) rfl (fun ls hl => ?_)
            refine lv_goto (tgt := 4) C0.1 C0.2.1 dX0_strings_61 (by decide) ?_
            exact ih4  (a + 1) _ _ _ (by omega) (by omega)  (by omega) hM hS (by rw [cntB_s, if_neg hs9]; exact lv_sub hl [3, 4, 0] rfl)
          · skip
            have hs9 : stB w a = true := by unfold stB; simp only [Bool.and_eq_true, beq_iff_eq, decide_eq_true_eq]; exact ⟨⟨ha0, c_40⟩, c_50⟩
            refine lv_iinc (v := zI (((cntB (stB w) a + 1 : Nat) : Int))) (lv' := [(2, .int (zI (((cntB (stB w) a + 1 : Nat) : Int)))), (7, .long (zL (((2) * ((((w : Int)) - ((a : Int)))))))), (5, .long (zL ((((w : Int)) * ((((w : Int)) - (((2) * ((a : Int)))))))))), (0, .long (zL ((w : Int)))), (3, .long (zL ((a : Int))))]) C0.1 C0.2.1 dX0_strings_54 hl (k := 3) rfl (z_inc (a := ((cntB (stB w) a : Nat) : Int)) (n := 1) (by omega)) (by decide) rfl (fun ls hl => ?_)
            refine lv_lload_n C0.1 C0.2.1 dX0_strings_57 rfl (lv_at hl 4 rfl) ?_
            refine lv_lconst (v := zL 1) C0.1 C0.2.1 dX0_strings_58 rfl ?_
            refine z_ladd C0.1 C0.2.1 dX0_strings_59 ?_
            refine z_asL (a := (((a : Int)) + (1))) (b := ((a + 1 : Nat) : Int)) (by omega) ?_
            refine lv_lstore_n (lv' := [(3, .long (zL (((a + 1 : Nat) : Int)))), (2, .int (zI (((cntB (stB w) a + 1 : Nat) : Int)))), (7, .long (zL (((2) * ((((w : Int)) - ((a : Int)))))))), (5, .long (zL ((((w : Int)) * ((((w : Int)) - (((2) * ((a : Int)))))))))), (0, .long (zL ((w : Int))))]) C0.1 C0.2.1 dX0_strings_60 rfl hl (by decide) rfl (fun ls hl => ?_)
            refine lv_goto (tgt := 4) C0.1 C0.2.1 dX0_strings_61 (by decide) ?_
            exact ih4  (a + 1) _ _ _ (by omega) (by omega)  (by omega) hM hS (by rw [cntB_s, if_pos hs9]; exact lv_sub hl [4, 1, 0] rfl)
  exact L4 (_ + 1) 1 _ _ _ (by omega) (by omega)  (Nat.lt_succ_self _) hM hS (lv_sub hl [2, 1, 0] rfl)
