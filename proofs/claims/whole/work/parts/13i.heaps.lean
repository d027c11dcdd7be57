def pf_best (S : mST) (a b m q : Int) : Int × mST := if (0 ≤ a ∧ a ≤ 999999) ∧ (1 ≤ b ∧ b ≤ 999999) ∧ (1 ≤ m ∧ m ≤ 999) ∧ (0 ≤ q ∧ q ≤ 1) then (if q = 0 then (ball a b m.toNat).1 else (ball a b m.toNat).2.1, S) else (-1, S)
noncomputable def pf_two (S : mST) (n i : Int) : Int × mST := if (0 ≤ n ∧ n ≤ 1000000000) ∧ -1 ≤ i then (scan (psB sqf n.toNat) (fun y => (y : Int)) i 0 0 40000, S) else (-1, S)
noncomputable def pf_three (S : mST) (n i : Int) : Int × mST := if (0 ≤ n ∧ n ≤ 1000000) ∧ 0 ≤ i ∧ i ≤ 2 then (fn3 n.toNat i, S) else (-1, S)
noncomputable def pf_four (S : mST) (n i : Int) : Int × mST := if (0 ≤ n ∧ n ≤ 1000000) ∧ 0 ≤ i ∧ i ≤ 3 then (fn4 n.toNat i, S) else (-1, S)
noncomputable def pf_fewest (S : mST) (n : Int) : Int × mST := if 0 ≤ n ∧ n ≤ 1000000000 then (fwR n.toNat, S) else (-1, S)
def pf_wall (S : mST) (n i : Int) : Int × mST := if (1 ≤ n ∧ n ≤ 999) ∧ -1 ≤ i then (scan (wlB (8 * n.toNat * n.toNat)) (fun u => ((u + 4 * n.toNat : Nat) : Int)) i 1 0 3000, S) else (-1, S)
noncomputable def pf_flat (S : mST) (n i : Int) : Int × mST := if (3 ≤ n ∧ n ≤ 99) ∧ -1 ≤ i then (scan (fun g => bq (sq ((shp 4 n.toNat g : Nat) : Int))) (fun g => (g : Int)) i 1 0 3000, S) else (-1, S)
noncomputable def pf_corners (S : mST) (n i : Int) : Int × mST := if (1 ≤ n ∧ n ≤ 500) ∧ -1 ≤ i then (scan rcB rcV i 501 0 (501 * n.toNat), S) else (-1, S)
def pf_string (S : mST) (n : Int) : Int × mST := if 1 ≤ n ∧ n ≤ 100000 then ((cntB (stB n.toNat) ((n.toNat + 2) / 3) : Int), S) else (-1, S)
def rX9_best : Room := { frames := 2, cells := 0, slots := 0, locals := 62 }
theorem vw_X9_best : mm_Vw RX9 yX9_best cX9_best 5 (some .int) 4 := ⟨tw_635, tw_636, tw_1, tw_637, by decide +kernel⟩
set_option maxHeartbeats 4000000 in
set_option maxRecDepth 100000 in
theorem c_X9_best (l : Launch) (G : mG) (E0 : mE) {h : Nat} {S : mST} (hS9 : st G E0 h S) {a b n q : Int} (hr_a : rI a) (hr_b : rI b) (hr_n : rI n) (hr_q : rI q) : mm_Ci l yX9_best (.code yX9_best cX9_best 5 (some .int) :: wsG) rX9_best G [.ref (h), .int (zI (a)), .int (zI (b)), .int (zI (n)), .int (zI (q))] E0 (fun z E => z = (pf_best S a b n q).1 ∧ st G E h (pf_best S a b n q).2 ∧ ∀ q : Nat, (q < h ∨ h + 106 ≤ q) → E q = E0 q) := by
  refine mm_of_i (by decide +kernel) (Nat.le_of_ble_eq_true rfl) ?_
  intro p e s m args below meth c ls C0 hr hlk hM hl hS
  have hl : lv_has ls 5 [(0, .ref (h)), (1, .int (zI (a))), (2, .int (zI (b))), (3, .int (zI (n))), (4, .int (zI (q)))] := hl
  obtain ⟨hr_a1, hr_a2⟩ := hr_a
  obtain ⟨hr_b1, hr_b2⟩ := hr_b
  obtain ⟨hr_n1, hr_n2⟩ := hr_n
  obtain ⟨hr_q1, hr_q2⟩ := hr_q
  have hSo := hS9
  refine lv_iload_n C0.1 C0.2.1 dX9_best_0 rfl (lv_at hl 1 rfl) ?_
  refine z_if_lt (tgt := 21) C0.1 C0.2.1 dX9_best_1 (by decide) ⟨by omega, by omega⟩ (fun c_1 => ?_) (fun c_1 => ?_)
  · skip
    refine lv_iconst (v := zI (-1)) C0.1 C0.2.1 dX9_best_21 rfl ?_
    exact mm_iret (z := (-1)) C0 hr hlk hM hS dX9_best_22 (by have he : pf_best S a b n q = ((-1), S) := (by unfold pf_best; rw [if_neg (by omega)]); rw [he]; exact ⟨rfl, hSo, (fun _ _ => rfl)⟩)
  · skip
    refine lv_iload_n C0.1 C0.2.1 dX9_best_4 rfl (lv_at hl 1 rfl) ?_
    refine mm_ldc (z := 999999) C0 tw_638 rfl dX9_best_5 ?_
    refine z_icmp_gt (tgt := 21) C0.1 C0.2.1 dX9_best_7 (by decide) ⟨by omega, by omega⟩ ⟨by omega, by omega⟩ (fun c_7 => ?_) (fun c_7 => ?_)
    · skip
      refine lv_iconst (v := zI (-1)) C0.1 C0.2.1 dX9_best_21 rfl ?_
      exact mm_iret (z := (-1)) C0 hr hlk hM hS dX9_best_22 (by have he : pf_best S a b n q = ((-1), S) := (by unfold pf_best; rw [if_neg (by omega)]); rw [he]; exact ⟨rfl, hSo, (fun _ _ => rfl)⟩)
    · skip
      refine lv_iload_n C0.1 C0.2.1 dX9_best_10 rfl (lv_at hl 2 rfl) ?_
      refine lv_iconst (v := zI 1) C0.1 C0.2.1 dX9_best_11 rfl ?_
      refine z_icmp_lt (tgt := 21) C0.1 C0.2.1 dX9_best_12 (by decide) ⟨by omega, by omega⟩ ⟨by omega, by omega⟩ (fun c_12 => ?_) (fun c_12 => ?_)
      · skip
        refine lv_iconst (v := zI (-1)) C0.1 C0.2.1 dX9_best_21 rfl ?_
        exact mm_iret (z := (-1)) C0 hr hlk hM hS dX9_best_22 (by have he : pf_best S a b n q = ((-1), S) := (by unfold pf_best; rw [if_neg (by omega)]); rw [he]; exact ⟨rfl, hSo, (fun _ _ => rfl)⟩)
      · skip
        refine lv_iload_n C0.1 C0.2.1 dX9_best_15 rfl (lv_at hl 2 rfl) ?_
        refine mm_ldc (z := 999999) C0 tw_638 rfl dX9_best_16 ?_
        refine z_icmp_le (tgt := 23) C0.1 C0.2.1 dX9_best_18 (by decide) ⟨by omega, by omega⟩ ⟨by omega, by omega⟩ (fun c_18 => ?_) (fun c_18 => ?_)
        · skip
          refine lv_iload_n C0.1 C0.2.1 dX9_best_23 rfl (lv_at hl 3 rfl) ?_
          refine lv_iconst (v := zI 1) C0.1 C0.2.1 dX9_best_24 rfl ?_
          refine z_icmp_lt (tgt := 46) C0.1 C0.2.1 dX9_best_25 (by decide) ⟨by omega, by omega⟩ ⟨by omega, by omega⟩ (fun c_25 => ?_) (fun c_25 => ?_)
          · skip
            refine lv_iconst (v := zI (-1)) C0.1 C0.2.1 dX9_best_46 rfl ?_
            exact mm_iret (z := (-1)) C0 hr hlk hM hS dX9_best_47 (by have he : pf_best S a b n q = ((-1), S) := (by unfold pf_best; rw [if_neg (by omega)]); rw [he]; exact ⟨rfl, hSo, (fun _ _ => rfl)⟩)
          · skip
            refine lv_iload_n C0.1 C0.2.1 dX9_best_28 rfl (lv_at hl 3 rfl) ?_
            refine lv_sipush (v := zI 999) C0.1 C0.2.1 dX9_best_29 rfl ?_
            refine z_icmp_gt (tgt := 46) C0.1 C0.2.1 dX9_best_32 (by decide) ⟨by omega, by omega⟩ ⟨by omega, by omega⟩ (fun c_32 => ?_) (fun c_32 => ?_)
            · skip
              refine lv_iconst (v := zI (-1)) C0.1 C0.2.1 dX9_best_46 rfl ?_
              exact mm_iret (z := (-1)) C0 hr hlk hM hS dX9_best_47 (by have he : pf_best S a b n q = ((-1), S) := (by unfold pf_best; rw [if_neg (by omega)]); rw [he]; exact ⟨rfl, hSo, (fun _ _ => rfl)⟩)
            · skip
              refine lv_iload C0.1 C0.2.1 dX9_best_35 (lv_at hl 4 rfl) ?_
              refine z_if_lt (tgt := 46) C0.1 C0.2.1 dX9_best_37 (by decide) ⟨by omega, by omega⟩ (fun c_37 => ?_) (fun c_37 => ?_)
              · skip
                refine lv_iconst (v := zI (-1)) C0.1 C0.2.1 dX9_best_46 rfl ?_
                exact mm_iret (z := (-1)) C0 hr hlk hM hS dX9_best_47 (by have he : pf_best S a b n q = ((-1), S) := (by unfold pf_best; rw [if_neg (by omega)]); rw [he]; exact ⟨rfl, hSo, (fun _ _ => rfl)⟩)
              · skip
                refine lv_iload C0.1 C0.2.1 dX9_best_40 (lv_at hl 4 rfl) ?_
                refine lv_iconst (v := zI 1) C0.1 C0.2.1 dX9_best_42 rfl ?_
                refine z_icmp_le (tgt := 48) C0.1 C0.2.1 dX9_best_43 (by decide) ⟨by omega, by omega⟩ ⟨by omega, by omega⟩ (fun c_43 => ?_) (fun c_43 => ?_)
                · skip
                  refine lv_iload_n C0.1 C0.2.1 dX9_best_48 rfl (lv_at hl 1 rfl) ?_
                  refine z_i2l C0.1 C0.2.1 dX9_best_49 ⟨by omega, by omega⟩ ?_
                  refine lv_iload_n C0.1 C0.2.1 dX9_best_50 rfl (lv_at hl 2 rfl) ?_
                  refine z_i2l C0.1 C0.2.1 dX9_best_51 ⟨by omega, by omega⟩ ?_
                  refine lv_iload_n C0.1 C0.2.1 dX9_best_52 rfl (lv_at hl 3 rfl) ?_
                  refine z_asI (a := n) (b := (n.toNat : Int)) (by omega) ?_
                  refine lv_iload C0.1 C0.2.1 dX9_best_53 (lv_at hl 4 rfl) ?_
                  refine mm_callSi (As := [.long (zL (a)), .long (zL (b)), .int (zI ((n.toNat : Int))), .int (zI (q))]) C0 sw_X0_bestPart tw_639 (c_X0_bestPart l G _ (by omega) (by omega) (by omega) (by omega) (by omega) (by omega) (by omega)) hM rfl hl.1 rfl (Nat.le_of_ble_eq_true rfl) ⟨rfl, rfl, Nat.le_of_ble_eq_true rfl, Nat.le_of_ble_eq_true rfl, Nat.zero_le _, Nat.zero_le _⟩ dX9_best_55 hS (fun z_55 E1 H locs hp hM hS => ?_)
                  obtain ⟨hz_55, hEq⟩ := hp
                  rw [hEq] at hM
                  refine z_asI (b := (if q = 0 then (ball a b n.toNat).1 else (ball a b n.toNat).2.1)) (hz_55) ?_
                  exact mm_iret (z := (if q = 0 then (ball a b n.toNat).1 else (ball a b n.toNat).2.1)) C0 hr hlk hM hS dX9_best_58 (by have he : pf_best S a b n q = ((if q = 0 then (ball a b n.toNat).1 else (ball a b n.toNat).2.1), S) := (by unfold pf_best; rw [if_pos (by omega)]); rw [he]; exact ⟨rfl, hSo, fun _ _ => rfl⟩)
                · skip
                  refine lv_iconst (v := zI (-1)) C0.1 C0.2.1 dX9_best_46 rfl ?_
                  exact mm_iret (z := (-1)) C0 hr hlk hM hS dX9_best_47 (by have he : pf_best S a b n q = ((-1), S) := (by unfold pf_best; rw [if_neg (by omega)]); rw [he]; exact ⟨rfl, hSo, (fun _ _ => rfl)⟩)
        · skip
          refine lv_iconst (v := zI (-1)) C0.1 C0.2.1 dX9_best_21 rfl ?_
          exact mm_iret (z := (-1)) C0 hr hlk hM hS dX9_best_22 (by have he : pf_best S a b n q = ((-1), S) := (by unfold pf_best; rw [if_neg (by omega)]); rw [he]; exact ⟨rfl, hSo, (fun _ _ => rfl)⟩)

def rX9_two : Room := { frames := 2, cells := 0, slots := 0, locals := 56 }
theorem vw_X9_two : mm_Vw RX9 yX9_two cX9_two 3 (some .int) 2 := ⟨tw_646, tw_647, tw_1, tw_648, by decide +kernel⟩
set_option maxHeartbeats 4000000 in
set_option maxRecDepth 100000 in
theorem c_X9_two (l : Launch) (G : mG) (E0 : mE) {h : Nat} {S : mST} (hS9 : st G E0 h S) {n i : Int} (hr_n : rI n) (hr_i : rI i) : mm_Ci l yX9_two (.code yX9_two cX9_two 3 (some .int) :: wsG) rX9_two G [.ref (h), .int (zI (n)), .int (zI (i))] E0 (fun z E => z = (pf_two S n i).1 ∧ st G E h (pf_two S n i).2 ∧ ∀ q : Nat, (q < h ∨ h + 106 ≤ q) → E q = E0 q) := by
  refine mm_of_i (by decide +kernel) (Nat.le_of_ble_eq_true rfl) ?_
  intro p e s m args below meth c ls C0 hr hlk hM hl hS
  have hl : lv_has ls 3 [(0, .ref (h)), (1, .int (zI (n))), (2, .int (zI (i)))] := hl
  obtain ⟨hr_n1, hr_n2⟩ := hr_n
  obtain ⟨hr_i1, hr_i2⟩ := hr_i
  have hSo := hS9
  refine lv_iload_n C0.1 C0.2.1 dX9_two_0 rfl (lv_at hl 1 rfl) ?_
  refine z_if_lt (tgt := 15) C0.1 C0.2.1 dX9_two_1 (by decide) ⟨by omega, by omega⟩ (fun c_1 => ?_) (fun c_1 => ?_)
  · skip
    refine lv_iconst (v := zI (-1)) C0.1 C0.2.1 dX9_two_15 rfl ?_
    exact mm_iret (z := (-1)) C0 hr hlk hM hS dX9_two_16 (by have he : pf_two S n i = ((-1), S) := (by unfold pf_two; rw [if_neg (by omega)]); rw [he]; exact ⟨rfl, hSo, (fun _ _ => rfl)⟩)
  · skip
    refine lv_iload_n C0.1 C0.2.1 dX9_two_4 rfl (lv_at hl 1 rfl) ?_
    refine mm_ldc (z := 1000000000) C0 tw_649 rfl dX9_two_5 ?_
    refine z_icmp_gt (tgt := 15) C0.1 C0.2.1 dX9_two_7 (by decide) ⟨by omega, by omega⟩ ⟨by omega, by omega⟩ (fun c_7 => ?_) (fun c_7 => ?_)
    · skip
      refine lv_iconst (v := zI (-1)) C0.1 C0.2.1 dX9_two_15 rfl ?_
      exact mm_iret (z := (-1)) C0 hr hlk hM hS dX9_two_16 (by have he : pf_two S n i = ((-1), S) := (by unfold pf_two; rw [if_neg (by omega)]); rw [he]; exact ⟨rfl, hSo, (fun _ _ => rfl)⟩)
    · skip
      refine lv_iload_n C0.1 C0.2.1 dX9_two_10 rfl (lv_at hl 2 rfl) ?_
      refine lv_iconst (v := zI (-1)) C0.1 C0.2.1 dX9_two_11 rfl ?_
      refine z_icmp_ge (tgt := 17) C0.1 C0.2.1 dX9_two_12 (by decide) ⟨by omega, by omega⟩ ⟨by omega, by omega⟩ (fun c_12 => ?_) (fun c_12 => ?_)
      · skip
        refine lv_iload_n C0.1 C0.2.1 dX9_two_17 rfl (lv_at hl 1 rfl) ?_
        refine z_i2l C0.1 C0.2.1 dX9_two_18 ⟨by omega, by omega⟩ ?_
        refine z_asL (a := n) (b := (n.toNat : Int)) (by omega) ?_
        refine lv_iload_n C0.1 C0.2.1 dX9_two_19 rfl (lv_at hl 2 rfl) ?_
        refine mm_callSi (As := [.long (zL ((n.toNat : Int))), .int (zI (i))]) C0 sw_X0_squarePairs tw_650 (c_X0_squarePairs l G _ (by omega) ⟨by omega, by omega⟩) hM rfl hl.1 rfl (Nat.le_of_ble_eq_true rfl) ⟨rfl, rfl, Nat.le_of_ble_eq_true rfl, Nat.le_of_ble_eq_true rfl, Nat.zero_le _, Nat.zero_le _⟩ dX9_two_20 hS (fun z_20 E1 H locs hp hM hS => ?_)
        obtain ⟨hz_20, hEq⟩ := hp
        rw [hEq] at hM
        refine z_asI (b := (scan (psB sqf n.toNat) (fun y => (y : Int)) i 0 0 40000)) (hz_20) ?_
        exact mm_iret (z := (scan (psB sqf n.toNat) (fun y => (y : Int)) i 0 0 40000)) C0 hr hlk hM hS dX9_two_23 (by have he : pf_two S n i = ((scan (psB sqf n.toNat) (fun y => (y : Int)) i 0 0 40000), S) := (by unfold pf_two; rw [if_pos (by omega)]); rw [he]; exact ⟨rfl, hSo, fun _ _ => rfl⟩)
      · skip
        refine lv_iconst (v := zI (-1)) C0.1 C0.2.1 dX9_two_15 rfl ?_
        exact mm_iret (z := (-1)) C0 hr hlk hM hS dX9_two_16 (by have he : pf_two S n i = ((-1), S) := (by unfold pf_two; rw [if_neg (by omega)]); rw [he]; exact ⟨rfl, hSo, (fun _ _ => rfl)⟩)

def rX9_three : Room := { frames := 2, cells := 0, slots := 0, locals := 59 }
theorem vw_X9_three : mm_Vw RX9 yX9_three cX9_three 3 (some .int) 2 := ⟨tw_655, tw_656, tw_1, tw_657, by decide +kernel⟩
set_option maxHeartbeats 4000000 in
set_option maxRecDepth 100000 in
theorem c_X9_three (l : Launch) (G : mG) (E0 : mE) {h : Nat} {S : mST} (hS9 : st G E0 h S) {n i : Int} (hr_n : rI n) (hr_i : rI i) : mm_Ci l yX9_three (.code yX9_three cX9_three 3 (some .int) :: wsG) rX9_three G [.ref (h), .int (zI (n)), .int (zI (i))] E0 (fun z E => z = (pf_three S n i).1 ∧ st G E h (pf_three S n i).2 ∧ ∀ q : Nat, (q < h ∨ h + 106 ≤ q) → E q = E0 q) := by
  refine mm_of_i (by decide +kernel) (Nat.le_of_ble_eq_true rfl) ?_
  intro p e s m args below meth c ls C0 hr hlk hM hl hS
  have hl : lv_has ls 3 [(0, .ref (h)), (1, .int (zI (n))), (2, .int (zI (i)))] := hl
  obtain ⟨hr_n1, hr_n2⟩ := hr_n
  obtain ⟨hr_i1, hr_i2⟩ := hr_i
  have hSo := hS9
  refine lv_iload_n C0.1 C0.2.1 dX9_three_0 rfl (lv_at hl 1 rfl) ?_
  refine z_if_lt (tgt := 19) C0.1 C0.2.1 dX9_three_1 (by decide) ⟨by omega, by omega⟩ (fun c_1 => ?_) (fun c_1 => ?_)
  · skip
    refine lv_iconst (v := zI (-1)) C0.1 C0.2.1 dX9_three_19 rfl ?_
    exact mm_iret (z := (-1)) C0 hr hlk hM hS dX9_three_20 (by have he : pf_three S n i = ((-1), S) := (by unfold pf_three; rw [if_neg (by omega)]); rw [he]; exact ⟨rfl, hSo, (fun _ _ => rfl)⟩)
  · skip
    refine lv_iload_n C0.1 C0.2.1 dX9_three_4 rfl (lv_at hl 1 rfl) ?_
    refine mm_ldc (z := 1000000) C0 tw_658 rfl dX9_three_5 ?_
    refine z_icmp_gt (tgt := 19) C0.1 C0.2.1 dX9_three_7 (by decide) ⟨by omega, by omega⟩ ⟨by omega, by omega⟩ (fun c_7 => ?_) (fun c_7 => ?_)
    · skip
      refine lv_iconst (v := zI (-1)) C0.1 C0.2.1 dX9_three_19 rfl ?_
      exact mm_iret (z := (-1)) C0 hr hlk hM hS dX9_three_20 (by have he : pf_three S n i = ((-1), S) := (by unfold pf_three; rw [if_neg (by omega)]); rw [he]; exact ⟨rfl, hSo, (fun _ _ => rfl)⟩)
    · skip
      refine lv_iload_n C0.1 C0.2.1 dX9_three_10 rfl (lv_at hl 2 rfl) ?_
      refine z_if_lt (tgt := 19) C0.1 C0.2.1 dX9_three_11 (by decide) ⟨by omega, by omega⟩ (fun c_11 => ?_) (fun c_11 => ?_)
      · skip
        refine lv_iconst (v := zI (-1)) C0.1 C0.2.1 dX9_three_19 rfl ?_
        exact mm_iret (z := (-1)) C0 hr hlk hM hS dX9_three_20 (by have he : pf_three S n i = ((-1), S) := (by unfold pf_three; rw [if_neg (by omega)]); rw [he]; exact ⟨rfl, hSo, (fun _ _ => rfl)⟩)
      · skip
        refine lv_iload_n C0.1 C0.2.1 dX9_three_14 rfl (lv_at hl 2 rfl) ?_
        refine lv_iconst (v := zI 2) C0.1 C0.2.1 dX9_three_15 rfl ?_
        refine z_icmp_le (tgt := 21) C0.1 C0.2.1 dX9_three_16 (by decide) ⟨by omega, by omega⟩ ⟨by omega, by omega⟩ (fun c_16 => ?_) (fun c_16 => ?_)
        · skip
          refine lv_iload_n C0.1 C0.2.1 dX9_three_21 rfl (lv_at hl 1 rfl) ?_
          refine z_i2l C0.1 C0.2.1 dX9_three_22 ⟨by omega, by omega⟩ ?_
          refine z_asL (a := n) (b := (n.toNat : Int)) (by omega) ?_
          refine lv_iload_n C0.1 C0.2.1 dX9_three_23 rfl (lv_at hl 2 rfl) ?_
          refine mm_callSi (As := [.long (zL ((n.toNat : Int))), .int (zI (i))]) C0 sw_X0_threeTriangles tw_659 (c_X0_threeTriangles l G _ (by omega) (by omega) (by omega)) hM rfl hl.1 rfl (Nat.le_of_ble_eq_true rfl) ⟨rfl, rfl, Nat.le_of_ble_eq_true rfl, Nat.le_of_ble_eq_true rfl, Nat.zero_le _, Nat.zero_le _⟩ dX9_three_24 hS (fun z_24 E1 H locs hp hM hS => ?_)
          obtain ⟨hz_24, hEq⟩ := hp
          rw [hEq] at hM
          refine z_asI (b := (fn3 n.toNat i)) (fn3_e hz_24).symm ?_
          exact mm_iret (z := (fn3 n.toNat i)) C0 hr hlk hM hS dX9_three_27 (by have he : pf_three S n i = ((fn3 n.toNat i), S) := (by unfold pf_three; rw [if_pos (by omega)]); rw [he]; exact ⟨rfl, hSo, fun _ _ => rfl⟩)
        · skip
          refine lv_iconst (v := zI (-1)) C0.1 C0.2.1 dX9_three_19 rfl ?_
          exact mm_iret (z := (-1)) C0 hr hlk hM hS dX9_three_20 (by have he : pf_three S n i = ((-1), S) := (by unfold pf_three; rw [if_neg (by omega)]); rw [he]; exact ⟨rfl, hSo, (fun _ _ => rfl)⟩)

def rX9_four : Room := { frames := 3, cells := 0, slots := 0, locals := 88 }
theorem vw_X9_four : mm_Vw RX9 yX9_four cX9_four 3 (some .int) 2 := ⟨tw_669, tw_670, tw_1, tw_671, by decide +kernel⟩
set_option maxHeartbeats 4000000 in
set_option maxRecDepth 100000 in
theorem c_X9_four (l : Launch) (G : mG) (E0 : mE) {h : Nat} {S : mST} (hS9 : st G E0 h S) {n i : Int} (hr_n : rI n) (hr_i : rI i) : mm_Ci l yX9_four (.code yX9_four cX9_four 3 (some .int) :: wsG) rX9_four G [.ref (h), .int (zI (n)), .int (zI (i))] E0 (fun z E => z = (pf_four S n i).1 ∧ st G E h (pf_four S n i).2 ∧ ∀ q : Nat, (q < h ∨ h + 106 ≤ q) → E q = E0 q) := by
  refine mm_of_i (by decide +kernel) (Nat.le_of_ble_eq_true rfl) ?_
  intro p e s m args below meth c ls C0 hr hlk hM hl hS
  have hl : lv_has ls 3 [(0, .ref (h)), (1, .int (zI (n))), (2, .int (zI (i)))] := hl
  obtain ⟨hr_n1, hr_n2⟩ := hr_n
  obtain ⟨hr_i1, hr_i2⟩ := hr_i
  have hSo := hS9
  refine lv_iload_n C0.1 C0.2.1 dX9_four_0 rfl (lv_at hl 1 rfl) ?_
  refine z_if_lt (tgt := 19) C0.1 C0.2.1 dX9_four_1 (by decide) ⟨by omega, by omega⟩ (fun c_1 => ?_) (fun c_1 => ?_)
  · skip
    refine lv_iconst (v := zI (-1)) C0.1 C0.2.1 dX9_four_19 rfl ?_
    exact mm_iret (z := (-1)) C0 hr hlk hM hS dX9_four_20 (by have he : pf_four S n i = ((-1), S) := (by unfold pf_four; rw [if_neg (by omega)]); rw [he]; exact ⟨rfl, hSo, (fun _ _ => rfl)⟩)
  · skip
    refine lv_iload_n C0.1 C0.2.1 dX9_four_4 rfl (lv_at hl 1 rfl) ?_
    refine mm_ldc (z := 1000000) C0 tw_658 rfl dX9_four_5 ?_
    refine z_icmp_gt (tgt := 19) C0.1 C0.2.1 dX9_four_7 (by decide) ⟨by omega, by omega⟩ ⟨by omega, by omega⟩ (fun c_7 => ?_) (fun c_7 => ?_)
    · skip
      refine lv_iconst (v := zI (-1)) C0.1 C0.2.1 dX9_four_19 rfl ?_
      exact mm_iret (z := (-1)) C0 hr hlk hM hS dX9_four_20 (by have he : pf_four S n i = ((-1), S) := (by unfold pf_four; rw [if_neg (by omega)]); rw [he]; exact ⟨rfl, hSo, (fun _ _ => rfl)⟩)
    · skip
      refine lv_iload_n C0.1 C0.2.1 dX9_four_10 rfl (lv_at hl 2 rfl) ?_
      refine z_if_lt (tgt := 19) C0.1 C0.2.1 dX9_four_11 (by decide) ⟨by omega, by omega⟩ (fun c_11 => ?_) (fun c_11 => ?_)
      · skip
        refine lv_iconst (v := zI (-1)) C0.1 C0.2.1 dX9_four_19 rfl ?_
        exact mm_iret (z := (-1)) C0 hr hlk hM hS dX9_four_20 (by have he : pf_four S n i = ((-1), S) := (by unfold pf_four; rw [if_neg (by omega)]); rw [he]; exact ⟨rfl, hSo, (fun _ _ => rfl)⟩)
      · skip
        refine lv_iload_n C0.1 C0.2.1 dX9_four_14 rfl (lv_at hl 2 rfl) ?_
        refine lv_iconst (v := zI 3) C0.1 C0.2.1 dX9_four_15 rfl ?_
        refine z_icmp_le (tgt := 21) C0.1 C0.2.1 dX9_four_16 (by decide) ⟨by omega, by omega⟩ ⟨by omega, by omega⟩ (fun c_16 => ?_) (fun c_16 => ?_)
        · skip
          refine lv_iload_n C0.1 C0.2.1 dX9_four_21 rfl (lv_at hl 1 rfl) ?_
          refine z_i2l C0.1 C0.2.1 dX9_four_22 ⟨by omega, by omega⟩ ?_
          refine z_asL (a := n) (b := (n.toNat : Int)) (by omega) ?_
          refine lv_iload_n C0.1 C0.2.1 dX9_four_23 rfl (lv_at hl 2 rfl) ?_
          refine mm_callSi (As := [.long (zL ((n.toNat : Int))), .int (zI (i))]) C0 sw_X0_fourSquares tw_672 (c_X0_fourSquares l G _ (by omega) (by omega) (by omega)) hM rfl hl.1 rfl (Nat.le_of_ble_eq_true rfl) ⟨rfl, rfl, Nat.le_of_ble_eq_true rfl, Nat.le_of_ble_eq_true rfl, Nat.zero_le _, Nat.zero_le _⟩ dX9_four_24 hS (fun z_24 E1 H locs hp hM hS => ?_)
          obtain ⟨hz_24, hEq⟩ := hp
          rw [hEq] at hM
          refine z_asI (b := (fn4 n.toNat i)) (fn4_e hz_24).symm ?_
          exact mm_iret (z := (fn4 n.toNat i)) C0 hr hlk hM hS dX9_four_27 (by have he : pf_four S n i = ((fn4 n.toNat i), S) := (by unfold pf_four; rw [if_pos (by omega)]); rw [he]; exact ⟨rfl, hSo, fun _ _ => rfl⟩)
        · skip
          refine lv_iconst (v := zI (-1)) C0.1 C0.2.1 dX9_four_19 rfl ?_
          exact mm_iret (z := (-1)) C0 hr hlk hM hS dX9_four_20 (by have he : pf_four S n i = ((-1), S) := (by unfold pf_four; rw [if_neg (by omega)]); rw [he]; exact ⟨rfl, hSo, (fun _ _ => rfl)⟩)

def rX9_fewest : Room := { frames := 3, cells := 0, slots := 0, locals := 77 }
theorem vw_X9_fewest : mm_Vw RX9 yX9_fewest cX9_fewest 2 (some .int) 1 := ⟨tw_686, tw_687, tw_1, tw_688, by decide +kernel⟩
set_option maxHeartbeats 4000000 in
set_option maxRecDepth 100000 in
theorem c_X9_fewest (l : Launch) (G : mG) (E0 : mE) {h : Nat} {S : mST} (hS9 : st G E0 h S) {n : Int} (hr_n : rI n) : mm_Ci l yX9_fewest (.code yX9_fewest cX9_fewest 2 (some .int) :: wsG) rX9_fewest G [.ref (h), .int (zI (n))] E0 (fun z E => z = (pf_fewest S n).1 ∧ st G E h (pf_fewest S n).2 ∧ ∀ q : Nat, (q < h ∨ h + 106 ≤ q) → E q = E0 q) := by
  refine mm_of_i (by decide +kernel) (Nat.le_of_ble_eq_true rfl) ?_
  intro p e s m args below meth c ls C0 hr hlk hM hl hS
  have hl : lv_has ls 2 [(0, .ref (h)), (1, .int (zI (n)))] := hl
  obtain ⟨hr_n1, hr_n2⟩ := hr_n
  have hSo := hS9
  refine lv_iload_n C0.1 C0.2.1 dX9_fewest_0 rfl (lv_at hl 1 rfl) ?_
  refine z_if_lt (tgt := 10) C0.1 C0.2.1 dX9_fewest_1 (by decide) ⟨by omega, by omega⟩ (fun c_1 => ?_) (fun c_1 => ?_)
  · skip
    refine lv_iconst (v := zI (-1)) C0.1 C0.2.1 dX9_fewest_10 rfl ?_
    exact mm_iret (z := (-1)) C0 hr hlk hM hS dX9_fewest_11 (by have he : pf_fewest S n = ((-1), S) := (by unfold pf_fewest; rw [if_neg (by omega)]); rw [he]; exact ⟨rfl, hSo, (fun _ _ => rfl)⟩)
  · skip
    refine lv_iload_n C0.1 C0.2.1 dX9_fewest_4 rfl (lv_at hl 1 rfl) ?_
    refine mm_ldc (z := 1000000000) C0 tw_649 rfl dX9_fewest_5 ?_
    refine z_icmp_le (tgt := 12) C0.1 C0.2.1 dX9_fewest_7 (by decide) ⟨by omega, by omega⟩ ⟨by omega, by omega⟩ (fun c_7 => ?_) (fun c_7 => ?_)
    · skip
      refine lv_iload_n C0.1 C0.2.1 dX9_fewest_12 rfl (lv_at hl 1 rfl) ?_
      refine z_i2l C0.1 C0.2.1 dX9_fewest_13 ⟨by omega, by omega⟩ ?_
      refine z_asL (a := n) (b := (n.toNat : Int)) (by omega) ?_
      refine mm_callSi (As := [.long (zL ((n.toNat : Int)))]) C0 sw_X0_fewestSquares tw_689 (c_X0_fewestSquares l G _ (by omega)) hM rfl hl.1 rfl (Nat.le_of_ble_eq_true rfl) ⟨rfl, rfl, Nat.le_of_ble_eq_true rfl, Nat.le_of_ble_eq_true rfl, Nat.zero_le _, Nat.zero_le _⟩ dX9_fewest_14 hS (fun z_14 E1 H locs hp hM hS => ?_)
      obtain ⟨hz_14, hEq⟩ := hp
      rw [hEq] at hM
      refine z_asI (b := (fwR n.toNat)) (hz_14) ?_
      exact mm_iret (z := (fwR n.toNat)) C0 hr hlk hM hS dX9_fewest_17 (by have he : pf_fewest S n = ((fwR n.toNat), S) := (by unfold pf_fewest; rw [if_pos (by omega)]); rw [he]; exact ⟨rfl, hSo, fun _ _ => rfl⟩)
    · skip
      refine lv_iconst (v := zI (-1)) C0.1 C0.2.1 dX9_fewest_10 rfl ?_
      exact mm_iret (z := (-1)) C0 hr hlk hM hS dX9_fewest_11 (by have he : pf_fewest S n = ((-1), S) := (by unfold pf_fewest; rw [if_neg (by omega)]); rw [he]; exact ⟨rfl, hSo, (fun _ _ => rfl)⟩)

def rX9_wall : Room := { frames := 2, cells := 0, slots := 0, locals := 48 }
theorem vw_X9_wall : mm_Vw RX9 yX9_wall cX9_wall 3 (some .int) 2 := ⟨tw_693, tw_694, tw_1, tw_695, by decide +kernel⟩
set_option maxHeartbeats 4000000 in
set_option maxRecDepth 100000 in
theorem c_X9_wall (l : Launch) (G : mG) (E0 : mE) {h : Nat} {S : mST} (hS9 : st G E0 h S) {n i : Int} (hr_n : rI n) (hr_i : rI i) : mm_Ci l yX9_wall (.code yX9_wall cX9_wall 3 (some .int) :: wsG) rX9_wall G [.ref (h), .int (zI (n)), .int (zI (i))] E0 (fun z E => z = (pf_wall S n i).1 ∧ st G E h (pf_wall S n i).2 ∧ ∀ q : Nat, (q < h ∨ h + 106 ≤ q) → E q = E0 q) := by
  refine mm_of_i (by decide +kernel) (Nat.le_of_ble_eq_true rfl) ?_
  intro p e s m args below meth c ls C0 hr hlk hM hl hS
  have hl : lv_has ls 3 [(0, .ref (h)), (1, .int (zI (n))), (2, .int (zI (i)))] := hl
  obtain ⟨hr_n1, hr_n2⟩ := hr_n
  obtain ⟨hr_i1, hr_i2⟩ := hr_i
  have hSo := hS9
  refine lv_iload_n C0.1 C0.2.1 dX9_wall_0 rfl (lv_at hl 1 rfl) ?_
  refine lv_iconst (v := zI 1) C0.1 C0.2.1 dX9_wall_1 rfl ?_
  refine z_icmp_lt (tgt := 17) C0.1 C0.2.1 dX9_wall_2 (by decide) ⟨by omega, by omega⟩ ⟨by omega, by omega⟩ (fun c_2 => ?_) (fun c_2 => ?_)
  · skip
    refine lv_iconst (v := zI (-1)) C0.1 C0.2.1 dX9_wall_17 rfl ?_
    exact mm_iret (z := (-1)) C0 hr hlk hM hS dX9_wall_18 (by have he : pf_wall S n i = ((-1), S) := (by unfold pf_wall; rw [if_neg (by omega)]); rw [he]; exact ⟨rfl, hSo, (fun _ _ => rfl)⟩)
  · skip
    refine lv_iload_n C0.1 C0.2.1 dX9_wall_5 rfl (lv_at hl 1 rfl) ?_
    refine lv_sipush (v := zI 999) C0.1 C0.2.1 dX9_wall_6 rfl ?_
    refine z_icmp_gt (tgt := 17) C0.1 C0.2.1 dX9_wall_9 (by decide) ⟨by omega, by omega⟩ ⟨by omega, by omega⟩ (fun c_9 => ?_) (fun c_9 => ?_)
    · skip
      refine lv_iconst (v := zI (-1)) C0.1 C0.2.1 dX9_wall_17 rfl ?_
      exact mm_iret (z := (-1)) C0 hr hlk hM hS dX9_wall_18 (by have he : pf_wall S n i = ((-1), S) := (by unfold pf_wall; rw [if_neg (by omega)]); rw [he]; exact ⟨rfl, hSo, (fun _ _ => rfl)⟩)
    · skip
      refine lv_iload_n C0.1 C0.2.1 dX9_wall_12 rfl (lv_at hl 2 rfl) ?_
      refine lv_iconst (v := zI (-1)) C0.1 C0.2.1 dX9_wall_13 rfl ?_
      refine z_icmp_ge (tgt := 19) C0.1 C0.2.1 dX9_wall_14 (by decide) ⟨by omega, by omega⟩ ⟨by omega, by omega⟩ (fun c_14 => ?_) (fun c_14 => ?_)
      · skip
        refine lv_iload_n C0.1 C0.2.1 dX9_wall_19 rfl (lv_at hl 1 rfl) ?_
        refine z_i2l C0.1 C0.2.1 dX9_wall_20 ⟨by omega, by omega⟩ ?_
        refine z_asL (a := n) (b := (n.toNat : Int)) (by omega) ?_
        refine lv_iload_n C0.1 C0.2.1 dX9_wall_21 rfl (lv_at hl 2 rfl) ?_
        refine mm_callSi (As := [.long (zL ((n.toNat : Int))), .int (zI (i))]) C0 sw_X0_walls tw_696 (c_X0_walls l G _ (by omega) ⟨by omega, by omega⟩) hM rfl hl.1 rfl (Nat.le_of_ble_eq_true rfl) ⟨rfl, rfl, Nat.le_of_ble_eq_true rfl, Nat.le_of_ble_eq_true rfl, Nat.zero_le _, Nat.zero_le _⟩ dX9_wall_22 hS (fun z_22 E1 H locs hp hM hS => ?_)
        obtain ⟨hz_22, hEq⟩ := hp
        rw [hEq] at hM
        refine z_asI (b := (scan (wlB (8 * n.toNat * n.toNat)) (fun u => ((u + 4 * n.toNat : Nat) : Int)) i 1 0 3000)) (hz_22) ?_
        exact mm_iret (z := (scan (wlB (8 * n.toNat * n.toNat)) (fun u => ((u + 4 * n.toNat : Nat) : Int)) i 1 0 3000)) C0 hr hlk hM hS dX9_wall_25 (by have he : pf_wall S n i = ((scan (wlB (8 * n.toNat * n.toNat)) (fun u => ((u + 4 * n.toNat : Nat) : Int)) i 1 0 3000), S) := (by unfold pf_wall; rw [if_pos (by omega)]); rw [he]; exact ⟨rfl, hSo, fun _ _ => rfl⟩)
      · skip
        refine lv_iconst (v := zI (-1)) C0.1 C0.2.1 dX9_wall_17 rfl ?_
        exact mm_iret (z := (-1)) C0 hr hlk hM hS dX9_wall_18 (by have he : pf_wall S n i = ((-1), S) := (by unfold pf_wall; rw [if_neg (by omega)]); rw [he]; exact ⟨rfl, hSo, (fun _ _ => rfl)⟩)

def rX9_flat : Room := { frames := 3, cells := 0, slots := 0, locals := 74 }
theorem vw_X9_flat : mm_Vw RX9 yX9_flat cX9_flat 3 (some .int) 2 := ⟨tw_700, tw_701, tw_1, tw_702, by decide +kernel⟩
set_option maxHeartbeats 4000000 in
set_option maxRecDepth 100000 in
theorem c_X9_flat (l : Launch) (G : mG) (E0 : mE) {h : Nat} {S : mST} (hS9 : st G E0 h S) {n i : Int} (hr_n : rI n) (hr_i : rI i) : mm_Ci l yX9_flat (.code yX9_flat cX9_flat 3 (some .int) :: wsG) rX9_flat G [.ref (h), .int (zI (n)), .int (zI (i))] E0 (fun z E => z = (pf_flat S n i).1 ∧ st G E h (pf_flat S n i).2 ∧ ∀ q : Nat, (q < h ∨ h + 106 ≤ q) → E q = E0 q) := by
  refine mm_of_i (by decide +kernel) (Nat.le_of_ble_eq_true rfl) ?_
  intro p e s m args below meth c ls C0 hr hlk hM hl hS
  have hl : lv_has ls 3 [(0, .ref (h)), (1, .int (zI (n))), (2, .int (zI (i)))] := hl
  obtain ⟨hr_n1, hr_n2⟩ := hr_n
  obtain ⟨hr_i1, hr_i2⟩ := hr_i
  have hSo := hS9
  refine lv_iload_n C0.1 C0.2.1 dX9_flat_0 rfl (lv_at hl 1 rfl) ?_
  refine lv_iconst (v := zI 3) C0.1 C0.2.1 dX9_flat_1 rfl ?_
  refine z_icmp_lt (tgt := 16) C0.1 C0.2.1 dX9_flat_2 (by decide) ⟨by omega, by omega⟩ ⟨by omega, by omega⟩ (fun c_2 => ?_) (fun c_2 => ?_)
  · skip
    refine lv_iconst (v := zI (-1)) C0.1 C0.2.1 dX9_flat_16 rfl ?_
    exact mm_iret (z := (-1)) C0 hr hlk hM hS dX9_flat_17 (by have he : pf_flat S n i = ((-1), S) := (by unfold pf_flat; rw [if_neg (by omega)]); rw [he]; exact ⟨rfl, hSo, (fun _ _ => rfl)⟩)
  · skip
    refine lv_iload_n C0.1 C0.2.1 dX9_flat_5 rfl (lv_at hl 1 rfl) ?_
    refine lv_bipush (v := zI 99) C0.1 C0.2.1 dX9_flat_6 rfl ?_
    refine z_icmp_gt (tgt := 16) C0.1 C0.2.1 dX9_flat_8 (by decide) ⟨by omega, by omega⟩ ⟨by omega, by omega⟩ (fun c_8 => ?_) (fun c_8 => ?_)
    · skip
      refine lv_iconst (v := zI (-1)) C0.1 C0.2.1 dX9_flat_16 rfl ?_
      exact mm_iret (z := (-1)) C0 hr hlk hM hS dX9_flat_17 (by have he : pf_flat S n i = ((-1), S) := (by unfold pf_flat; rw [if_neg (by omega)]); rw [he]; exact ⟨rfl, hSo, (fun _ _ => rfl)⟩)
    · skip
      refine lv_iload_n C0.1 C0.2.1 dX9_flat_11 rfl (lv_at hl 2 rfl) ?_
      refine lv_iconst (v := zI (-1)) C0.1 C0.2.1 dX9_flat_12 rfl ?_
      refine z_icmp_ge (tgt := 18) C0.1 C0.2.1 dX9_flat_13 (by decide) ⟨by omega, by omega⟩ ⟨by omega, by omega⟩ (fun c_13 => ?_) (fun c_13 => ?_)
      · skip
        refine lv_iload_n C0.1 C0.2.1 dX9_flat_18 rfl (lv_at hl 1 rfl) ?_
        refine z_i2l C0.1 C0.2.1 dX9_flat_19 ⟨by omega, by omega⟩ ?_
        refine z_asL (a := n) (b := (n.toNat : Int)) (by omega) ?_
        refine lv_iload_n C0.1 C0.2.1 dX9_flat_20 rfl (lv_at hl 2 rfl) ?_
        refine mm_callSi (As := [.long (zL ((n.toNat : Int))), .int (zI (i))]) C0 sw_X0_flatHeaps tw_703 (c_X0_flatHeaps l G _ (by omega) (by omega) ⟨by omega, by omega⟩) hM rfl hl.1 rfl (Nat.le_of_ble_eq_true rfl) ⟨rfl, rfl, Nat.le_of_ble_eq_true rfl, Nat.le_of_ble_eq_true rfl, Nat.zero_le _, Nat.zero_le _⟩ dX9_flat_21 hS (fun z_21 E1 H locs hp hM hS => ?_)
        obtain ⟨hz_21, hEq⟩ := hp
        rw [hEq] at hM
        refine z_asI (b := (scan (fun g => bq (sq ((shp 4 n.toNat g : Nat) : Int))) (fun g => (g : Int)) i 1 0 3000)) (hz_21) ?_
        exact mm_iret (z := (scan (fun g => bq (sq ((shp 4 n.toNat g : Nat) : Int))) (fun g => (g : Int)) i 1 0 3000)) C0 hr hlk hM hS dX9_flat_24 (by have he : pf_flat S n i = ((scan (fun g => bq (sq ((shp 4 n.toNat g : Nat) : Int))) (fun g => (g : Int)) i 1 0 3000), S) := (by unfold pf_flat; rw [if_pos (by omega)]); rw [he]; exact ⟨rfl, hSo, fun _ _ => rfl⟩)
      · skip
        refine lv_iconst (v := zI (-1)) C0.1 C0.2.1 dX9_flat_16 rfl ?_
        exact mm_iret (z := (-1)) C0 hr hlk hM hS dX9_flat_17 (by have he : pf_flat S n i = ((-1), S) := (by unfold pf_flat; rw [if_neg (by omega)]); rw [he]; exact ⟨rfl, hSo, (fun _ _ => rfl)⟩)

def rX9_corners : Room := { frames := 2, cells := 0, slots := 0, locals := 46 }
theorem vw_X9_corners : mm_Vw RX9 yX9_corners cX9_corners 3 (some .int) 2 := ⟨tw_710, tw_711, tw_1, tw_712, by decide +kernel⟩
set_option maxHeartbeats 4000000 in
set_option maxRecDepth 100000 in
theorem c_X9_corners (l : Launch) (G : mG) (E0 : mE) {h : Nat} {S : mST} (hS9 : st G E0 h S) {n i : Int} (hr_n : rI n) (hr_i : rI i) : mm_Ci l yX9_corners (.code yX9_corners cX9_corners 3 (some .int) :: wsG) rX9_corners G [.ref (h), .int (zI (n)), .int (zI (i))] E0 (fun z E => z = (pf_corners S n i).1 ∧ st G E h (pf_corners S n i).2 ∧ ∀ q : Nat, (q < h ∨ h + 106 ≤ q) → E q = E0 q) := by
  refine mm_of_i (by decide +kernel) (Nat.le_of_ble_eq_true rfl) ?_
  intro p e s m args below meth c ls C0 hr hlk hM hl hS
  have hl : lv_has ls 3 [(0, .ref (h)), (1, .int (zI (n))), (2, .int (zI (i)))] := hl
  obtain ⟨hr_n1, hr_n2⟩ := hr_n
  obtain ⟨hr_i1, hr_i2⟩ := hr_i
  have hSo := hS9
  refine lv_iload_n C0.1 C0.2.1 dX9_corners_0 rfl (lv_at hl 1 rfl) ?_
  refine lv_iconst (v := zI 1) C0.1 C0.2.1 dX9_corners_1 rfl ?_
  refine z_icmp_lt (tgt := 17) C0.1 C0.2.1 dX9_corners_2 (by decide) ⟨by omega, by omega⟩ ⟨by omega, by omega⟩ (fun c_2 => ?_) (fun c_2 => ?_)
  · skip
    refine lv_iconst (v := zI (-1)) C0.1 C0.2.1 dX9_corners_17 rfl ?_
    exact mm_iret (z := (-1)) C0 hr hlk hM hS dX9_corners_18 (by have he : pf_corners S n i = ((-1), S) := (by unfold pf_corners; rw [if_neg (by omega)]); rw [he]; exact ⟨rfl, hSo, (fun _ _ => rfl)⟩)
  · skip
    refine lv_iload_n C0.1 C0.2.1 dX9_corners_5 rfl (lv_at hl 1 rfl) ?_
    refine lv_sipush (v := zI 500) C0.1 C0.2.1 dX9_corners_6 rfl ?_
    refine z_icmp_gt (tgt := 17) C0.1 C0.2.1 dX9_corners_9 (by decide) ⟨by omega, by omega⟩ ⟨by omega, by omega⟩ (fun c_9 => ?_) (fun c_9 => ?_)
    · skip
      refine lv_iconst (v := zI (-1)) C0.1 C0.2.1 dX9_corners_17 rfl ?_
      exact mm_iret (z := (-1)) C0 hr hlk hM hS dX9_corners_18 (by have he : pf_corners S n i = ((-1), S) := (by unfold pf_corners; rw [if_neg (by omega)]); rw [he]; exact ⟨rfl, hSo, (fun _ _ => rfl)⟩)
    · skip
      refine lv_iload_n C0.1 C0.2.1 dX9_corners_12 rfl (lv_at hl 2 rfl) ?_
      refine lv_iconst (v := zI (-1)) C0.1 C0.2.1 dX9_corners_13 rfl ?_
      refine z_icmp_ge (tgt := 19) C0.1 C0.2.1 dX9_corners_14 (by decide) ⟨by omega, by omega⟩ ⟨by omega, by omega⟩ (fun c_14 => ?_) (fun c_14 => ?_)
      · skip
        refine lv_iload_n C0.1 C0.2.1 dX9_corners_19 rfl (lv_at hl 1 rfl) ?_
        refine z_asI (a := n) (b := (n.toNat : Int)) (by omega) ?_
        refine lv_iload_n C0.1 C0.2.1 dX9_corners_20 rfl (lv_at hl 2 rfl) ?_
        refine mm_callSi (As := [.int (zI ((n.toNat : Int))), .int (zI (i))]) C0 sw_X0_rightCorners tw_713 (c_X0_rightCorners l G _ (by omega) (by omega) ⟨by omega, by omega⟩) hM rfl hl.1 rfl (Nat.le_of_ble_eq_true rfl) ⟨rfl, rfl, Nat.le_of_ble_eq_true rfl, Nat.le_of_ble_eq_true rfl, Nat.zero_le _, Nat.zero_le _⟩ dX9_corners_21 hS (fun z_21 E1 H locs hp hM hS => ?_)
        obtain ⟨hz_21, hEq⟩ := hp
        rw [hEq] at hM
        refine z_asI (b := (scan rcB rcV i 501 0 (501 * n.toNat))) (hz_21) ?_
        exact mm_iret (z := (scan rcB rcV i 501 0 (501 * n.toNat))) C0 hr hlk hM hS dX9_corners_24 (by have he : pf_corners S n i = ((scan rcB rcV i 501 0 (501 * n.toNat)), S) := (by unfold pf_corners; rw [if_pos (by omega)]); rw [he]; exact ⟨rfl, hSo, fun _ _ => rfl⟩)
      · skip
        refine lv_iconst (v := zI (-1)) C0.1 C0.2.1 dX9_corners_17 rfl ?_
        exact mm_iret (z := (-1)) C0 hr hlk hM hS dX9_corners_18 (by have he : pf_corners S n i = ((-1), S) := (by unfold pf_corners; rw [if_neg (by omega)]); rw [he]; exact ⟨rfl, hSo, (fun _ _ => rfl)⟩)

def rX9_string : Room := { frames := 1, cells := 0, slots := 0, locals := 28 }
theorem vw_X9_string : mm_Vw RX9 yX9_string cX9_string 2 (some .int) 1 := ⟨tw_717, tw_718, tw_1, tw_719, by decide +kernel⟩
set_option maxHeartbeats 4000000 in
set_option maxRecDepth 100000 in
theorem c_X9_string (l : Launch) (G : mG) (E0 : mE) {h : Nat} {S : mST} (hS9 : st G E0 h S) {n : Int} (hr_n : rI n) : mm_Ci l yX9_string (.code yX9_string cX9_string 2 (some .int) :: wsG) rX9_string G [.ref (h), .int (zI (n))] E0 (fun z E => z = (pf_string S n).1 ∧ st G E h (pf_string S n).2 ∧ ∀ q : Nat, (q < h ∨ h + 106 ≤ q) → E q = E0 q) := by
  refine mm_of_i (by decide +kernel) (Nat.le_of_ble_eq_true rfl) ?_
  intro p e s m args below meth c ls C0 hr hlk hM hl hS
  have hl : lv_has ls 2 [(0, .ref (h)), (1, .int (zI (n)))] := hl
  obtain ⟨hr_n1, hr_n2⟩ := hr_n
  have hSo := hS9
  refine lv_iload_n C0.1 C0.2.1 dX9_string_0 rfl (lv_at hl 1 rfl) ?_
  refine lv_iconst (v := zI 1) C0.1 C0.2.1 dX9_string_1 rfl ?_
  refine z_icmp_lt (tgt := 11) C0.1 C0.2.1 dX9_string_2 (by decide) ⟨by omega, by omega⟩ ⟨by omega, by omega⟩ (fun c_2 => ?_) (fun c_2 => ?_)
  · skip
    refine lv_iconst (v := zI (-1)) C0.1 C0.2.1 dX9_string_11 rfl ?_
    exact mm_iret (z := (-1)) C0 hr hlk hM hS dX9_string_12 (by have he : pf_string S n = ((-1), S) := (by unfold pf_string; rw [if_neg (by omega)]); rw [he]; exact ⟨rfl, hSo, (fun _ _ => rfl)⟩)
  · skip
    refine lv_iload_n C0.1 C0.2.1 dX9_string_5 rfl (lv_at hl 1 rfl) ?_
    refine mm_ldc (z := 100000) C0 tw_720 rfl dX9_string_6 ?_
    refine z_icmp_le (tgt := 13) C0.1 C0.2.1 dX9_string_8 (by decide) ⟨by omega, by omega⟩ ⟨by omega, by omega⟩ (fun c_8 => ?_) (fun c_8 => ?_)
    · skip
      refine lv_iload_n C0.1 C0.2.1 dX9_string_13 rfl (lv_at hl 1 rfl) ?_
      refine z_i2l C0.1 C0.2.1 dX9_string_14 ⟨by omega, by omega⟩ ?_
      refine z_asL (a := n) (b := (n.toNat : Int)) (by omega) ?_
      refine mm_callSi (As := [.long (zL ((n.toNat : Int)))]) C0 sw_X0_strings tw_721 (c_X0_strings l G _ (by omega) (by omega)) hM rfl hl.1 rfl (Nat.le_of_ble_eq_true rfl) ⟨rfl, rfl, Nat.le_of_ble_eq_true rfl, Nat.le_of_ble_eq_true rfl, Nat.zero_le _, Nat.zero_le _⟩ dX9_string_15 hS (fun z_15 E1 H locs hp hM hS => ?_)
      obtain ⟨hz_15, hEq⟩ := hp
      rw [hEq] at hM
      refine z_asI (b := (cntB (stB n.toNat) ((n.toNat + 2) / 3) : Int)) (hz_15) ?_
      exact mm_iret (z := (cntB (stB n.toNat) ((n.toNat + 2) / 3) : Int)) C0 hr hlk hM hS dX9_string_18 (by have he : pf_string S n = ((cntB (stB n.toNat) ((n.toNat + 2) / 3) : Int), S) := (by unfold pf_string; rw [if_pos (by omega)]); rw [he]; exact ⟨rfl, hSo, fun _ _ => rfl⟩)
    · skip
      refine lv_iconst (v := zI (-1)) C0.1 C0.2.1 dX9_string_11 rfl ?_
      exact mm_iret (z := (-1)) C0 hr hlk hM hS dX9_string_12 (by have he : pf_string S n = ((-1), S) := (by unfold pf_string; rw [if_neg (by omega)]); rw [he]; exact ⟨rfl, hSo, (fun _ _ => rfl)⟩)
