theorem if01 {P : Prop} [Decidable P] {z : Int} (h : z = if P then 1 else 0) : (z = 1 ∧ P) ∨ (z = 0 ∧ ¬ P) := by
  by_cases q : P
  · rw [if_pos q] at h; exact Or.inl ⟨h, q⟩
  · rw [if_neg q] at h; exact Or.inr ⟨h, q⟩
theorem nFau_b (w : Nat) : -12 ≤ nFau w ∧ nFau w ≤ 0 := by unfold nFau; split <;> (try split) <;> omega
theorem sFau_b (w : Nat) : -12 ≤ sFau w ∧ sFau w ≤ 0 := by unfold sFau; split <;> (try split) <;> omega
def rX9_isPlace : Room := { frames := 0, cells := 0, slots := 0, locals := 0 }
theorem sw_X9_isPlace : mm_Sw yX9_isPlace cX9_isPlace 1 (some .boolean) 1 := ⟨tw_275, tw_1, tw_276, by decide +kernel⟩
set_option maxHeartbeats 4000000 in
set_option maxRecDepth 100000 in
theorem c_X9_isPlace (l : Launch) (G : mG) (E0 : mE) {i : Int} (hi : rI i) : mm_Ci l yX9_isPlace (.code yX9_isPlace cX9_isPlace 1 (some .boolean) :: wsG) rX9_isPlace G [.int (zI (i))] E0 (fun z E => z = (if 0 ≤ i ∧ i < 8 then 1 else 0) ∧ E = E0) := by
  refine mm_of_i (by decide +kernel) (Nat.le_of_ble_eq_true rfl) ?_
  intro p e s m args below meth c ls C0 hr hlk hM hl hS
  have hl : lv_has ls 1 [(0, .int (zI (i)))] := hl
  obtain ⟨hi1, hi2⟩ := hi
  refine lv_iload_n C0.1 C0.2.1 dX9_isPlace_0 rfl (lv_at hl 0 rfl) ?_
  refine z_if_lt (tgt := 14) C0.1 C0.2.1 dX9_isPlace_1 (by decide) ⟨by omega, by omega⟩ (fun c_1 => ?_) (fun c_1 => ?_)
  · skip
    refine lv_iconst (v := zI 0) C0.1 C0.2.1 dX9_isPlace_14 rfl ?_
    exact mm_zret (z := 0) C0 hr hlk hM hS (by omega) dX9_isPlace_15 (⟨by rw [if_neg (by omega)], rfl⟩)
  · skip
    refine lv_iload_n C0.1 C0.2.1 dX9_isPlace_4 rfl (lv_at hl 0 rfl) ?_
    refine lv_bipush (v := zI 8) C0.1 C0.2.1 dX9_isPlace_5 rfl ?_
    refine z_icmp_ge (tgt := 14) C0.1 C0.2.1 dX9_isPlace_7 (by decide) ⟨by omega, by omega⟩ ⟨by omega, by omega⟩ (fun c_7 => ?_) (fun c_7 => ?_)
    · skip
      refine lv_iconst (v := zI 0) C0.1 C0.2.1 dX9_isPlace_14 rfl ?_
      exact mm_zret (z := 0) C0 hr hlk hM hS (by omega) dX9_isPlace_15 (⟨by rw [if_neg (by omega)], rfl⟩)
    · skip
      refine lv_iconst (v := zI 1) C0.1 C0.2.1 dX9_isPlace_10 rfl ?_
      refine lv_goto (tgt := 15) C0.1 C0.2.1 dX9_isPlace_11 (by decide) ?_
      exact mm_zret (z := 1) C0 hr hlk hM hS (by omega) dX9_isPlace_15 (⟨by rw [if_pos ⟨by omega, by omega⟩], rfl⟩)

def rX9_isSheet : Room := { frames := 0, cells := 0, slots := 0, locals := 0 }
theorem sw_X9_isSheet : mm_Sw yX9_isSheet cX9_isSheet 1 (some .boolean) 1 := ⟨tw_872, tw_1, tw_873, by decide +kernel⟩
set_option maxHeartbeats 4000000 in
set_option maxRecDepth 100000 in
theorem c_X9_isSheet (l : Launch) (G : mG) (E0 : mE) {i : Int} (hi : rI i) : mm_Ci l yX9_isSheet (.code yX9_isSheet cX9_isSheet 1 (some .boolean) :: wsG) rX9_isSheet G [.int (zI (i))] E0 (fun z E => z = (if 0 ≤ i ∧ i < 4 then 1 else 0) ∧ E = E0) := by
  refine mm_of_i (by decide +kernel) (Nat.le_of_ble_eq_true rfl) ?_
  intro p e s m args below meth c ls C0 hr hlk hM hl hS
  have hl : lv_has ls 1 [(0, .int (zI (i)))] := hl
  obtain ⟨hi1, hi2⟩ := hi
  refine lv_iload_n C0.1 C0.2.1 dX9_isSheet_0 rfl (lv_at hl 0 rfl) ?_
  refine z_if_lt (tgt := 13) C0.1 C0.2.1 dX9_isSheet_1 (by decide) ⟨by omega, by omega⟩ (fun c_1 => ?_) (fun c_1 => ?_)
  · skip
    refine lv_iconst (v := zI 0) C0.1 C0.2.1 dX9_isSheet_13 rfl ?_
    exact mm_zret (z := 0) C0 hr hlk hM hS (by omega) dX9_isSheet_14 (⟨by rw [if_neg (by omega)], rfl⟩)
  · skip
    refine lv_iload_n C0.1 C0.2.1 dX9_isSheet_4 rfl (lv_at hl 0 rfl) ?_
    refine lv_iconst (v := zI 4) C0.1 C0.2.1 dX9_isSheet_5 rfl ?_
    refine z_icmp_ge (tgt := 13) C0.1 C0.2.1 dX9_isSheet_6 (by decide) ⟨by omega, by omega⟩ ⟨by omega, by omega⟩ (fun c_6 => ?_) (fun c_6 => ?_)
    · skip
      refine lv_iconst (v := zI 0) C0.1 C0.2.1 dX9_isSheet_13 rfl ?_
      exact mm_zret (z := 0) C0 hr hlk hM hS (by omega) dX9_isSheet_14 (⟨by rw [if_neg (by omega)], rfl⟩)
    · skip
      refine lv_iconst (v := zI 1) C0.1 C0.2.1 dX9_isSheet_9 rfl ?_
      refine lv_goto (tgt := 14) C0.1 C0.2.1 dX9_isSheet_10 (by decide) ?_
      exact mm_zret (z := 1) C0 hr hlk hM hS (by omega) dX9_isSheet_14 (⟨by rw [if_pos ⟨by omega, by omega⟩], rfl⟩)

def rX9_isLane : Room := { frames := 0, cells := 0, slots := 0, locals := 0 }
theorem sw_X9_isLane : mm_Sw yX9_isLane cX9_isLane 1 (some .boolean) 1 := ⟨tw_875, tw_1, tw_876, by decide +kernel⟩
set_option maxHeartbeats 4000000 in
set_option maxRecDepth 100000 in
theorem c_X9_isLane (l : Launch) (G : mG) (E0 : mE) {i : Int} (hi : rI i) : mm_Ci l yX9_isLane (.code yX9_isLane cX9_isLane 1 (some .boolean) :: wsG) rX9_isLane G [.int (zI (i))] E0 (fun z E => z = (if 0 ≤ i ∧ i ≤ 2 then 1 else 0) ∧ E = E0) := by
  refine mm_of_i (by decide +kernel) (Nat.le_of_ble_eq_true rfl) ?_
  intro p e s m args below meth c ls C0 hr hlk hM hl hS
  have hl : lv_has ls 1 [(0, .int (zI (i)))] := hl
  obtain ⟨hi1, hi2⟩ := hi
  refine lv_iload_n C0.1 C0.2.1 dX9_isLane_0 rfl (lv_at hl 0 rfl) ?_
  refine z_if_lt (tgt := 13) C0.1 C0.2.1 dX9_isLane_1 (by decide) ⟨by omega, by omega⟩ (fun c_1 => ?_) (fun c_1 => ?_)
  · skip
    refine lv_iconst (v := zI 0) C0.1 C0.2.1 dX9_isLane_13 rfl ?_
    exact mm_zret (z := 0) C0 hr hlk hM hS (by omega) dX9_isLane_14 (⟨by rw [if_neg (by omega)], rfl⟩)
  · skip
    refine lv_iload_n C0.1 C0.2.1 dX9_isLane_4 rfl (lv_at hl 0 rfl) ?_
    refine lv_iconst (v := zI 2) C0.1 C0.2.1 dX9_isLane_5 rfl ?_
    refine z_icmp_gt (tgt := 13) C0.1 C0.2.1 dX9_isLane_6 (by decide) ⟨by omega, by omega⟩ ⟨by omega, by omega⟩ (fun c_6 => ?_) (fun c_6 => ?_)
    · skip
      refine lv_iconst (v := zI 0) C0.1 C0.2.1 dX9_isLane_13 rfl ?_
      exact mm_zret (z := 0) C0 hr hlk hM hS (by omega) dX9_isLane_14 (⟨by rw [if_neg (by omega)], rfl⟩)
    · skip
      refine lv_iconst (v := zI 1) C0.1 C0.2.1 dX9_isLane_9 rfl ?_
      refine lv_goto (tgt := 14) C0.1 C0.2.1 dX9_isLane_10 (by decide) ?_
      exact mm_zret (z := 1) C0 hr hlk hM hS (by omega) dX9_isLane_14 (⟨by rw [if_pos ⟨by omega, by omega⟩], rfl⟩)

def rX9_arePair : Room := { frames := 1, cells := 0, slots := 0, locals := 20 }
theorem sw_X9_arePair : mm_Sw yX9_arePair cX9_arePair 2 (some .boolean) 2 := ⟨tw_568, tw_1, tw_569, by decide +kernel⟩
set_option maxHeartbeats 4000000 in
set_option maxRecDepth 100000 in
theorem c_X9_arePair (l : Launch) (G : mG) (E0 : mE) {i j : Int} (hi : rI i) (hj : rI j) : mm_Ci l yX9_arePair (.code yX9_arePair cX9_arePair 2 (some .boolean) :: wsG) rX9_arePair G [.int (zI (i)), .int (zI (j))] E0 (fun z E => z = (if (0 ≤ i ∧ i < 8) ∧ (0 ≤ j ∧ j < 8) ∧ i ≠ j then 1 else 0) ∧ E = E0) := by
  refine mm_of_i (by decide +kernel) (Nat.le_of_ble_eq_true rfl) ?_
  intro p e s m args below meth c ls C0 hr hlk hM hl hS
  have hl : lv_has ls 2 [(0, .int (zI (i))), (1, .int (zI (j)))] := hl
  obtain ⟨hi1, hi2⟩ := hi
  obtain ⟨hj1, hj2⟩ := hj
  refine lv_iload_n C0.1 C0.2.1 dX9_arePair_0 rfl (lv_at hl 0 rfl) ?_
  refine mm_callSi (As := [.int (zI (i))]) C0 sw_X9_isPlace tw_274 (c_X9_isPlace l G _ (i := i) ⟨by omega, by omega⟩) hM rfl hl.1 rfl (Nat.le_of_ble_eq_true rfl) ⟨rfl, rfl, Nat.le_of_ble_eq_true rfl, Nat.le_of_ble_eq_true rfl, Nat.zero_le _, Nat.zero_le _⟩ dX9_arePair_1 hS (fun z_1 E1 H locs hp hM hS => ?_)
  obtain ⟨hz_1, hEq⟩ := hp
  rw [hEq] at hM
  have hz_1b := if01 hz_1
  refine z_if_eq (tgt := 23) C0.1 C0.2.1 dX9_arePair_4 (by decide) ⟨by omega, by omega⟩ (fun c_4 => ?_) (fun c_4 => ?_)
  · skip
    refine lv_iconst (v := zI 0) C0.1 C0.2.1 dX9_arePair_23 rfl ?_
    exact mm_zret (z := 0) C0 hr hlk hM hS (by omega) dX9_arePair_24 (⟨by rw [if_neg (by omega)], rfl⟩)
  · skip
    refine lv_iload_n C0.1 C0.2.1 dX9_arePair_7 rfl (lv_at hl 1 rfl) ?_
    refine mm_callSi (As := [.int (zI (j))]) C0 sw_X9_isPlace tw_274 (c_X9_isPlace l G _ (i := j) ⟨by omega, by omega⟩) hM rfl hl.1 rfl (Nat.le_of_ble_eq_true rfl) ⟨rfl, rfl, Nat.le_of_ble_eq_true rfl, Nat.le_of_ble_eq_true rfl, Nat.zero_le _, Nat.zero_le _⟩ dX9_arePair_8 hS (fun z_8 E2 H locs hp hM hS => ?_)
    obtain ⟨hz_8, hEq⟩ := hp
    rw [hEq] at hM
    have hz_8b := if01 hz_8
    refine z_if_eq (tgt := 23) C0.1 C0.2.1 dX9_arePair_11 (by decide) ⟨by omega, by omega⟩ (fun c_11 => ?_) (fun c_11 => ?_)
    · skip
      refine lv_iconst (v := zI 0) C0.1 C0.2.1 dX9_arePair_23 rfl ?_
      exact mm_zret (z := 0) C0 hr hlk hM hS (by omega) dX9_arePair_24 (⟨by rw [if_neg (by omega)], rfl⟩)
    · skip
      refine lv_iload_n C0.1 C0.2.1 dX9_arePair_14 rfl (lv_at hl 0 rfl) ?_
      refine lv_iload_n C0.1 C0.2.1 dX9_arePair_15 rfl (lv_at hl 1 rfl) ?_
      refine z_icmp_eq (tgt := 23) C0.1 C0.2.1 dX9_arePair_16 (by decide) ⟨by omega, by omega⟩ ⟨by omega, by omega⟩ (fun c_16 => ?_) (fun c_16 => ?_)
      · skip
        refine lv_iconst (v := zI 0) C0.1 C0.2.1 dX9_arePair_23 rfl ?_
        exact mm_zret (z := 0) C0 hr hlk hM hS (by omega) dX9_arePair_24 (⟨by rw [if_neg (by omega)], rfl⟩)
      · skip
        refine lv_iconst (v := zI 1) C0.1 C0.2.1 dX9_arePair_19 rfl ?_
        refine lv_goto (tgt := 24) C0.1 C0.2.1 dX9_arePair_20 (by decide) ?_
        exact mm_zret (z := 1) C0 hr hlk hM hS (by omega) dX9_arePair_24 (⟨by rw [if_pos ⟨⟨by omega, by omega⟩, ⟨by omega, by omega⟩, c_16⟩], rfl⟩)

def rX9_isRootless : Room := { frames := 2, cells := 0, slots := 0, locals := 49 }
theorem sw_X9_isRootless : mm_Sw yX9_isRootless cX9_isRootless 1 (some .boolean) 1 := ⟨tw_556, tw_1, tw_557, by decide +kernel⟩
set_option maxHeartbeats 4000000 in
set_option maxRecDepth 100000 in
theorem c_X9_isRootless (l : Launch) (G : mG) (E0 : mE) {d : Int} (hd : rI d) : mm_Ci l yX9_isRootless (.code yX9_isRootless cX9_isRootless 1 (some .boolean) :: wsG) rX9_isRootless G [.int (zI (d))] E0 (fun z E => ((z = 1 ∧ 2 ≤ d ∧ d ≤ 9999 ∧ ¬ sq d) ∨ (z = 0 ∧ ¬ (2 ≤ d ∧ d ≤ 9999 ∧ ¬ sq d))) ∧ E = E0) := by
  refine mm_of_i (by decide +kernel) (Nat.le_of_ble_eq_true rfl) ?_
  intro p e s m args below meth c ls C0 hr hlk hM hl hS
  have hl : lv_has ls 1 [(0, .int (zI (d)))] := hl
  obtain ⟨hd1, hd2⟩ := hd
  refine lv_iload_n C0.1 C0.2.1 dX9_isRootless_0 rfl (lv_at hl 0 rfl) ?_
  refine lv_iconst (v := zI 2) C0.1 C0.2.1 dX9_isRootless_1 rfl ?_
  refine z_icmp_lt (tgt := 24) C0.1 C0.2.1 dX9_isRootless_2 (by decide) ⟨by omega, by omega⟩ ⟨by omega, by omega⟩ (fun c_2 => ?_) (fun c_2 => ?_)
  · skip
    refine lv_iconst (v := zI 0) C0.1 C0.2.1 dX9_isRootless_24 rfl ?_
    exact mm_zret (z := 0) C0 hr hlk hM hS (by omega) dX9_isRootless_25 (⟨Or.inr ⟨rfl, fun q => by omega⟩, rfl⟩)
  · skip
    refine lv_iload_n C0.1 C0.2.1 dX9_isRootless_5 rfl (lv_at hl 0 rfl) ?_
    refine lv_sipush (v := zI 9999) C0.1 C0.2.1 dX9_isRootless_6 rfl ?_
    refine z_icmp_gt (tgt := 24) C0.1 C0.2.1 dX9_isRootless_9 (by decide) ⟨by omega, by omega⟩ ⟨by omega, by omega⟩ (fun c_9 => ?_) (fun c_9 => ?_)
    · skip
      refine lv_iconst (v := zI 0) C0.1 C0.2.1 dX9_isRootless_24 rfl ?_
      exact mm_zret (z := 0) C0 hr hlk hM hS (by omega) dX9_isRootless_25 (⟨Or.inr ⟨rfl, fun q => by omega⟩, rfl⟩)
    · skip
      refine lv_iload_n C0.1 C0.2.1 dX9_isRootless_12 rfl (lv_at hl 0 rfl) ?_
      refine z_i2l C0.1 C0.2.1 dX9_isRootless_13 ⟨by omega, by omega⟩ ?_
      refine mm_callSi (As := [.long (zL (d))]) C0 sw_X0_isSquare tw_558 (c_X0_isSquare l G _ (by omega) (by omega)) hM rfl hl.1 rfl (Nat.le_of_ble_eq_true rfl) ⟨rfl, rfl, Nat.le_of_ble_eq_true rfl, Nat.le_of_ble_eq_true rfl, Nat.zero_le _, Nat.zero_le _⟩ dX9_isRootless_14 hS (fun z_14 E1 H locs hp hM hS => ?_)
      obtain ⟨hz_14, hEq⟩ := hp
      rw [hEq] at hM
      have hz01 : z_14 = 0 ∨ z_14 = 1 := hz_14.elim (fun h => Or.inr h.1) (fun h => Or.inl h.1)
      refine z_if_ne (tgt := 24) C0.1 C0.2.1 dX9_isRootless_17 (by decide) ⟨by omega, by omega⟩ (fun c_17 => ?_) (fun c_17 => ?_)
      · skip
        have hs9 : sq d := hz_14.elim (fun h => h.2) (fun h => by omega)
        refine lv_iconst (v := zI 0) C0.1 C0.2.1 dX9_isRootless_24 rfl ?_
        exact mm_zret (z := 0) C0 hr hlk hM hS (by omega) dX9_isRootless_25 (⟨Or.inr ⟨rfl, fun q => q.2.2 hs9⟩, rfl⟩)
      · skip
        have hs9 : ¬ sq d := hz_14.elim (fun h => by omega) (fun h => h.2)
        refine lv_iconst (v := zI 1) C0.1 C0.2.1 dX9_isRootless_20 rfl ?_
        refine lv_goto (tgt := 25) C0.1 C0.2.1 dX9_isRootless_21 (by decide) ?_
        exact mm_zret (z := 1) C0 hr hlk hM hS (by omega) dX9_isRootless_25 (⟨Or.inl ⟨rfl, by omega, by omega, hs9⟩, rfl⟩)

def rX9_numberFault : Room := { frames := 0, cells := 0, slots := 0, locals := 0 }
theorem vw_X9_numberFault : mm_Vw RX9 yX9_numberFault cX9_numberFault 3 (some .int) 1 := ⟨tw_387, tp_1, tw_1, tw_388, by decide +kernel⟩
set_option maxHeartbeats 4000000 in
set_option maxRecDepth 100000 in
theorem c_X9_numberFault (l : Launch) (G : mG) (E0 : mE) {h : Nat} {S : mST} (hS9 : st G E0 h S) {pp : Int} (i : Nat) (hpi : pp = (i : Int)) (hi_i : i < 8) : mm_Ci l yX9_numberFault (.code yX9_numberFault cX9_numberFault 3 (some .int) :: wsG) rX9_numberFault G [.ref (h), .int (zI (pp))] E0 (fun z E => z = nFau (S.2.1.1 i) ∧ E = E0) := by
  refine mm_of_i (by decide +kernel) (Nat.le_of_ble_eq_true rfl) ?_
  intro p e s m args below meth c ls C0 hr hlk hM hl hS
  have hl : lv_has ls 3 [(0, .ref (h)), (1, .int (zI (pp)))] := hl
  have hSo := hS9
  obtain ⟨⟨hO1, ⟨f1, f2, f3, hr1, hr2, hr3, hf1, hf2, hf3⟩, ⟨hTp, hTk⟩, ⟨hPl, hPk⟩, ⟨hKl, hKk⟩, ⟨hSh, hSk⟩⟩, hSc⟩ := hS9
  obtain ⟨hp_i, hw_i⟩ := hPl i hi_i
  obtain ⟨ho_i1, ho_i2, ho_i3, ho_i4⟩ := hPk i hi_i
  refine lv_aload_n C0.1 C0.2.1 dX9_numberFault_0 rfl (lv_at hl 0 rfl) ?_
  refine mm_get (fs := [.ref (h + 1), .ref (h + 2), .ref (h + 3), .ref (h + 4), .ref (h + 6), .ref (h + 17), .ref (h + 30), .ref (h + 31), .ref (h + 46), .ref (h + 48), .int (zI (S.1.1))]) C0 (C := RX9) (T := TX9) (N := 11) iG_X9 hM (hO1) rfl 0 (by decide) tw_236 rfl rfl dX9_numberFault_1 ?_
  refine lv_iload_n C0.1 C0.2.1 dX9_numberFault_4 rfl (lv_at hl 1 rfl) ?_
  refine mm_aald C0 hM 2 (C := "OrangeHeaps$Place") (hr1) rfl (i) (i := pp) (by omega) (by omega) (by decide) (v := h + 50 + 6 * i) (hf1 _ (by omega)) dX9_numberFault_5 ?_
  refine mm_get (fs := [.int (zI (((S.2.1.1 i : Nat) : Int))), .int (zI (((S.2.1.2.1 i : Nat) : Int))), .ref (h + 50 + 6 * i + 1)]) C0 (C := RX3) (T := TX3) (N := 3) iG_X3 hM (hp_i) rfl 0 (by decide) tw_208 rfl rfl dX9_numberFault_6 ?_
  refine lv_istore_n (lv' := [(2, .int (zI (((S.2.1.1 i : Nat) : Int)))), (0, .ref (h)), (1, .int (zI (pp)))]) C0.1 C0.2.1 dX9_numberFault_9 rfl hl (by decide) rfl (fun ls hl => ?_)
  refine lv_iload_n C0.1 C0.2.1 dX9_numberFault_10 rfl (lv_at hl 0 rfl) ?_
  refine z_if_ne (tgt := 19) C0.1 C0.2.1 dX9_numberFault_11 (by decide) ⟨by omega, by omega⟩ (fun c_11 => ?_) (fun c_11 => ?_)
  · skip
    refine lv_iload_n C0.1 C0.2.1 dX9_numberFault_19 rfl (lv_at hl 0 rfl) ?_
    refine lv_iconst (v := zI 1) C0.1 C0.2.1 dX9_numberFault_20 rfl ?_
    refine z_icmp_eq (tgt := 29) C0.1 C0.2.1 dX9_numberFault_21 (by decide) ⟨by omega, by omega⟩ ⟨by omega, by omega⟩ (fun c_21 => ?_) (fun c_21 => ?_)
    · skip
      refine lv_iconst (v := zI 0) C0.1 C0.2.1 dX9_numberFault_29 rfl ?_
      exact mm_iret (z := 0) C0 hr hlk hM hS dX9_numberFault_30 (⟨by unfold nFau; rw [if_neg (by omega), if_pos (by omega)], rfl⟩)
    · skip
      refine lv_bipush (v := zI (-12)) C0.1 C0.2.1 dX9_numberFault_24 rfl ?_
      refine lv_goto (tgt := 30) C0.1 C0.2.1 dX9_numberFault_26 (by decide) ?_
      exact mm_iret (z := (-12)) C0 hr hlk hM hS dX9_numberFault_30 (⟨by unfold nFau; rw [if_neg (by omega), if_neg (by omega)], rfl⟩)
  · skip
    refine lv_bipush (v := zI (-11)) C0.1 C0.2.1 dX9_numberFault_14 rfl ?_
    refine lv_goto (tgt := 30) C0.1 C0.2.1 dX9_numberFault_16 (by decide) ?_
    exact mm_iret (z := (-11)) C0 hr hlk hM hS dX9_numberFault_30 (⟨by unfold nFau; rw [if_pos (by omega)], rfl⟩)

def rX9_shapeFault : Room := { frames := 0, cells := 0, slots := 0, locals := 0 }
theorem vw_X9_shapeFault : mm_Vw RX9 yX9_shapeFault cX9_shapeFault 3 (some .int) 1 := ⟨tw_497, tp_9, tw_1, tw_498, by decide +kernel⟩
set_option maxHeartbeats 4000000 in
set_option maxRecDepth 100000 in
theorem c_X9_shapeFault (l : Launch) (G : mG) (E0 : mE) {h : Nat} {S : mST} (hS9 : st G E0 h S) {pp : Int} (i : Nat) (hpi : pp = (i : Int)) (hi_i : i < 8) : mm_Ci l yX9_shapeFault (.code yX9_shapeFault cX9_shapeFault 3 (some .int) :: wsG) rX9_shapeFault G [.ref (h), .int (zI (pp))] E0 (fun z E => z = sFau (S.2.1.1 i) ∧ E = E0) := by
  refine mm_of_i (by decide +kernel) (Nat.le_of_ble_eq_true rfl) ?_
  intro p e s m args below meth c ls C0 hr hlk hM hl hS
  have hl : lv_has ls 3 [(0, .ref (h)), (1, .int (zI (pp)))] := hl
  have hSo := hS9
  obtain ⟨⟨hO1, ⟨f1, f2, f3, hr1, hr2, hr3, hf1, hf2, hf3⟩, ⟨hTp, hTk⟩, ⟨hPl, hPk⟩, ⟨hKl, hKk⟩, ⟨hSh, hSk⟩⟩, hSc⟩ := hS9
  obtain ⟨hp_i, hw_i⟩ := hPl i hi_i
  obtain ⟨ho_i1, ho_i2, ho_i3, ho_i4⟩ := hPk i hi_i
  refine lv_aload_n C0.1 C0.2.1 dX9_shapeFault_0 rfl (lv_at hl 0 rfl) ?_
  refine mm_get (fs := [.ref (h + 1), .ref (h + 2), .ref (h + 3), .ref (h + 4), .ref (h + 6), .ref (h + 17), .ref (h + 30), .ref (h + 31), .ref (h + 46), .ref (h + 48), .int (zI (S.1.1))]) C0 (C := RX9) (T := TX9) (N := 11) iG_X9 hM (hO1) rfl 0 (by decide) tw_236 rfl rfl dX9_shapeFault_1 ?_
  refine lv_iload_n C0.1 C0.2.1 dX9_shapeFault_4 rfl (lv_at hl 1 rfl) ?_
  refine mm_aald C0 hM 2 (C := "OrangeHeaps$Place") (hr1) rfl (i) (i := pp) (by omega) (by omega) (by decide) (v := h + 50 + 6 * i) (hf1 _ (by omega)) dX9_shapeFault_5 ?_
  refine mm_get (fs := [.int (zI (((S.2.1.1 i : Nat) : Int))), .int (zI (((S.2.1.2.1 i : Nat) : Int))), .ref (h + 50 + 6 * i + 1)]) C0 (C := RX3) (T := TX3) (N := 3) iG_X3 hM (hp_i) rfl 0 (by decide) tw_208 rfl rfl dX9_shapeFault_6 ?_
  refine lv_istore_n (lv' := [(2, .int (zI (((S.2.1.1 i : Nat) : Int)))), (0, .ref (h)), (1, .int (zI (pp)))]) C0.1 C0.2.1 dX9_shapeFault_9 rfl hl (by decide) rfl (fun ls hl => ?_)
  refine lv_iload_n C0.1 C0.2.1 dX9_shapeFault_10 rfl (lv_at hl 0 rfl) ?_
  refine z_if_ne (tgt := 19) C0.1 C0.2.1 dX9_shapeFault_11 (by decide) ⟨by omega, by omega⟩ (fun c_11 => ?_) (fun c_11 => ?_)
  · skip
    refine lv_iload_n C0.1 C0.2.1 dX9_shapeFault_19 rfl (lv_at hl 0 rfl) ?_
    refine lv_iconst (v := zI 1) C0.1 C0.2.1 dX9_shapeFault_20 rfl ?_
    refine z_icmp_ne (tgt := 29) C0.1 C0.2.1 dX9_shapeFault_21 (by decide) ⟨by omega, by omega⟩ ⟨by omega, by omega⟩ (fun c_21 => ?_) (fun c_21 => ?_)
    · skip
      refine lv_iconst (v := zI 0) C0.1 C0.2.1 dX9_shapeFault_29 rfl ?_
      exact mm_iret (z := 0) C0 hr hlk hM hS dX9_shapeFault_30 (⟨by unfold sFau; rw [if_neg (by omega), if_neg (by omega)], rfl⟩)
    · skip
      refine lv_bipush (v := zI (-12)) C0.1 C0.2.1 dX9_shapeFault_24 rfl ?_
      refine lv_goto (tgt := 30) C0.1 C0.2.1 dX9_shapeFault_26 (by decide) ?_
      exact mm_iret (z := (-12)) C0 hr hlk hM hS dX9_shapeFault_30 (⟨by unfold sFau; rw [if_neg (by omega), if_pos (by omega)], rfl⟩)
  · skip
    refine lv_bipush (v := zI (-11)) C0.1 C0.2.1 dX9_shapeFault_14 rfl ?_
    refine lv_goto (tgt := 30) C0.1 C0.2.1 dX9_shapeFault_16 (by decide) ?_
    exact mm_iret (z := (-11)) C0 hr hlk hM hS dX9_shapeFault_30 (⟨by unfold sFau; rw [if_pos (by omega)], rfl⟩)

def rX9_numbersFault : Room := { frames := 1, cells := 0, slots := 0, locals := 22 }
theorem vw_X9_numbersFault : mm_Vw RX9 yX9_numbersFault cX9_numbersFault 4 (some .int) 2 := ⟨tw_400, tp_2, tw_1, tw_401, by decide +kernel⟩
set_option maxHeartbeats 4000000 in
set_option maxRecDepth 100000 in
theorem c_X9_numbersFault (l : Launch) (G : mG) (E0 : mE) {h : Nat} {S : mST} (hS9 : st G E0 h S) {p1 p2 : Int} (i j : Nat) (hpi : p1 = (i : Int)) (hpj : p2 = (j : Int)) (hi_i : i < 8) (hi_j : j < 8) : mm_Ci l yX9_numbersFault (.code yX9_numbersFault cX9_numbersFault 4 (some .int) :: wsG) rX9_numbersFault G [.ref (h), .int (zI (p1)), .int (zI (p2))] E0 (fun z E => z = fau2 (nFau (S.2.1.1 i)) (nFau (S.2.1.1 j)) ∧ E = E0) := by
  refine mm_of_i (by decide +kernel) (Nat.le_of_ble_eq_true rfl) ?_
  intro p e s m args below meth c ls C0 hr hlk hM hl hS
  have hl : lv_has ls 4 [(0, .ref (h)), (1, .int (zI (p1))), (2, .int (zI (p2)))] := hl
  refine lv_aload_n C0.1 C0.2.1 dX9_numbersFault_0 rfl (lv_at hl 0 rfl) ?_
  refine lv_iload_n C0.1 C0.2.1 dX9_numbersFault_1 rfl (lv_at hl 1 rfl) ?_
  refine mm_callVi (As := [.int (zI (p1))]) C0 vw_X9_numberFault tw_385 (c_X9_numberFault l G _ hS9 i hpi hi_i) hM (hS9.1.1) rfl rfl hl.1 rfl (Nat.le_of_ble_eq_true rfl) ⟨rfl, rfl, Nat.le_of_ble_eq_true rfl, Nat.le_of_ble_eq_true rfl, Nat.zero_le _, Nat.zero_le _⟩ dX9_numbersFault_2 hS (fun z_2 E1 H locs hp hM hS => ?_)
  obtain ⟨hz_2, hEq⟩ := hp
  rw [hEq] at hM
  refine z_asI (b := (nFau (S.2.1.1 i))) (hz_2) ?_
  have hnb := nFau_b (S.2.1.1 i)
  refine lv_istore_n (lv' := [(3, .int (zI ((nFau (S.2.1.1 i))))), (0, .ref (h)), (1, .int (zI (p1))), (2, .int (zI (p2)))]) C0.1 C0.2.1 dX9_numbersFault_5 rfl hl (by decide) rfl (fun ls hl => ?_)
  refine lv_iload_n C0.1 C0.2.1 dX9_numbersFault_6 rfl (lv_at hl 0 rfl) ?_
  refine z_if_eq (tgt := 14) C0.1 C0.2.1 dX9_numbersFault_7 (by decide) ⟨by omega, by omega⟩ (fun c_7 => ?_) (fun c_7 => ?_)
  · skip
    refine lv_aload_n C0.1 C0.2.1 dX9_numbersFault_14 rfl (lv_at hl 1 rfl) ?_
    refine lv_iload_n C0.1 C0.2.1 dX9_numbersFault_15 rfl (lv_at hl 3 rfl) ?_
    refine mm_callVi (As := [.int (zI (p2))]) C0 vw_X9_numberFault tw_385 (c_X9_numberFault l G _ hS9 j hpj hi_j) hM (hS9.1.1) rfl rfl hl.1 rfl (Nat.le_of_ble_eq_true rfl) ⟨rfl, rfl, Nat.le_of_ble_eq_true rfl, Nat.le_of_ble_eq_true rfl, Nat.zero_le _, Nat.zero_le _⟩ dX9_numbersFault_16 hS (fun z_16 E2 H locs hp hM hS => ?_)
    obtain ⟨hz_16, hEq⟩ := hp
    rw [hEq] at hM
    refine z_asI (b := (nFau (S.2.1.1 j))) (hz_16) ?_
    exact mm_iret (z := (nFau (S.2.1.1 j))) C0 hr hlk hM hS dX9_numbersFault_19 (⟨by unfold fau2; rw [if_pos c_7], rfl⟩)
  · skip
    refine lv_iload_n C0.1 C0.2.1 dX9_numbersFault_10 rfl (lv_at hl 0 rfl) ?_
    refine lv_goto (tgt := 19) C0.1 C0.2.1 dX9_numbersFault_11 (by decide) ?_
    exact mm_iret (z := (nFau (S.2.1.1 i))) C0 hr hlk hM hS dX9_numbersFault_19 (⟨by unfold fau2; rw [if_neg c_7], rfl⟩)

def rX9_shapeAndNumberFault : Room := { frames := 1, cells := 0, slots := 0, locals := 22 }
theorem vw_X9_shapeAndNumberFault : mm_Vw RX9 yX9_shapeAndNumberFault cX9_shapeAndNumberFault 4 (some .int) 2 := ⟨tw_493, tp_8, tw_1, tw_494, by decide +kernel⟩
set_option maxHeartbeats 4000000 in
set_option maxRecDepth 100000 in
theorem c_X9_shapeAndNumberFault (l : Launch) (G : mG) (E0 : mE) {h : Nat} {S : mST} (hS9 : st G E0 h S) {p1 p2 : Int} (i j : Nat) (hpi : p1 = (i : Int)) (hpj : p2 = (j : Int)) (hi_i : i < 8) (hi_j : j < 8) : mm_Ci l yX9_shapeAndNumberFault (.code yX9_shapeAndNumberFault cX9_shapeAndNumberFault 4 (some .int) :: wsG) rX9_shapeAndNumberFault G [.ref (h), .int (zI (p1)), .int (zI (p2))] E0 (fun z E => z = fau2 (sFau (S.2.1.1 i)) (nFau (S.2.1.1 j)) ∧ E = E0) := by
  refine mm_of_i (by decide +kernel) (Nat.le_of_ble_eq_true rfl) ?_
  intro p e s m args below meth c ls C0 hr hlk hM hl hS
  have hl : lv_has ls 4 [(0, .ref (h)), (1, .int (zI (p1))), (2, .int (zI (p2)))] := hl
  refine lv_aload_n C0.1 C0.2.1 dX9_shapeAndNumberFault_0 rfl (lv_at hl 0 rfl) ?_
  refine lv_iload_n C0.1 C0.2.1 dX9_shapeAndNumberFault_1 rfl (lv_at hl 1 rfl) ?_
  refine mm_callVi (As := [.int (zI (p1))]) C0 vw_X9_shapeFault tw_495 (c_X9_shapeFault l G _ hS9 i hpi hi_i) hM (hS9.1.1) rfl rfl hl.1 rfl (Nat.le_of_ble_eq_true rfl) ⟨rfl, rfl, Nat.le_of_ble_eq_true rfl, Nat.le_of_ble_eq_true rfl, Nat.zero_le _, Nat.zero_le _⟩ dX9_shapeAndNumberFault_2 hS (fun z_2 E1 H locs hp hM hS => ?_)
  obtain ⟨hz_2, hEq⟩ := hp
  rw [hEq] at hM
  refine z_asI (b := (sFau (S.2.1.1 i))) (hz_2) ?_
  have hnb := sFau_b (S.2.1.1 i)
  refine lv_istore_n (lv' := [(3, .int (zI ((sFau (S.2.1.1 i))))), (0, .ref (h)), (1, .int (zI (p1))), (2, .int (zI (p2)))]) C0.1 C0.2.1 dX9_shapeAndNumberFault_5 rfl hl (by decide) rfl (fun ls hl => ?_)
  refine lv_iload_n C0.1 C0.2.1 dX9_shapeAndNumberFault_6 rfl (lv_at hl 0 rfl) ?_
  refine z_if_eq (tgt := 14) C0.1 C0.2.1 dX9_shapeAndNumberFault_7 (by decide) ⟨by omega, by omega⟩ (fun c_7 => ?_) (fun c_7 => ?_)
  · skip
    refine lv_aload_n C0.1 C0.2.1 dX9_shapeAndNumberFault_14 rfl (lv_at hl 1 rfl) ?_
    refine lv_iload_n C0.1 C0.2.1 dX9_shapeAndNumberFault_15 rfl (lv_at hl 3 rfl) ?_
    refine mm_callVi (As := [.int (zI (p2))]) C0 vw_X9_numberFault tw_385 (c_X9_numberFault l G _ hS9 j hpj hi_j) hM (hS9.1.1) rfl rfl hl.1 rfl (Nat.le_of_ble_eq_true rfl) ⟨rfl, rfl, Nat.le_of_ble_eq_true rfl, Nat.le_of_ble_eq_true rfl, Nat.zero_le _, Nat.zero_le _⟩ dX9_shapeAndNumberFault_16 hS (fun z_16 E2 H locs hp hM hS => ?_)
    obtain ⟨hz_16, hEq⟩ := hp
    rw [hEq] at hM
    refine z_asI (b := (nFau (S.2.1.1 j))) (hz_16) ?_
    exact mm_iret (z := (nFau (S.2.1.1 j))) C0 hr hlk hM hS dX9_shapeAndNumberFault_19 (⟨by unfold fau2; rw [if_pos c_7], rfl⟩)
  · skip
    refine lv_iload_n C0.1 C0.2.1 dX9_shapeAndNumberFault_10 rfl (lv_at hl 0 rfl) ?_
    refine lv_goto (tgt := 19) C0.1 C0.2.1 dX9_shapeAndNumberFault_11 (by decide) ?_
    exact mm_iret (z := (sFau (S.2.1.1 i))) C0 hr hlk hM hS dX9_shapeAndNumberFault_19 (⟨by unfold fau2; rw [if_neg c_7], rfl⟩)

def rX9_land : Room := { frames := 4, cells := 0, slots := 0, locals := 88 }
theorem vw_X9_land : mm_Vw RX9 yX9_land cX9_land 3 (some .int) 2 := ⟨tw_298, tp_0, tw_1, tw_299, by decide +kernel⟩
set_option maxHeartbeats 4000000 in
set_option maxRecDepth 100000 in
theorem c_X9_land (l : Launch) (G : mG) (E0 : mE) {h : Nat} {S : mST} (hS9 : st G E0 h S) {o n : Nat} {pp : Int} (i : Nat) (hpi : pp = (i : Int)) (hi_i : i < 8) (hOo : isW G E0 o n) (ho : h + 6 ≤ o ∧ o + 2 ≤ h + 50) : mm_Ci l yX9_land (.code yX9_land cX9_land 3 (some .int) :: wsG) rX9_land G [.ref (h), .int (zI (pp)), .ref (o)] E0 (fun z E => z = lanZ n ∧ st G E h (lanS S i n) ∧ isW G E o n ∧ ∀ q : Nat, (q < h + 50 + 6 * i ∨ h + 50 + 6 * i + 3 ≤ q) → E q = E0 q) := by
  refine mm_of_i (by decide +kernel) (Nat.le_of_ble_eq_true rfl) ?_
  intro p e s m args below meth c ls C0 hr hlk hM hl hS
  have hl : lv_has ls 3 [(0, .ref (h)), (1, .int (zI (pp))), (2, .ref (o))] := hl
  have hSo := hS9
  obtain ⟨⟨hO1, ⟨f1, f2, f3, hr1, hr2, hr3, hf1, hf2, hf3⟩, ⟨hTp, hTk⟩, ⟨hPl, hPk⟩, ⟨hKl, hKk⟩, ⟨hSh, hSk⟩⟩, hSc⟩ := hS9
  obtain ⟨hp_i, hw_i⟩ := hPl i hi_i
  obtain ⟨ho_i1, ho_i2, ho_i3, ho_i4⟩ := hPk i hi_i
  have hle := hOo.le
  refine lv_aload_n C0.1 C0.2.1 dX9_land_0 rfl (lv_at hl 2 rfl) ?_
  refine mm_get (fs := [.ref (o + 1), .int (zI (((nl (n) : Nat) : Int)))]) C0 (C := RX8) (T := TX8) (N := 2) iG_X8 hM (hOo.obj) rfl 1 (by decide) tw_85 rfl rfl dX9_land_1 ?_
  refine lv_bipush (v := zI 24) C0.1 C0.2.1 dX9_land_4 rfl ?_
  refine z_icmp_le (tgt := 12) C0.1 C0.2.1 dX9_land_6 (by decide) ⟨by omega, by omega⟩ ⟨by omega, by omega⟩ (fun c_6 => ?_) (fun c_6 => ?_)
  · skip
    refine lv_aload_n C0.1 C0.2.1 dX9_land_12 rfl (lv_at hl 0 rfl) ?_
    refine mm_get (fs := [.ref (h + 1), .ref (h + 2), .ref (h + 3), .ref (h + 4), .ref (h + 6), .ref (h + 17), .ref (h + 30), .ref (h + 31), .ref (h + 46), .ref (h + 48), .int (zI (S.1.1))]) C0 (C := RX9) (T := TX9) (N := 11) iG_X9 hM (hO1) rfl 0 (by decide) tw_236 rfl rfl dX9_land_13 ?_
    refine lv_iload_n C0.1 C0.2.1 dX9_land_16 rfl (lv_at hl 1 rfl) ?_
    refine mm_aald C0 hM 2 (C := "OrangeHeaps$Place") (hr1) rfl (i) (i := pp) (by omega) (by omega) (by decide) (v := h + 50 + 6 * i) (hf1 _ (by omega)) dX9_land_17 ?_
    refine lv_aload_n C0.1 C0.2.1 dX9_land_18 rfl (lv_at hl 2 rfl) ?_
    refine mm_callVv (As := [.ref (o)]) C0 vw_X3_holdNumber tw_300 (c_X3_holdNumber l G _ hp_i hw_i.v hOo (by omega)) hM (hp_i) rfl rfl hl.1 rfl (Nat.le_of_ble_eq_true rfl) ⟨rfl, rfl, Nat.le_of_ble_eq_true rfl, Nat.le_of_ble_eq_true rfl, Nat.zero_le _, Nat.zero_le _⟩ dX9_land_19 hS (fun E1 H locs hp hM hS => ?_)
    obtain ⟨hp2, hw2, fr⟩ := hp
    have hOo := isW.kept hOo (fr _ (by omega)) (fr _ (by omega))
    refine lv_aload_n C0.1 C0.2.1 dX9_land_22 rfl (lv_at hl 2 rfl) ?_
    refine mm_callVi (As := []) C0 vw_X8_countFigures tw_312 (c_X8_countFigures l G _ hOo) hM (hOo.obj) rfl rfl hl.1 rfl (Nat.le_of_ble_eq_true rfl) ⟨rfl, rfl, Nat.le_of_ble_eq_true rfl, Nat.le_of_ble_eq_true rfl, Nat.zero_le _, Nat.zero_le _⟩ dX9_land_23 hS (fun z_23 E2 H locs hp hM hS => ?_)
    obtain ⟨hz_23, hEq⟩ := hp
    rw [hEq] at hM
    refine z_asI (b := (fgs n : Int)) (hz_23) ?_
    exact mm_iret (z := (fgs n : Int)) C0 hr hlk hM hS dX9_land_26 (⟨by unfold lanZ; rw [if_neg (by omega)], by unfold lanS; rw [if_neg (by omega)]; exact hSo.put hi_i hp2 hw2 ⟨by omega, ho_i2, by omega, by omega⟩ fr, hOo, fr⟩)
  · skip
    refine lv_bipush (v := zI (-3)) C0.1 C0.2.1 dX9_land_9 rfl ?_
    exact mm_iret (z := (-3)) C0 hr hlk hM hS dX9_land_11 (⟨by unfold lanZ; rw [if_pos (by omega)], by unfold lanS; rw [if_pos (by omega)]; exact hSo, hOo, fun _ _ => rfl⟩)
