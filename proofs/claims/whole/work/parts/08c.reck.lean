def tkI (f1 f : Nat → Nat) (D i j g : Nat) (debt : Int) : Prop := (bV (sh f1 j) i : Int) + debt * (1000000000 ^ i : Nat) = (bV (sh f j) i : Int) - (g : Int) * ((D % 1000000000 ^ i : Nat) : Int)
def tkJ (f1 f : Nat → Nat) (D n j g t : Nat) (debt : Int) : Prop := (bV (sh f1 j) (n + 1) : Int) + debt * ((1000000000 ^ (n + 1) : Nat) : Int) = ((bV (sh f j) (n + 1) : Nat) : Int) - ((g : Int) - (t : Int)) * (D : Int)
def gbI (g f : Nat → Nat) (D i j cy : Nat) : Prop := bV (sh g j) i + cy * 1000000000 ^ i = bV (sh f j) i + D % 1000000000 ^ i
theorem tkI_J {f1 f : Nat → Nat} {D n i j g : Nat} {debt : Int} (h : tkI f1 f D i j g debt) (hi : i = n + 1) (hD : D < 1000000000 ^ (n + 1)) : tkJ f1 f D n j g 0 debt := by
  subst hi
  unfold tkI at h
  unfold tkJ
  rw [Nat.mod_eq_of_lt hD] at h
  rw [h]; simp
theorem tkJ_s {f2 f1 f : Nat → Nat} {D n j g t cy : Nat} {debt : Int} (h : bV (sh f2 j) (n + 1) + cy * 1000000000 ^ (n + 1) = bV (sh f1 j) (n + 1) + D) (hv : tkJ f1 f D n j g t debt) : tkJ f2 f D n j g (t + 1) (debt + (cy : Int)) := by
  unfold tkJ at *
  generalize bV (sh f2 j) (n + 1) = W2 at *
  generalize bV (sh f1 j) (n + 1) = W1 at *
  generalize bV (sh f j) (n + 1) = W0 at *
  generalize 1000000000 ^ (n + 1) = P at *
  have h9 : ((W2 + cy * P : Nat) : Int) = ((W1 + D : Nat) : Int) := by rw [h]
  simp only [Int.natCast_add, Int.natCast_mul] at h9 ⊢
  grind
theorem gbI_e {g f : Nat → Nat} {D n i j cy : Nat} (h : gbI g f D i j cy) (hi : i = n + 1) (hD : D < 1000000000 ^ (n + 1)) : bV (sh g j) (n + 1) + cy * 1000000000 ^ (n + 1) = bV (sh f j) (n + 1) + D := by
  subst hi
  unfold gbI at h
  rw [Nat.mod_eq_of_lt hD] at h
  exact h
def rk (G : mG) (E : mE) (r : Nat) : Prop := E r = some (.inr (3, [.ref (r + 1), .ref (r + 3), .ref (r + 5), .ref (r + 7), .ref (r + 9)]))
theorem rk.kept {G : mG} {E E1 : mE} {r : Nat} (h : rk G E r) (h1 : E1 r = E r) : rk G E1 r := h1.trans h

def rX4_guessAt : Room := { frames := 1, cells := 0, slots := 0, locals := 23 }
theorem vw_X4_guessAt : mm_Vw RX4 yX4_guessAt cX4_guessAt 7 (some .long) 2 := ⟨tw_438, tp_5, tw_3, tw_439, by decide +kernel⟩
set_option maxHeartbeats 4000000 in
set_option maxRecDepth 100000 in
theorem c_X4_guessAt (l : Launch) (G : mG) (E0 : mE) {r m1 D : Nat} {f : Nat → Nat} (j n : Nat) (hk : rk G E0 r) (hR : wR G E0 (r + 3) m1 f) (hD : isW G E0 (r + 5) D) (hjn : j + n < m1) (hn : n = nl D) (hn0 : 0 < n) : mm_Cl l yX4_guessAt (.code yX4_guessAt cX4_guessAt 7 (some .long) :: wsG) rX4_guessAt G [.ref (r), .int (zI ((j : Int))), .int (zI ((n : Int)))] E0 (fun z E => z = ((min ((f (j + n) * 1000000000 + f (j + n - 1)) / dg D (n - 1)) 999999999 : Nat) : Int) ∧ E = E0) := by
  refine mm_of_l (by decide +kernel) (Nat.le_of_ble_eq_true rfl) ?_
  intro p e s m args below meth c ls C0 hr hlk hM hl hS
  have hl : lv_has ls 7 [(0, .ref (r)), (1, .int (zI ((j : Int)))), (2, .int (zI ((n : Int))))] := hl
  have hm1 := hR.2.2.1
  have hf1 := hR.2.2.2 (j + n) (by omega)
  have hf2 := hR.2.2.2 (j + n - 1) (by omega)
  have hv0 : dg D (n - 1) ≠ 0 := by rw [hn]; exact dg_top (nl_pos.mp (by omega))
  have hvl := dg_lt D (n - 1)
  obtain ⟨gq, hgq⟩ : ∃ x, x = (f (j + n) * 1000000000 + f (j + n - 1)) / dg D (n - 1) := ⟨_, rfl⟩
  have hle : gq ≤ f (j + n) * 1000000000 + f (j + n - 1) := by rw [hgq]; exact Nat.div_le_self _ _
  rw [← hgq]
  refine lv_aload_n C0.1 C0.2.1 dX4_guessAt_0 rfl (lv_at hl 0 rfl) ?_
  refine mm_get (fs := [.ref (r + 1), .ref (r + 3), .ref (r + 5), .ref (r + 7), .ref (r + 9)]) C0 (C := RX4) (T := TX4) (N := 5) iG_X4 hM (hk) rfl 1 (by decide) tw_94 rfl rfl dX4_guessAt_1 ?_
  refine lv_iload_n C0.1 C0.2.1 dX4_guessAt_4 rfl (lv_at hl 1 rfl) ?_
  refine lv_iload_n C0.1 C0.2.1 dX4_guessAt_5 rfl (lv_at hl 2 rfl) ?_
  refine z_iadd C0.1 C0.2.1 dX4_guessAt_6 ?_
  refine mm_callVl (As := [.int (zI ((((j : Int)) + ((n : Int)))))]) C0 vw_X8_limb tw_421 (c_X8_limb l G _ hR ⟨by omega, by omega⟩) hM (hR.1) rfl rfl hl.1 rfl (Nat.le_of_ble_eq_true rfl) ⟨rfl, rfl, Nat.le_of_ble_eq_true rfl, Nat.le_of_ble_eq_true rfl, Nat.zero_le _, Nat.zero_le _⟩ dX4_guessAt_7 hS (fun z_7 E1 H locs hp hM hS => ?_)
  obtain ⟨hz_7, hEq⟩ := hp
  rw [hEq] at hM
  refine z_asL (b := ((f (j + n) : Nat) : Int)) (hz_7.trans (lmb_in (k := j + n) (by omega) (by omega))) ?_
  refine mm_ldc2 (z := 1000000000) C0 tw_430 rfl dX4_guessAt_10 ?_
  refine z_lmul C0.1 C0.2.1 dX4_guessAt_13 ?_
  refine lv_aload_n C0.1 C0.2.1 dX4_guessAt_14 rfl (lv_at hl 0 rfl) ?_
  refine mm_get (fs := [.ref (r + 1), .ref (r + 3), .ref (r + 5), .ref (r + 7), .ref (r + 9)]) C0 (C := RX4) (T := TX4) (N := 5) iG_X4 hM (hk) rfl 1 (by decide) tw_94 rfl rfl dX4_guessAt_15 ?_
  refine lv_iload_n C0.1 C0.2.1 dX4_guessAt_18 rfl (lv_at hl 1 rfl) ?_
  refine lv_iload_n C0.1 C0.2.1 dX4_guessAt_19 rfl (lv_at hl 2 rfl) ?_
  refine z_iadd C0.1 C0.2.1 dX4_guessAt_20 ?_
  refine lv_iconst (v := zI 1) C0.1 C0.2.1 dX4_guessAt_21 rfl ?_
  refine z_isub C0.1 C0.2.1 dX4_guessAt_22 ?_
  refine mm_callVl (As := [.int (zI ((((((j : Int)) + ((n : Int)))) - (1))))]) C0 vw_X8_limb tw_421 (c_X8_limb l G _ hR ⟨by omega, by omega⟩) hM (hR.1) rfl rfl hl.1 rfl (Nat.le_of_ble_eq_true rfl) ⟨rfl, rfl, Nat.le_of_ble_eq_true rfl, Nat.le_of_ble_eq_true rfl, Nat.zero_le _, Nat.zero_le _⟩ dX4_guessAt_23 hS (fun z_23 E2 H locs hp hM hS => ?_)
  obtain ⟨hz_23, hEq⟩ := hp
  rw [hEq] at hM
  refine z_asL (b := ((f (j + n - 1) : Nat) : Int)) (hz_23.trans (lmb_in (k := j + n - 1) (by omega) (by omega))) ?_
  refine z_ladd C0.1 C0.2.1 dX4_guessAt_26 ?_
  refine z_asL (a := ((((((f (j + n) : Nat) : Int)) * (1000000000))) + (((f (j + n - 1) : Nat) : Int)))) (b := ((f (j + n) * 1000000000 + f (j + n - 1) : Nat) : Int)) (by omega) ?_
  refine lv_lstore_n (lv' := [(3, .long (zL (((f (j + n) * 1000000000 + f (j + n - 1) : Nat) : Int)))), (0, .ref (r)), (1, .int (zI ((j : Int)))), (2, .int (zI ((n : Int))))]) C0.1 C0.2.1 dX4_guessAt_27 rfl hl (by decide) rfl (fun ls hl => ?_)
  refine lv_aload_n C0.1 C0.2.1 dX4_guessAt_28 rfl (lv_at hl 1 rfl) ?_
  refine mm_get (fs := [.ref (r + 1), .ref (r + 3), .ref (r + 5), .ref (r + 7), .ref (r + 9)]) C0 (C := RX4) (T := TX4) (N := 5) iG_X4 hM (hk) rfl 2 (by decide) tw_96 rfl rfl dX4_guessAt_29 ?_
  refine lv_iload_n C0.1 C0.2.1 dX4_guessAt_32 rfl (lv_at hl 3 rfl) ?_
  refine lv_iconst (v := zI 1) C0.1 C0.2.1 dX4_guessAt_33 rfl ?_
  refine z_isub C0.1 C0.2.1 dX4_guessAt_34 ?_
  refine mm_callVl (As := [.int (zI ((((n : Int)) - (1))))]) C0 vw_X8_limb tw_421 (c_X8_limbW l G _ hD (n - 1) (by omega) ⟨by omega, by omega⟩) hM (hD.obj) rfl rfl hl.1 rfl (Nat.le_of_ble_eq_true rfl) ⟨rfl, rfl, Nat.le_of_ble_eq_true rfl, Nat.le_of_ble_eq_true rfl, Nat.zero_le _, Nat.zero_le _⟩ dX4_guessAt_35 hS (fun z_35 E3 H locs hp hM hS => ?_)
  obtain ⟨hz_35, hEq⟩ := hp
  rw [hEq] at hM
  refine z_asL (b := (dg D (n - 1) : Int)) (hz_35) ?_
  refine lv_lstore (lv' := [(5, .long (zL ((dg D (n - 1) : Int)))), (3, .long (zL (((f (j + n) * 1000000000 + f (j + n - 1) : Nat) : Int)))), (0, .ref (r)), (1, .int (zI ((j : Int)))), (2, .int (zI ((n : Int))))]) C0.1 C0.2.1 dX4_guessAt_38 hl (by decide) rfl (fun ls hl => ?_)
  refine lv_lload C0.1 C0.2.1 dX4_guessAt_40 (lv_at hl 0 rfl) ?_
  refine lv_lconst (v := zL 0) C0.1 C0.2.1 dX4_guessAt_42 rfl ?_
  refine z_lcmp_ne (tgt := 51) C0.1 C0.2.1 dX4_guessAt_43 dX4_guessAt_44 (by decide) ⟨by omega, by omega⟩ ⟨by omega, by omega⟩ (fun c_43 => ?_) (fun c_43 => ?_)
  · skip
    refine lv_lload_n C0.1 C0.2.1 dX4_guessAt_51 rfl (lv_at hl 1 rfl) ?_
    refine lv_lload C0.1 C0.2.1 dX4_guessAt_52 (lv_at hl 0 rfl) ?_
    refine z_ldivp C0.1 C0.2.1 dX4_guessAt_54 ⟨by omega, by omega⟩ ⟨by omega, by omega⟩ (by omega) (by omega) ?_
    refine z_asL (a := ((((f (j + n) * 1000000000 + f (j + n - 1) : Nat) : Int)) / ((dg D (n - 1) : Int)))) (b := (gq : Int)) (by rw [hgq]; exact (Int.natCast_ediv _ _).symm) ?_
    refine mm_ldc2 (z := 999999999) C0 tw_440 rfl dX4_guessAt_55 ?_
    refine z_lmin C0.1 C0.2.1 (C0.2.2.1.trans hl.1.symm) C0.2.2.2.1 (C0.2.2.2.2.1 _ tml_tw_441) (C0.2.2.2.2.1 _ tms_min_long) (C0.2.2.2.2.1 _ tmi) (C0.2.2.2.2.1 _ tmc_min_long) (Nat.le_of_ble_eq_true rfl) (Nat.le_of_ble_eq_true rfl) (Nat.zero_le _) (Nat.zero_le _) ⟨by omega, by omega⟩ ⟨by omega, by omega⟩ dX4_guessAt_58 ?_
    exact mm_lret (z := (min ((gq : Int)) (999999999))) C0 hr hlk hM hS dX4_guessAt_61 (⟨by omega, rfl⟩)
  · skip
    omega

def rX4_giveBack : Room := { frames := 1, cells := 0, slots := 0, locals := 23 }
theorem vw_X4_giveBack : mm_Vw RX4 yX4_giveBack cX4_giveBack 8 (some .long) 2 := ⟨tw_457, tp_7, tw_3, tw_458, by decide +kernel⟩
set_option maxHeartbeats 4000000 in
set_option maxRecDepth 100000 in
theorem c_X4_giveBack (l : Launch) (G : mG) (E0 : mE) {r m1 D : Nat} {f : Nat → Nat} (j n : Nat) (hk : rk G E0 r) (hR : wR G E0 (r + 3) m1 f) (hD : isW G E0 (r + 5) D) (hjn : j + n < m1) (hn : nl D ≤ n + 1) : mm_Cl l yX4_giveBack (.code yX4_giveBack cX4_giveBack 8 (some .long) :: wsG) rX4_giveBack G [.ref (r), .int (zI ((j : Int))), .int (zI ((n : Int)))] E0 (fun z E => (∃ (cy : Nat) (g : Nat → Nat), z = (cy : Int) ∧ cy ≤ 1 ∧ wR G E (r + 3) m1 g ∧ (∀ k, (k < j ∨ j + n < k) → g k = f k) ∧ bV (sh g j) (n + 1) + cy * 1000000000 ^ (n + 1) = bV (sh f j) (n + 1) + D) ∧ ∀ q : Nat, (q < r + 3 ∨ r + 5 ≤ q) → E q = E0 q) := by
  refine mm_of_l (by decide +kernel) (Nat.le_of_ble_eq_true rfl) ?_
  intro p e s m args below meth c ls C0 hr hlk hM hl hS
  have hl : lv_has ls 8 [(0, .ref (r)), (1, .int (zI ((j : Int)))), (2, .int (zI ((n : Int))))] := hl
  have hm1 := hR.2.2.1
  have hfr : ∀ q : Nat, (q < r + 3 ∨ r + 5 ≤ q) → E0 q = E0 q := fun _ _ => rfl
  refine lv_lconst (v := zL 0) C0.1 C0.2.1 dX4_giveBack_0 rfl ?_
  refine lv_lstore_n (lv' := [(3, .long (zL (0))), (0, .ref (r)), (1, .int (zI ((j : Int)))), (2, .int (zI ((n : Int))))]) C0.1 C0.2.1 dX4_giveBack_1 rfl hl (by decide) rfl (fun ls hl => ?_)
  refine lv_iconst (v := zI 0) C0.1 C0.2.1 dX4_giveBack_2 rfl ?_
  refine lv_istore (lv' := [(5, .int (zI (0))), (3, .long (zL (0))), (0, .ref (r)), (1, .int (zI ((j : Int)))), (2, .int (zI ((n : Int))))]) C0.1 C0.2.1 dX4_giveBack_3 hl (by decide) rfl (fun ls hl => ?_)
  have L5 : ∀ (k5 : Nat) (i cy : Nat) (g : Nat → Nat) (E1 : mE) (H : Heap) (locs : List Loc) (ls : Array Slot), (i ≤ n + 1) → (cy ≤ 1) → (∀ k, (k < j ∨ j + i ≤ k) → g k = f k) → (gbI g f D i j cy) → (wR G E1 (r + 3) m1 g) → (rk G E1 r) → (isW G E1 (r + 5) D) → (∀ q : Nat, (q < r + 3 ∨ r + 5 ≤ q) → E1 q = E0 q) → n + 1 - i < k5 → mm_M G E1 H → va_S (mm_A G) s.heap H locs → lv_has ls 8 [(0, .ref (r)), (1, .int (zI ((j : Int)))), (2, .int (zI ((n : Int)))), (3, .long (zL ((cy : Int)))), (5, .int (zI ((i : Int))))] → W p l e rX4_giveBack s m args below meth c H locs 0 0 (mm_Zl G below args s (fun z E => (∃ (cy : Nat) (g : Nat → Nat), z = (cy : Int) ∧ cy ≤ 1 ∧ wR G E (r + 3) m1 g ∧ (∀ k, (k < j ∨ j + n < k) → g k = f k) ∧ bV (sh g j) (n + 1) + cy * 1000000000 ^ (n + 1) = bV (sh f j) (n + 1) + D) ∧ ∀ q : Nat, (q < r + 3 ∨ r + 5 ≤ q) → E q = E0 q)) (F0 m 5 ls []) := by
    intro k5
    induction k5 with
    | zero => intro i cy g E1 H locs ls hi hc hg hv hR hk hD hfr hk hM hS hl; exact absurd hk (Nat.not_lt_zero _)
    | succ k5 ih5 =>
      intro i cy g E1 H locs ls hi hc hg hv hR hk hD hfr hk5 hM hS hl
      have hd2 := dg_lt D i
      refine lv_iload C0.1 C0.2.1 dX4_giveBack_5 (lv_at hl 4 rfl) ?_
      refine lv_iload_n C0.1 C0.2.1 dX4_giveBack_7 rfl (lv_at hl 2 rfl) ?_
      refine z_icmp_gt (tgt := 76) C0.1 C0.2.1 dX4_giveBack_8 (by decide) ⟨by omega, by omega⟩ ⟨by omega, by omega⟩ (fun c_8 => ?_) (fun c_8 => ?_)
      · skip
        have hie : i = n + 1 := by omega
        refine lv_lload_n C0.1 C0.2.1 dX4_giveBack_76 rfl (lv_at hl 3 rfl) ?_
        exact mm_lret (z := (cy : Int)) C0 hr hlk hM hS dX4_giveBack_77 (⟨⟨cy, g, rfl, hc, hR, fun k h => hg k (by omega), gbI_e hv hie ((nl_le _ _).mp hn)⟩, hfr⟩)
      · skip
        have hf9 : f (i + j) < 1000000000 := by rw [← hg (i + j) (by omega)]; exact hR.2.2.2 _ (by omega)
        refine lv_aload_n C0.1 C0.2.1 dX4_giveBack_11 rfl (lv_at hl 0 rfl) ?_
        refine mm_get (fs := [.ref (r + 1), .ref (r + 3), .ref (r + 5), .ref (r + 7), .ref (r + 9)]) C0 (C := RX4) (T := TX4) (N := 5) iG_X4 hM (hk) rfl 1 (by decide) tw_94 rfl rfl dX4_giveBack_12 ?_
        refine lv_iload C0.1 C0.2.1 dX4_giveBack_15 (lv_at hl 4 rfl) ?_
        refine lv_iload_n C0.1 C0.2.1 dX4_giveBack_17 rfl (lv_at hl 1 rfl) ?_
        refine z_iadd C0.1 C0.2.1 dX4_giveBack_18 ?_
        refine mm_callVl (As := [.int (zI ((((i : Int)) + ((j : Int)))))]) C0 vw_X8_limb tw_421 (c_X8_limb l G _ hR ⟨by omega, by omega⟩) hM (hR.1) rfl rfl hl.1 rfl (Nat.le_of_ble_eq_true rfl) ⟨rfl, rfl, Nat.le_of_ble_eq_true rfl, Nat.le_of_ble_eq_true rfl, Nat.zero_le _, Nat.zero_le _⟩ dX4_giveBack_19 hS (fun z_19 E2 H locs hp hM hS => ?_)
        obtain ⟨hz_19, hEq⟩ := hp
        rw [hEq] at hM
        refine z_asL (b := ((f (i + j) : Nat) : Int)) (hz_19.trans ((lmb_in (k := i + j) (by omega) (by omega)).trans (by rw [hg (i + j) (by omega)]))) ?_
        refine lv_aload_n C0.1 C0.2.1 dX4_giveBack_22 rfl (lv_at hl 0 rfl) ?_
        refine mm_get (fs := [.ref (r + 1), .ref (r + 3), .ref (r + 5), .ref (r + 7), .ref (r + 9)]) C0 (C := RX4) (T := TX4) (N := 5) iG_X4 hM (hk) rfl 2 (by decide) tw_96 rfl rfl dX4_giveBack_23 ?_
        refine lv_iload C0.1 C0.2.1 dX4_giveBack_26 (lv_at hl 4 rfl) ?_
        refine mm_callVl (As := [.int (zI ((i : Int)))]) C0 vw_X8_limb tw_421 (c_X8_limbW l G _ hD i rfl ⟨by omega, by omega⟩) hM (hD.obj) rfl rfl hl.1 rfl (Nat.le_of_ble_eq_true rfl) ⟨rfl, rfl, Nat.le_of_ble_eq_true rfl, Nat.le_of_ble_eq_true rfl, Nat.zero_le _, Nat.zero_le _⟩ dX4_giveBack_28 hS (fun z_28 E3 H locs hp hM hS => ?_)
        obtain ⟨hz_28, hEq⟩ := hp
        rw [hEq] at hM
        refine z_asL (b := (dg D i : Int)) (hz_28) ?_
        refine z_ladd C0.1 C0.2.1 dX4_giveBack_31 ?_
        refine lv_lload_n C0.1 C0.2.1 dX4_giveBack_32 rfl (lv_at hl 3 rfl) ?_
        refine z_ladd C0.1 C0.2.1 dX4_giveBack_33 ?_
        refine z_asL (a := ((((((f (i + j) : Nat) : Int)) + ((dg D i : Int)))) + ((cy : Int)))) (b := ((f (i + j) + dg D i + cy : Nat) : Int)) (by omega) ?_
        refine lv_lstore (lv' := [(6, .long (zL (((f (i + j) + dg D i + cy : Nat) : Int)))), (0, .ref (r)), (1, .int (zI ((j : Int)))), (2, .int (zI ((n : Int)))), (3, .long (zL ((cy : Int)))), (5, .int (zI ((i : Int))))]) C0.1 C0.2.1 dX4_giveBack_34 hl (by decide) rfl (fun ls hl => ?_)
        refine lv_lload C0.1 C0.2.1 dX4_giveBack_36 (lv_at hl 0 rfl) ?_
        refine mm_ldc2 (z := 1000000000) C0 tw_430 rfl dX4_giveBack_38 ?_
        refine z_lcmp_lt (tgt := 49) C0.1 C0.2.1 dX4_giveBack_41 dX4_giveBack_42 (by decide) ⟨by omega, by omega⟩ ⟨by omega, by omega⟩ (fun c_41 => ?_) (fun c_41 => ?_)
        · skip
          refine lv_lconst (v := zL 0) C0.1 C0.2.1 dX4_giveBack_49 rfl ?_
          refine lv_lstore_n (lv' := [(3, .long (zL (0))), (6, .long (zL (((f (i + j) + dg D i + cy : Nat) : Int)))), (0, .ref (r)), (1, .int (zI ((j : Int)))), (2, .int (zI ((n : Int)))), (5, .int (zI ((i : Int))))]) C0.1 C0.2.1 dX4_giveBack_50 rfl hl (by decide) rfl (fun ls hl => ?_)
          refine lv_aload_n C0.1 C0.2.1 dX4_giveBack_51 rfl (lv_at hl 2 rfl) ?_
          refine mm_get (fs := [.ref (r + 1), .ref (r + 3), .ref (r + 5), .ref (r + 7), .ref (r + 9)]) C0 (C := RX4) (T := TX4) (N := 5) iG_X4 hM (hk) rfl 1 (by decide) tw_94 rfl rfl dX4_giveBack_52 ?_
          refine lv_iload C0.1 C0.2.1 dX4_giveBack_55 (lv_at hl 5 rfl) ?_
          refine lv_iload_n C0.1 C0.2.1 dX4_giveBack_57 rfl (lv_at hl 3 rfl) ?_
          refine z_iadd C0.1 C0.2.1 dX4_giveBack_58 ?_
          refine lv_lload C0.1 C0.2.1 dX4_giveBack_59 (lv_at hl 1 rfl) ?_
          refine lv_lload_n C0.1 C0.2.1 dX4_giveBack_61 rfl (lv_at hl 0 rfl) ?_
          refine mm_ldc2 (z := 1000000000) C0 tw_430 rfl dX4_giveBack_62 ?_
          refine z_lmul C0.1 C0.2.1 dX4_giveBack_65 ?_
          refine z_lsub C0.1 C0.2.1 dX4_giveBack_66 ?_
          refine mm_callVv (As := [.int (zI ((((i : Int)) + ((j : Int))))), .long (zL (((((f (i + j) + dg D i + cy : Nat) : Int)) - (((0) * (1000000000))))))]) C0 vw_X8_write tw_454 (c_X8_write l G _ (f (i + j) + dg D i + cy - 0 * 1000000000) (by omega) (by omega) hR ⟨by omega, by omega⟩) hM (hR.1) rfl rfl hl.1 rfl (Nat.le_of_ble_eq_true rfl) ⟨rfl, rfl, Nat.le_of_ble_eq_true rfl, Nat.le_of_ble_eq_true rfl, Nat.zero_le _, Nat.zero_le _⟩ dX4_giveBack_67 hS (fun E4 H locs hp hM hS => ?_)
          obtain ⟨hR, fr⟩ := hp
          have hk := rk.kept hk (fr _ (by omega))
          have hD := isW.kept hD (fr _ (by omega)) (fr _ (by omega))
          have hfr := (fun q h => (fr q (by omega)).trans (hfr q h) : ∀ q : Nat, (q < r + 3 ∨ r + 5 ≤ q) → E4 q = E0 q)
          rw [wup_in (i := (i : Int) + (j : Int)) (k := i + j) (by omega) (by omega)] at hR
          refine lv_iinc (v := zI (((i + 1 : Nat) : Int))) (lv' := [(5, .int (zI (((i + 1 : Nat) : Int)))), (3, .long (zL (0))), (6, .long (zL (((f (i + j) + dg D i + cy : Nat) : Int)))), (0, .ref (r)), (1, .int (zI ((j : Int)))), (2, .int (zI ((n : Int))))]) C0.1 C0.2.1 dX4_giveBack_70 hl (k := 5) rfl (z_inc (a := (i : Int)) (n := 1) (by omega)) (by decide) rfl (fun ls hl => ?_)
          refine lv_goto (tgt := 5) C0.1 C0.2.1 dX4_giveBack_73 (by decide) ?_
          exact ih5  (i + 1) 0 (nup g (i + j) (f (i + j) + dg D i + cy - 0 * 1000000000)) E4 _ _ _ (by omega) (by omega) (fun k h => by rw [nup_n _ _ (by omega)]; exact hg k (by omega)) (gb_step hv (by omega)) (hR) (hk) (hD) (hfr) (by omega) hM hS (lv_sub hl [3, 4, 5, 1, 0] rfl)
        · skip
          refine lv_lconst (v := zL 1) C0.1 C0.2.1 dX4_giveBack_45 rfl ?_
          refine lv_goto (tgt := 50) C0.1 C0.2.1 dX4_giveBack_46 (by decide) ?_
          refine lv_lstore_n (lv' := [(3, .long (zL (1))), (6, .long (zL (((f (i + j) + dg D i + cy : Nat) : Int)))), (0, .ref (r)), (1, .int (zI ((j : Int)))), (2, .int (zI ((n : Int)))), (5, .int (zI ((i : Int))))]) C0.1 C0.2.1 dX4_giveBack_50 rfl hl (by decide) rfl (fun ls hl => ?_)
          refine lv_aload_n C0.1 C0.2.1 dX4_giveBack_51 rfl (lv_at hl 2 rfl) ?_
          refine mm_get (fs := [.ref (r + 1), .ref (r + 3), .ref (r + 5), .ref (r + 7), .ref (r + 9)]) C0 (C := RX4) (T := TX4) (N := 5) iG_X4 hM (hk) rfl 1 (by decide) tw_94 rfl rfl dX4_giveBack_52 ?_
          refine lv_iload C0.1 C0.2.1 dX4_giveBack_55 (lv_at hl 5 rfl) ?_
          refine lv_iload_n C0.1 C0.2.1 dX4_giveBack_57 rfl (lv_at hl 3 rfl) ?_
          refine z_iadd C0.1 C0.2.1 dX4_giveBack_58 ?_
          refine lv_lload C0.1 C0.2.1 dX4_giveBack_59 (lv_at hl 1 rfl) ?_
          refine lv_lload_n C0.1 C0.2.1 dX4_giveBack_61 rfl (lv_at hl 0 rfl) ?_
          refine mm_ldc2 (z := 1000000000) C0 tw_430 rfl dX4_giveBack_62 ?_
          refine z_lmul C0.1 C0.2.1 dX4_giveBack_65 ?_
          refine z_lsub C0.1 C0.2.1 dX4_giveBack_66 ?_
          refine mm_callVv (As := [.int (zI ((((i : Int)) + ((j : Int))))), .long (zL (((((f (i + j) + dg D i + cy : Nat) : Int)) - (((1) * (1000000000))))))]) C0 vw_X8_write tw_454 (c_X8_write l G _ (f (i + j) + dg D i + cy - 1 * 1000000000) (by omega) (by omega) hR ⟨by omega, by omega⟩) hM (hR.1) rfl rfl hl.1 rfl (Nat.le_of_ble_eq_true rfl) ⟨rfl, rfl, Nat.le_of_ble_eq_true rfl, Nat.le_of_ble_eq_true rfl, Nat.zero_le _, Nat.zero_le _⟩ dX4_giveBack_67 hS (fun E5 H locs hp hM hS => ?_)
          obtain ⟨hR, fr⟩ := hp
          have hk := rk.kept hk (fr _ (by omega))
          have hD := isW.kept hD (fr _ (by omega)) (fr _ (by omega))
          have hfr := (fun q h => (fr q (by omega)).trans (hfr q h) : ∀ q : Nat, (q < r + 3 ∨ r + 5 ≤ q) → E5 q = E0 q)
          rw [wup_in (i := (i : Int) + (j : Int)) (k := i + j) (by omega) (by omega)] at hR
          refine lv_iinc (v := zI (((i + 1 : Nat) : Int))) (lv' := [(5, .int (zI (((i + 1 : Nat) : Int)))), (3, .long (zL (1))), (6, .long (zL (((f (i + j) + dg D i + cy : Nat) : Int)))), (0, .ref (r)), (1, .int (zI ((j : Int)))), (2, .int (zI ((n : Int))))]) C0.1 C0.2.1 dX4_giveBack_70 hl (k := 5) rfl (z_inc (a := (i : Int)) (n := 1) (by omega)) (by decide) rfl (fun ls hl => ?_)
          refine lv_goto (tgt := 5) C0.1 C0.2.1 dX4_giveBack_73 (by decide) ?_
          exact ih5  (i + 1) 1 (nup g (i + j) (f (i + j) + dg D i + cy - 1 * 1000000000)) E5 _ _ _ (by omega) (by omega) (fun k h => by rw [nup_n _ _ (by omega)]; exact hg k (by omega)) (gb_step hv (by omega)) (hR) (hk) (hD) (hfr) (by omega) hM hS (lv_sub hl [3, 4, 5, 1, 0] rfl)
  exact L5 (_ + 1) 0 0 f E0 _ _ _ (Nat.zero_le _) (Nat.zero_le _) (fun _ _ => rfl) (by simp [gbI, bV, Nat.mod_one]) (hR) (hk) (hD) (hfr) (Nat.lt_succ_self _) hM hS (lv_sub hl [2, 3, 4, 1, 0] rfl)
