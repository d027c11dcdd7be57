def fx (G : mG) (E : mE) (x t : Nat) : Prop := E x = some (.inr (0, [.ref (x + 1), .ref (x + 3), .ref t, .ref (x + 5), .ref (x + 7), .ref (x + 9), .ref (x + 11), .ref (x + 13)]))
theorem fx.kept {G : mG} {E E1 : mE} {x t : Nat} (h : fx G E x t) (h1 : E1 x = E x) : fx G E1 x t := h1.trans h
theorem cv_old {d f : Nat} (h : rl d f) (n : Nat) : (cv d f n).1.2 ≤ cvp d f n ∧ (cv d f n).2.1 ≤ cvp d f n ∧ (cv d f n).2.2 ≤ cvp d f n := by
  have h1 := cv_le h.1 h.2.2.1 h.2.2.2.1 n
  have h2 : (cv d f n).1.2 ≤ cvp d f n := by
    cases n with
    | zero => exact h.1
    | succ n => exact cv_up h.1 h.2.2.1 h.2.2.2.1 n
  exact ⟨h2, h1.1, Nat.le_trans h1.2.1 h2⟩
theorem cv_nl {d f n : Nat} (h : rl d f) : nl (cv d f n).1.2 ≤ nl (cvp d f n) ∧ nl (cv d f n).2.1 ≤ nl (cvp d f n) ∧ nl (cv d f n).2.2 ≤ nl (cvp d f n) := ⟨nl_mono (cv_old h n).1, nl_mono (cv_old h n).2.1, nl_mono (cv_old h n).2.2⟩
def lenR (k : Nat) : Nat := if k % 2 = 0 then k else 2 * k
theorem lenR_1 {k : Nat} (h : k % 2 = 0) : lenR k = k := if_pos h
theorem lenR_2 {k : Nat} (h : ¬ k % 2 = 0) : lenR k = 2 * k := if_neg h
def onA (d f k n : Nat) : Nat := (pel d (cvp d f (lenR k - 1)) (cvq d f (lenR k - 1)) (n - 1)).1
def onB (d f k n : Nat) : Nat := (pel d (cvp d f (lenR k - 1)) (cvq d f (lenR k - 1)) (n - 1)).2

def rX1_advance : Room := { frames := 3, cells := 0, slots := 0, locals := 75 }
theorem vw_X1_advance : mm_Vw RX1 yX1_advance cX1_advance 4 none 3 := ⟨tw_596, tp_11, tw_7, tw_597, by decide +kernel⟩
set_option maxHeartbeats 4000000 in
set_option maxRecDepth 100000 in
theorem c_X1_advance (l : Launch) (G : mG) (E0 : mE) {x t a b k N1 N2 : Nat} (hF : fx G E0 x t) (hS5 : isV G E0 (x + 13)) (hA : isW G E0 a N1) (hB : isW G E0 b N2) (ha : a + 2 ≤ x + 13 ∧ x < a ∨ x + 15 ≤ a) (hb : b + 2 ≤ x + 13 ∧ x < b ∨ x + 15 ≤ b) (hab : a + 2 ≤ b ∨ b + 2 ≤ a) (hk : k < 1000000000) (h1 : nl N1 ≤ 54) (h2 : nl N2 ≤ 54) : mm_Cv l yX1_advance (.code yX1_advance cX1_advance 4 none :: wsG) rX1_advance G [.ref (x), .ref (a), .ref (b), .int (zI ((k : Int)))] E0 (fun E => isW G E a (N1 * k + N2) ∧ isW G E b N1 ∧ isV G E (x + 13) ∧ ∀ q : Nat, ((q < a ∨ a + 2 ≤ q) ∧ (q < b ∨ b + 2 ≤ q) ∧ (q < x + 13 ∨ x + 15 ≤ q)) → E q = E0 q) := by
  refine mm_of_v (by decide +kernel) (Nat.le_of_ble_eq_true rfl) ?_
  intro p e s m args below meth c ls C0 hr hlk hM hl hS
  have hl : lv_has ls 4 [(0, .ref (x)), (1, .ref (a)), (2, .ref (b)), (3, .int (zI ((k : Int))))] := hl
  have hfr : ∀ q : Nat, ((q < a ∨ a + 2 ≤ q) ∧ (q < b ∨ b + 2 ≤ q) ∧ (q < x + 13 ∨ x + 15 ≤ q)) → E0 q = E0 q := fun _ _ => rfl
  have hm9 := nl_mul1 (N := N1) hk
  refine lv_aload_n C0.1 C0.2.1 dX1_advance_0 rfl (lv_at hl 0 rfl) ?_
  refine mm_get (fs := [.ref (x + 1), .ref (x + 3), .ref (t), .ref (x + 5), .ref (x + 7), .ref (x + 9), .ref (x + 11), .ref (x + 13)]) C0 (C := RX1) (T := TX1) (N := 8) iG_X1 hM (hF) rfl 7 (by decide) tw_180 rfl rfl dX1_advance_1 ?_
  refine lv_aload_n C0.1 C0.2.1 dX1_advance_4 rfl (lv_at hl 1 rfl) ?_
  refine mm_callVv (As := [.ref (a)]) C0 vw_X8_copy tw_543 (c_X8_copy l G _ hS5 hA (by omega)) hM ((hS5.obj).choose_spec) rfl rfl hl.1 rfl (Nat.le_of_ble_eq_true rfl) ⟨rfl, rfl, Nat.le_of_ble_eq_true rfl, Nat.le_of_ble_eq_true rfl, Nat.zero_le _, Nat.zero_le _⟩ dX1_advance_5 hS (fun E1 H locs hp hM hS => ?_)
  obtain ⟨hW, fr⟩ := hp
  have hF := fx.kept hF (fr _ (by omega))
  have hA := isW.kept hA (fr _ (by omega)) (fr _ (by omega))
  have hB := isW.kept hB (fr _ (by omega)) (fr _ (by omega))
  have hfr := (fun q h => (fr q (by omega)).trans (hfr q h) : ∀ q : Nat, ((q < a ∨ a + 2 ≤ q) ∧ (q < b ∨ b + 2 ≤ q) ∧ (q < x + 13 ∨ x + 15 ≤ q)) → E1 q = E0 q)
  refine lv_aload_n C0.1 C0.2.1 dX1_advance_8 rfl (lv_at hl 0 rfl) ?_
  refine mm_get (fs := [.ref (x + 1), .ref (x + 3), .ref (t), .ref (x + 5), .ref (x + 7), .ref (x + 9), .ref (x + 11), .ref (x + 13)]) C0 (C := RX1) (T := TX1) (N := 8) iG_X1 hM (hF) rfl 7 (by decide) tw_180 rfl rfl dX1_advance_9 ?_
  refine lv_iload_n C0.1 C0.2.1 dX1_advance_12 rfl (lv_at hl 3 rfl) ?_
  refine z_i2l C0.1 C0.2.1 dX1_advance_13 ⟨by omega, by omega⟩ ?_
  refine lv_lconst (v := zL 0) C0.1 C0.2.1 dX1_advance_14 rfl ?_
  refine mm_callVv (As := [.long (zL ((k : Int))), .long (zL (0))]) C0 vw_X8_scale tw_545 (c_X8_scale l G _ k 0 rfl rfl hW (by omega) (by omega) (by omega)) hM ((hW.v.obj).choose_spec) rfl rfl hl.1 rfl (Nat.le_of_ble_eq_true rfl) ⟨rfl, rfl, Nat.le_of_ble_eq_true rfl, Nat.le_of_ble_eq_true rfl, Nat.zero_le _, Nat.zero_le _⟩ dX1_advance_15 hS (fun E2 H locs hp hM hS => ?_)
  obtain ⟨hW, fr⟩ := hp
  have hF := fx.kept hF (fr _ (by omega))
  have hA := isW.kept hA (fr _ (by omega)) (fr _ (by omega))
  have hB := isW.kept hB (fr _ (by omega)) (fr _ (by omega))
  have hfr := (fun q h => (fr q (by omega)).trans (hfr q h) : ∀ q : Nat, ((q < a ∨ a + 2 ≤ q) ∧ (q < b ∨ b + 2 ≤ q) ∧ (q < x + 13 ∨ x + 15 ≤ q)) → E2 q = E0 q)
  refine lv_aload_n C0.1 C0.2.1 dX1_advance_18 rfl (lv_at hl 0 rfl) ?_
  refine mm_get (fs := [.ref (x + 1), .ref (x + 3), .ref (t), .ref (x + 5), .ref (x + 7), .ref (x + 9), .ref (x + 11), .ref (x + 13)]) C0 (C := RX1) (T := TX1) (N := 8) iG_X1 hM (hF) rfl 7 (by decide) tw_180 rfl rfl dX1_advance_19 ?_
  refine lv_aload_n C0.1 C0.2.1 dX1_advance_22 rfl (lv_at hl 2 rfl) ?_
  refine mm_callVv (As := [.ref (b)]) C0 vw_X8_add tw_598 (c_X8_add l G _ hW hB (by omega) (by rw [Nat.add_zero]; omega) (by omega)) hM ((hW.v.obj).choose_spec) rfl rfl hl.1 rfl (Nat.le_of_ble_eq_true rfl) ⟨rfl, rfl, Nat.le_of_ble_eq_true rfl, Nat.le_of_ble_eq_true rfl, Nat.zero_le _, Nat.zero_le _⟩ dX1_advance_23 hS (fun E3 H locs hp hM hS => ?_)
  obtain ⟨hW, fr⟩ := hp
  have hF := fx.kept hF (fr _ (by omega))
  have hA := isW.kept hA (fr _ (by omega)) (fr _ (by omega))
  have hB := isW.kept hB (fr _ (by omega)) (fr _ (by omega))
  have hfr := (fun q h => (fr q (by omega)).trans (hfr q h) : ∀ q : Nat, ((q < a ∨ a + 2 ≤ q) ∧ (q < b ∨ b + 2 ≤ q) ∧ (q < x + 13 ∨ x + 15 ≤ q)) → E3 q = E0 q)
  refine lv_aload_n C0.1 C0.2.1 dX1_advance_26 rfl (lv_at hl 2 rfl) ?_
  refine lv_aload_n C0.1 C0.2.1 dX1_advance_27 rfl (lv_at hl 1 rfl) ?_
  refine mm_callVv (As := [.ref (a)]) C0 vw_X8_copy tw_543 (c_X8_copy l G _ hB.v hA (by omega)) hM ((hB.v.obj).choose_spec) rfl rfl hl.1 rfl (Nat.le_of_ble_eq_true rfl) ⟨rfl, rfl, Nat.le_of_ble_eq_true rfl, Nat.le_of_ble_eq_true rfl, Nat.zero_le _, Nat.zero_le _⟩ dX1_advance_28 hS (fun E4 H locs hp hM hS => ?_)
  obtain ⟨hB, fr⟩ := hp
  have hF := fx.kept hF (fr _ (by omega))
  have hA := isW.kept hA (fr _ (by omega)) (fr _ (by omega))
  have hfr := (fun q h => (fr q (by omega)).trans (hfr q h) : ∀ q : Nat, ((q < a ∨ a + 2 ≤ q) ∧ (q < b ∨ b + 2 ≤ q) ∧ (q < x + 13 ∨ x + 15 ≤ q)) → E4 q = E0 q)
  have hW := isW.kept hW (fr _ (by omega)) (fr _ (by omega))
  refine lv_aload_n C0.1 C0.2.1 dX1_advance_31 rfl (lv_at hl 1 rfl) ?_
  refine lv_aload_n C0.1 C0.2.1 dX1_advance_32 rfl (lv_at hl 0 rfl) ?_
  refine mm_get (fs := [.ref (x + 1), .ref (x + 3), .ref (t), .ref (x + 5), .ref (x + 7), .ref (x + 9), .ref (x + 11), .ref (x + 13)]) C0 (C := RX1) (T := TX1) (N := 8) iG_X1 hM (hF) rfl 7 (by decide) tw_180 rfl rfl dX1_advance_33 ?_
  refine mm_callVv (As := [.ref (x + 13)]) C0 vw_X8_copy tw_543 (c_X8_copy l G _ hA.v hW (by omega)) hM ((hA.v.obj).choose_spec) rfl rfl hl.1 rfl (Nat.le_of_ble_eq_true rfl) ⟨rfl, rfl, Nat.le_of_ble_eq_true rfl, Nat.le_of_ble_eq_true rfl, Nat.zero_le _, Nat.zero_le _⟩ dX1_advance_36 hS (fun E5 H locs hp hM hS => ?_)
  obtain ⟨hA, fr⟩ := hp
  have hF := fx.kept hF (fr _ (by omega))
  have hB := isW.kept hB (fr _ (by omega)) (fr _ (by omega))
  have hfr := (fun q h => (fr q (by omega)).trans (hfr q h) : ∀ q : Nat, ((q < a ∨ a + 2 ≤ q) ∧ (q < b ∨ b + 2 ≤ q) ∧ (q < x + 13 ∨ x + 15 ≤ q)) → E5 q = E0 q)
  have hW := isW.kept hW (fr _ (by omega)) (fr _ (by omega))
  exact mm_vret C0 hr hlk hM hS dX1_advance_39 (⟨hA, hB, hW.v, hfr⟩)

def rX1_walk : Room := { frames := 4, cells := 0, slots := 0, locals := 98 }
theorem vw_X1_walk : mm_Vw RX1 yX1_walk cX1_walk 4 (some .boolean) 2 := ⟨tw_589, tw_590, tw_7, tw_591, by decide +kernel⟩
set_option maxHeartbeats 4000000 in
set_option maxRecDepth 100000 in
theorem c_X1_walk (l : Launch) (G : mG) (E0 : mE) {x t d f i : Nat} {d0 f0 m0 D0 a0 : Int} (hF : fx G E0 x t) (hP : pt G E0 t d0 f0 m0 D0 a0) (hA : isV G E0 (x + 1)) (hB : isV G E0 (x + 3)) (hC : isV G E0 (x + 5)) (hD : isV G E0 (x + 7)) (hS5 : isV G E0 (x + 13)) (hrl : rl d f) (hi : i ≤ 2000000) (hxt : t < x ∨ x + 15 ≤ t) : mm_Ci l yX1_walk (.code yX1_walk cX1_walk 4 (some .boolean) :: wsG) rX1_walk G [.ref (x), .int (zI ((d : Int))), .int (zI ((i : Int)))] E0 (fun z E => ((z = 1 ∧ isW G E (x + 1) (cvp d f i) ∧ isW G E (x + 3) (cvq d f i) ∧ nl (cvp d f i) ≤ 24) ∨ (z = 0 ∧ isV G E (x + 1) ∧ isV G E (x + 3) ∧ 24 < nl (cvp d f i))) ∧ isV G E (x + 5) ∧ isV G E (x + 7) ∧ isV G E (x + 13) ∧ (∃ d1 f1 m1 D1 a1 : Int, pt G E t d1 f1 m1 D1 a1) ∧ ∀ q : Nat, (q ≠ t ∧ (q < x + 1 ∨ x + 9 ≤ q) ∧ (q < x + 13 ∨ x + 15 ≤ q)) → E q = E0 q) := by
  refine mm_of_i (by decide +kernel) (Nat.le_of_ble_eq_true rfl) ?_
  intro p e s m args below meth c ls C0 hr hlk hM hl hS
  have hl : lv_has ls 4 [(0, .ref (x)), (1, .int (zI ((d : Int)))), (2, .int (zI ((i : Int))))] := hl
  have hfr : ∀ q : Nat, (q ≠ t ∧ (q < x + 1 ∨ x + 9 ≤ q) ∧ (q < x + 13 ∨ x + 15 ≤ q)) → E0 q = E0 q := fun _ _ => rfl
  have hf9 := hrl.2.1
  refine lv_aload_n C0.1 C0.2.1 dX1_walk_0 rfl (lv_at hl 0 rfl) ?_
  refine mm_get (fs := [.ref (x + 1), .ref (x + 3), .ref (t), .ref (x + 5), .ref (x + 7), .ref (x + 9), .ref (x + 11), .ref (x + 13)]) C0 (C := RX1) (T := TX1) (N := 8) iG_X1 hM (hF) rfl 2 (by decide) tw_175 rfl rfl dX1_walk_1 ?_
  refine lv_iload_n C0.1 C0.2.1 dX1_walk_4 rfl (lv_at hl 1 rfl) ?_
  refine mm_callVv (As := [.int (zI ((d : Int)))]) C0 vw_X2_begin tw_592 (c_X2_begin l G _ hP hrl) hM (hP) rfl rfl hl.1 rfl (Nat.le_of_ble_eq_true rfl) ⟨rfl, rfl, Nat.le_of_ble_eq_true rfl, Nat.le_of_ble_eq_true rfl, Nat.zero_le _, Nat.zero_le _⟩ dX1_walk_5 hS (fun E1 H locs hp hM hS => ?_)
  obtain ⟨hP1, fr⟩ := hp
  have hF := fx.kept hF (fr _ (by omega))
  have hA := isV.kept hA (fr _ (by omega)) (fr _ (by omega))
  have hB := isV.kept hB (fr _ (by omega)) (fr _ (by omega))
  have hC := isV.kept hC (fr _ (by omega)) (fr _ (by omega))
  have hD := isV.kept hD (fr _ (by omega)) (fr _ (by omega))
  have hS5 := isV.kept hS5 (fr _ (by omega)) (fr _ (by omega))
  have hfr := (fun q h => (fr q (by omega)).trans (hfr q h) : ∀ q : Nat, (q ≠ t ∧ (q < x + 1 ∨ x + 9 ≤ q) ∧ (q < x + 13 ∨ x + 15 ≤ q)) → E1 q = E0 q)
  refine lv_aload_n C0.1 C0.2.1 dX1_walk_8 rfl (lv_at hl 0 rfl) ?_
  refine mm_get (fs := [.ref (x + 1), .ref (x + 3), .ref (t), .ref (x + 5), .ref (x + 7), .ref (x + 9), .ref (x + 11), .ref (x + 13)]) C0 (C := RX1) (T := TX1) (N := 8) iG_X1 hM (hF) rfl 3 (by decide) tw_176 rfl rfl dX1_walk_9 ?_
  refine lv_lconst (v := zL 1) C0.1 C0.2.1 dX1_walk_12 rfl ?_
  refine mm_callVv (As := [.long (zL (1))]) C0 vw_X8_setLong tw_542 (c_X8_setLongV l G _ (N := 1) hC rfl (by omega)) hM ((hC.obj).choose_spec) rfl rfl hl.1 rfl (Nat.le_of_ble_eq_true rfl) ⟨rfl, rfl, Nat.le_of_ble_eq_true rfl, Nat.le_of_ble_eq_true rfl, Nat.zero_le _, Nat.zero_le _⟩ dX1_walk_13 hS (fun E2 H locs hp hM hS => ?_)
  obtain ⟨hC, fr⟩ := hp
  have hF := fx.kept hF (fr _ (by omega))
  have hA := isV.kept hA (fr _ (by omega)) (fr _ (by omega))
  have hB := isV.kept hB (fr _ (by omega)) (fr _ (by omega))
  have hD := isV.kept hD (fr _ (by omega)) (fr _ (by omega))
  have hS5 := isV.kept hS5 (fr _ (by omega)) (fr _ (by omega))
  have hfr := (fun q h => (fr q (by omega)).trans (hfr q h) : ∀ q : Nat, (q ≠ t ∧ (q < x + 1 ∨ x + 9 ≤ q) ∧ (q < x + 13 ∨ x + 15 ≤ q)) → E2 q = E0 q)
  have hP1 := ptn.kept hP1 (fr _ (by omega))
  refine lv_aload_n C0.1 C0.2.1 dX1_walk_16 rfl (lv_at hl 0 rfl) ?_
  refine mm_get (fs := [.ref (x + 1), .ref (x + 3), .ref (t), .ref (x + 5), .ref (x + 7), .ref (x + 9), .ref (x + 11), .ref (x + 13)]) C0 (C := RX1) (T := TX1) (N := 8) iG_X1 hM (hF) rfl 4 (by decide) tw_177 rfl rfl dX1_walk_17 ?_
  refine lv_lconst (v := zL 0) C0.1 C0.2.1 dX1_walk_20 rfl ?_
  refine mm_callVv (As := [.long (zL (0))]) C0 vw_X8_setLong tw_542 (c_X8_setLongV l G _ (N := 0) hD rfl (by omega)) hM ((hD.obj).choose_spec) rfl rfl hl.1 rfl (Nat.le_of_ble_eq_true rfl) ⟨rfl, rfl, Nat.le_of_ble_eq_true rfl, Nat.le_of_ble_eq_true rfl, Nat.zero_le _, Nat.zero_le _⟩ dX1_walk_21 hS (fun E3 H locs hp hM hS => ?_)
  obtain ⟨hD, fr⟩ := hp
  have hF := fx.kept hF (fr _ (by omega))
  have hA := isV.kept hA (fr _ (by omega)) (fr _ (by omega))
  have hB := isV.kept hB (fr _ (by omega)) (fr _ (by omega))
  have hC := isW.kept hC (fr _ (by omega)) (fr _ (by omega))
  have hS5 := isV.kept hS5 (fr _ (by omega)) (fr _ (by omega))
  have hfr := (fun q h => (fr q (by omega)).trans (hfr q h) : ∀ q : Nat, (q ≠ t ∧ (q < x + 1 ∨ x + 9 ≤ q) ∧ (q < x + 13 ∨ x + 15 ≤ q)) → E3 q = E0 q)
  have hP1 := ptn.kept hP1 (fr _ (by omega))
  refine lv_aload_n C0.1 C0.2.1 dX1_walk_24 rfl (lv_at hl 0 rfl) ?_
  refine mm_get (fs := [.ref (x + 1), .ref (x + 3), .ref (t), .ref (x + 5), .ref (x + 7), .ref (x + 9), .ref (x + 11), .ref (x + 13)]) C0 (C := RX1) (T := TX1) (N := 8) iG_X1 hM (hF) rfl 0 (by decide) tw_171 rfl rfl dX1_walk_25 ?_
  refine lv_aload_n C0.1 C0.2.1 dX1_walk_28 rfl (lv_at hl 0 rfl) ?_
  refine mm_get (fs := [.ref (x + 1), .ref (x + 3), .ref (t), .ref (x + 5), .ref (x + 7), .ref (x + 9), .ref (x + 11), .ref (x + 13)]) C0 (C := RX1) (T := TX1) (N := 8) iG_X1 hM (hF) rfl 2 (by decide) tw_175 rfl rfl dX1_walk_29 ?_
  refine mm_get (fs := [.int (zI (((cf d f (0)).2.2 : Int))), .int (zI ((f : Int))), .int (zI (((cf d f (0)).1 : Int))), .int (zI (((cf d f (0)).2.1 : Int))), .int (zI ((d : Int)))]) C0 (C := RX2) (T := TX2) (N := 5) iG_X2 hM (hP1) rfl 0 (by decide) tw_147 rfl rfl dX1_walk_32 ?_
  refine z_asI (a := ((cf d f (0)).2.2 : Int)) (b := (f : Int)) (rfl) ?_
  refine z_i2l C0.1 C0.2.1 dX1_walk_35 ⟨by omega, by omega⟩ ?_
  refine mm_callVv (As := [.long (zL ((f : Int)))]) C0 vw_X8_setLong tw_542 (c_X8_setLongV l G _ (N := f) hA rfl (by omega)) hM ((hA.obj).choose_spec) rfl rfl hl.1 rfl (Nat.le_of_ble_eq_true rfl) ⟨rfl, rfl, Nat.le_of_ble_eq_true rfl, Nat.le_of_ble_eq_true rfl, Nat.zero_le _, Nat.zero_le _⟩ dX1_walk_36 hS (fun E4 H locs hp hM hS => ?_)
  obtain ⟨hA, fr⟩ := hp
  have hF := fx.kept hF (fr _ (by omega))
  have hB := isV.kept hB (fr _ (by omega)) (fr _ (by omega))
  have hC := isW.kept hC (fr _ (by omega)) (fr _ (by omega))
  have hD := isW.kept hD (fr _ (by omega)) (fr _ (by omega))
  have hS5 := isV.kept hS5 (fr _ (by omega)) (fr _ (by omega))
  have hfr := (fun q h => (fr q (by omega)).trans (hfr q h) : ∀ q : Nat, (q ≠ t ∧ (q < x + 1 ∨ x + 9 ≤ q) ∧ (q < x + 13 ∨ x + 15 ≤ q)) → E4 q = E0 q)
  have hP1 := ptn.kept hP1 (fr _ (by omega))
  refine lv_aload_n C0.1 C0.2.1 dX1_walk_39 rfl (lv_at hl 0 rfl) ?_
  refine mm_get (fs := [.ref (x + 1), .ref (x + 3), .ref (t), .ref (x + 5), .ref (x + 7), .ref (x + 9), .ref (x + 11), .ref (x + 13)]) C0 (C := RX1) (T := TX1) (N := 8) iG_X1 hM (hF) rfl 1 (by decide) tw_173 rfl rfl dX1_walk_40 ?_
  refine lv_lconst (v := zL 1) C0.1 C0.2.1 dX1_walk_43 rfl ?_
  refine mm_callVv (As := [.long (zL (1))]) C0 vw_X8_setLong tw_542 (c_X8_setLongV l G _ (N := 1) hB rfl (by omega)) hM ((hB.obj).choose_spec) rfl rfl hl.1 rfl (Nat.le_of_ble_eq_true rfl) ⟨rfl, rfl, Nat.le_of_ble_eq_true rfl, Nat.le_of_ble_eq_true rfl, Nat.zero_le _, Nat.zero_le _⟩ dX1_walk_44 hS (fun E5 H locs hp hM hS => ?_)
  obtain ⟨hB, fr⟩ := hp
  have hF := fx.kept hF (fr _ (by omega))
  have hA := isW.kept hA (fr _ (by omega)) (fr _ (by omega))
  have hC := isW.kept hC (fr _ (by omega)) (fr _ (by omega))
  have hD := isW.kept hD (fr _ (by omega)) (fr _ (by omega))
  have hS5 := isV.kept hS5 (fr _ (by omega)) (fr _ (by omega))
  have hfr := (fun q h => (fr q (by omega)).trans (hfr q h) : ∀ q : Nat, (q ≠ t ∧ (q < x + 1 ∨ x + 9 ≤ q) ∧ (q < x + 13 ∨ x + 15 ≤ q)) → E5 q = E0 q)
  have hP1 := ptn.kept hP1 (fr _ (by omega))
  refine lv_iconst (v := zI 0) C0.1 C0.2.1 dX1_walk_47 rfl ?_
  refine lv_istore_n (lv' := [(3, .int (zI (0))), (0, .ref (x)), (1, .int (zI ((d : Int)))), (2, .int (zI ((i : Int))))]) C0.1 C0.2.1 dX1_walk_48 rfl hl (by decide) rfl (fun ls hl => ?_)
  have L49 : ∀ (k49 : Nat) (j : Nat) (E6 : mE) (H : Heap) (locs : List Loc) (ls : Array Slot), (j ≤ i) → (nl (cvp d f j) ≤ 24) → (fx G E6 x t) → (ptn G E6 t d f j) → (isW G E6 (x + 1) (cvp d f j)) → (isW G E6 (x + 3) (cvq d f j)) → (isW G E6 (x + 5) (cv d f j).1.2) → (isW G E6 (x + 7) (cv d f j).2.2) → (isV G E6 (x + 13)) → (∀ q : Nat, (q ≠ t ∧ (q < x + 1 ∨ x + 9 ≤ q) ∧ (q < x + 13 ∨ x + 15 ≤ q)) → E6 q = E0 q) → i - j < k49 → mm_M G E6 H → va_S (mm_A G) s.heap H locs → lv_has ls 4 [(0, .ref (x)), (1, .int (zI ((d : Int)))), (2, .int (zI ((i : Int)))), (3, .int (zI ((j : Int))))] → W p l e rX1_walk s m args below meth c H locs 0 0 (mm_Zi G below args s (fun z E => ((z = 1 ∧ isW G E (x + 1) (cvp d f i) ∧ isW G E (x + 3) (cvq d f i) ∧ nl (cvp d f i) ≤ 24) ∨ (z = 0 ∧ isV G E (x + 1) ∧ isV G E (x + 3) ∧ 24 < nl (cvp d f i))) ∧ isV G E (x + 5) ∧ isV G E (x + 7) ∧ isV G E (x + 13) ∧ (∃ d1 f1 m1 D1 a1 : Int, pt G E t d1 f1 m1 D1 a1) ∧ ∀ q : Nat, (q ≠ t ∧ (q < x + 1 ∨ x + 9 ≤ q) ∧ (q < x + 13 ∨ x + 15 ≤ q)) → E q = E0 q)) (F0 m 49 ls []) := by
    intro k49
    induction k49 with
    | zero => intro j E6 H locs ls hj hn hF hP1 hA hB hC hD hS5 hfr hk hM hS hl; exact absurd hk (Nat.not_lt_zero _)
    | succ k49 ih49 =>
      intro j E6 H locs ls hj hn hF hP1 hA hB hC hD hS5 hfr hk49 hM hS hl
      refine lv_iload_n C0.1 C0.2.1 dX1_walk_49 rfl (lv_at hl 3 rfl) ?_
      refine lv_iload_n C0.1 C0.2.1 dX1_walk_50 rfl (lv_at hl 2 rfl) ?_
      refine z_icmp_ge (tgt := 119) C0.1 C0.2.1 dX1_walk_51 (by decide) ⟨by omega, by omega⟩ ⟨by omega, by omega⟩ (fun c_51 => ?_) (fun c_51 => ?_)
      · skip
        refine lv_iconst (v := zI 1) C0.1 C0.2.1 dX1_walk_119 rfl ?_
        exact mm_zret (z := 1) C0 hr hlk hM hS (by omega) dX1_walk_120 (by have hji : j = i := (by omega); subst hji; exact ⟨Or.inl ⟨rfl, hA, hB, hn⟩, hC.v, hD.v, hS5, ⟨_, _, _, _, _, hP1⟩, hfr⟩)
      · skip
        refine lv_aload_n C0.1 C0.2.1 dX1_walk_54 rfl (lv_at hl 0 rfl) ?_
        refine mm_get (fs := [.ref (x + 1), .ref (x + 3), .ref (t), .ref (x + 5), .ref (x + 7), .ref (x + 9), .ref (x + 11), .ref (x + 13)]) C0 (C := RX1) (T := TX1) (N := 8) iG_X1 hM (hF) rfl 2 (by decide) tw_175 rfl rfl dX1_walk_55 ?_
        refine mm_callVv (As := []) C0 vw_X2_step tw_593 (c_X2_step l G _ hP1 hrl) hM (hP1) rfl rfl hl.1 rfl (Nat.le_of_ble_eq_true rfl) ⟨rfl, rfl, Nat.le_of_ble_eq_true rfl, Nat.le_of_ble_eq_true rfl, Nat.zero_le _, Nat.zero_le _⟩ dX1_walk_58 hS (fun E7 H locs hp hM hS => ?_)
        obtain ⟨hP1, fr⟩ := hp
        have hF := fx.kept hF (fr _ (by omega))
        have hA := isW.kept hA (fr _ (by omega)) (fr _ (by omega))
        have hB := isW.kept hB (fr _ (by omega)) (fr _ (by omega))
        have hC := isW.kept hC (fr _ (by omega)) (fr _ (by omega))
        have hD := isW.kept hD (fr _ (by omega)) (fr _ (by omega))
        have hS5 := isV.kept hS5 (fr _ (by omega)) (fr _ (by omega))
        have hfr := (fun q h => (fr q (by omega)).trans (hfr q h) : ∀ q : Nat, (q ≠ t ∧ (q < x + 1 ∨ x + 9 ≤ q) ∧ (q < x + 13 ∨ x + 15 ≤ q)) → E7 q = E0 q)
        have hca := cf_a hrl (j + 1)
        have hcn := cv_nl (n := j) hrl
        have hcn1 := cv_nl (n := j + 1) hrl
        have hcn0 : nl (cvp d f j) ≤ 24 := hn
        have hcq0 : nl (cvq d f j) ≤ nl (cvp d f j) := hcn.2.1
        refine lv_aload_n C0.1 C0.2.1 dX1_walk_61 rfl (lv_at hl 0 rfl) ?_
        refine lv_aload_n C0.1 C0.2.1 dX1_walk_62 rfl (lv_at hl 0 rfl) ?_
        refine mm_get (fs := [.ref (x + 1), .ref (x + 3), .ref (t), .ref (x + 5), .ref (x + 7), .ref (x + 9), .ref (x + 11), .ref (x + 13)]) C0 (C := RX1) (T := TX1) (N := 8) iG_X1 hM (hF) rfl 0 (by decide) tw_171 rfl rfl dX1_walk_63 ?_
        refine lv_aload_n C0.1 C0.2.1 dX1_walk_66 rfl (lv_at hl 0 rfl) ?_
        refine mm_get (fs := [.ref (x + 1), .ref (x + 3), .ref (t), .ref (x + 5), .ref (x + 7), .ref (x + 9), .ref (x + 11), .ref (x + 13)]) C0 (C := RX1) (T := TX1) (N := 8) iG_X1 hM (hF) rfl 3 (by decide) tw_176 rfl rfl dX1_walk_67 ?_
        refine lv_aload_n C0.1 C0.2.1 dX1_walk_70 rfl (lv_at hl 0 rfl) ?_
        refine mm_get (fs := [.ref (x + 1), .ref (x + 3), .ref (t), .ref (x + 5), .ref (x + 7), .ref (x + 9), .ref (x + 11), .ref (x + 13)]) C0 (C := RX1) (T := TX1) (N := 8) iG_X1 hM (hF) rfl 2 (by decide) tw_175 rfl rfl dX1_walk_71 ?_
        refine mm_get (fs := [.int (zI (((cf d f (j + 1)).2.2 : Int))), .int (zI ((f : Int))), .int (zI (((cf d f (j + 1)).1 : Int))), .int (zI (((cf d f (j + 1)).2.1 : Int))), .int (zI ((d : Int)))]) C0 (C := RX2) (T := TX2) (N := 5) iG_X2 hM (hP1) rfl 0 (by decide) tw_147 rfl rfl dX1_walk_74 ?_
        refine mm_callVv (As := [.ref (x + 1), .ref (x + 5), .int (zI (((cf d f (j + 1)).2.2 : Int)))]) C0 vw_X1_advance tw_594 (c_X1_advance l G _ hF hS5 hA hC (by omega) (by omega) (by omega) (by omega) (Nat.le_trans hn (by omega)) (by omega)) hM (hF) rfl rfl hl.1 rfl (Nat.le_of_ble_eq_true rfl) ⟨rfl, rfl, Nat.le_of_ble_eq_true rfl, Nat.le_of_ble_eq_true rfl, Nat.zero_le _, Nat.zero_le _⟩ dX1_walk_77 hS (fun E8 H locs hp hM hS => ?_)
        obtain ⟨hA, hC, hS5, fr⟩ := hp
        have hF := fx.kept hF (fr _ (by omega))
        have hP1 := ptn.kept hP1 (fr _ (by omega))
        have hB := isW.kept hB (fr _ (by omega)) (fr _ (by omega))
        have hD := isW.kept hD (fr _ (by omega)) (fr _ (by omega))
        have hfr := (fun q h => (fr q (by omega)).trans (hfr q h) : ∀ q : Nat, (q ≠ t ∧ (q < x + 1 ∨ x + 9 ≤ q) ∧ (q < x + 13 ∨ x + 15 ≤ q)) → E8 q = E0 q)
        refine lv_aload_n C0.1 C0.2.1 dX1_walk_80 rfl (lv_at hl 0 rfl) ?_
        refine lv_aload_n C0.1 C0.2.1 dX1_walk_81 rfl (lv_at hl 0 rfl) ?_
        refine mm_get (fs := [.ref (x + 1), .ref (x + 3), .ref (t), .ref (x + 5), .ref (x + 7), .ref (x + 9), .ref (x + 11), .ref (x + 13)]) C0 (C := RX1) (T := TX1) (N := 8) iG_X1 hM (hF) rfl 1 (by decide) tw_173 rfl rfl dX1_walk_82 ?_
        refine lv_aload_n C0.1 C0.2.1 dX1_walk_85 rfl (lv_at hl 0 rfl) ?_
        refine mm_get (fs := [.ref (x + 1), .ref (x + 3), .ref (t), .ref (x + 5), .ref (x + 7), .ref (x + 9), .ref (x + 11), .ref (x + 13)]) C0 (C := RX1) (T := TX1) (N := 8) iG_X1 hM (hF) rfl 4 (by decide) tw_177 rfl rfl dX1_walk_86 ?_
        refine lv_aload_n C0.1 C0.2.1 dX1_walk_89 rfl (lv_at hl 0 rfl) ?_
        refine mm_get (fs := [.ref (x + 1), .ref (x + 3), .ref (t), .ref (x + 5), .ref (x + 7), .ref (x + 9), .ref (x + 11), .ref (x + 13)]) C0 (C := RX1) (T := TX1) (N := 8) iG_X1 hM (hF) rfl 2 (by decide) tw_175 rfl rfl dX1_walk_90 ?_
        refine mm_get (fs := [.int (zI (((cf d f (j + 1)).2.2 : Int))), .int (zI ((f : Int))), .int (zI (((cf d f (j + 1)).1 : Int))), .int (zI (((cf d f (j + 1)).2.1 : Int))), .int (zI ((d : Int)))]) C0 (C := RX2) (T := TX2) (N := 5) iG_X2 hM (hP1) rfl 0 (by decide) tw_147 rfl rfl dX1_walk_93 ?_
        refine mm_callVv (As := [.ref (x + 3), .ref (x + 7), .int (zI (((cf d f (j + 1)).2.2 : Int)))]) C0 vw_X1_advance tw_594 (c_X1_advance l G _ hF hS5 hB hD (by omega) (by omega) (by omega) (by omega) (by omega) (by omega)) hM (hF) rfl rfl hl.1 rfl (Nat.le_of_ble_eq_true rfl) ⟨rfl, rfl, Nat.le_of_ble_eq_true rfl, Nat.le_of_ble_eq_true rfl, Nat.zero_le _, Nat.zero_le _⟩ dX1_walk_96 hS (fun E9 H locs hp hM hS => ?_)
        obtain ⟨hB, hD, hS5, fr⟩ := hp
        have hF := fx.kept hF (fr _ (by omega))
        have hP1 := ptn.kept hP1 (fr _ (by omega))
        have hA := isW.kept hA (fr _ (by omega)) (fr _ (by omega))
        have hC := isW.kept hC (fr _ (by omega)) (fr _ (by omega))
        have hfr := (fun q h => (fr q (by omega)).trans (hfr q h) : ∀ q : Nat, (q ≠ t ∧ (q < x + 1 ∨ x + 9 ≤ q) ∧ (q < x + 13 ∨ x + 15 ≤ q)) → E9 q = E0 q)
        replace hA : isW G E9 (x + 1) (cvp d f (j + 1)) := hA
        replace hB : isW G E9 (x + 3) (cvq d f (j + 1)) := hB
        replace hC : isW G E9 (x + 5) (cv d f (j + 1)).1.2 := hC
        replace hD : isW G E9 (x + 7) (cv d f (j + 1)).2.2 := hD
        have hAle := hA.le
        refine lv_aload_n C0.1 C0.2.1 dX1_walk_99 rfl (lv_at hl 0 rfl) ?_
        refine mm_get (fs := [.ref (x + 1), .ref (x + 3), .ref (t), .ref (x + 5), .ref (x + 7), .ref (x + 9), .ref (x + 11), .ref (x + 13)]) C0 (C := RX1) (T := TX1) (N := 8) iG_X1 hM (hF) rfl 0 (by decide) tw_171 rfl rfl dX1_walk_100 ?_
        refine mm_get (fs := [.ref (x + 1 + 1), .int (zI (((nl (cvp d f (j + 1)) : Nat) : Int)))]) C0 (C := RX8) (T := TX8) (N := 2) iG_X8 hM (hA.obj) rfl 1 (by decide) tw_84 rfl rfl dX1_walk_103 ?_
        refine lv_bipush (v := zI 24) C0.1 C0.2.1 dX1_walk_106 rfl ?_
        refine z_icmp_le (tgt := 113) C0.1 C0.2.1 dX1_walk_108 (by decide) ⟨by omega, by omega⟩ ⟨by omega, by omega⟩ (fun c_108 => ?_) (fun c_108 => ?_)
        · skip
          refine lv_iinc (v := zI (((j + 1 : Nat) : Int))) (lv' := [(3, .int (zI (((j + 1 : Nat) : Int)))), (0, .ref (x)), (1, .int (zI ((d : Int)))), (2, .int (zI ((i : Int))))]) C0.1 C0.2.1 dX1_walk_113 hl (k := 3) rfl (z_inc (a := (j : Int)) (n := 1) (by omega)) (by decide) rfl (fun ls hl => ?_)
          refine lv_goto (tgt := 49) C0.1 C0.2.1 dX1_walk_116 (by decide) ?_
          exact ih49  (j + 1) E9 _ _ _ (by omega) (by omega) (hF) (hP1) (hA) (hB) (hC) (hD) (hS5) (hfr) (by omega) hM hS (lv_sub hl [1, 2, 3, 0] rfl)
        · skip
          refine lv_iconst (v := zI 0) C0.1 C0.2.1 dX1_walk_111 rfl ?_
          exact mm_zret (z := 0) C0 hr hlk hM hS (by omega) dX1_walk_112 (⟨Or.inr ⟨rfl, hA.v, hB.v, Nat.lt_of_lt_of_le (show 24 < nl (cvp d f (j + 1)) by omega) (nl_mono (cv_mono hrl.1 hrl.2.2.1 hrl.2.2.2.1 (by omega)))⟩, hC.v, hD.v, hS5, ⟨_, _, _, _, _, hP1⟩, hfr⟩)
  exact L49 (_ + 1) 0 E5 _ _ _ (Nat.zero_le _) ((nl_le _ _).mpr (show f < 1000000000 ^ 24 from Nat.lt_of_lt_of_le (show f < 100 by omega) (by decide +kernel))) (hF) (hP1) (hA) (hB) (hC) (hD) (hS5) (hfr) (Nat.lt_succ_self _) hM hS (lv_sub hl [1, 2, 3, 0] rfl)

def rX1_combineWithLeast : Room := { frames := 3, cells := 0, slots := 0, locals := 75 }
theorem vw_X1_combineWithLeast : mm_Vw RX1 yX1_combineWithLeast cX1_combineWithLeast 2 none 1 := ⟨tw_601, tp_12, tw_7, tw_602, by decide +kernel⟩
set_option maxHeartbeats 4000000 in
set_option maxRecDepth 100000 in
theorem c_X1_combineWithLeast (l : Launch) (G : mG) (E0 : mE) {x t d A B a b : Nat} (hF : fx G E0 x t) (hA : isW G E0 (x + 1) A) (hB : isW G E0 (x + 3) B) (hC : isV G E0 (x + 5)) (hD : isV G E0 (x + 7)) (hLa : isW G E0 (x + 9) a) (hLb : isW G E0 (x + 11) b) (hS5 : isV G E0 (x + 13)) (hd : d ≤ 9999) (h1 : nl A ≤ 24) (h2 : nl B ≤ 24) (h3 : nl a ≤ 24) (h4 : nl b ≤ 24) : mm_Cv l yX1_combineWithLeast (.code yX1_combineWithLeast cX1_combineWithLeast 2 none :: wsG) rX1_combineWithLeast G [.ref (x), .int (zI ((d : Int)))] E0 (fun E => isW G E (x + 1) (B * b * d + A * a) ∧ isW G E (x + 3) (B * a + A * b) ∧ isV G E (x + 5) ∧ isV G E (x + 7) ∧ isV G E (x + 13) ∧ ∀ q : Nat, ((q < x + 1 ∨ x + 9 ≤ q) ∧ (q < x + 13 ∨ x + 15 ≤ q)) → E q = E0 q) := by
  refine mm_of_v (by decide +kernel) (Nat.le_of_ble_eq_true rfl) ?_
  intro p e s m args below meth c ls C0 hr hlk hM hl hS
  have hl : lv_has ls 2 [(0, .ref (x)), (1, .int (zI ((d : Int))))] := hl
  have hfr : ∀ q : Nat, ((q < x + 1 ∨ x + 9 ≤ q) ∧ (q < x + 13 ∨ x + 15 ≤ q)) → E0 q = E0 q := fun _ _ => rfl
  have m1 := nl_prod h2 h4
  have m2 := nl_prod h1 h3
  have m3 := nl_prod h2 h3
  have m4 := nl_prod h1 h4
  have m5 := nl_mul1 (N := B * b) (a := d) (by omega)
  refine lv_aload_n C0.1 C0.2.1 dX1_combineWithLeast_0 rfl (lv_at hl 0 rfl) ?_
  refine mm_get (fs := [.ref (x + 1), .ref (x + 3), .ref (t), .ref (x + 5), .ref (x + 7), .ref (x + 9), .ref (x + 11), .ref (x + 13)]) C0 (C := RX1) (T := TX1) (N := 8) iG_X1 hM (hF) rfl 3 (by decide) tw_176 rfl rfl dX1_combineWithLeast_1 ?_
  refine lv_aload_n C0.1 C0.2.1 dX1_combineWithLeast_4 rfl (lv_at hl 0 rfl) ?_
  refine mm_get (fs := [.ref (x + 1), .ref (x + 3), .ref (t), .ref (x + 5), .ref (x + 7), .ref (x + 9), .ref (x + 11), .ref (x + 13)]) C0 (C := RX1) (T := TX1) (N := 8) iG_X1 hM (hF) rfl 1 (by decide) tw_173 rfl rfl dX1_combineWithLeast_5 ?_
  refine lv_aload_n C0.1 C0.2.1 dX1_combineWithLeast_8 rfl (lv_at hl 0 rfl) ?_
  refine mm_get (fs := [.ref (x + 1), .ref (x + 3), .ref (t), .ref (x + 5), .ref (x + 7), .ref (x + 9), .ref (x + 11), .ref (x + 13)]) C0 (C := RX1) (T := TX1) (N := 8) iG_X1 hM (hF) rfl 6 (by decide) tw_179 rfl rfl dX1_combineWithLeast_9 ?_
  refine mm_callVv (As := [.ref (x + 3), .ref (x + 11)]) C0 vw_X8_setProduct tw_603 (c_X8_setProduct l G _ hC hB hLb (by omega) (by omega) (by omega)) hM ((hC.obj).choose_spec) rfl rfl hl.1 rfl (Nat.le_of_ble_eq_true rfl) ⟨rfl, rfl, Nat.le_of_ble_eq_true rfl, Nat.le_of_ble_eq_true rfl, Nat.zero_le _, Nat.zero_le _⟩ dX1_combineWithLeast_12 hS (fun E1 H locs hp hM hS => ?_)
  obtain ⟨hC, fr⟩ := hp
  have hF := fx.kept hF (fr _ (by omega))
  have hA := isW.kept hA (fr _ (by omega)) (fr _ (by omega))
  have hB := isW.kept hB (fr _ (by omega)) (fr _ (by omega))
  have hD := isV.kept hD (fr _ (by omega)) (fr _ (by omega))
  have hLa := isW.kept hLa (fr _ (by omega)) (fr _ (by omega))
  have hLb := isW.kept hLb (fr _ (by omega)) (fr _ (by omega))
  have hS5 := isV.kept hS5 (fr _ (by omega)) (fr _ (by omega))
  have hfr := (fun q h => (fr q (by omega)).trans (hfr q h) : ∀ q : Nat, ((q < x + 1 ∨ x + 9 ≤ q) ∧ (q < x + 13 ∨ x + 15 ≤ q)) → E1 q = E0 q)
  refine lv_aload_n C0.1 C0.2.1 dX1_combineWithLeast_15 rfl (lv_at hl 0 rfl) ?_
  refine mm_get (fs := [.ref (x + 1), .ref (x + 3), .ref (t), .ref (x + 5), .ref (x + 7), .ref (x + 9), .ref (x + 11), .ref (x + 13)]) C0 (C := RX1) (T := TX1) (N := 8) iG_X1 hM (hF) rfl 3 (by decide) tw_176 rfl rfl dX1_combineWithLeast_16 ?_
  refine lv_iload_n C0.1 C0.2.1 dX1_combineWithLeast_19 rfl (lv_at hl 1 rfl) ?_
  refine z_i2l C0.1 C0.2.1 dX1_combineWithLeast_20 ⟨by omega, by omega⟩ ?_
  refine lv_lconst (v := zL 0) C0.1 C0.2.1 dX1_combineWithLeast_21 rfl ?_
  refine mm_callVv (As := [.long (zL ((d : Int))), .long (zL (0))]) C0 vw_X8_scale tw_545 (c_X8_scale l G _ d 0 rfl rfl hC (by omega) (by omega) (by omega)) hM ((hC.v.obj).choose_spec) rfl rfl hl.1 rfl (Nat.le_of_ble_eq_true rfl) ⟨rfl, rfl, Nat.le_of_ble_eq_true rfl, Nat.le_of_ble_eq_true rfl, Nat.zero_le _, Nat.zero_le _⟩ dX1_combineWithLeast_22 hS (fun E2 H locs hp hM hS => ?_)
  obtain ⟨hC, fr⟩ := hp
  have hF := fx.kept hF (fr _ (by omega))
  have hA := isW.kept hA (fr _ (by omega)) (fr _ (by omega))
  have hB := isW.kept hB (fr _ (by omega)) (fr _ (by omega))
  have hD := isV.kept hD (fr _ (by omega)) (fr _ (by omega))
  have hLa := isW.kept hLa (fr _ (by omega)) (fr _ (by omega))
  have hLb := isW.kept hLb (fr _ (by omega)) (fr _ (by omega))
  have hS5 := isV.kept hS5 (fr _ (by omega)) (fr _ (by omega))
  have hfr := (fun q h => (fr q (by omega)).trans (hfr q h) : ∀ q : Nat, ((q < x + 1 ∨ x + 9 ≤ q) ∧ (q < x + 13 ∨ x + 15 ≤ q)) → E2 q = E0 q)
  refine lv_aload_n C0.1 C0.2.1 dX1_combineWithLeast_25 rfl (lv_at hl 0 rfl) ?_
  refine mm_get (fs := [.ref (x + 1), .ref (x + 3), .ref (t), .ref (x + 5), .ref (x + 7), .ref (x + 9), .ref (x + 11), .ref (x + 13)]) C0 (C := RX1) (T := TX1) (N := 8) iG_X1 hM (hF) rfl 7 (by decide) tw_180 rfl rfl dX1_combineWithLeast_26 ?_
  refine lv_aload_n C0.1 C0.2.1 dX1_combineWithLeast_29 rfl (lv_at hl 0 rfl) ?_
  refine mm_get (fs := [.ref (x + 1), .ref (x + 3), .ref (t), .ref (x + 5), .ref (x + 7), .ref (x + 9), .ref (x + 11), .ref (x + 13)]) C0 (C := RX1) (T := TX1) (N := 8) iG_X1 hM (hF) rfl 0 (by decide) tw_171 rfl rfl dX1_combineWithLeast_30 ?_
  refine lv_aload_n C0.1 C0.2.1 dX1_combineWithLeast_33 rfl (lv_at hl 0 rfl) ?_
  refine mm_get (fs := [.ref (x + 1), .ref (x + 3), .ref (t), .ref (x + 5), .ref (x + 7), .ref (x + 9), .ref (x + 11), .ref (x + 13)]) C0 (C := RX1) (T := TX1) (N := 8) iG_X1 hM (hF) rfl 5 (by decide) tw_178 rfl rfl dX1_combineWithLeast_34 ?_
  refine mm_callVv (As := [.ref (x + 1), .ref (x + 9)]) C0 vw_X8_setProduct tw_603 (c_X8_setProduct l G _ hS5 hA hLa (by omega) (by omega) (by omega)) hM ((hS5.obj).choose_spec) rfl rfl hl.1 rfl (Nat.le_of_ble_eq_true rfl) ⟨rfl, rfl, Nat.le_of_ble_eq_true rfl, Nat.le_of_ble_eq_true rfl, Nat.zero_le _, Nat.zero_le _⟩ dX1_combineWithLeast_37 hS (fun E3 H locs hp hM hS => ?_)
  obtain ⟨hS5, fr⟩ := hp
  have hF := fx.kept hF (fr _ (by omega))
  have hA := isW.kept hA (fr _ (by omega)) (fr _ (by omega))
  have hB := isW.kept hB (fr _ (by omega)) (fr _ (by omega))
  have hC := isW.kept hC (fr _ (by omega)) (fr _ (by omega))
  have hD := isV.kept hD (fr _ (by omega)) (fr _ (by omega))
  have hLa := isW.kept hLa (fr _ (by omega)) (fr _ (by omega))
  have hLb := isW.kept hLb (fr _ (by omega)) (fr _ (by omega))
  have hfr := (fun q h => (fr q (by omega)).trans (hfr q h) : ∀ q : Nat, ((q < x + 1 ∨ x + 9 ≤ q) ∧ (q < x + 13 ∨ x + 15 ≤ q)) → E3 q = E0 q)
  refine lv_aload_n C0.1 C0.2.1 dX1_combineWithLeast_40 rfl (lv_at hl 0 rfl) ?_
  refine mm_get (fs := [.ref (x + 1), .ref (x + 3), .ref (t), .ref (x + 5), .ref (x + 7), .ref (x + 9), .ref (x + 11), .ref (x + 13)]) C0 (C := RX1) (T := TX1) (N := 8) iG_X1 hM (hF) rfl 3 (by decide) tw_176 rfl rfl dX1_combineWithLeast_41 ?_
  refine lv_aload_n C0.1 C0.2.1 dX1_combineWithLeast_44 rfl (lv_at hl 0 rfl) ?_
  refine mm_get (fs := [.ref (x + 1), .ref (x + 3), .ref (t), .ref (x + 5), .ref (x + 7), .ref (x + 9), .ref (x + 11), .ref (x + 13)]) C0 (C := RX1) (T := TX1) (N := 8) iG_X1 hM (hF) rfl 7 (by decide) tw_180 rfl rfl dX1_combineWithLeast_45 ?_
  refine mm_callVv (As := [.ref (x + 13)]) C0 vw_X8_add tw_598 (c_X8_add l G _ hC hS5 (by omega) (by rw [Nat.add_zero]; omega) (by omega)) hM ((hC.v.obj).choose_spec) rfl rfl hl.1 rfl (Nat.le_of_ble_eq_true rfl) ⟨rfl, rfl, Nat.le_of_ble_eq_true rfl, Nat.le_of_ble_eq_true rfl, Nat.zero_le _, Nat.zero_le _⟩ dX1_combineWithLeast_48 hS (fun E4 H locs hp hM hS => ?_)
  obtain ⟨hC, fr⟩ := hp
  have hF := fx.kept hF (fr _ (by omega))
  have hA := isW.kept hA (fr _ (by omega)) (fr _ (by omega))
  have hB := isW.kept hB (fr _ (by omega)) (fr _ (by omega))
  have hD := isV.kept hD (fr _ (by omega)) (fr _ (by omega))
  have hLa := isW.kept hLa (fr _ (by omega)) (fr _ (by omega))
  have hLb := isW.kept hLb (fr _ (by omega)) (fr _ (by omega))
  have hS5 := isW.kept hS5 (fr _ (by omega)) (fr _ (by omega))
  have hfr := (fun q h => (fr q (by omega)).trans (hfr q h) : ∀ q : Nat, ((q < x + 1 ∨ x + 9 ≤ q) ∧ (q < x + 13 ∨ x + 15 ≤ q)) → E4 q = E0 q)
  refine lv_aload_n C0.1 C0.2.1 dX1_combineWithLeast_51 rfl (lv_at hl 0 rfl) ?_
  refine mm_get (fs := [.ref (x + 1), .ref (x + 3), .ref (t), .ref (x + 5), .ref (x + 7), .ref (x + 9), .ref (x + 11), .ref (x + 13)]) C0 (C := RX1) (T := TX1) (N := 8) iG_X1 hM (hF) rfl 4 (by decide) tw_177 rfl rfl dX1_combineWithLeast_52 ?_
  refine lv_aload_n C0.1 C0.2.1 dX1_combineWithLeast_55 rfl (lv_at hl 0 rfl) ?_
  refine mm_get (fs := [.ref (x + 1), .ref (x + 3), .ref (t), .ref (x + 5), .ref (x + 7), .ref (x + 9), .ref (x + 11), .ref (x + 13)]) C0 (C := RX1) (T := TX1) (N := 8) iG_X1 hM (hF) rfl 1 (by decide) tw_173 rfl rfl dX1_combineWithLeast_56 ?_
  refine lv_aload_n C0.1 C0.2.1 dX1_combineWithLeast_59 rfl (lv_at hl 0 rfl) ?_
  refine mm_get (fs := [.ref (x + 1), .ref (x + 3), .ref (t), .ref (x + 5), .ref (x + 7), .ref (x + 9), .ref (x + 11), .ref (x + 13)]) C0 (C := RX1) (T := TX1) (N := 8) iG_X1 hM (hF) rfl 5 (by decide) tw_178 rfl rfl dX1_combineWithLeast_60 ?_
  refine mm_callVv (As := [.ref (x + 3), .ref (x + 9)]) C0 vw_X8_setProduct tw_603 (c_X8_setProduct l G _ hD hB hLa (by omega) (by omega) (by omega)) hM ((hD.obj).choose_spec) rfl rfl hl.1 rfl (Nat.le_of_ble_eq_true rfl) ⟨rfl, rfl, Nat.le_of_ble_eq_true rfl, Nat.le_of_ble_eq_true rfl, Nat.zero_le _, Nat.zero_le _⟩ dX1_combineWithLeast_63 hS (fun E5 H locs hp hM hS => ?_)
  obtain ⟨hD, fr⟩ := hp
  have hF := fx.kept hF (fr _ (by omega))
  have hA := isW.kept hA (fr _ (by omega)) (fr _ (by omega))
  have hB := isW.kept hB (fr _ (by omega)) (fr _ (by omega))
  have hC := isW.kept hC (fr _ (by omega)) (fr _ (by omega))
  have hLa := isW.kept hLa (fr _ (by omega)) (fr _ (by omega))
  have hLb := isW.kept hLb (fr _ (by omega)) (fr _ (by omega))
  have hS5 := isW.kept hS5 (fr _ (by omega)) (fr _ (by omega))
  have hfr := (fun q h => (fr q (by omega)).trans (hfr q h) : ∀ q : Nat, ((q < x + 1 ∨ x + 9 ≤ q) ∧ (q < x + 13 ∨ x + 15 ≤ q)) → E5 q = E0 q)
  refine lv_aload_n C0.1 C0.2.1 dX1_combineWithLeast_66 rfl (lv_at hl 0 rfl) ?_
  refine mm_get (fs := [.ref (x + 1), .ref (x + 3), .ref (t), .ref (x + 5), .ref (x + 7), .ref (x + 9), .ref (x + 11), .ref (x + 13)]) C0 (C := RX1) (T := TX1) (N := 8) iG_X1 hM (hF) rfl 7 (by decide) tw_180 rfl rfl dX1_combineWithLeast_67 ?_
  refine lv_aload_n C0.1 C0.2.1 dX1_combineWithLeast_70 rfl (lv_at hl 0 rfl) ?_
  refine mm_get (fs := [.ref (x + 1), .ref (x + 3), .ref (t), .ref (x + 5), .ref (x + 7), .ref (x + 9), .ref (x + 11), .ref (x + 13)]) C0 (C := RX1) (T := TX1) (N := 8) iG_X1 hM (hF) rfl 0 (by decide) tw_171 rfl rfl dX1_combineWithLeast_71 ?_
  refine lv_aload_n C0.1 C0.2.1 dX1_combineWithLeast_74 rfl (lv_at hl 0 rfl) ?_
  refine mm_get (fs := [.ref (x + 1), .ref (x + 3), .ref (t), .ref (x + 5), .ref (x + 7), .ref (x + 9), .ref (x + 11), .ref (x + 13)]) C0 (C := RX1) (T := TX1) (N := 8) iG_X1 hM (hF) rfl 6 (by decide) tw_179 rfl rfl dX1_combineWithLeast_75 ?_
  refine mm_callVv (As := [.ref (x + 1), .ref (x + 11)]) C0 vw_X8_setProduct tw_603 (c_X8_setProduct l G _ hS5.v hA hLb (by omega) (by omega) (by omega)) hM ((hS5.v.obj).choose_spec) rfl rfl hl.1 rfl (Nat.le_of_ble_eq_true rfl) ⟨rfl, rfl, Nat.le_of_ble_eq_true rfl, Nat.le_of_ble_eq_true rfl, Nat.zero_le _, Nat.zero_le _⟩ dX1_combineWithLeast_78 hS (fun E6 H locs hp hM hS => ?_)
  obtain ⟨hS5, fr⟩ := hp
  have hF := fx.kept hF (fr _ (by omega))
  have hA := isW.kept hA (fr _ (by omega)) (fr _ (by omega))
  have hB := isW.kept hB (fr _ (by omega)) (fr _ (by omega))
  have hC := isW.kept hC (fr _ (by omega)) (fr _ (by omega))
  have hD := isW.kept hD (fr _ (by omega)) (fr _ (by omega))
  have hLa := isW.kept hLa (fr _ (by omega)) (fr _ (by omega))
  have hLb := isW.kept hLb (fr _ (by omega)) (fr _ (by omega))
  have hfr := (fun q h => (fr q (by omega)).trans (hfr q h) : ∀ q : Nat, ((q < x + 1 ∨ x + 9 ≤ q) ∧ (q < x + 13 ∨ x + 15 ≤ q)) → E6 q = E0 q)
  refine lv_aload_n C0.1 C0.2.1 dX1_combineWithLeast_81 rfl (lv_at hl 0 rfl) ?_
  refine mm_get (fs := [.ref (x + 1), .ref (x + 3), .ref (t), .ref (x + 5), .ref (x + 7), .ref (x + 9), .ref (x + 11), .ref (x + 13)]) C0 (C := RX1) (T := TX1) (N := 8) iG_X1 hM (hF) rfl 4 (by decide) tw_177 rfl rfl dX1_combineWithLeast_82 ?_
  refine lv_aload_n C0.1 C0.2.1 dX1_combineWithLeast_85 rfl (lv_at hl 0 rfl) ?_
  refine mm_get (fs := [.ref (x + 1), .ref (x + 3), .ref (t), .ref (x + 5), .ref (x + 7), .ref (x + 9), .ref (x + 11), .ref (x + 13)]) C0 (C := RX1) (T := TX1) (N := 8) iG_X1 hM (hF) rfl 7 (by decide) tw_180 rfl rfl dX1_combineWithLeast_86 ?_
  refine mm_callVv (As := [.ref (x + 13)]) C0 vw_X8_add tw_598 (c_X8_add l G _ hD hS5 (by omega) (by omega) (by omega)) hM ((hD.v.obj).choose_spec) rfl rfl hl.1 rfl (Nat.le_of_ble_eq_true rfl) ⟨rfl, rfl, Nat.le_of_ble_eq_true rfl, Nat.le_of_ble_eq_true rfl, Nat.zero_le _, Nat.zero_le _⟩ dX1_combineWithLeast_89 hS (fun E7 H locs hp hM hS => ?_)
  obtain ⟨hD, fr⟩ := hp
  have hF := fx.kept hF (fr _ (by omega))
  have hA := isW.kept hA (fr _ (by omega)) (fr _ (by omega))
  have hB := isW.kept hB (fr _ (by omega)) (fr _ (by omega))
  have hC := isW.kept hC (fr _ (by omega)) (fr _ (by omega))
  have hLa := isW.kept hLa (fr _ (by omega)) (fr _ (by omega))
  have hLb := isW.kept hLb (fr _ (by omega)) (fr _ (by omega))
  have hS5 := isW.kept hS5 (fr _ (by omega)) (fr _ (by omega))
  have hfr := (fun q h => (fr q (by omega)).trans (hfr q h) : ∀ q : Nat, ((q < x + 1 ∨ x + 9 ≤ q) ∧ (q < x + 13 ∨ x + 15 ≤ q)) → E7 q = E0 q)
  refine lv_aload_n C0.1 C0.2.1 dX1_combineWithLeast_92 rfl (lv_at hl 0 rfl) ?_
  refine mm_get (fs := [.ref (x + 1), .ref (x + 3), .ref (t), .ref (x + 5), .ref (x + 7), .ref (x + 9), .ref (x + 11), .ref (x + 13)]) C0 (C := RX1) (T := TX1) (N := 8) iG_X1 hM (hF) rfl 0 (by decide) tw_171 rfl rfl dX1_combineWithLeast_93 ?_
  refine lv_aload_n C0.1 C0.2.1 dX1_combineWithLeast_96 rfl (lv_at hl 0 rfl) ?_
  refine mm_get (fs := [.ref (x + 1), .ref (x + 3), .ref (t), .ref (x + 5), .ref (x + 7), .ref (x + 9), .ref (x + 11), .ref (x + 13)]) C0 (C := RX1) (T := TX1) (N := 8) iG_X1 hM (hF) rfl 3 (by decide) tw_176 rfl rfl dX1_combineWithLeast_97 ?_
  refine mm_callVv (As := [.ref (x + 5)]) C0 vw_X8_copy tw_543 (c_X8_copy l G _ hA.v hC (by omega)) hM ((hA.v.obj).choose_spec) rfl rfl hl.1 rfl (Nat.le_of_ble_eq_true rfl) ⟨rfl, rfl, Nat.le_of_ble_eq_true rfl, Nat.le_of_ble_eq_true rfl, Nat.zero_le _, Nat.zero_le _⟩ dX1_combineWithLeast_100 hS (fun E8 H locs hp hM hS => ?_)
  obtain ⟨hA, fr⟩ := hp
  have hF := fx.kept hF (fr _ (by omega))
  have hB := isW.kept hB (fr _ (by omega)) (fr _ (by omega))
  have hC := isW.kept hC (fr _ (by omega)) (fr _ (by omega))
  have hD := isW.kept hD (fr _ (by omega)) (fr _ (by omega))
  have hLa := isW.kept hLa (fr _ (by omega)) (fr _ (by omega))
  have hLb := isW.kept hLb (fr _ (by omega)) (fr _ (by omega))
  have hS5 := isW.kept hS5 (fr _ (by omega)) (fr _ (by omega))
  have hfr := (fun q h => (fr q (by omega)).trans (hfr q h) : ∀ q : Nat, ((q < x + 1 ∨ x + 9 ≤ q) ∧ (q < x + 13 ∨ x + 15 ≤ q)) → E8 q = E0 q)
  refine lv_aload_n C0.1 C0.2.1 dX1_combineWithLeast_103 rfl (lv_at hl 0 rfl) ?_
  refine mm_get (fs := [.ref (x + 1), .ref (x + 3), .ref (t), .ref (x + 5), .ref (x + 7), .ref (x + 9), .ref (x + 11), .ref (x + 13)]) C0 (C := RX1) (T := TX1) (N := 8) iG_X1 hM (hF) rfl 1 (by decide) tw_173 rfl rfl dX1_combineWithLeast_104 ?_
  refine lv_aload_n C0.1 C0.2.1 dX1_combineWithLeast_107 rfl (lv_at hl 0 rfl) ?_
  refine mm_get (fs := [.ref (x + 1), .ref (x + 3), .ref (t), .ref (x + 5), .ref (x + 7), .ref (x + 9), .ref (x + 11), .ref (x + 13)]) C0 (C := RX1) (T := TX1) (N := 8) iG_X1 hM (hF) rfl 4 (by decide) tw_177 rfl rfl dX1_combineWithLeast_108 ?_
  refine mm_callVv (As := [.ref (x + 7)]) C0 vw_X8_copy tw_543 (c_X8_copy l G _ hB.v hD (by omega)) hM ((hB.v.obj).choose_spec) rfl rfl hl.1 rfl (Nat.le_of_ble_eq_true rfl) ⟨rfl, rfl, Nat.le_of_ble_eq_true rfl, Nat.le_of_ble_eq_true rfl, Nat.zero_le _, Nat.zero_le _⟩ dX1_combineWithLeast_111 hS (fun E9 H locs hp hM hS => ?_)
  obtain ⟨hB, fr⟩ := hp
  have hF := fx.kept hF (fr _ (by omega))
  have hA := isW.kept hA (fr _ (by omega)) (fr _ (by omega))
  have hC := isW.kept hC (fr _ (by omega)) (fr _ (by omega))
  have hD := isW.kept hD (fr _ (by omega)) (fr _ (by omega))
  have hLa := isW.kept hLa (fr _ (by omega)) (fr _ (by omega))
  have hLb := isW.kept hLb (fr _ (by omega)) (fr _ (by omega))
  have hS5 := isW.kept hS5 (fr _ (by omega)) (fr _ (by omega))
  have hfr := (fun q h => (fr q (by omega)).trans (hfr q h) : ∀ q : Nat, ((q < x + 1 ∨ x + 9 ≤ q) ∧ (q < x + 13 ∨ x + 15 ≤ q)) → E9 q = E0 q)
  exact mm_vret C0 hr hlk hM hS dX1_combineWithLeast_114 (⟨hA, hB, hC.v, hD.v, hS5.v, hfr⟩)

def rX1_findOne : Room := { frames := 5, cells := 0, slots := 0, locals := 121 }
theorem vw_X1_findOne : mm_Vw RX1 yX1_findOne cX1_findOne 5 (some .boolean) 2 := ⟨tw_571, tw_572, tw_7, tw_573, by decide +kernel⟩
set_option maxHeartbeats 4000000 in
set_option maxRecDepth 100000 in
theorem c_X1_findOne (l : Launch) (G : mG) (E0 : mE) {x t d f k n : Nat} {d0 f0 m0 D0 a0 : Int} (hF : fx G E0 x t) (hP : pt G E0 t d0 f0 m0 D0 a0) (hA : isV G E0 (x + 1)) (hB : isV G E0 (x + 3)) (hC : isV G E0 (x + 5)) (hD : isV G E0 (x + 7)) (hLa : isV G E0 (x + 9)) (hLb : isV G E0 (x + 11)) (hS5 : isV G E0 (x + 13)) (hrl : rl d f) (hk : rnd d f k) (hk9 : k < 1000000) (hn1 : 1 ≤ n) (hn9 : n ≤ 99) (hxt : t < x ∨ x + 15 ≤ t) : mm_Ci l yX1_findOne (.code yX1_findOne cX1_findOne 5 (some .boolean) :: wsG) rX1_findOne G [.ref (x), .int (zI ((d : Int))), .int (zI ((n : Int)))] E0 (fun z E => ((z = 1 ∧ isW G E (x + 1) (onA d f k n) ∧ isW G E (x + 3) (onB d f k n) ∧ nl (onA d f k n) ≤ 24) ∨ (z = 0 ∧ isV G E (x + 1) ∧ isV G E (x + 3) ∧ 24 < nl (onA d f k n))) ∧ isV G E (x + 5) ∧ isV G E (x + 7) ∧ isV G E (x + 9) ∧ isV G E (x + 11) ∧ isV G E (x + 13) ∧ (∃ d1 f1 m1 D1 a1 : Int, pt G E t d1 f1 m1 D1 a1) ∧ ∀ q : Nat, (q ≠ t ∧ (q < x + 1 ∨ x + 15 ≤ q)) → E q = E0 q) := by
  refine mm_of_i (by decide +kernel) (Nat.le_of_ble_eq_true rfl) ?_
  intro p e s m args below meth c ls C0 hr hlk hM hl hS
  have hl : lv_has ls 5 [(0, .ref (x)), (1, .int (zI ((d : Int)))), (2, .int (zI ((n : Int))))] := hl
  have hfr : ∀ q : Nat, (q ≠ t ∧ (q < x + 1 ∨ x + 15 ≤ q)) → E0 q = E0 q := fun _ _ => rfl
  have hk0 := hk.1
  have hrl9 := hrl
  obtain ⟨hf1, hf2, hf3, hf4, hd⟩ := hrl
  have hlm : lenR k ≤ 2 * k ∧ 1 ≤ lenR k := by unfold lenR; split <;> omega
  have hmo : ∀ u w, u ≤ w → (pel d (cvp d f (lenR k - 1)) (cvq d f (lenR k - 1)) u).1 ≤ (pel d (cvp d f (lenR k - 1)) (cvq d f (lenR k - 1)) w).1 := fun u w h => pel_mono (by omega) (cv_le hf1 hf3 hf4 _).1 (cv_le hf1 hf3 hf4 _).2.2 h
  have hle9 : ∀ u, (pel d (cvp d f (lenR k - 1)) (cvq d f (lenR k - 1)) u).2 ≤ (pel d (cvp d f (lenR k - 1)) (cvq d f (lenR k - 1)) u).1 := fun u => (pel_le (by omega) (cv_le hf1 hf3 hf4 _).1 (cv_le hf1 hf3 hf4 _).2.2 u).1
  refine lv_aload_n C0.1 C0.2.1 dX1_findOne_0 rfl (lv_at hl 0 rfl) ?_
  refine mm_get (fs := [.ref (x + 1), .ref (x + 3), .ref (t), .ref (x + 5), .ref (x + 7), .ref (x + 9), .ref (x + 11), .ref (x + 13)]) C0 (C := RX1) (T := TX1) (N := 8) iG_X1 hM (hF) rfl 2 (by decide) tw_175 rfl rfl dX1_findOne_1 ?_
  refine lv_iload_n C0.1 C0.2.1 dX1_findOne_4 rfl (lv_at hl 1 rfl) ?_
  refine mm_callVi (As := [.int (zI ((d : Int)))]) C0 vw_X2_countRound tw_574 (c_X2_countRound l G _ hP hrl9 hk hk9) hM (hP) rfl rfl hl.1 rfl (Nat.le_of_ble_eq_true rfl) ⟨rfl, rfl, Nat.le_of_ble_eq_true rfl, Nat.le_of_ble_eq_true rfl, Nat.zero_le _, Nat.zero_le _⟩ dX1_findOne_5 hS (fun z_5 E1 H locs hp hM hS => ?_)
  obtain ⟨hzk, ⟨d1, f1, m1, D1, a1, hP⟩, fr⟩ := hp
  have hF := fx.kept hF (fr _ (by omega))
  have hA := isV.kept hA (fr _ (by omega)) (fr _ (by omega))
  have hB := isV.kept hB (fr _ (by omega)) (fr _ (by omega))
  have hC := isV.kept hC (fr _ (by omega)) (fr _ (by omega))
  have hD := isV.kept hD (fr _ (by omega)) (fr _ (by omega))
  have hLa := isV.kept hLa (fr _ (by omega)) (fr _ (by omega))
  have hLb := isV.kept hLb (fr _ (by omega)) (fr _ (by omega))
  have hS5 := isV.kept hS5 (fr _ (by omega)) (fr _ (by omega))
  have hfr := (fun q h => (fr q (by omega)).trans (hfr q h) : ∀ q : Nat, (q ≠ t ∧ (q < x + 1 ∨ x + 15 ≤ q)) → E1 q = E0 q)
  refine z_asI (b := (k : Int)) (hzk) ?_
  refine lv_istore_n (lv' := [(3, .int (zI ((k : Int)))), (0, .ref (x)), (1, .int (zI ((d : Int)))), (2, .int (zI ((n : Int))))]) C0.1 C0.2.1 dX1_findOne_8 rfl hl (by decide) rfl (fun ls hl => ?_)
  refine lv_aload_n C0.1 C0.2.1 dX1_findOne_9 rfl (lv_at hl 1 rfl) ?_
  refine lv_iload_n C0.1 C0.2.1 dX1_findOne_10 rfl (lv_at hl 2 rfl) ?_
  refine lv_iload_n C0.1 C0.2.1 dX1_findOne_11 rfl (lv_at hl 0 rfl) ?_
  refine lv_iconst (v := zI 2) C0.1 C0.2.1 dX1_findOne_12 rfl ?_
  refine z_iremp C0.1 C0.2.1 dX1_findOne_13 ⟨by omega, by omega⟩ ⟨by omega, by omega⟩ (by omega) (by omega) ?_
  refine z_if_ne (tgt := 21) C0.1 C0.2.1 dX1_findOne_14 (by decide) ⟨by omega, by omega⟩ (fun c_14 => ?_) (fun c_14 => ?_)
  · skip
    have hlz : (2 : Int) * (k : Int) = (lenR k : Int) := by rw [lenR_2 (by omega)]; omega
    refine lv_iconst (v := zI 2) C0.1 C0.2.1 dX1_findOne_21 rfl ?_
    refine lv_iload_n C0.1 C0.2.1 dX1_findOne_22 rfl (lv_at hl 0 rfl) ?_
    refine z_imul C0.1 C0.2.1 dX1_findOne_23 ?_
    refine z_asI (a := ((2) * ((k : Int)))) (b := (lenR k : Int)) (hlz) ?_
    refine lv_iconst (v := zI 1) C0.1 C0.2.1 dX1_findOne_24 rfl ?_
    refine z_isub C0.1 C0.2.1 dX1_findOne_25 ?_
    refine z_asI (a := (((lenR k : Int)) - (1))) (b := ((lenR k - 1 : Nat) : Int)) (by omega) ?_
    refine mm_callVi (As := [.int (zI ((d : Int))), .int (zI (((lenR k - 1 : Nat) : Int)))]) C0 vw_X1_walk tw_588 (c_X1_walk l G _ (i := lenR k - 1) hF hP hA hB hC hD hS5 hrl9 (by omega) hxt) hM (hF) rfl rfl hl.1 rfl (Nat.le_of_ble_eq_true rfl) ⟨rfl, rfl, Nat.le_of_ble_eq_true rfl, Nat.le_of_ble_eq_true rfl, Nat.zero_le _, Nat.zero_le _⟩ dX1_findOne_26 hS (fun z_26 E2 H locs hp hM hS => ?_)
    obtain ⟨hww, hC, hD, hS5, ⟨d2, f2, m2, D2, a2, hP⟩, fr⟩ := hp
    have hF := fx.kept hF (fr _ (by omega))
    have hLa := isV.kept hLa (fr _ (by omega)) (fr _ (by omega))
    have hLb := isV.kept hLb (fr _ (by omega)) (fr _ (by omega))
    have hfr := (fun q h => (fr q (by omega)).trans (hfr q h) : ∀ q : Nat, (q ≠ t ∧ (q < x + 1 ∨ x + 15 ≤ q)) → E2 q = E0 q)
    have hz26 : z_26 = 0 ∨ z_26 = 1 := hww.elim (fun h => Or.inr h.1) (fun h => Or.inl h.1)
    refine z_if_ne (tgt := 34) C0.1 C0.2.1 dX1_findOne_29 (by decide) ⟨by omega, by omega⟩ (fun c_29 => ?_) (fun c_29 => ?_)
    · skip
      obtain ⟨hA, hB, hnc⟩ : isW G E2 (x + 1) (cvp d f (lenR k - 1)) ∧ isW G E2 (x + 3) (cvq d f (lenR k - 1)) ∧ nl (cvp d f (lenR k - 1)) ≤ 24 := hww.elim (fun h => h.2) (fun h => by omega)
      refine lv_aload_n C0.1 C0.2.1 dX1_findOne_34 rfl (lv_at hl 1 rfl) ?_
      refine mm_get (fs := [.ref (x + 1), .ref (x + 3), .ref (t), .ref (x + 5), .ref (x + 7), .ref (x + 9), .ref (x + 11), .ref (x + 13)]) C0 (C := RX1) (T := TX1) (N := 8) iG_X1 hM (hF) rfl 5 (by decide) tw_178 rfl rfl dX1_findOne_35 ?_
      refine lv_aload_n C0.1 C0.2.1 dX1_findOne_38 rfl (lv_at hl 1 rfl) ?_
      refine mm_get (fs := [.ref (x + 1), .ref (x + 3), .ref (t), .ref (x + 5), .ref (x + 7), .ref (x + 9), .ref (x + 11), .ref (x + 13)]) C0 (C := RX1) (T := TX1) (N := 8) iG_X1 hM (hF) rfl 0 (by decide) tw_171 rfl rfl dX1_findOne_39 ?_
      refine mm_callVv (As := [.ref (x + 1)]) C0 vw_X8_copy tw_543 (c_X8_copy l G _ hLa hA (by omega)) hM ((hLa.obj).choose_spec) rfl rfl hl.1 rfl (Nat.le_of_ble_eq_true rfl) ⟨rfl, rfl, Nat.le_of_ble_eq_true rfl, Nat.le_of_ble_eq_true rfl, Nat.zero_le _, Nat.zero_le _⟩ dX1_findOne_42 hS (fun E3 H locs hp hM hS => ?_)
      obtain ⟨hLa, fr⟩ := hp
      have hF := fx.kept hF (fr _ (by omega))
      have hP := pt.kept hP (fr _ (by omega))
      have hC := isV.kept hC (fr _ (by omega)) (fr _ (by omega))
      have hD := isV.kept hD (fr _ (by omega)) (fr _ (by omega))
      have hLb := isV.kept hLb (fr _ (by omega)) (fr _ (by omega))
      have hS5 := isV.kept hS5 (fr _ (by omega)) (fr _ (by omega))
      have hfr := (fun q h => (fr q (by omega)).trans (hfr q h) : ∀ q : Nat, (q ≠ t ∧ (q < x + 1 ∨ x + 15 ≤ q)) → E3 q = E0 q)
      have hA := isW.kept hA (fr _ (by omega)) (fr _ (by omega))
      have hB := isW.kept hB (fr _ (by omega)) (fr _ (by omega))
      refine lv_aload_n C0.1 C0.2.1 dX1_findOne_45 rfl (lv_at hl 1 rfl) ?_
      refine mm_get (fs := [.ref (x + 1), .ref (x + 3), .ref (t), .ref (x + 5), .ref (x + 7), .ref (x + 9), .ref (x + 11), .ref (x + 13)]) C0 (C := RX1) (T := TX1) (N := 8) iG_X1 hM (hF) rfl 6 (by decide) tw_179 rfl rfl dX1_findOne_46 ?_
      refine lv_aload_n C0.1 C0.2.1 dX1_findOne_49 rfl (lv_at hl 1 rfl) ?_
      refine mm_get (fs := [.ref (x + 1), .ref (x + 3), .ref (t), .ref (x + 5), .ref (x + 7), .ref (x + 9), .ref (x + 11), .ref (x + 13)]) C0 (C := RX1) (T := TX1) (N := 8) iG_X1 hM (hF) rfl 1 (by decide) tw_173 rfl rfl dX1_findOne_50 ?_
      refine mm_callVv (As := [.ref (x + 3)]) C0 vw_X8_copy tw_543 (c_X8_copy l G _ hLb hB (by omega)) hM ((hLb.obj).choose_spec) rfl rfl hl.1 rfl (Nat.le_of_ble_eq_true rfl) ⟨rfl, rfl, Nat.le_of_ble_eq_true rfl, Nat.le_of_ble_eq_true rfl, Nat.zero_le _, Nat.zero_le _⟩ dX1_findOne_53 hS (fun E4 H locs hp hM hS => ?_)
      obtain ⟨hLb, fr⟩ := hp
      have hF := fx.kept hF (fr _ (by omega))
      have hP := pt.kept hP (fr _ (by omega))
      have hC := isV.kept hC (fr _ (by omega)) (fr _ (by omega))
      have hD := isV.kept hD (fr _ (by omega)) (fr _ (by omega))
      have hLa := isW.kept hLa (fr _ (by omega)) (fr _ (by omega))
      have hS5 := isV.kept hS5 (fr _ (by omega)) (fr _ (by omega))
      have hfr := (fun q h => (fr q (by omega)).trans (hfr q h) : ∀ q : Nat, (q ≠ t ∧ (q < x + 1 ∨ x + 15 ≤ q)) → E4 q = E0 q)
      have hA := isW.kept hA (fr _ (by omega)) (fr _ (by omega))
      have hB := isW.kept hB (fr _ (by omega)) (fr _ (by omega))
      refine lv_iconst (v := zI 1) C0.1 C0.2.1 dX1_findOne_56 rfl ?_
      refine lv_istore (lv' := [(4, .int (zI (1))), (3, .int (zI ((k : Int)))), (0, .ref (x)), (1, .int (zI ((d : Int)))), (2, .int (zI ((n : Int))))]) C0.1 C0.2.1 dX1_findOne_57 hl (by decide) rfl (fun ls hl => ?_)
      have L59 : ∀ (k59 : Nat) (j : Nat) (E5 : mE) (H : Heap) (locs : List Loc) (ls : Array Slot), (j + 1 ≤ n) → (nl (pel d (cvp d f (lenR k - 1)) (cvq d f (lenR k - 1)) j).1 ≤ 24) → (fx G E5 x t) → (pt G E5 t d2 f2 m2 D2 a2) → (isW G E5 (x + 1) (pel d (cvp d f (lenR k - 1)) (cvq d f (lenR k - 1)) j).1) → (isW G E5 (x + 3) (pel d (cvp d f (lenR k - 1)) (cvq d f (lenR k - 1)) j).2) → (isV G E5 (x + 5)) → (isV G E5 (x + 7)) → (isW G E5 (x + 9) (cvp d f (lenR k - 1))) → (isW G E5 (x + 11) (cvq d f (lenR k - 1))) → (isV G E5 (x + 13)) → (∀ q : Nat, (q ≠ t ∧ (q < x + 1 ∨ x + 15 ≤ q)) → E5 q = E0 q) → n - j < k59 → mm_M G E5 H → va_S (mm_A G) s.heap H locs → lv_has ls 5 [(0, .ref (x)), (1, .int (zI ((d : Int)))), (2, .int (zI ((n : Int)))), (3, .int (zI ((k : Int)))), (4, .int (zI (((j + 1 : Nat) : Int))))] → W p l e rX1_findOne s m args below meth c H locs 0 0 (mm_Zi G below args s (fun z E => ((z = 1 ∧ isW G E (x + 1) (onA d f k n) ∧ isW G E (x + 3) (onB d f k n) ∧ nl (onA d f k n) ≤ 24) ∨ (z = 0 ∧ isV G E (x + 1) ∧ isV G E (x + 3) ∧ 24 < nl (onA d f k n))) ∧ isV G E (x + 5) ∧ isV G E (x + 7) ∧ isV G E (x + 9) ∧ isV G E (x + 11) ∧ isV G E (x + 13) ∧ (∃ d1 f1 m1 D1 a1 : Int, pt G E t d1 f1 m1 D1 a1) ∧ ∀ q : Nat, (q ≠ t ∧ (q < x + 1 ∨ x + 15 ≤ q)) → E q = E0 q)) (F0 m 59 ls []) := by
        intro k59
        induction k59 with
        | zero => intro j E5 H locs ls hj hn hF hP hA hB hC hD hLa hLb hS5 hfr hk hM hS hl; exact absurd hk (Nat.not_lt_zero _)
        | succ k59 ih59 =>
          intro j E5 H locs ls hj hn hF hP hA hB hC hD hLa hLb hS5 hfr hk59 hM hS hl
          have hb1 := nl_mono (hle9 j)
          have hb2 := nl_mono (hmo 0 j (Nat.zero_le _))
          have hb3 := nl_mono (hle9 0)
          have hb4 : nl (cvp d f (lenR k - 1)) ≤ nl (pel d (cvp d f (lenR k - 1)) (cvq d f (lenR k - 1)) j).1 := hb2
          have hb5 : nl (cvq d f (lenR k - 1)) ≤ nl (pel d (cvp d f (lenR k - 1)) (cvq d f (lenR k - 1)) 0).1 := hb3
          have hb6 : nl (pel d (cvp d f (lenR k - 1)) (cvq d f (lenR k - 1)) 0).1 = nl (cvp d f (lenR k - 1)) := rfl
          refine lv_iload C0.1 C0.2.1 dX1_findOne_59 (lv_at hl 4 rfl) ?_
          refine lv_iload_n C0.1 C0.2.1 dX1_findOne_61 rfl (lv_at hl 2 rfl) ?_
          refine z_icmp_ge (tgt := 90) C0.1 C0.2.1 dX1_findOne_62 (by decide) ⟨by omega, by omega⟩ ⟨by omega, by omega⟩ (fun c_62 => ?_) (fun c_62 => ?_)
          · skip
            refine lv_iconst (v := zI 1) C0.1 C0.2.1 dX1_findOne_90 rfl ?_
            exact mm_zret (z := 1) C0 hr hlk hM hS (by omega) dX1_findOne_91 (by have hji : j = n - 1 := (by omega); subst hji; exact ⟨Or.inl ⟨rfl, hA, hB, hn⟩, hC, hD, hLa.v, hLb.v, hS5, ⟨_, _, _, _, _, hP⟩, hfr⟩)
          · skip
            refine lv_aload_n C0.1 C0.2.1 dX1_findOne_65 rfl (lv_at hl 0 rfl) ?_
            refine lv_iload_n C0.1 C0.2.1 dX1_findOne_66 rfl (lv_at hl 1 rfl) ?_
            refine mm_callVv (As := [.int (zI ((d : Int)))]) C0 vw_X1_combineWithLeast tw_599 (c_X1_combineWithLeast l G _ hF hA hB hC hD hLa hLb hS5 hd hn (by omega) (by omega) (by omega)) hM (hF) rfl rfl hl.1 rfl (Nat.le_of_ble_eq_true rfl) ⟨rfl, rfl, Nat.le_of_ble_eq_true rfl, Nat.le_of_ble_eq_true rfl, Nat.zero_le _, Nat.zero_le _⟩ dX1_findOne_67 hS (fun E6 H locs hp hM hS => ?_)
            obtain ⟨hA, hB, hC, hD, hS5, fr⟩ := hp
            have hF := fx.kept hF (fr _ (by omega))
            have hP := pt.kept hP (fr _ (by omega))
            have hLa := isW.kept hLa (fr _ (by omega)) (fr _ (by omega))
            have hLb := isW.kept hLb (fr _ (by omega)) (fr _ (by omega))
            have hfr := (fun q h => (fr q (by omega)).trans (hfr q h) : ∀ q : Nat, (q ≠ t ∧ (q < x + 1 ∨ x + 15 ≤ q)) → E6 q = E0 q)
            replace hA : isW G E6 (x + 1) (pel d (cvp d f (lenR k - 1)) (cvq d f (lenR k - 1)) (j + 1)).1 := hA
            replace hB : isW G E6 (x + 3) (pel d (cvp d f (lenR k - 1)) (cvq d f (lenR k - 1)) (j + 1)).2 := hB
            have hAle := hA.le
            refine lv_aload_n C0.1 C0.2.1 dX1_findOne_70 rfl (lv_at hl 0 rfl) ?_
            refine mm_get (fs := [.ref (x + 1), .ref (x + 3), .ref (t), .ref (x + 5), .ref (x + 7), .ref (x + 9), .ref (x + 11), .ref (x + 13)]) C0 (C := RX1) (T := TX1) (N := 8) iG_X1 hM (hF) rfl 0 (by decide) tw_171 rfl rfl dX1_findOne_71 ?_
            refine mm_get (fs := [.ref (x + 1 + 1), .int (zI (((nl ((pel d (cvp d f (lenR k - 1)) (cvq d f (lenR k - 1)) (j + 1)).1) : Nat) : Int)))]) C0 (C := RX8) (T := TX8) (N := 2) iG_X8 hM (hA.obj) rfl 1 (by decide) tw_84 rfl rfl dX1_findOne_74 ?_
            refine lv_bipush (v := zI 24) C0.1 C0.2.1 dX1_findOne_77 rfl ?_
            refine z_icmp_le (tgt := 84) C0.1 C0.2.1 dX1_findOne_79 (by decide) ⟨by omega, by omega⟩ ⟨by omega, by omega⟩ (fun c_79 => ?_) (fun c_79 => ?_)
            · skip
              refine lv_iinc (v := zI (((j + 1 + 1 : Nat) : Int))) (lv' := [(4, .int (zI (((j + 1 + 1 : Nat) : Int)))), (0, .ref (x)), (1, .int (zI ((d : Int)))), (2, .int (zI ((n : Int)))), (3, .int (zI ((k : Int))))]) C0.1 C0.2.1 dX1_findOne_84 hl (k := 4) rfl (z_inc (a := ((j + 1 : Nat) : Int)) (n := 1) (by omega)) (by decide) rfl (fun ls hl => ?_)
              refine lv_goto (tgt := 59) C0.1 C0.2.1 dX1_findOne_87 (by decide) ?_
              exact ih59  (j + 1) E6 _ _ _ (by omega) (by omega) (hF) (hP) (hA) (hB) (hC) (hD) (hLa) (hLb) (hS5) (hfr) (by omega) hM hS (lv_sub hl [1, 2, 3, 4, 0] rfl)
            · skip
              refine lv_iconst (v := zI 0) C0.1 C0.2.1 dX1_findOne_82 rfl ?_
              exact mm_zret (z := 0) C0 hr hlk hM hS (by omega) dX1_findOne_83 (⟨Or.inr ⟨rfl, hA.v, hB.v, Nat.lt_of_lt_of_le (show 24 < nl (pel d (cvp d f (lenR k - 1)) (cvq d f (lenR k - 1)) (j + 1)).1 by omega) (nl_mono (hmo (j + 1) (n - 1) (by omega)))⟩, hC, hD, hLa.v, hLb.v, hS5, ⟨_, _, _, _, _, hP⟩, hfr⟩)
      exact L59 (_ + 1) 0 E4 _ _ _ (hn1) (hnc) (hF) (hP) (hA) (hB) (hC) (hD) (hLa) (hLb) (hS5) (hfr) (Nat.lt_succ_self _) hM hS (lv_sub hl [2, 3, 4, 1, 0] rfl)
    · skip
      obtain ⟨hA, hB, hnc⟩ : isV G E2 (x + 1) ∧ isV G E2 (x + 3) ∧ 24 < nl (cvp d f (lenR k - 1)) := hww.elim (fun h => by omega) (fun h => h.2)
      refine lv_iconst (v := zI 0) C0.1 C0.2.1 dX1_findOne_32 rfl ?_
      exact mm_zret (z := 0) C0 hr hlk hM hS (by omega) dX1_findOne_33 (⟨Or.inr ⟨rfl, hA, hB, Nat.lt_of_lt_of_le hnc (nl_mono (hmo 0 _ (Nat.zero_le _)))⟩, hC, hD, hLa, hLb, hS5, ⟨_, _, _, _, _, hP⟩, hfr⟩)
  · skip
    have hlz : (k : Int) = (lenR k : Int) := by rw [lenR_1 (by omega)]
    refine lv_iload_n C0.1 C0.2.1 dX1_findOne_17 rfl (lv_at hl 0 rfl) ?_
    refine lv_goto (tgt := 24) C0.1 C0.2.1 dX1_findOne_18 (by decide) ?_
    refine z_asI (a := (k : Int)) (b := (lenR k : Int)) (hlz) ?_
    refine lv_iconst (v := zI 1) C0.1 C0.2.1 dX1_findOne_24 rfl ?_
    refine z_isub C0.1 C0.2.1 dX1_findOne_25 ?_
    refine z_asI (a := (((lenR k : Int)) - (1))) (b := ((lenR k - 1 : Nat) : Int)) (by omega) ?_
    refine mm_callVi (As := [.int (zI ((d : Int))), .int (zI (((lenR k - 1 : Nat) : Int)))]) C0 vw_X1_walk tw_588 (c_X1_walk l G _ (i := lenR k - 1) hF hP hA hB hC hD hS5 hrl9 (by omega) hxt) hM (hF) rfl rfl hl.1 rfl (Nat.le_of_ble_eq_true rfl) ⟨rfl, rfl, Nat.le_of_ble_eq_true rfl, Nat.le_of_ble_eq_true rfl, Nat.zero_le _, Nat.zero_le _⟩ dX1_findOne_26 hS (fun z_26 E7 H locs hp hM hS => ?_)
    obtain ⟨hww, hC, hD, hS5, ⟨d2, f2, m2, D2, a2, hP⟩, fr⟩ := hp
    have hF := fx.kept hF (fr _ (by omega))
    have hLa := isV.kept hLa (fr _ (by omega)) (fr _ (by omega))
    have hLb := isV.kept hLb (fr _ (by omega)) (fr _ (by omega))
    have hfr := (fun q h => (fr q (by omega)).trans (hfr q h) : ∀ q : Nat, (q ≠ t ∧ (q < x + 1 ∨ x + 15 ≤ q)) → E7 q = E0 q)
    have hz26 : z_26 = 0 ∨ z_26 = 1 := hww.elim (fun h => Or.inr h.1) (fun h => Or.inl h.1)
    refine z_if_ne (tgt := 34) C0.1 C0.2.1 dX1_findOne_29 (by decide) ⟨by omega, by omega⟩ (fun c_29 => ?_) (fun c_29 => ?_)
    · skip
      obtain ⟨hA, hB, hnc⟩ : isW G E7 (x + 1) (cvp d f (lenR k - 1)) ∧ isW G E7 (x + 3) (cvq d f (lenR k - 1)) ∧ nl (cvp d f (lenR k - 1)) ≤ 24 := hww.elim (fun h => h.2) (fun h => by omega)
      refine lv_aload_n C0.1 C0.2.1 dX1_findOne_34 rfl (lv_at hl 1 rfl) ?_
      refine mm_get (fs := [.ref (x + 1), .ref (x + 3), .ref (t), .ref (x + 5), .ref (x + 7), .ref (x + 9), .ref (x + 11), .ref (x + 13)]) C0 (C := RX1) (T := TX1) (N := 8) iG_X1 hM (hF) rfl 5 (by decide) tw_178 rfl rfl dX1_findOne_35 ?_
      refine lv_aload_n C0.1 C0.2.1 dX1_findOne_38 rfl (lv_at hl 1 rfl) ?_
      refine mm_get (fs := [.ref (x + 1), .ref (x + 3), .ref (t), .ref (x + 5), .ref (x + 7), .ref (x + 9), .ref (x + 11), .ref (x + 13)]) C0 (C := RX1) (T := TX1) (N := 8) iG_X1 hM (hF) rfl 0 (by decide) tw_171 rfl rfl dX1_findOne_39 ?_
      refine mm_callVv (As := [.ref (x + 1)]) C0 vw_X8_copy tw_543 (c_X8_copy l G _ hLa hA (by omega)) hM ((hLa.obj).choose_spec) rfl rfl hl.1 rfl (Nat.le_of_ble_eq_true rfl) ⟨rfl, rfl, Nat.le_of_ble_eq_true rfl, Nat.le_of_ble_eq_true rfl, Nat.zero_le _, Nat.zero_le _⟩ dX1_findOne_42 hS (fun E8 H locs hp hM hS => ?_)
      obtain ⟨hLa, fr⟩ := hp
      have hF := fx.kept hF (fr _ (by omega))
      have hP := pt.kept hP (fr _ (by omega))
      have hC := isV.kept hC (fr _ (by omega)) (fr _ (by omega))
      have hD := isV.kept hD (fr _ (by omega)) (fr _ (by omega))
      have hLb := isV.kept hLb (fr _ (by omega)) (fr _ (by omega))
      have hS5 := isV.kept hS5 (fr _ (by omega)) (fr _ (by omega))
      have hfr := (fun q h => (fr q (by omega)).trans (hfr q h) : ∀ q : Nat, (q ≠ t ∧ (q < x + 1 ∨ x + 15 ≤ q)) → E8 q = E0 q)
      have hA := isW.kept hA (fr _ (by omega)) (fr _ (by omega))
      have hB := isW.kept hB (fr _ (by omega)) (fr _ (by omega))
      refine lv_aload_n C0.1 C0.2.1 dX1_findOne_45 rfl (lv_at hl 1 rfl) ?_
      refine mm_get (fs := [.ref (x + 1), .ref (x + 3), .ref (t), .ref (x + 5), .ref (x + 7), .ref (x + 9), .ref (x + 11), .ref (x + 13)]) C0 (C := RX1) (T := TX1) (N := 8) iG_X1 hM (hF) rfl 6 (by decide) tw_179 rfl rfl dX1_findOne_46 ?_
      refine lv_aload_n C0.1 C0.2.1 dX1_findOne_49 rfl (lv_at hl 1 rfl) ?_
      refine mm_get (fs := [.ref (x + 1), .ref (x + 3), .ref (t), .ref (x + 5), .ref (x + 7), .ref (x + 9), .ref (x + 11), .ref (x + 13)]) C0 (C := RX1) (T := TX1) (N := 8) iG_X1 hM (hF) rfl 1 (by decide) tw_173 rfl rfl dX1_findOne_50 ?_
      refine mm_callVv (As := [.ref (x + 3)]) C0 vw_X8_copy tw_543 (c_X8_copy l G _ hLb hB (by omega)) hM ((hLb.obj).choose_spec) rfl rfl hl.1 rfl (Nat.le_of_ble_eq_true rfl) ⟨rfl, rfl, Nat.le_of_ble_eq_true rfl, Nat.le_of_ble_eq_true rfl, Nat.zero_le _, Nat.zero_le _⟩ dX1_findOne_53 hS (fun E9 H locs hp hM hS => ?_)
      obtain ⟨hLb, fr⟩ := hp
      have hF := fx.kept hF (fr _ (by omega))
      have hP := pt.kept hP (fr _ (by omega))
      have hC := isV.kept hC (fr _ (by omega)) (fr _ (by omega))
      have hD := isV.kept hD (fr _ (by omega)) (fr _ (by omega))
      have hLa := isW.kept hLa (fr _ (by omega)) (fr _ (by omega))
      have hS5 := isV.kept hS5 (fr _ (by omega)) (fr _ (by omega))
      have hfr := (fun q h => (fr q (by omega)).trans (hfr q h) : ∀ q : Nat, (q ≠ t ∧ (q < x + 1 ∨ x + 15 ≤ q)) → E9 q = E0 q)
      have hA := isW.kept hA (fr _ (by omega)) (fr _ (by omega))
      have hB := isW.kept hB (fr _ (by omega)) (fr _ (by omega))
      refine lv_iconst (v := zI 1) C0.1 C0.2.1 dX1_findOne_56 rfl ?_
      refine lv_istore (lv' := [(4, .int (zI (1))), (3, .int (zI ((k : Int)))), (0, .ref (x)), (1, .int (zI ((d : Int)))), (2, .int (zI ((n : Int))))]) C0.1 C0.2.1 dX1_findOne_57 hl (by decide) rfl (fun ls hl => ?_)
      have L59 : ∀ (k59 : Nat) (j : Nat) (E10 : mE) (H : Heap) (locs : List Loc) (ls : Array Slot), (j + 1 ≤ n) → (nl (pel d (cvp d f (lenR k - 1)) (cvq d f (lenR k - 1)) j).1 ≤ 24) → (fx G E10 x t) → (pt G E10 t d2 f2 m2 D2 a2) → (isW G E10 (x + 1) (pel d (cvp d f (lenR k - 1)) (cvq d f (lenR k - 1)) j).1) → (isW G E10 (x + 3) (pel d (cvp d f (lenR k - 1)) (cvq d f (lenR k - 1)) j).2) → (isV G E10 (x + 5)) → (isV G E10 (x + 7)) → (isW G E10 (x + 9) (cvp d f (lenR k - 1))) → (isW G E10 (x + 11) (cvq d f (lenR k - 1))) → (isV G E10 (x + 13)) → (∀ q : Nat, (q ≠ t ∧ (q < x + 1 ∨ x + 15 ≤ q)) → E10 q = E0 q) → n - j < k59 → mm_M G E10 H → va_S (mm_A G) s.heap H locs → lv_has ls 5 [(0, .ref (x)), (1, .int (zI ((d : Int)))), (2, .int (zI ((n : Int)))), (3, .int (zI ((k : Int)))), (4, .int (zI (((j + 1 : Nat) : Int))))] → W p l e rX1_findOne s m args below meth c H locs 0 0 (mm_Zi G below args s (fun z E => ((z = 1 ∧ isW G E (x + 1) (onA d f k n) ∧ isW G E (x + 3) (onB d f k n) ∧ nl (onA d f k n) ≤ 24) ∨ (z = 0 ∧ isV G E (x + 1) ∧ isV G E (x + 3) ∧ 24 < nl (onA d f k n))) ∧ isV G E (x + 5) ∧ isV G E (x + 7) ∧ isV G E (x + 9) ∧ isV G E (x + 11) ∧ isV G E (x + 13) ∧ (∃ d1 f1 m1 D1 a1 : Int, pt G E t d1 f1 m1 D1 a1) ∧ ∀ q : Nat, (q ≠ t ∧ (q < x + 1 ∨ x + 15 ≤ q)) → E q = E0 q)) (F0 m 59 ls []) := by
        intro k59
        induction k59 with
        | zero => intro j E10 H locs ls hj hn hF hP hA hB hC hD hLa hLb hS5 hfr hk hM hS hl; exact absurd hk (Nat.not_lt_zero _)
        | succ k59 ih59 =>
          intro j E10 H locs ls hj hn hF hP hA hB hC hD hLa hLb hS5 hfr hk59 hM hS hl
          have hb1 := nl_mono (hle9 j)
          have hb2 := nl_mono (hmo 0 j (Nat.zero_le _))
          have hb3 := nl_mono (hle9 0)
          have hb4 : nl (cvp d f (lenR k - 1)) ≤ nl (pel d (cvp d f (lenR k - 1)) (cvq d f (lenR k - 1)) j).1 := hb2
          have hb5 : nl (cvq d f (lenR k - 1)) ≤ nl (pel d (cvp d f (lenR k - 1)) (cvq d f (lenR k - 1)) 0).1 := hb3
          have hb6 : nl (pel d (cvp d f (lenR k - 1)) (cvq d f (lenR k - 1)) 0).1 = nl (cvp d f (lenR k - 1)) := rfl
          refine lv_iload C0.1 C0.2.1 dX1_findOne_59 (lv_at hl 4 rfl) ?_
          refine lv_iload_n C0.1 C0.2.1 dX1_findOne_61 rfl (lv_at hl 2 rfl) ?_
          refine z_icmp_ge (tgt := 90) C0.1 C0.2.1 dX1_findOne_62 (by decide) ⟨by omega, by omega⟩ ⟨by omega, by omega⟩ (fun c_62 => ?_) (fun c_62 => ?_)
          · skip
            refine lv_iconst (v := zI 1) C0.1 C0.2.1 dX1_findOne_90 rfl ?_
            exact mm_zret (z := 1) C0 hr hlk hM hS (by omega) dX1_findOne_91 (by have hji : j = n - 1 := (by omega); subst hji; exact ⟨Or.inl ⟨rfl, hA, hB, hn⟩, hC, hD, hLa.v, hLb.v, hS5, ⟨_, _, _, _, _, hP⟩, hfr⟩)
          · skip
            refine lv_aload_n C0.1 C0.2.1 dX1_findOne_65 rfl (lv_at hl 0 rfl) ?_
            refine lv_iload_n C0.1 C0.2.1 dX1_findOne_66 rfl (lv_at hl 1 rfl) ?_
            refine mm_callVv (As := [.int (zI ((d : Int)))]) C0 vw_X1_combineWithLeast tw_599 (c_X1_combineWithLeast l G _ hF hA hB hC hD hLa hLb hS5 hd hn (by omega) (by omega) (by omega)) hM (hF) rfl rfl hl.1 rfl (Nat.le_of_ble_eq_true rfl) ⟨rfl, rfl, Nat.le_of_ble_eq_true rfl, Nat.le_of_ble_eq_true rfl, Nat.zero_le _, Nat.zero_le _⟩ dX1_findOne_67 hS (fun E11 H locs hp hM hS => ?_)
            obtain ⟨hA, hB, hC, hD, hS5, fr⟩ := hp
            have hF := fx.kept hF (fr _ (by omega))
            have hP := pt.kept hP (fr _ (by omega))
            have hLa := isW.kept hLa (fr _ (by omega)) (fr _ (by omega))
            have hLb := isW.kept hLb (fr _ (by omega)) (fr _ (by omega))
            have hfr := (fun q h => (fr q (by omega)).trans (hfr q h) : ∀ q : Nat, (q ≠ t ∧ (q < x + 1 ∨ x + 15 ≤ q)) → E11 q = E0 q)
            replace hA : isW G E11 (x + 1) (pel d (cvp d f (lenR k - 1)) (cvq d f (lenR k - 1)) (j + 1)).1 := hA
            replace hB : isW G E11 (x + 3) (pel d (cvp d f (lenR k - 1)) (cvq d f (lenR k - 1)) (j + 1)).2 := hB
            have hAle := hA.le
            refine lv_aload_n C0.1 C0.2.1 dX1_findOne_70 rfl (lv_at hl 0 rfl) ?_
            refine mm_get (fs := [.ref (x + 1), .ref (x + 3), .ref (t), .ref (x + 5), .ref (x + 7), .ref (x + 9), .ref (x + 11), .ref (x + 13)]) C0 (C := RX1) (T := TX1) (N := 8) iG_X1 hM (hF) rfl 0 (by decide) tw_171 rfl rfl dX1_findOne_71 ?_
            refine mm_get (fs := [.ref (x + 1 + 1), .int (zI (((nl ((pel d (cvp d f (lenR k - 1)) (cvq d f (lenR k - 1)) (j + 1)).1) : Nat) : Int)))]) C0 (C := RX8) (T := TX8) (N := 2) iG_X8 hM (hA.obj) rfl 1 (by decide) tw_84 rfl rfl dX1_findOne_74 ?_
            refine lv_bipush (v := zI 24) C0.1 C0.2.1 dX1_findOne_77 rfl ?_
            refine z_icmp_le (tgt := 84) C0.1 C0.2.1 dX1_findOne_79 (by decide) ⟨by omega, by omega⟩ ⟨by omega, by omega⟩ (fun c_79 => ?_) (fun c_79 => ?_)
            · skip
              refine lv_iinc (v := zI (((j + 1 + 1 : Nat) : Int))) (lv' := [(4, .int (zI (((j + 1 + 1 : Nat) : Int)))), (0, .ref (x)), (1, .int (zI ((d : Int)))), (2, .int (zI ((n : Int)))), (3, .int (zI ((k : Int))))]) C0.1 C0.2.1 dX1_findOne_84 hl (k := 4) rfl (z_inc (a := ((j + 1 : Nat) : Int)) (n := 1) (by omega)) (by decide) rfl (fun ls hl => ?_)
              refine lv_goto (tgt := 59) C0.1 C0.2.1 dX1_findOne_87 (by decide) ?_
              exact ih59  (j + 1) E11 _ _ _ (by omega) (by omega) (hF) (hP) (hA) (hB) (hC) (hD) (hLa) (hLb) (hS5) (hfr) (by omega) hM hS (lv_sub hl [1, 2, 3, 4, 0] rfl)
            · skip
              refine lv_iconst (v := zI 0) C0.1 C0.2.1 dX1_findOne_82 rfl ?_
              exact mm_zret (z := 0) C0 hr hlk hM hS (by omega) dX1_findOne_83 (⟨Or.inr ⟨rfl, hA.v, hB.v, Nat.lt_of_lt_of_le (show 24 < nl (pel d (cvp d f (lenR k - 1)) (cvq d f (lenR k - 1)) (j + 1)).1 by omega) (nl_mono (hmo (j + 1) (n - 1) (by omega)))⟩, hC, hD, hLa.v, hLb.v, hS5, ⟨_, _, _, _, _, hP⟩, hfr⟩)
      exact L59 (_ + 1) 0 E9 _ _ _ (hn1) (hnc) (hF) (hP) (hA) (hB) (hC) (hD) (hLa) (hLb) (hS5) (hfr) (Nat.lt_succ_self _) hM hS (lv_sub hl [2, 3, 4, 1, 0] rfl)
    · skip
      obtain ⟨hA, hB, hnc⟩ : isV G E7 (x + 1) ∧ isV G E7 (x + 3) ∧ 24 < nl (cvp d f (lenR k - 1)) := hww.elim (fun h => by omega) (fun h => h.2)
      refine lv_iconst (v := zI 0) C0.1 C0.2.1 dX1_findOne_32 rfl ?_
      exact mm_zret (z := 0) C0 hr hlk hM hS (by omega) dX1_findOne_33 (⟨Or.inr ⟨rfl, hA, hB, Nat.lt_of_lt_of_le hnc (nl_mono (hmo 0 _ (Nat.zero_le _)))⟩, hC, hD, hLa, hLb, hS5, ⟨_, _, _, _, _, hP⟩, hfr⟩)

def rX1_climb : Room := { frames := 3, cells := 0, slots := 0, locals := 75 }
theorem vw_X1_climb : mm_Vw RX1 yX1_climb cX1_climb 5 none 3 := ⟨tw_539, tw_540, tw_7, tw_541, by decide +kernel⟩
set_option maxHeartbeats 4000000 in
set_option maxRecDepth 100000 in
theorem c_X1_climb (l : Launch) (G : mG) (E0 : mE) {x t i w o : Nat} (hF : fx G E0 x t) (hA : isV G E0 (x + 1)) (hB : isV G E0 (x + 3)) (hS5 : isV G E0 (x + 13)) (hO : isV G E0 o) (hi : i ≤ 200) (hw : w ≤ 2) (hox : o + 2 ≤ x ∨ x + 15 ≤ o) : mm_Cv l yX1_climb (.code yX1_climb cX1_climb 5 none :: wsG) rX1_climb G [.ref (x), .int (zI ((i : Int))), .int (zI ((w : Int))), .ref (o)] E0 (fun E => isW G E o (lad w i).1 ∧ nl (lad w i).1 ≤ 21 ∧ isV G E (x + 1) ∧ isV G E (x + 3) ∧ isV G E (x + 13) ∧ ∀ q : Nat, ((q < x + 1 ∨ x + 5 ≤ q) ∧ (q < x + 13 ∨ x + 15 ≤ q) ∧ (q < o ∨ o + 2 ≤ q)) → E q = E0 q) := by
  refine mm_of_v (by decide +kernel) (Nat.le_of_ble_eq_true rfl) ?_
  intro p e s m args below meth c ls C0 hr hlk hM hl hS
  have hl : lv_has ls 5 [(0, .ref (x)), (1, .int (zI ((i : Int)))), (2, .int (zI ((w : Int)))), (3, .ref (o))] := hl
  have hfr : ∀ q : Nat, ((q < x + 1 ∨ x + 5 ≤ q) ∧ (q < x + 13 ∨ x + 15 ≤ q) ∧ (q < o ∨ o + 2 ≤ q)) → E0 q = E0 q := fun _ _ => rfl
  have hnl9 : ∀ n, n ≤ 201 → nl (lad w n).2 ≤ 21 ∧ nl (lad w n).1 ≤ 21 := fun n h => lad_nl hw h
  refine lv_aload_n C0.1 C0.2.1 dX1_climb_0 rfl (lv_at hl 0 rfl) ?_
  refine mm_get (fs := [.ref (x + 1), .ref (x + 3), .ref (t), .ref (x + 5), .ref (x + 7), .ref (x + 9), .ref (x + 11), .ref (x + 13)]) C0 (C := RX1) (T := TX1) (N := 8) iG_X1 hM (hF) rfl 0 (by decide) tw_171 rfl rfl dX1_climb_1 ?_
  refine lv_lconst (v := zL 0) C0.1 C0.2.1 dX1_climb_4 rfl ?_
  refine mm_callVv (As := [.long (zL (0))]) C0 vw_X8_setLong tw_542 (c_X8_setLongV l G _ (N := 0) hA rfl (by omega)) hM ((hA.obj).choose_spec) rfl rfl hl.1 rfl (Nat.le_of_ble_eq_true rfl) ⟨rfl, rfl, Nat.le_of_ble_eq_true rfl, Nat.le_of_ble_eq_true rfl, Nat.zero_le _, Nat.zero_le _⟩ dX1_climb_5 hS (fun E1 H locs hp hM hS => ?_)
  obtain ⟨hA, fr⟩ := hp
  have hF := fx.kept hF (fr _ (by omega))
  have hB := isV.kept hB (fr _ (by omega)) (fr _ (by omega))
  have hS5 := isV.kept hS5 (fr _ (by omega)) (fr _ (by omega))
  have hO := isV.kept hO (fr _ (by omega)) (fr _ (by omega))
  have hfr := (fun q h => (fr q (by omega)).trans (hfr q h) : ∀ q : Nat, ((q < x + 1 ∨ x + 5 ≤ q) ∧ (q < x + 13 ∨ x + 15 ≤ q) ∧ (q < o ∨ o + 2 ≤ q)) → E1 q = E0 q)
  refine lv_aload_n C0.1 C0.2.1 dX1_climb_8 rfl (lv_at hl 0 rfl) ?_
  refine mm_get (fs := [.ref (x + 1), .ref (x + 3), .ref (t), .ref (x + 5), .ref (x + 7), .ref (x + 9), .ref (x + 11), .ref (x + 13)]) C0 (C := RX1) (T := TX1) (N := 8) iG_X1 hM (hF) rfl 1 (by decide) tw_173 rfl rfl dX1_climb_9 ?_
  refine lv_lconst (v := zL 1) C0.1 C0.2.1 dX1_climb_12 rfl ?_
  refine mm_callVv (As := [.long (zL (1))]) C0 vw_X8_setLong tw_542 (c_X8_setLongV l G _ (N := 1) hB rfl (by omega)) hM ((hB.obj).choose_spec) rfl rfl hl.1 rfl (Nat.le_of_ble_eq_true rfl) ⟨rfl, rfl, Nat.le_of_ble_eq_true rfl, Nat.le_of_ble_eq_true rfl, Nat.zero_le _, Nat.zero_le _⟩ dX1_climb_13 hS (fun E2 H locs hp hM hS => ?_)
  obtain ⟨hB, fr⟩ := hp
  have hF := fx.kept hF (fr _ (by omega))
  have hA := isW.kept hA (fr _ (by omega)) (fr _ (by omega))
  have hS5 := isV.kept hS5 (fr _ (by omega)) (fr _ (by omega))
  have hO := isV.kept hO (fr _ (by omega)) (fr _ (by omega))
  have hfr := (fun q h => (fr q (by omega)).trans (hfr q h) : ∀ q : Nat, ((q < x + 1 ∨ x + 5 ≤ q) ∧ (q < x + 13 ∨ x + 15 ≤ q) ∧ (q < o ∨ o + 2 ≤ q)) → E2 q = E0 q)
  refine lv_iconst (v := zI 0) C0.1 C0.2.1 dX1_climb_16 rfl ?_
  refine lv_istore (lv' := [(4, .int (zI (0))), (0, .ref (x)), (1, .int (zI ((i : Int)))), (2, .int (zI ((w : Int)))), (3, .ref (o))]) C0.1 C0.2.1 dX1_climb_17 hl (by decide) rfl (fun ls hl => ?_)
  have L19 : ∀ (k19 : Nat) (j : Nat) (E3 : mE) (H : Heap) (locs : List Loc) (ls : Array Slot), (j ≤ i) → (fx G E3 x t) → (isW G E3 (x + 1) (lad w j).1) → (isW G E3 (x + 3) (lad w j).2) → (isV G E3 (x + 13)) → (isV G E3 o) → (∀ q : Nat, ((q < x + 1 ∨ x + 5 ≤ q) ∧ (q < x + 13 ∨ x + 15 ≤ q) ∧ (q < o ∨ o + 2 ≤ q)) → E3 q = E0 q) → i - j < k19 → mm_M G E3 H → va_S (mm_A G) s.heap H locs → lv_has ls 5 [(0, .ref (x)), (1, .int (zI ((i : Int)))), (2, .int (zI ((w : Int)))), (3, .ref (o)), (4, .int (zI ((j : Int))))] → W p l e rX1_climb s m args below meth c H locs 0 0 (mm_Zv G below args s (fun E => isW G E o (lad w i).1 ∧ nl (lad w i).1 ≤ 21 ∧ isV G E (x + 1) ∧ isV G E (x + 3) ∧ isV G E (x + 13) ∧ ∀ q : Nat, ((q < x + 1 ∨ x + 5 ≤ q) ∧ (q < x + 13 ∨ x + 15 ≤ q) ∧ (q < o ∨ o + 2 ≤ q)) → E q = E0 q)) (F0 m 19 ls []) := by
    intro k19
    induction k19 with
    | zero => intro j E3 H locs ls hj hF hA hB hS5 hO hfr hk hM hS hl; exact absurd hk (Nat.not_lt_zero _)
    | succ k19 ih19 =>
      intro j E3 H locs ls hj hF hA hB hS5 hO hfr hk19 hM hS hl
      have hn9 := hnl9 j (by omega)
      have hl9 := lad_ok hw j
      refine lv_iload C0.1 C0.2.1 dX1_climb_19 (lv_at hl 4 rfl) ?_
      refine lv_iload_n C0.1 C0.2.1 dX1_climb_21 rfl (lv_at hl 1 rfl) ?_
      refine z_icmp_ge (tgt := 87) C0.1 C0.2.1 dX1_climb_22 (by decide) ⟨by omega, by omega⟩ ⟨by omega, by omega⟩ (fun c_22 => ?_) (fun c_22 => ?_)
      · skip
        refine lv_aload_n C0.1 C0.2.1 dX1_climb_87 rfl (lv_at hl 3 rfl) ?_
        refine lv_aload_n C0.1 C0.2.1 dX1_climb_88 rfl (lv_at hl 0 rfl) ?_
        refine mm_get (fs := [.ref (x + 1), .ref (x + 3), .ref (t), .ref (x + 5), .ref (x + 7), .ref (x + 9), .ref (x + 11), .ref (x + 13)]) C0 (C := RX1) (T := TX1) (N := 8) iG_X1 hM (hF) rfl 0 (by decide) tw_171 rfl rfl dX1_climb_89 ?_
        refine mm_callVv (As := [.ref (x + 1)]) C0 vw_X8_copy tw_543 (c_X8_copy l G _ hO hA (by omega)) hM ((hO.obj).choose_spec) rfl rfl hl.1 rfl (Nat.le_of_ble_eq_true rfl) ⟨rfl, rfl, Nat.le_of_ble_eq_true rfl, Nat.le_of_ble_eq_true rfl, Nat.zero_le _, Nat.zero_le _⟩ dX1_climb_92 hS (fun E4 H locs hp hM hS => ?_)
        obtain ⟨hO, fr⟩ := hp
        have hF := fx.kept hF (fr _ (by omega))
        have hA := isW.kept hA (fr _ (by omega)) (fr _ (by omega))
        have hB := isW.kept hB (fr _ (by omega)) (fr _ (by omega))
        have hS5 := isV.kept hS5 (fr _ (by omega)) (fr _ (by omega))
        have hfr := (fun q h => (fr q (by omega)).trans (hfr q h) : ∀ q : Nat, ((q < x + 1 ∨ x + 5 ≤ q) ∧ (q < x + 13 ∨ x + 15 ≤ q) ∧ (q < o ∨ o + 2 ≤ q)) → E4 q = E0 q)
        exact mm_vret C0 hr hlk hM hS dX1_climb_95 (by have hji : j = i := (by omega); subst hji; exact ⟨hO, hn9.2, hA.v, hB.v, hS5, hfr⟩)
      · skip
        refine lv_aload_n C0.1 C0.2.1 dX1_climb_25 rfl (lv_at hl 0 rfl) ?_
        refine mm_get (fs := [.ref (x + 1), .ref (x + 3), .ref (t), .ref (x + 5), .ref (x + 7), .ref (x + 9), .ref (x + 11), .ref (x + 13)]) C0 (C := RX1) (T := TX1) (N := 8) iG_X1 hM (hF) rfl 7 (by decide) tw_180 rfl rfl dX1_climb_26 ?_
        refine lv_aload_n C0.1 C0.2.1 dX1_climb_29 rfl (lv_at hl 0 rfl) ?_
        refine mm_get (fs := [.ref (x + 1), .ref (x + 3), .ref (t), .ref (x + 5), .ref (x + 7), .ref (x + 9), .ref (x + 11), .ref (x + 13)]) C0 (C := RX1) (T := TX1) (N := 8) iG_X1 hM (hF) rfl 1 (by decide) tw_173 rfl rfl dX1_climb_30 ?_
        refine mm_callVv (As := [.ref (x + 3)]) C0 vw_X8_copy tw_543 (c_X8_copy l G _ hS5 hB (by omega)) hM ((hS5.obj).choose_spec) rfl rfl hl.1 rfl (Nat.le_of_ble_eq_true rfl) ⟨rfl, rfl, Nat.le_of_ble_eq_true rfl, Nat.le_of_ble_eq_true rfl, Nat.zero_le _, Nat.zero_le _⟩ dX1_climb_33 hS (fun E5 H locs hp hM hS => ?_)
        obtain ⟨hW, fr⟩ := hp
        have hF := fx.kept hF (fr _ (by omega))
        have hA := isW.kept hA (fr _ (by omega)) (fr _ (by omega))
        have hB := isW.kept hB (fr _ (by omega)) (fr _ (by omega))
        have hO := isV.kept hO (fr _ (by omega)) (fr _ (by omega))
        have hfr := (fun q h => (fr q (by omega)).trans (hfr q h) : ∀ q : Nat, ((q < x + 1 ∨ x + 5 ≤ q) ∧ (q < x + 13 ∨ x + 15 ≤ q) ∧ (q < o ∨ o + 2 ≤ q)) → E5 q = E0 q)
        refine lv_aload_n C0.1 C0.2.1 dX1_climb_36 rfl (lv_at hl 0 rfl) ?_
        refine mm_get (fs := [.ref (x + 1), .ref (x + 3), .ref (t), .ref (x + 5), .ref (x + 7), .ref (x + 9), .ref (x + 11), .ref (x + 13)]) C0 (C := RX1) (T := TX1) (N := 8) iG_X1 hM (hF) rfl 7 (by decide) tw_180 rfl rfl dX1_climb_37 ?_
        refine mm_ldc2 (z := 6) C0 tw_544 rfl dX1_climb_40 ?_
        refine lv_iload_n C0.1 C0.2.1 dX1_climb_43 rfl (lv_at hl 2 rfl) ?_
        refine z_i2l C0.1 C0.2.1 dX1_climb_44 ⟨by omega, by omega⟩ ?_
        refine mm_callVv (As := [.long (zL (6)), .long (zL ((w : Int)))]) C0 vw_X8_scale tw_545 (c_X8_scale l G _ 6 w rfl rfl hW (by omega) (by omega) (by omega)) hM ((hW.v.obj).choose_spec) rfl rfl hl.1 rfl (Nat.le_of_ble_eq_true rfl) ⟨rfl, rfl, Nat.le_of_ble_eq_true rfl, Nat.le_of_ble_eq_true rfl, Nat.zero_le _, Nat.zero_le _⟩ dX1_climb_45 hS (fun E6 H locs hp hM hS => ?_)
        obtain ⟨hW, fr⟩ := hp
        have hF := fx.kept hF (fr _ (by omega))
        have hA := isW.kept hA (fr _ (by omega)) (fr _ (by omega))
        have hB := isW.kept hB (fr _ (by omega)) (fr _ (by omega))
        have hO := isV.kept hO (fr _ (by omega)) (fr _ (by omega))
        have hfr := (fun q h => (fr q (by omega)).trans (hfr q h) : ∀ q : Nat, ((q < x + 1 ∨ x + 5 ≤ q) ∧ (q < x + 13 ∨ x + 15 ≤ q) ∧ (q < o ∨ o + 2 ≤ q)) → E6 q = E0 q)
        refine lv_aload_n C0.1 C0.2.1 dX1_climb_48 rfl (lv_at hl 0 rfl) ?_
        refine mm_get (fs := [.ref (x + 1), .ref (x + 3), .ref (t), .ref (x + 5), .ref (x + 7), .ref (x + 9), .ref (x + 11), .ref (x + 13)]) C0 (C := RX1) (T := TX1) (N := 8) iG_X1 hM (hF) rfl 7 (by decide) tw_180 rfl rfl dX1_climb_49 ?_
        refine lv_aload_n C0.1 C0.2.1 dX1_climb_52 rfl (lv_at hl 0 rfl) ?_
        refine mm_get (fs := [.ref (x + 1), .ref (x + 3), .ref (t), .ref (x + 5), .ref (x + 7), .ref (x + 9), .ref (x + 11), .ref (x + 13)]) C0 (C := RX1) (T := TX1) (N := 8) iG_X1 hM (hF) rfl 0 (by decide) tw_171 rfl rfl dX1_climb_53 ?_
        refine mm_callVv (As := [.ref (x + 1)]) C0 vw_X8_subtract tw_546 (c_X8_subtract l G _ hW hA (by omega) (by omega)) hM ((hW.v.obj).choose_spec) rfl rfl hl.1 rfl (Nat.le_of_ble_eq_true rfl) ⟨rfl, rfl, Nat.le_of_ble_eq_true rfl, Nat.le_of_ble_eq_true rfl, Nat.zero_le _, Nat.zero_le _⟩ dX1_climb_56 hS (fun E7 H locs hp hM hS => ?_)
        obtain ⟨hW, fr⟩ := hp
        have hF := fx.kept hF (fr _ (by omega))
        have hA := isW.kept hA (fr _ (by omega)) (fr _ (by omega))
        have hB := isW.kept hB (fr _ (by omega)) (fr _ (by omega))
        have hO := isV.kept hO (fr _ (by omega)) (fr _ (by omega))
        have hfr := (fun q h => (fr q (by omega)).trans (hfr q h) : ∀ q : Nat, ((q < x + 1 ∨ x + 5 ≤ q) ∧ (q < x + 13 ∨ x + 15 ≤ q) ∧ (q < o ∨ o + 2 ≤ q)) → E7 q = E0 q)
        refine lv_aload_n C0.1 C0.2.1 dX1_climb_59 rfl (lv_at hl 0 rfl) ?_
        refine mm_get (fs := [.ref (x + 1), .ref (x + 3), .ref (t), .ref (x + 5), .ref (x + 7), .ref (x + 9), .ref (x + 11), .ref (x + 13)]) C0 (C := RX1) (T := TX1) (N := 8) iG_X1 hM (hF) rfl 0 (by decide) tw_171 rfl rfl dX1_climb_60 ?_
        refine lv_aload_n C0.1 C0.2.1 dX1_climb_63 rfl (lv_at hl 0 rfl) ?_
        refine mm_get (fs := [.ref (x + 1), .ref (x + 3), .ref (t), .ref (x + 5), .ref (x + 7), .ref (x + 9), .ref (x + 11), .ref (x + 13)]) C0 (C := RX1) (T := TX1) (N := 8) iG_X1 hM (hF) rfl 1 (by decide) tw_173 rfl rfl dX1_climb_64 ?_
        refine mm_callVv (As := [.ref (x + 3)]) C0 vw_X8_copy tw_543 (c_X8_copy l G _ hA.v hB (by omega)) hM ((hA.v.obj).choose_spec) rfl rfl hl.1 rfl (Nat.le_of_ble_eq_true rfl) ⟨rfl, rfl, Nat.le_of_ble_eq_true rfl, Nat.le_of_ble_eq_true rfl, Nat.zero_le _, Nat.zero_le _⟩ dX1_climb_67 hS (fun E8 H locs hp hM hS => ?_)
        obtain ⟨hA, fr⟩ := hp
        have hF := fx.kept hF (fr _ (by omega))
        have hB := isW.kept hB (fr _ (by omega)) (fr _ (by omega))
        have hO := isV.kept hO (fr _ (by omega)) (fr _ (by omega))
        have hfr := (fun q h => (fr q (by omega)).trans (hfr q h) : ∀ q : Nat, ((q < x + 1 ∨ x + 5 ≤ q) ∧ (q < x + 13 ∨ x + 15 ≤ q) ∧ (q < o ∨ o + 2 ≤ q)) → E8 q = E0 q)
        have hW := isW.kept hW (fr _ (by omega)) (fr _ (by omega))
        refine lv_aload_n C0.1 C0.2.1 dX1_climb_70 rfl (lv_at hl 0 rfl) ?_
        refine mm_get (fs := [.ref (x + 1), .ref (x + 3), .ref (t), .ref (x + 5), .ref (x + 7), .ref (x + 9), .ref (x + 11), .ref (x + 13)]) C0 (C := RX1) (T := TX1) (N := 8) iG_X1 hM (hF) rfl 1 (by decide) tw_173 rfl rfl dX1_climb_71 ?_
        refine lv_aload_n C0.1 C0.2.1 dX1_climb_74 rfl (lv_at hl 0 rfl) ?_
        refine mm_get (fs := [.ref (x + 1), .ref (x + 3), .ref (t), .ref (x + 5), .ref (x + 7), .ref (x + 9), .ref (x + 11), .ref (x + 13)]) C0 (C := RX1) (T := TX1) (N := 8) iG_X1 hM (hF) rfl 7 (by decide) tw_180 rfl rfl dX1_climb_75 ?_
        refine mm_callVv (As := [.ref (x + 13)]) C0 vw_X8_copy tw_543 (c_X8_copy l G _ hB.v hW (by omega)) hM ((hB.v.obj).choose_spec) rfl rfl hl.1 rfl (Nat.le_of_ble_eq_true rfl) ⟨rfl, rfl, Nat.le_of_ble_eq_true rfl, Nat.le_of_ble_eq_true rfl, Nat.zero_le _, Nat.zero_le _⟩ dX1_climb_78 hS (fun E9 H locs hp hM hS => ?_)
        obtain ⟨hB, fr⟩ := hp
        have hF := fx.kept hF (fr _ (by omega))
        have hA := isW.kept hA (fr _ (by omega)) (fr _ (by omega))
        have hO := isV.kept hO (fr _ (by omega)) (fr _ (by omega))
        have hfr := (fun q h => (fr q (by omega)).trans (hfr q h) : ∀ q : Nat, ((q < x + 1 ∨ x + 5 ≤ q) ∧ (q < x + 13 ∨ x + 15 ≤ q) ∧ (q < o ∨ o + 2 ≤ q)) → E9 q = E0 q)
        have hW := isW.kept hW (fr _ (by omega)) (fr _ (by omega))
        have hS5 := hW.v
        replace hA : isW G E9 (x + 1) (lad w (j + 1)).1 := hA
        replace hB : isW G E9 (x + 3) (lad w (j + 1)).2 := hB
        refine lv_iinc (v := zI (((j + 1 : Nat) : Int))) (lv' := [(4, .int (zI (((j + 1 : Nat) : Int)))), (0, .ref (x)), (1, .int (zI ((i : Int)))), (2, .int (zI ((w : Int)))), (3, .ref (o))]) C0.1 C0.2.1 dX1_climb_81 hl (k := 4) rfl (z_inc (a := (j : Int)) (n := 1) (by omega)) (by decide) rfl (fun ls hl => ?_)
        refine lv_goto (tgt := 19) C0.1 C0.2.1 dX1_climb_84 (by decide) ?_
        exact ih19  (j + 1) E9 _ _ _ (by omega) (hF) (hA) (hB) (hS5) (hO) (hfr) (by omega) hM hS (lv_sub hl [1, 2, 3, 4, 0] rfl)
  exact L19 (_ + 1) 0 E2 _ _ _ (Nat.zero_le _) (hF) (hA) (hB) (hS5) (hO) (hfr) (Nat.lt_succ_self _) hM hS (lv_sub hl [1, 2, 3, 4, 0] rfl)
