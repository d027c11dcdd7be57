/-! the small constructors -/
def rX8_init : Room := { frames := 1, cells := 1, slots := 56, locals := 12 }
theorem iw_X8 : mm_Iw yX8_init cX8_init 1 0 := ⟨tw_77, tw_4, tw_78, rfl, by decide +kernel⟩
set_option maxHeartbeats 4000000 in
set_option maxRecDepth 100000 in
theorem c_X8_init (l : Launch) (G : mG) (E0 : mE) {b : Nat} (hE : E0 b = some (.inr (7, [.null, .int 0]))) : mm_Cn l yX8_init (.code yX8_init cX8_init 1 none :: wsG) rX8_init G [.ref (b)] E0 (b + 1) 1 56 (fun E => (wR G E b 0 (fun _ => 0)) ∧ ∀ q, q < b → E q = E0 q) := by
  refine mm_of_n (by decide +kernel) (Nat.le_of_ble_eq_true rfl) rfl ?_
  intro p e s m args below meth c ls C0 hr hlk hin ho hz hM hl hS
  have hl : lv_has ls 1 [(0, .ref (b))] := hl
  have hfr : ∀ q : Nat, q < b → E0 q = E0 q := fun _ _ => rfl
  refine lv_aload_n C0.1 C0.2.1 dX8_init_0 rfl (lv_at hl 0 rfl) ?_
  refine mm_obj C0 tw_79 hl.1 (Nat.le_of_ble_eq_true rfl) (Nat.le_of_ble_eq_true rfl) dX8_init_1 ?_
  refine lv_aload_n C0.1 C0.2.1 dX8_init_4 rfl (lv_at hl 0 rfl) ?_
  refine lv_bipush (v := zI 56) C0.1 C0.2.1 dX8_init_5 rfl ?_
  refine mm_newJ (N := 56) C0 hM hS hz rfl (by decide) (Nat.le_of_ble_eq_true rfl) (Nat.le_of_ble_eq_true rfl) dX8_init_7 (fun H hM hS hz9 => ?_)
  replace hz := hz9
  clear hz9
  obtain ⟨E1, hE1⟩ : ∃ X : mE, X = mm_up E0 (b + 1) (mm_J G 56 (fun _ => 0)) := ⟨_, rfl⟩
  replace hM : mm_M G E1 H := by rw [hE1]; exact hM
  have frs : ∀ q : Nat, q ≠ b + 1 → E1 q = E0 q := fun q h => by rw [hE1]; exact mm_up_n _ _ h
  replace hE : E1 b = some (.inr (7, [.null, .int 0])) := (frs _ (by omega)).trans hE
  replace hfr : ∀ q : Nat, q < b → E1 q = E0 q := fun q h => (frs q (by omega)).trans (hfr q h)
  have hA : E1 (b + 1) = some (mm_J G 56 (fun _ => 0)) := by rw [hE1]; exact mm_up_s _ _ _
  refine mm_putF (v := .ref (b + 1)) (fs := [.null, .int 0]) C0 (C := RX8) (T := TX8) (N := 2) iG_X8 tyX8 tyX8_ok nmX8 hM hS hE rfl 0 (by decide) tw_80 rfl rfl hin rfl (ty := tyX8 0) (tyX8_ok 0 (by decide)) rfl rfl (Nat.le_of_ble_eq_true rfl) dX8_init_9 (fun H locs hM hS hsz => ?_)
  replace hz := hsz.trans hz
  clear hsz
  obtain ⟨E2, hE2⟩ : ∃ X : mE, X = mm_up E1 (b) (.inr (7, [.ref (b + 1), .int 0])) := ⟨_, rfl⟩
  replace hM : mm_M G E2 H := by rw [hE2]; exact hM
  have frs : ∀ q : Nat, q ≠ b → E2 q = E1 q := fun q h => by rw [hE2]; exact mm_up_n _ _ h
  replace hfr : ∀ q : Nat, q < b → E2 q = E0 q := fun q h => (frs q (by omega)).trans (hfr q h)
  replace hE : E2 b = some (.inr (7, [.ref (b + 1), .int 0])) := by rw [hE2]; exact mm_up_s _ _ _
  replace hA : E2 (b + 1) = some (mm_J G 56 (fun _ => 0)) := (frs _ (by omega)).trans hA
  exact mm_nret C0 hr hlk hM hS hz (Nat.le_of_ble_eq_true rfl) (Nat.le_of_ble_eq_true rfl) dX8_init_12 ⟨⟨hE, hA, Nat.zero_le _, fun _ _ => (Nat.le_of_ble_eq_true rfl)⟩, hfr⟩
def rX3_init : Room := { frames := 2, cells := 2, slots := 58, locals := 32 }
theorem iw_X3 : mm_Iw yX3_init cX3_init 1 0 := ⟨tw_202, tw_8, tw_203, rfl, by decide +kernel⟩
set_option maxHeartbeats 4000000 in
set_option maxRecDepth 100000 in
theorem c_X3_init (l : Launch) (G : mG) (E0 : mE) {b : Nat} (hE : E0 b = some (.inr (2, [.int 0, .int 0, .null]))) : mm_Cn l yX3_init (.code yX3_init cX3_init 1 none :: wsG) rX3_init G [.ref (b)] E0 (b + 1) 2 58 (fun E => (pl G E b 0 0 ∧ wR G E (b + 1) 0 (fun _ => 0)) ∧ ∀ q, q < b → E q = E0 q) := by
  refine mm_of_n (by decide +kernel) (Nat.le_of_ble_eq_true rfl) rfl ?_
  intro p e s m args below meth c ls C0 hr hlk hin ho hz hM hl hS
  have hl : lv_has ls 1 [(0, .ref (b))] := hl
  have hfr : ∀ q : Nat, q < b → E0 q = E0 q := fun _ _ => rfl
  refine lv_aload_n C0.1 C0.2.1 dX3_init_0 rfl (lv_at hl 0 rfl) ?_
  refine mm_obj C0 tw_204 hl.1 (Nat.le_of_ble_eq_true rfl) (Nat.le_of_ble_eq_true rfl) dX3_init_1 ?_
  refine lv_aload_n C0.1 C0.2.1 dX3_init_4 rfl (lv_at hl 0 rfl) ?_
  refine mm_mk (P := fun E => wR G E (b + 1) 0 (fun _ => 0)) C0 ho (C := RX8) (T := TX8) (N := 2) iG_X8 tyX8 tyX8_ok tw_205 tw_75 tw_4 (ci := 7) rfl (fs := [.null, .int 0]) (fun j hj => by rcases (show j = 0 ∨ j = 1 by omega) with rfl | rfl <;> rfl) (y := yX8_init) (mc := 1) (ms := 56) (rm := rX8_init) iw_X8 tw_206 hz (fun E1 hE1 => c_X8_init l G E1 hE1) hM hS hl.1 (Nat.le_of_ble_eq_true rfl) ⟨rfl, rfl, (Nat.le_of_ble_eq_true rfl), (Nat.le_of_ble_eq_true rfl)⟩ (Nat.le_of_ble_eq_true rfl) (Nat.le_of_ble_eq_true rfl) dX3_init_5 dX3_init_8 dX3_init_9 (fun E2 H locs hP fr2 hM hS hz9 => ?_)
  replace hz := hz9
  clear hz9
  obtain ⟨E1, hE1⟩ : ∃ X : mE, X = E2 := ⟨_, rfl⟩
  subst hE1
  replace hE : E1 b = some (.inr (2, [.int 0, .int 0, .null])) := (fr2 _ (by omega)).trans hE
  replace hfr : ∀ q : Nat, q < b → E1 q = E0 q := fun q h => (fr2 q (by omega)).trans (hfr q h)
  clear fr2
  have w1 : wR G E1 (b + 1) 0 (fun _ => 0) := hP
  refine mm_putF (v := .ref (b + 1)) (fs := [.int 0, .int 0, .null]) C0 (C := RX3) (T := TX3) (N := 3) iG_X3 tyX3 tyX3_ok nmX3 hM hS hE rfl 2 (by decide) tw_211 rfl rfl hin rfl (ty := tyX3 2) (tyX3_ok 2 (by decide)) rfl rfl (Nat.le_of_ble_eq_true rfl) dX3_init_12 (fun H locs hM hS hsz => ?_)
  replace hz := hsz.trans hz
  clear hsz
  obtain ⟨E2, hE2⟩ : ∃ X : mE, X = mm_up E1 (b) (.inr (2, [.int 0, .int 0, .ref (b + 1)])) := ⟨_, rfl⟩
  replace hM : mm_M G E2 H := by rw [hE2]; exact hM
  have frs : ∀ q : Nat, q ≠ b → E2 q = E1 q := fun q h => by rw [hE2]; exact mm_up_n _ _ h
  replace hfr : ∀ q : Nat, q < b → E2 q = E0 q := fun q h => (frs q (by omega)).trans (hfr q h)
  replace hE : E2 b = some (.inr (2, [.int 0, .int 0, .ref (b + 1)])) := by rw [hE2]; exact mm_up_s _ _ _
  replace w1 : wR G E2 (b + 1) 0 (fun _ => 0) := w1.kept (frs _ (by omega)) (frs _ (by omega))
  exact mm_nret C0 hr hlk hM hS hz (Nat.le_of_ble_eq_true rfl) (Nat.le_of_ble_eq_true rfl) dX3_init_15 ⟨⟨hE, w1⟩, hfr⟩
def rX6_init : Room := { frames := 1, cells := 1, slots := 24, locals := 12 }
theorem iw_X6 : mm_Iw yX6_init cX6_init 1 0 := ⟨tw_222, tw_9, tw_223, rfl, by decide +kernel⟩
set_option maxHeartbeats 4000000 in
set_option maxRecDepth 100000 in
theorem c_X6_init (l : Launch) (G : mG) (E0 : mE) {b : Nat} (hE : E0 b = some (.inr (5, [.null, .int 0, .int 0]))) : mm_Cn l yX6_init (.code yX6_init cX6_init 1 none :: wsG) rX6_init G [.ref (b)] E0 (b + 1) 1 24 (fun E => (sh_ G E b (fun _ => 0) 0 (-1)) ∧ ∀ q, q < b → E q = E0 q) := by
  refine mm_of_n (by decide +kernel) (Nat.le_of_ble_eq_true rfl) rfl ?_
  intro p e s m args below meth c ls C0 hr hlk hin ho hz hM hl hS
  have hl : lv_has ls 1 [(0, .ref (b))] := hl
  have hfr : ∀ q : Nat, q < b → E0 q = E0 q := fun _ _ => rfl
  refine lv_aload_n C0.1 C0.2.1 dX6_init_0 rfl (lv_at hl 0 rfl) ?_
  refine mm_obj C0 tw_224 hl.1 (Nat.le_of_ble_eq_true rfl) (Nat.le_of_ble_eq_true rfl) dX6_init_1 ?_
  refine lv_aload_n C0.1 C0.2.1 dX6_init_4 rfl (lv_at hl 0 rfl) ?_
  refine lv_bipush (v := zI 24) C0.1 C0.2.1 dX6_init_5 rfl ?_
  refine mm_newJ (N := 24) C0 hM hS hz rfl (by decide) (Nat.le_of_ble_eq_true rfl) (Nat.le_of_ble_eq_true rfl) dX6_init_7 (fun H hM hS hz9 => ?_)
  replace hz := hz9
  clear hz9
  obtain ⟨E1, hE1⟩ : ∃ X : mE, X = mm_up E0 (b + 1) (mm_J G 24 (fun _ => 0)) := ⟨_, rfl⟩
  replace hM : mm_M G E1 H := by rw [hE1]; exact hM
  have frs : ∀ q : Nat, q ≠ b + 1 → E1 q = E0 q := fun q h => by rw [hE1]; exact mm_up_n _ _ h
  replace hE : E1 b = some (.inr (5, [.null, .int 0, .int 0])) := (frs _ (by omega)).trans hE
  replace hfr : ∀ q : Nat, q < b → E1 q = E0 q := fun q h => (frs q (by omega)).trans (hfr q h)
  have hA : E1 (b + 1) = some (mm_J G 24 (fun _ => 0)) := by rw [hE1]; exact mm_up_s _ _ _
  refine mm_putF (v := .ref (b + 1)) (fs := [.null, .int 0, .int 0]) C0 (C := RX6) (T := TX6) (N := 3) iG_X6 tyX6 tyX6_ok nmX6 hM hS hE rfl 0 (by decide) tw_225 rfl rfl hin rfl (ty := tyX6 0) (tyX6_ok 0 (by decide)) rfl rfl (Nat.le_of_ble_eq_true rfl) dX6_init_9 (fun H locs hM hS hsz => ?_)
  replace hz := hsz.trans hz
  clear hsz
  obtain ⟨E2, hE2⟩ : ∃ X : mE, X = mm_up E1 (b) (.inr (5, [.ref (b + 1), .int 0, .int 0])) := ⟨_, rfl⟩
  replace hM : mm_M G E2 H := by rw [hE2]; exact hM
  have frs : ∀ q : Nat, q ≠ b → E2 q = E1 q := fun q h => by rw [hE2]; exact mm_up_n _ _ h
  replace hfr : ∀ q : Nat, q < b → E2 q = E0 q := fun q h => (frs q (by omega)).trans (hfr q h)
  replace hE : E2 b = some (.inr (5, [.ref (b + 1), .int 0, .int 0])) := by rw [hE2]; exact mm_up_s _ _ _
  replace hA : E2 (b + 1) = some (mm_J G 24 (fun _ => 0)) := (frs _ (by omega)).trans hA
  refine lv_aload_n C0.1 C0.2.1 dX6_init_12 rfl (lv_at hl 0 rfl) ?_
  refine lv_iconst (v := zI (-1)) C0.1 C0.2.1 dX6_init_13 rfl ?_
  refine mm_put (v := .int (zI (-1))) (fs := [.ref (b + 1), .int 0, .int 0]) C0 (C := RX6) (T := TX6) (N := 3) iG_X6 tyX6 tyX6_ok nmX6 hM hS hE rfl 2 (by decide) tw_227 rfl rfl (ty := tyX6 2) (tyX6_ok 2 (by decide)) rfl rfl (Nat.le_of_ble_eq_true rfl) dX6_init_14 (fun H locs hM hS hsz => ?_)
  replace hz := hsz.trans hz
  clear hsz
  obtain ⟨E3, hE3⟩ : ∃ X : mE, X = mm_up E2 (b) (.inr (5, [.ref (b + 1), .int 0, .int (zI (-1))])) := ⟨_, rfl⟩
  replace hM : mm_M G E3 H := by rw [hE3]; exact hM
  have frs : ∀ q : Nat, q ≠ b → E3 q = E2 q := fun q h => by rw [hE3]; exact mm_up_n _ _ h
  replace hfr : ∀ q : Nat, q < b → E3 q = E0 q := fun q h => (frs q (by omega)).trans (hfr q h)
  replace hE : E3 b = some (.inr (5, [.ref (b + 1), .int 0, .int (zI (-1))])) := by rw [hE3]; exact mm_up_s _ _ _
  replace hA : E3 (b + 1) = some (mm_J G 24 (fun _ => 0)) := (frs _ (by omega)).trans hA
  exact mm_nret C0 hr hlk hM hS hz (Nat.le_of_ble_eq_true rfl) (Nat.le_of_ble_eq_true rfl) dX6_init_17 ⟨⟨hE, hA⟩, hfr⟩
def rX7_init : Room := { frames := 1, cells := 1, slots := 100, locals := 12 }
theorem iw_X7 : mm_Iw yX7_init cX7_init 1 0 := ⟨tw_33, tw_2, tw_34, rfl, by decide +kernel⟩
set_option maxHeartbeats 4000000 in
set_option maxRecDepth 100000 in
theorem c_X7_init (l : Launch) (G : mG) (E0 : mE) {b : Nat} (hE : E0 b = some (.inr (6, [.null, .int 0, .int 0, .long 0, .int 0, .int 0, .long 0, .long 0]))) : mm_Cn l yX7_init (.code yX7_init cX7_init 1 none :: wsG) rX7_init G [.ref (b)] E0 (b + 1) 1 100 (fun E => (tp G E b (fun _ => 0) 0 0 0 0 0 0 0) ∧ ∀ q, q < b → E q = E0 q) := by
  refine mm_of_n (by decide +kernel) (Nat.le_of_ble_eq_true rfl) rfl ?_
  intro p e s m args below meth c ls C0 hr hlk hin ho hz hM hl hS
  have hl : lv_has ls 1 [(0, .ref (b))] := hl
  have hfr : ∀ q : Nat, q < b → E0 q = E0 q := fun _ _ => rfl
  refine lv_aload_n C0.1 C0.2.1 dX7_init_0 rfl (lv_at hl 0 rfl) ?_
  refine mm_obj C0 tw_35 hl.1 (Nat.le_of_ble_eq_true rfl) (Nat.le_of_ble_eq_true rfl) dX7_init_1 ?_
  refine lv_aload_n C0.1 C0.2.1 dX7_init_4 rfl (lv_at hl 0 rfl) ?_
  refine lv_bipush (v := zI 100) C0.1 C0.2.1 dX7_init_5 rfl ?_
  refine mm_newI (N := 100) C0 hM hS hz rfl (by decide) (Nat.le_of_ble_eq_true rfl) (Nat.le_of_ble_eq_true rfl) dX7_init_7 (fun H hM hS hz9 => ?_)
  replace hz := hz9
  clear hz9
  obtain ⟨E1, hE1⟩ : ∃ X : mE, X = mm_up E0 (b + 1) (mm_I G 100 (fun _ => 0)) := ⟨_, rfl⟩
  replace hM : mm_M G E1 H := by rw [hE1]; exact hM
  have frs : ∀ q : Nat, q ≠ b + 1 → E1 q = E0 q := fun q h => by rw [hE1]; exact mm_up_n _ _ h
  replace hE : E1 b = some (.inr (6, [.null, .int 0, .int 0, .long 0, .int 0, .int 0, .long 0, .long 0])) := (frs _ (by omega)).trans hE
  replace hfr : ∀ q : Nat, q < b → E1 q = E0 q := fun q h => (frs q (by omega)).trans (hfr q h)
  have hA : E1 (b + 1) = some (mm_I G 100 (fun _ => 0)) := by rw [hE1]; exact mm_up_s _ _ _
  refine mm_putF (v := .ref (b + 1)) (fs := [.null, .int 0, .int 0, .long 0, .int 0, .int 0, .long 0, .long 0]) C0 (C := RX7) (T := TX7) (N := 8) iG_X7 tyX7 tyX7_ok nmX7 hM hS hE rfl 0 (by decide) tw_36 rfl rfl hin rfl (ty := tyX7 0) (tyX7_ok 0 (by decide)) rfl rfl (Nat.le_of_ble_eq_true rfl) dX7_init_9 (fun H locs hM hS hsz => ?_)
  replace hz := hsz.trans hz
  clear hsz
  obtain ⟨E2, hE2⟩ : ∃ X : mE, X = mm_up E1 (b) (.inr (6, [.ref (b + 1), .int 0, .int 0, .long 0, .int 0, .int 0, .long 0, .long 0])) := ⟨_, rfl⟩
  replace hM : mm_M G E2 H := by rw [hE2]; exact hM
  have frs : ∀ q : Nat, q ≠ b → E2 q = E1 q := fun q h => by rw [hE2]; exact mm_up_n _ _ h
  replace hfr : ∀ q : Nat, q < b → E2 q = E0 q := fun q h => (frs q (by omega)).trans (hfr q h)
  replace hE : E2 b = some (.inr (6, [.ref (b + 1), .int 0, .int 0, .long 0, .int 0, .int 0, .long 0, .long 0])) := by rw [hE2]; exact mm_up_s _ _ _
  replace hA : E2 (b + 1) = some (mm_I G 100 (fun _ => 0)) := (frs _ (by omega)).trans hA
  exact mm_nret C0 hr hlk hM hS hz (Nat.le_of_ble_eq_true rfl) (Nat.le_of_ble_eq_true rfl) dX7_init_12 ⟨⟨hE, hA⟩, hfr⟩
def rX2_init : Room := { frames := 1, cells := 0, slots := 0, locals := 12 }
theorem iw_X2 : mm_Iw yX2_init cX2_init 1 0 := ⟨tw_143, tw_6, tw_144, rfl, by decide +kernel⟩
set_option maxHeartbeats 4000000 in
set_option maxRecDepth 100000 in
theorem c_X2_init (l : Launch) (G : mG) (E0 : mE) {b : Nat} (hE : E0 b = some (.inr (1, [.int 0, .int 0, .int 0, .int 0, .int 0]))) : mm_Cn l yX2_init (.code yX2_init cX2_init 1 none :: wsG) rX2_init G [.ref (b)] E0 (b + 1) 0 0 (fun E => (pt G E b 0 0 0 0 0) ∧ ∀ q, q < b → E q = E0 q) := by
  refine mm_of_n (by decide +kernel) (Nat.le_of_ble_eq_true rfl) rfl ?_
  intro p e s m args below meth c ls C0 hr hlk hin ho hz hM hl hS
  have hl : lv_has ls 1 [(0, .ref (b))] := hl
  have hfr : ∀ q : Nat, q < b → E0 q = E0 q := fun _ _ => rfl
  refine lv_aload_n C0.1 C0.2.1 dX2_init_0 rfl (lv_at hl 0 rfl) ?_
  refine mm_obj C0 tw_145 hl.1 (Nat.le_of_ble_eq_true rfl) (Nat.le_of_ble_eq_true rfl) dX2_init_1 ?_
  exact mm_nret C0 hr hlk hM hS hz (Nat.le_of_ble_eq_true rfl) (Nat.le_of_ble_eq_true rfl) dX2_init_4 ⟨hE, hfr⟩
def rX4_init : Room := { frames := 2, cells := 10, slots := 290, locals := 32 }
theorem iw_X4 : mm_Iw yX4_init cX4_init 1 0 := ⟨tw_71, tw_3, tw_72, rfl, by decide +kernel⟩
set_option maxHeartbeats 4000000 in
set_option maxRecDepth 100000 in
theorem c_X4_init (l : Launch) (G : mG) (E0 : mE) {b : Nat} (hE : E0 b = some (.inr (3, [.null, .null, .null, .null, .null]))) : mm_Cn l yX4_init (.code yX4_init cX4_init 1 none :: wsG) rX4_init G [.ref (b)] E0 (b + 1) 10 290 (fun E => (rk G E b ∧ wR G E (b + 1) 0 (fun _ => 0) ∧ wR G E (b + 3) 0 (fun _ => 0) ∧ wR G E (b + 5) 0 (fun _ => 0) ∧ wR G E (b + 7) 0 (fun _ => 0) ∧ wR G E (b + 9) 0 (fun _ => 0)) ∧ ∀ q, q < b → E q = E0 q) := by
  refine mm_of_n (by decide +kernel) (Nat.le_of_ble_eq_true rfl) rfl ?_
  intro p e s m args below meth c ls C0 hr hlk hin ho hz hM hl hS
  have hl : lv_has ls 1 [(0, .ref (b))] := hl
  have hfr : ∀ q : Nat, q < b → E0 q = E0 q := fun _ _ => rfl
  refine lv_aload_n C0.1 C0.2.1 dX4_init_0 rfl (lv_at hl 0 rfl) ?_
  refine mm_obj C0 tw_73 hl.1 (Nat.le_of_ble_eq_true rfl) (Nat.le_of_ble_eq_true rfl) dX4_init_1 ?_
  refine lv_aload_n C0.1 C0.2.1 dX4_init_4 rfl (lv_at hl 0 rfl) ?_
  refine mm_mk (P := fun E => wR G E (b + 1) 0 (fun _ => 0)) C0 ho (C := RX8) (T := TX8) (N := 2) iG_X8 tyX8 tyX8_ok tw_74 tw_75 tw_4 (ci := 7) rfl (fs := [.null, .int 0]) (fun j hj => by rcases (show j = 0 ∨ j = 1 by omega) with rfl | rfl <;> rfl) (y := yX8_init) (mc := 1) (ms := 56) (rm := rX8_init) iw_X8 tw_76 hz (fun E1 hE1 => c_X8_init l G E1 hE1) hM hS hl.1 (Nat.le_of_ble_eq_true rfl) ⟨rfl, rfl, (Nat.le_of_ble_eq_true rfl), (Nat.le_of_ble_eq_true rfl)⟩ (Nat.le_of_ble_eq_true rfl) (Nat.le_of_ble_eq_true rfl) dX4_init_5 dX4_init_8 dX4_init_9 (fun E2 H locs hP fr2 hM hS hz9 => ?_)
  replace hz := hz9
  clear hz9
  obtain ⟨E1, hE1⟩ : ∃ X : mE, X = E2 := ⟨_, rfl⟩
  subst hE1
  replace hE : E1 b = some (.inr (3, [.null, .null, .null, .null, .null])) := (fr2 _ (by omega)).trans hE
  replace hfr : ∀ q : Nat, q < b → E1 q = E0 q := fun q h => (fr2 q (by omega)).trans (hfr q h)
  clear fr2
  have w0 : wR G E1 (b + 1) 0 (fun _ => 0) := hP
  refine mm_putF (v := .ref (b + 1)) (fs := [.null, .null, .null, .null, .null]) C0 (C := RX4) (T := TX4) (N := 5) iG_X4 tyX4 tyX4_ok nmX4 hM hS hE rfl 0 (by decide) tw_92 rfl rfl hin rfl (ty := tyX4 0) (tyX4_ok 0 (by decide)) rfl rfl (Nat.le_of_ble_eq_true rfl) dX4_init_12 (fun H locs hM hS hsz => ?_)
  replace hz := hsz.trans hz
  clear hsz
  obtain ⟨E2, hE2⟩ : ∃ X : mE, X = mm_up E1 (b) (.inr (3, [.ref (b + 1), .null, .null, .null, .null])) := ⟨_, rfl⟩
  replace hM : mm_M G E2 H := by rw [hE2]; exact hM
  have frs : ∀ q : Nat, q ≠ b → E2 q = E1 q := fun q h => by rw [hE2]; exact mm_up_n _ _ h
  replace hfr : ∀ q : Nat, q < b → E2 q = E0 q := fun q h => (frs q (by omega)).trans (hfr q h)
  replace hE : E2 b = some (.inr (3, [.ref (b + 1), .null, .null, .null, .null])) := by rw [hE2]; exact mm_up_s _ _ _
  replace w0 : wR G E2 (b + 1) 0 (fun _ => 0) := w0.kept (frs _ (by omega)) (frs _ (by omega))
  refine lv_aload_n C0.1 C0.2.1 dX4_init_15 rfl (lv_at hl 0 rfl) ?_
  refine mm_mk (P := fun E => wR G E (b + 3) 0 (fun _ => 0)) C0 ho (C := RX8) (T := TX8) (N := 2) iG_X8 tyX8 tyX8_ok tw_74 tw_75 tw_4 (ci := 7) rfl (fs := [.null, .int 0]) (fun j hj => by rcases (show j = 0 ∨ j = 1 by omega) with rfl | rfl <;> rfl) (y := yX8_init) (mc := 1) (ms := 56) (rm := rX8_init) iw_X8 tw_76 hz (fun E1 hE1 => c_X8_init l G E1 hE1) hM hS hl.1 (Nat.le_of_ble_eq_true rfl) ⟨rfl, rfl, (Nat.le_of_ble_eq_true rfl), (Nat.le_of_ble_eq_true rfl)⟩ (Nat.le_of_ble_eq_true rfl) (Nat.le_of_ble_eq_true rfl) dX4_init_16 dX4_init_19 dX4_init_20 (fun E2 H locs hP fr2 hM hS hz9 => ?_)
  replace hz := hz9
  clear hz9
  obtain ⟨E3, hE3⟩ : ∃ X : mE, X = E2 := ⟨_, rfl⟩
  subst hE3
  replace w0 : wR G E3 (b + 1) 0 (fun _ => 0) := w0.kept (fr2 _ (by omega)) (fr2 _ (by omega))
  replace hE : E3 b = some (.inr (3, [.ref (b + 1), .null, .null, .null, .null])) := (fr2 _ (by omega)).trans hE
  replace hfr : ∀ q : Nat, q < b → E3 q = E0 q := fun q h => (fr2 q (by omega)).trans (hfr q h)
  clear fr2
  have w1 : wR G E3 (b + 3) 0 (fun _ => 0) := hP
  refine mm_putF (v := .ref (b + 3)) (fs := [.ref (b + 1), .null, .null, .null, .null]) C0 (C := RX4) (T := TX4) (N := 5) iG_X4 tyX4 tyX4_ok nmX4 hM hS hE rfl 1 (by decide) tw_94 rfl rfl hin rfl (ty := tyX4 1) (tyX4_ok 1 (by decide)) rfl rfl (Nat.le_of_ble_eq_true rfl) dX4_init_23 (fun H locs hM hS hsz => ?_)
  replace hz := hsz.trans hz
  clear hsz
  obtain ⟨E4, hE4⟩ : ∃ X : mE, X = mm_up E3 (b) (.inr (3, [.ref (b + 1), .ref (b + 3), .null, .null, .null])) := ⟨_, rfl⟩
  replace hM : mm_M G E4 H := by rw [hE4]; exact hM
  have frs : ∀ q : Nat, q ≠ b → E4 q = E3 q := fun q h => by rw [hE4]; exact mm_up_n _ _ h
  replace hfr : ∀ q : Nat, q < b → E4 q = E0 q := fun q h => (frs q (by omega)).trans (hfr q h)
  replace hE : E4 b = some (.inr (3, [.ref (b + 1), .ref (b + 3), .null, .null, .null])) := by rw [hE4]; exact mm_up_s _ _ _
  replace w0 : wR G E4 (b + 1) 0 (fun _ => 0) := w0.kept (frs _ (by omega)) (frs _ (by omega))
  replace w1 : wR G E4 (b + 3) 0 (fun _ => 0) := w1.kept (frs _ (by omega)) (frs _ (by omega))
  refine lv_aload_n C0.1 C0.2.1 dX4_init_26 rfl (lv_at hl 0 rfl) ?_
  refine mm_mk (P := fun E => wR G E (b + 5) 0 (fun _ => 0)) C0 ho (C := RX8) (T := TX8) (N := 2) iG_X8 tyX8 tyX8_ok tw_74 tw_75 tw_4 (ci := 7) rfl (fs := [.null, .int 0]) (fun j hj => by rcases (show j = 0 ∨ j = 1 by omega) with rfl | rfl <;> rfl) (y := yX8_init) (mc := 1) (ms := 56) (rm := rX8_init) iw_X8 tw_76 hz (fun E1 hE1 => c_X8_init l G E1 hE1) hM hS hl.1 (Nat.le_of_ble_eq_true rfl) ⟨rfl, rfl, (Nat.le_of_ble_eq_true rfl), (Nat.le_of_ble_eq_true rfl)⟩ (Nat.le_of_ble_eq_true rfl) (Nat.le_of_ble_eq_true rfl) dX4_init_27 dX4_init_30 dX4_init_31 (fun E2 H locs hP fr2 hM hS hz9 => ?_)
  replace hz := hz9
  clear hz9
  obtain ⟨E5, hE5⟩ : ∃ X : mE, X = E2 := ⟨_, rfl⟩
  subst hE5
  replace w0 : wR G E5 (b + 1) 0 (fun _ => 0) := w0.kept (fr2 _ (by omega)) (fr2 _ (by omega))
  replace w1 : wR G E5 (b + 3) 0 (fun _ => 0) := w1.kept (fr2 _ (by omega)) (fr2 _ (by omega))
  replace hE : E5 b = some (.inr (3, [.ref (b + 1), .ref (b + 3), .null, .null, .null])) := (fr2 _ (by omega)).trans hE
  replace hfr : ∀ q : Nat, q < b → E5 q = E0 q := fun q h => (fr2 q (by omega)).trans (hfr q h)
  clear fr2
  have w2 : wR G E5 (b + 5) 0 (fun _ => 0) := hP
  refine mm_putF (v := .ref (b + 5)) (fs := [.ref (b + 1), .ref (b + 3), .null, .null, .null]) C0 (C := RX4) (T := TX4) (N := 5) iG_X4 tyX4 tyX4_ok nmX4 hM hS hE rfl 2 (by decide) tw_96 rfl rfl hin rfl (ty := tyX4 2) (tyX4_ok 2 (by decide)) rfl rfl (Nat.le_of_ble_eq_true rfl) dX4_init_34 (fun H locs hM hS hsz => ?_)
  replace hz := hsz.trans hz
  clear hsz
  obtain ⟨E6, hE6⟩ : ∃ X : mE, X = mm_up E5 (b) (.inr (3, [.ref (b + 1), .ref (b + 3), .ref (b + 5), .null, .null])) := ⟨_, rfl⟩
  replace hM : mm_M G E6 H := by rw [hE6]; exact hM
  have frs : ∀ q : Nat, q ≠ b → E6 q = E5 q := fun q h => by rw [hE6]; exact mm_up_n _ _ h
  replace hfr : ∀ q : Nat, q < b → E6 q = E0 q := fun q h => (frs q (by omega)).trans (hfr q h)
  replace hE : E6 b = some (.inr (3, [.ref (b + 1), .ref (b + 3), .ref (b + 5), .null, .null])) := by rw [hE6]; exact mm_up_s _ _ _
  replace w0 : wR G E6 (b + 1) 0 (fun _ => 0) := w0.kept (frs _ (by omega)) (frs _ (by omega))
  replace w1 : wR G E6 (b + 3) 0 (fun _ => 0) := w1.kept (frs _ (by omega)) (frs _ (by omega))
  replace w2 : wR G E6 (b + 5) 0 (fun _ => 0) := w2.kept (frs _ (by omega)) (frs _ (by omega))
  refine lv_aload_n C0.1 C0.2.1 dX4_init_37 rfl (lv_at hl 0 rfl) ?_
  refine mm_mk (P := fun E => wR G E (b + 7) 0 (fun _ => 0)) C0 ho (C := RX8) (T := TX8) (N := 2) iG_X8 tyX8 tyX8_ok tw_74 tw_75 tw_4 (ci := 7) rfl (fs := [.null, .int 0]) (fun j hj => by rcases (show j = 0 ∨ j = 1 by omega) with rfl | rfl <;> rfl) (y := yX8_init) (mc := 1) (ms := 56) (rm := rX8_init) iw_X8 tw_76 hz (fun E1 hE1 => c_X8_init l G E1 hE1) hM hS hl.1 (Nat.le_of_ble_eq_true rfl) ⟨rfl, rfl, (Nat.le_of_ble_eq_true rfl), (Nat.le_of_ble_eq_true rfl)⟩ (Nat.le_of_ble_eq_true rfl) (Nat.le_of_ble_eq_true rfl) dX4_init_38 dX4_init_41 dX4_init_42 (fun E2 H locs hP fr2 hM hS hz9 => ?_)
  replace hz := hz9
  clear hz9
  obtain ⟨E7, hE7⟩ : ∃ X : mE, X = E2 := ⟨_, rfl⟩
  subst hE7
  replace w0 : wR G E7 (b + 1) 0 (fun _ => 0) := w0.kept (fr2 _ (by omega)) (fr2 _ (by omega))
  replace w1 : wR G E7 (b + 3) 0 (fun _ => 0) := w1.kept (fr2 _ (by omega)) (fr2 _ (by omega))
  replace w2 : wR G E7 (b + 5) 0 (fun _ => 0) := w2.kept (fr2 _ (by omega)) (fr2 _ (by omega))
  replace hE : E7 b = some (.inr (3, [.ref (b + 1), .ref (b + 3), .ref (b + 5), .null, .null])) := (fr2 _ (by omega)).trans hE
  replace hfr : ∀ q : Nat, q < b → E7 q = E0 q := fun q h => (fr2 q (by omega)).trans (hfr q h)
  clear fr2
  have w3 : wR G E7 (b + 7) 0 (fun _ => 0) := hP
  refine mm_putF (v := .ref (b + 7)) (fs := [.ref (b + 1), .ref (b + 3), .ref (b + 5), .null, .null]) C0 (C := RX4) (T := TX4) (N := 5) iG_X4 tyX4 tyX4_ok nmX4 hM hS hE rfl 3 (by decide) tw_97 rfl rfl hin rfl (ty := tyX4 3) (tyX4_ok 3 (by decide)) rfl rfl (Nat.le_of_ble_eq_true rfl) dX4_init_45 (fun H locs hM hS hsz => ?_)
  replace hz := hsz.trans hz
  clear hsz
  obtain ⟨E8, hE8⟩ : ∃ X : mE, X = mm_up E7 (b) (.inr (3, [.ref (b + 1), .ref (b + 3), .ref (b + 5), .ref (b + 7), .null])) := ⟨_, rfl⟩
  replace hM : mm_M G E8 H := by rw [hE8]; exact hM
  have frs : ∀ q : Nat, q ≠ b → E8 q = E7 q := fun q h => by rw [hE8]; exact mm_up_n _ _ h
  replace hfr : ∀ q : Nat, q < b → E8 q = E0 q := fun q h => (frs q (by omega)).trans (hfr q h)
  replace hE : E8 b = some (.inr (3, [.ref (b + 1), .ref (b + 3), .ref (b + 5), .ref (b + 7), .null])) := by rw [hE8]; exact mm_up_s _ _ _
  replace w0 : wR G E8 (b + 1) 0 (fun _ => 0) := w0.kept (frs _ (by omega)) (frs _ (by omega))
  replace w1 : wR G E8 (b + 3) 0 (fun _ => 0) := w1.kept (frs _ (by omega)) (frs _ (by omega))
  replace w2 : wR G E8 (b + 5) 0 (fun _ => 0) := w2.kept (frs _ (by omega)) (frs _ (by omega))
  replace w3 : wR G E8 (b + 7) 0 (fun _ => 0) := w3.kept (frs _ (by omega)) (frs _ (by omega))
  refine lv_aload_n C0.1 C0.2.1 dX4_init_48 rfl (lv_at hl 0 rfl) ?_
  refine mm_mk (P := fun E => wR G E (b + 9) 0 (fun _ => 0)) C0 ho (C := RX8) (T := TX8) (N := 2) iG_X8 tyX8 tyX8_ok tw_74 tw_75 tw_4 (ci := 7) rfl (fs := [.null, .int 0]) (fun j hj => by rcases (show j = 0 ∨ j = 1 by omega) with rfl | rfl <;> rfl) (y := yX8_init) (mc := 1) (ms := 56) (rm := rX8_init) iw_X8 tw_76 hz (fun E1 hE1 => c_X8_init l G E1 hE1) hM hS hl.1 (Nat.le_of_ble_eq_true rfl) ⟨rfl, rfl, (Nat.le_of_ble_eq_true rfl), (Nat.le_of_ble_eq_true rfl)⟩ (Nat.le_of_ble_eq_true rfl) (Nat.le_of_ble_eq_true rfl) dX4_init_49 dX4_init_52 dX4_init_53 (fun E2 H locs hP fr2 hM hS hz9 => ?_)
  replace hz := hz9
  clear hz9
  obtain ⟨E9, hE9⟩ : ∃ X : mE, X = E2 := ⟨_, rfl⟩
  subst hE9
  replace w0 : wR G E9 (b + 1) 0 (fun _ => 0) := w0.kept (fr2 _ (by omega)) (fr2 _ (by omega))
  replace w1 : wR G E9 (b + 3) 0 (fun _ => 0) := w1.kept (fr2 _ (by omega)) (fr2 _ (by omega))
  replace w2 : wR G E9 (b + 5) 0 (fun _ => 0) := w2.kept (fr2 _ (by omega)) (fr2 _ (by omega))
  replace w3 : wR G E9 (b + 7) 0 (fun _ => 0) := w3.kept (fr2 _ (by omega)) (fr2 _ (by omega))
  replace hE : E9 b = some (.inr (3, [.ref (b + 1), .ref (b + 3), .ref (b + 5), .ref (b + 7), .null])) := (fr2 _ (by omega)).trans hE
  replace hfr : ∀ q : Nat, q < b → E9 q = E0 q := fun q h => (fr2 q (by omega)).trans (hfr q h)
  clear fr2
  have w4 : wR G E9 (b + 9) 0 (fun _ => 0) := hP
  refine mm_putF (v := .ref (b + 9)) (fs := [.ref (b + 1), .ref (b + 3), .ref (b + 5), .ref (b + 7), .null]) C0 (C := RX4) (T := TX4) (N := 5) iG_X4 tyX4 tyX4_ok nmX4 hM hS hE rfl 4 (by decide) tw_98 rfl rfl hin rfl (ty := tyX4 4) (tyX4_ok 4 (by decide)) rfl rfl (Nat.le_of_ble_eq_true rfl) dX4_init_56 (fun H locs hM hS hsz => ?_)
  replace hz := hsz.trans hz
  clear hsz
  obtain ⟨E10, hE10⟩ : ∃ X : mE, X = mm_up E9 (b) (.inr (3, [.ref (b + 1), .ref (b + 3), .ref (b + 5), .ref (b + 7), .ref (b + 9)])) := ⟨_, rfl⟩
  replace hM : mm_M G E10 H := by rw [hE10]; exact hM
  have frs : ∀ q : Nat, q ≠ b → E10 q = E9 q := fun q h => by rw [hE10]; exact mm_up_n _ _ h
  replace hfr : ∀ q : Nat, q < b → E10 q = E0 q := fun q h => (frs q (by omega)).trans (hfr q h)
  replace hE : E10 b = some (.inr (3, [.ref (b + 1), .ref (b + 3), .ref (b + 5), .ref (b + 7), .ref (b + 9)])) := by rw [hE10]; exact mm_up_s _ _ _
  replace w0 : wR G E10 (b + 1) 0 (fun _ => 0) := w0.kept (frs _ (by omega)) (frs _ (by omega))
  replace w1 : wR G E10 (b + 3) 0 (fun _ => 0) := w1.kept (frs _ (by omega)) (frs _ (by omega))
  replace w2 : wR G E10 (b + 5) 0 (fun _ => 0) := w2.kept (frs _ (by omega)) (frs _ (by omega))
  replace w3 : wR G E10 (b + 7) 0 (fun _ => 0) := w3.kept (frs _ (by omega)) (frs _ (by omega))
  replace w4 : wR G E10 (b + 9) 0 (fun _ => 0) := w4.kept (frs _ (by omega)) (frs _ (by omega))
  exact mm_nret C0 hr hlk hM hS hz (Nat.le_of_ble_eq_true rfl) (Nat.le_of_ble_eq_true rfl) dX4_init_59 ⟨⟨hE, w0, w1, w2, w3, w4⟩, hfr⟩
def rX5_init : Room := { frames := 2, cells := 12, slots := 348, locals := 32 }
theorem iw_X5 : mm_Iw yX5_init cX5_init 2 1 := ⟨tw_113, tw_5, tw_114, rfl, by decide +kernel⟩
set_option maxHeartbeats 4000000 in
set_option maxRecDepth 100000 in
theorem c_X5_init (l : Launch) (G : mG) (E0 : mE) {b r : Nat} (hE : E0 b = some (.inr (4, [.null, .null, .null, .null, .null, .null, .null]))) : mm_Cn l yX5_init (.code yX5_init cX5_init 2 none :: wsG) rX5_init G [.ref (b), .ref (r)] E0 (b + 1) 12 348 (fun E => (sk G E b r ∧ wR G E (b + 1) 0 (fun _ => 0) ∧ wR G E (b + 3) 0 (fun _ => 0) ∧ wR G E (b + 5) 0 (fun _ => 0) ∧ wR G E (b + 7) 0 (fun _ => 0) ∧ wR G E (b + 9) 0 (fun _ => 0) ∧ wR G E (b + 11) 0 (fun _ => 0)) ∧ ∀ q, q < b → E q = E0 q) := by
  refine mm_of_n (by decide +kernel) (Nat.le_of_ble_eq_true rfl) rfl ?_
  intro p e s m args below meth c ls C0 hr hlk hin ho hz hM hl hS
  have hl : lv_has ls 2 [(0, .ref (b)), (1, .ref (r))] := hl
  have hfr : ∀ q : Nat, q < b → E0 q = E0 q := fun _ _ => rfl
  refine lv_aload_n C0.1 C0.2.1 dX5_init_0 rfl (lv_at hl 0 rfl) ?_
  refine mm_obj C0 tw_115 hl.1 (Nat.le_of_ble_eq_true rfl) (Nat.le_of_ble_eq_true rfl) dX5_init_1 ?_
  refine lv_aload_n C0.1 C0.2.1 dX5_init_4 rfl (lv_at hl 0 rfl) ?_
  refine mm_mk (P := fun E => wR G E (b + 1) 0 (fun _ => 0)) C0 ho (C := RX8) (T := TX8) (N := 2) iG_X8 tyX8 tyX8_ok tw_116 tw_75 tw_4 (ci := 7) rfl (fs := [.null, .int 0]) (fun j hj => by rcases (show j = 0 ∨ j = 1 by omega) with rfl | rfl <;> rfl) (y := yX8_init) (mc := 1) (ms := 56) (rm := rX8_init) iw_X8 tw_117 hz (fun E1 hE1 => c_X8_init l G E1 hE1) hM hS hl.1 (Nat.le_of_ble_eq_true rfl) ⟨rfl, rfl, (Nat.le_of_ble_eq_true rfl), (Nat.le_of_ble_eq_true rfl)⟩ (Nat.le_of_ble_eq_true rfl) (Nat.le_of_ble_eq_true rfl) dX5_init_5 dX5_init_8 dX5_init_9 (fun E2 H locs hP fr2 hM hS hz9 => ?_)
  replace hz := hz9
  clear hz9
  obtain ⟨E1, hE1⟩ : ∃ X : mE, X = E2 := ⟨_, rfl⟩
  subst hE1
  replace hE : E1 b = some (.inr (4, [.null, .null, .null, .null, .null, .null, .null])) := (fr2 _ (by omega)).trans hE
  replace hfr : ∀ q : Nat, q < b → E1 q = E0 q := fun q h => (fr2 q (by omega)).trans (hfr q h)
  clear fr2
  have w0 : wR G E1 (b + 1) 0 (fun _ => 0) := hP
  refine mm_putF (v := .ref (b + 1)) (fs := [.null, .null, .null, .null, .null, .null, .null]) C0 (C := RX5) (T := TX5) (N := 7) iG_X5 tyX5 tyX5_ok nmX5 hM hS hE rfl 1 (by decide) tw_119 rfl rfl hin rfl (ty := tyX5 1) (tyX5_ok 1 (by decide)) rfl rfl (Nat.le_of_ble_eq_true rfl) dX5_init_12 (fun H locs hM hS hsz => ?_)
  replace hz := hsz.trans hz
  clear hsz
  obtain ⟨E2, hE2⟩ : ∃ X : mE, X = mm_up E1 (b) (.inr (4, [.null, .ref (b + 1), .null, .null, .null, .null, .null])) := ⟨_, rfl⟩
  replace hM : mm_M G E2 H := by rw [hE2]; exact hM
  have frs : ∀ q : Nat, q ≠ b → E2 q = E1 q := fun q h => by rw [hE2]; exact mm_up_n _ _ h
  replace hfr : ∀ q : Nat, q < b → E2 q = E0 q := fun q h => (frs q (by omega)).trans (hfr q h)
  replace hE : E2 b = some (.inr (4, [.null, .ref (b + 1), .null, .null, .null, .null, .null])) := by rw [hE2]; exact mm_up_s _ _ _
  replace w0 : wR G E2 (b + 1) 0 (fun _ => 0) := w0.kept (frs _ (by omega)) (frs _ (by omega))
  refine lv_aload_n C0.1 C0.2.1 dX5_init_15 rfl (lv_at hl 0 rfl) ?_
  refine mm_mk (P := fun E => wR G E (b + 3) 0 (fun _ => 0)) C0 ho (C := RX8) (T := TX8) (N := 2) iG_X8 tyX8 tyX8_ok tw_116 tw_75 tw_4 (ci := 7) rfl (fs := [.null, .int 0]) (fun j hj => by rcases (show j = 0 ∨ j = 1 by omega) with rfl | rfl <;> rfl) (y := yX8_init) (mc := 1) (ms := 56) (rm := rX8_init) iw_X8 tw_117 hz (fun E1 hE1 => c_X8_init l G E1 hE1) hM hS hl.1 (Nat.le_of_ble_eq_true rfl) ⟨rfl, rfl, (Nat.le_of_ble_eq_true rfl), (Nat.le_of_ble_eq_true rfl)⟩ (Nat.le_of_ble_eq_true rfl) (Nat.le_of_ble_eq_true rfl) dX5_init_16 dX5_init_19 dX5_init_20 (fun E2 H locs hP fr2 hM hS hz9 => ?_)
  replace hz := hz9
  clear hz9
  obtain ⟨E3, hE3⟩ : ∃ X : mE, X = E2 := ⟨_, rfl⟩
  subst hE3
  replace w0 : wR G E3 (b + 1) 0 (fun _ => 0) := w0.kept (fr2 _ (by omega)) (fr2 _ (by omega))
  replace hE : E3 b = some (.inr (4, [.null, .ref (b + 1), .null, .null, .null, .null, .null])) := (fr2 _ (by omega)).trans hE
  replace hfr : ∀ q : Nat, q < b → E3 q = E0 q := fun q h => (fr2 q (by omega)).trans (hfr q h)
  clear fr2
  have w1 : wR G E3 (b + 3) 0 (fun _ => 0) := hP
  refine mm_putF (v := .ref (b + 3)) (fs := [.null, .ref (b + 1), .null, .null, .null, .null, .null]) C0 (C := RX5) (T := TX5) (N := 7) iG_X5 tyX5 tyX5_ok nmX5 hM hS hE rfl 2 (by decide) tw_120 rfl rfl hin rfl (ty := tyX5 2) (tyX5_ok 2 (by decide)) rfl rfl (Nat.le_of_ble_eq_true rfl) dX5_init_23 (fun H locs hM hS hsz => ?_)
  replace hz := hsz.trans hz
  clear hsz
  obtain ⟨E4, hE4⟩ : ∃ X : mE, X = mm_up E3 (b) (.inr (4, [.null, .ref (b + 1), .ref (b + 3), .null, .null, .null, .null])) := ⟨_, rfl⟩
  replace hM : mm_M G E4 H := by rw [hE4]; exact hM
  have frs : ∀ q : Nat, q ≠ b → E4 q = E3 q := fun q h => by rw [hE4]; exact mm_up_n _ _ h
  replace hfr : ∀ q : Nat, q < b → E4 q = E0 q := fun q h => (frs q (by omega)).trans (hfr q h)
  replace hE : E4 b = some (.inr (4, [.null, .ref (b + 1), .ref (b + 3), .null, .null, .null, .null])) := by rw [hE4]; exact mm_up_s _ _ _
  replace w0 : wR G E4 (b + 1) 0 (fun _ => 0) := w0.kept (frs _ (by omega)) (frs _ (by omega))
  replace w1 : wR G E4 (b + 3) 0 (fun _ => 0) := w1.kept (frs _ (by omega)) (frs _ (by omega))
  refine lv_aload_n C0.1 C0.2.1 dX5_init_26 rfl (lv_at hl 0 rfl) ?_
  refine mm_mk (P := fun E => wR G E (b + 5) 0 (fun _ => 0)) C0 ho (C := RX8) (T := TX8) (N := 2) iG_X8 tyX8 tyX8_ok tw_116 tw_75 tw_4 (ci := 7) rfl (fs := [.null, .int 0]) (fun j hj => by rcases (show j = 0 ∨ j = 1 by omega) with rfl | rfl <;> rfl) (y := yX8_init) (mc := 1) (ms := 56) (rm := rX8_init) iw_X8 tw_117 hz (fun E1 hE1 => c_X8_init l G E1 hE1) hM hS hl.1 (Nat.le_of_ble_eq_true rfl) ⟨rfl, rfl, (Nat.le_of_ble_eq_true rfl), (Nat.le_of_ble_eq_true rfl)⟩ (Nat.le_of_ble_eq_true rfl) (Nat.le_of_ble_eq_true rfl) dX5_init_27 dX5_init_30 dX5_init_31 (fun E2 H locs hP fr2 hM hS hz9 => ?_)
  replace hz := hz9
  clear hz9
  obtain ⟨E5, hE5⟩ : ∃ X : mE, X = E2 := ⟨_, rfl⟩
  subst hE5
  replace w0 : wR G E5 (b + 1) 0 (fun _ => 0) := w0.kept (fr2 _ (by omega)) (fr2 _ (by omega))
  replace w1 : wR G E5 (b + 3) 0 (fun _ => 0) := w1.kept (fr2 _ (by omega)) (fr2 _ (by omega))
  replace hE : E5 b = some (.inr (4, [.null, .ref (b + 1), .ref (b + 3), .null, .null, .null, .null])) := (fr2 _ (by omega)).trans hE
  replace hfr : ∀ q : Nat, q < b → E5 q = E0 q := fun q h => (fr2 q (by omega)).trans (hfr q h)
  clear fr2
  have w2 : wR G E5 (b + 5) 0 (fun _ => 0) := hP
  refine mm_putF (v := .ref (b + 5)) (fs := [.null, .ref (b + 1), .ref (b + 3), .null, .null, .null, .null]) C0 (C := RX5) (T := TX5) (N := 7) iG_X5 tyX5 tyX5_ok nmX5 hM hS hE rfl 3 (by decide) tw_121 rfl rfl hin rfl (ty := tyX5 3) (tyX5_ok 3 (by decide)) rfl rfl (Nat.le_of_ble_eq_true rfl) dX5_init_34 (fun H locs hM hS hsz => ?_)
  replace hz := hsz.trans hz
  clear hsz
  obtain ⟨E6, hE6⟩ : ∃ X : mE, X = mm_up E5 (b) (.inr (4, [.null, .ref (b + 1), .ref (b + 3), .ref (b + 5), .null, .null, .null])) := ⟨_, rfl⟩
  replace hM : mm_M G E6 H := by rw [hE6]; exact hM
  have frs : ∀ q : Nat, q ≠ b → E6 q = E5 q := fun q h => by rw [hE6]; exact mm_up_n _ _ h
  replace hfr : ∀ q : Nat, q < b → E6 q = E0 q := fun q h => (frs q (by omega)).trans (hfr q h)
  replace hE : E6 b = some (.inr (4, [.null, .ref (b + 1), .ref (b + 3), .ref (b + 5), .null, .null, .null])) := by rw [hE6]; exact mm_up_s _ _ _
  replace w0 : wR G E6 (b + 1) 0 (fun _ => 0) := w0.kept (frs _ (by omega)) (frs _ (by omega))
  replace w1 : wR G E6 (b + 3) 0 (fun _ => 0) := w1.kept (frs _ (by omega)) (frs _ (by omega))
  replace w2 : wR G E6 (b + 5) 0 (fun _ => 0) := w2.kept (frs _ (by omega)) (frs _ (by omega))
  refine lv_aload_n C0.1 C0.2.1 dX5_init_37 rfl (lv_at hl 0 rfl) ?_
  refine mm_mk (P := fun E => wR G E (b + 7) 0 (fun _ => 0)) C0 ho (C := RX8) (T := TX8) (N := 2) iG_X8 tyX8 tyX8_ok tw_116 tw_75 tw_4 (ci := 7) rfl (fs := [.null, .int 0]) (fun j hj => by rcases (show j = 0 ∨ j = 1 by omega) with rfl | rfl <;> rfl) (y := yX8_init) (mc := 1) (ms := 56) (rm := rX8_init) iw_X8 tw_117 hz (fun E1 hE1 => c_X8_init l G E1 hE1) hM hS hl.1 (Nat.le_of_ble_eq_true rfl) ⟨rfl, rfl, (Nat.le_of_ble_eq_true rfl), (Nat.le_of_ble_eq_true rfl)⟩ (Nat.le_of_ble_eq_true rfl) (Nat.le_of_ble_eq_true rfl) dX5_init_38 dX5_init_41 dX5_init_42 (fun E2 H locs hP fr2 hM hS hz9 => ?_)
  replace hz := hz9
  clear hz9
  obtain ⟨E7, hE7⟩ : ∃ X : mE, X = E2 := ⟨_, rfl⟩
  subst hE7
  replace w0 : wR G E7 (b + 1) 0 (fun _ => 0) := w0.kept (fr2 _ (by omega)) (fr2 _ (by omega))
  replace w1 : wR G E7 (b + 3) 0 (fun _ => 0) := w1.kept (fr2 _ (by omega)) (fr2 _ (by omega))
  replace w2 : wR G E7 (b + 5) 0 (fun _ => 0) := w2.kept (fr2 _ (by omega)) (fr2 _ (by omega))
  replace hE : E7 b = some (.inr (4, [.null, .ref (b + 1), .ref (b + 3), .ref (b + 5), .null, .null, .null])) := (fr2 _ (by omega)).trans hE
  replace hfr : ∀ q : Nat, q < b → E7 q = E0 q := fun q h => (fr2 q (by omega)).trans (hfr q h)
  clear fr2
  have w3 : wR G E7 (b + 7) 0 (fun _ => 0) := hP
  refine mm_putF (v := .ref (b + 7)) (fs := [.null, .ref (b + 1), .ref (b + 3), .ref (b + 5), .null, .null, .null]) C0 (C := RX5) (T := TX5) (N := 7) iG_X5 tyX5 tyX5_ok nmX5 hM hS hE rfl 4 (by decide) tw_122 rfl rfl hin rfl (ty := tyX5 4) (tyX5_ok 4 (by decide)) rfl rfl (Nat.le_of_ble_eq_true rfl) dX5_init_45 (fun H locs hM hS hsz => ?_)
  replace hz := hsz.trans hz
  clear hsz
  obtain ⟨E8, hE8⟩ : ∃ X : mE, X = mm_up E7 (b) (.inr (4, [.null, .ref (b + 1), .ref (b + 3), .ref (b + 5), .ref (b + 7), .null, .null])) := ⟨_, rfl⟩
  replace hM : mm_M G E8 H := by rw [hE8]; exact hM
  have frs : ∀ q : Nat, q ≠ b → E8 q = E7 q := fun q h => by rw [hE8]; exact mm_up_n _ _ h
  replace hfr : ∀ q : Nat, q < b → E8 q = E0 q := fun q h => (frs q (by omega)).trans (hfr q h)
  replace hE : E8 b = some (.inr (4, [.null, .ref (b + 1), .ref (b + 3), .ref (b + 5), .ref (b + 7), .null, .null])) := by rw [hE8]; exact mm_up_s _ _ _
  replace w0 : wR G E8 (b + 1) 0 (fun _ => 0) := w0.kept (frs _ (by omega)) (frs _ (by omega))
  replace w1 : wR G E8 (b + 3) 0 (fun _ => 0) := w1.kept (frs _ (by omega)) (frs _ (by omega))
  replace w2 : wR G E8 (b + 5) 0 (fun _ => 0) := w2.kept (frs _ (by omega)) (frs _ (by omega))
  replace w3 : wR G E8 (b + 7) 0 (fun _ => 0) := w3.kept (frs _ (by omega)) (frs _ (by omega))
  refine lv_aload_n C0.1 C0.2.1 dX5_init_48 rfl (lv_at hl 0 rfl) ?_
  refine mm_mk (P := fun E => wR G E (b + 9) 0 (fun _ => 0)) C0 ho (C := RX8) (T := TX8) (N := 2) iG_X8 tyX8 tyX8_ok tw_116 tw_75 tw_4 (ci := 7) rfl (fs := [.null, .int 0]) (fun j hj => by rcases (show j = 0 ∨ j = 1 by omega) with rfl | rfl <;> rfl) (y := yX8_init) (mc := 1) (ms := 56) (rm := rX8_init) iw_X8 tw_117 hz (fun E1 hE1 => c_X8_init l G E1 hE1) hM hS hl.1 (Nat.le_of_ble_eq_true rfl) ⟨rfl, rfl, (Nat.le_of_ble_eq_true rfl), (Nat.le_of_ble_eq_true rfl)⟩ (Nat.le_of_ble_eq_true rfl) (Nat.le_of_ble_eq_true rfl) dX5_init_49 dX5_init_52 dX5_init_53 (fun E2 H locs hP fr2 hM hS hz9 => ?_)
  replace hz := hz9
  clear hz9
  obtain ⟨E9, hE9⟩ : ∃ X : mE, X = E2 := ⟨_, rfl⟩
  subst hE9
  replace w0 : wR G E9 (b + 1) 0 (fun _ => 0) := w0.kept (fr2 _ (by omega)) (fr2 _ (by omega))
  replace w1 : wR G E9 (b + 3) 0 (fun _ => 0) := w1.kept (fr2 _ (by omega)) (fr2 _ (by omega))
  replace w2 : wR G E9 (b + 5) 0 (fun _ => 0) := w2.kept (fr2 _ (by omega)) (fr2 _ (by omega))
  replace w3 : wR G E9 (b + 7) 0 (fun _ => 0) := w3.kept (fr2 _ (by omega)) (fr2 _ (by omega))
  replace hE : E9 b = some (.inr (4, [.null, .ref (b + 1), .ref (b + 3), .ref (b + 5), .ref (b + 7), .null, .null])) := (fr2 _ (by omega)).trans hE
  replace hfr : ∀ q : Nat, q < b → E9 q = E0 q := fun q h => (fr2 q (by omega)).trans (hfr q h)
  clear fr2
  have w4 : wR G E9 (b + 9) 0 (fun _ => 0) := hP
  refine mm_putF (v := .ref (b + 9)) (fs := [.null, .ref (b + 1), .ref (b + 3), .ref (b + 5), .ref (b + 7), .null, .null]) C0 (C := RX5) (T := TX5) (N := 7) iG_X5 tyX5 tyX5_ok nmX5 hM hS hE rfl 5 (by decide) tw_123 rfl rfl hin rfl (ty := tyX5 5) (tyX5_ok 5 (by decide)) rfl rfl (Nat.le_of_ble_eq_true rfl) dX5_init_56 (fun H locs hM hS hsz => ?_)
  replace hz := hsz.trans hz
  clear hsz
  obtain ⟨E10, hE10⟩ : ∃ X : mE, X = mm_up E9 (b) (.inr (4, [.null, .ref (b + 1), .ref (b + 3), .ref (b + 5), .ref (b + 7), .ref (b + 9), .null])) := ⟨_, rfl⟩
  replace hM : mm_M G E10 H := by rw [hE10]; exact hM
  have frs : ∀ q : Nat, q ≠ b → E10 q = E9 q := fun q h => by rw [hE10]; exact mm_up_n _ _ h
  replace hfr : ∀ q : Nat, q < b → E10 q = E0 q := fun q h => (frs q (by omega)).trans (hfr q h)
  replace hE : E10 b = some (.inr (4, [.null, .ref (b + 1), .ref (b + 3), .ref (b + 5), .ref (b + 7), .ref (b + 9), .null])) := by rw [hE10]; exact mm_up_s _ _ _
  replace w0 : wR G E10 (b + 1) 0 (fun _ => 0) := w0.kept (frs _ (by omega)) (frs _ (by omega))
  replace w1 : wR G E10 (b + 3) 0 (fun _ => 0) := w1.kept (frs _ (by omega)) (frs _ (by omega))
  replace w2 : wR G E10 (b + 5) 0 (fun _ => 0) := w2.kept (frs _ (by omega)) (frs _ (by omega))
  replace w3 : wR G E10 (b + 7) 0 (fun _ => 0) := w3.kept (frs _ (by omega)) (frs _ (by omega))
  replace w4 : wR G E10 (b + 9) 0 (fun _ => 0) := w4.kept (frs _ (by omega)) (frs _ (by omega))
  refine lv_aload_n C0.1 C0.2.1 dX5_init_59 rfl (lv_at hl 0 rfl) ?_
  refine mm_mk (P := fun E => wR G E (b + 11) 0 (fun _ => 0)) C0 ho (C := RX8) (T := TX8) (N := 2) iG_X8 tyX8 tyX8_ok tw_116 tw_75 tw_4 (ci := 7) rfl (fs := [.null, .int 0]) (fun j hj => by rcases (show j = 0 ∨ j = 1 by omega) with rfl | rfl <;> rfl) (y := yX8_init) (mc := 1) (ms := 56) (rm := rX8_init) iw_X8 tw_117 hz (fun E1 hE1 => c_X8_init l G E1 hE1) hM hS hl.1 (Nat.le_of_ble_eq_true rfl) ⟨rfl, rfl, (Nat.le_of_ble_eq_true rfl), (Nat.le_of_ble_eq_true rfl)⟩ (Nat.le_of_ble_eq_true rfl) (Nat.le_of_ble_eq_true rfl) dX5_init_60 dX5_init_63 dX5_init_64 (fun E2 H locs hP fr2 hM hS hz9 => ?_)
  replace hz := hz9
  clear hz9
  obtain ⟨E11, hE11⟩ : ∃ X : mE, X = E2 := ⟨_, rfl⟩
  subst hE11
  replace w0 : wR G E11 (b + 1) 0 (fun _ => 0) := w0.kept (fr2 _ (by omega)) (fr2 _ (by omega))
  replace w1 : wR G E11 (b + 3) 0 (fun _ => 0) := w1.kept (fr2 _ (by omega)) (fr2 _ (by omega))
  replace w2 : wR G E11 (b + 5) 0 (fun _ => 0) := w2.kept (fr2 _ (by omega)) (fr2 _ (by omega))
  replace w3 : wR G E11 (b + 7) 0 (fun _ => 0) := w3.kept (fr2 _ (by omega)) (fr2 _ (by omega))
  replace w4 : wR G E11 (b + 9) 0 (fun _ => 0) := w4.kept (fr2 _ (by omega)) (fr2 _ (by omega))
  replace hE : E11 b = some (.inr (4, [.null, .ref (b + 1), .ref (b + 3), .ref (b + 5), .ref (b + 7), .ref (b + 9), .null])) := (fr2 _ (by omega)).trans hE
  replace hfr : ∀ q : Nat, q < b → E11 q = E0 q := fun q h => (fr2 q (by omega)).trans (hfr q h)
  clear fr2
  have w5 : wR G E11 (b + 11) 0 (fun _ => 0) := hP
  refine mm_putF (v := .ref (b + 11)) (fs := [.null, .ref (b + 1), .ref (b + 3), .ref (b + 5), .ref (b + 7), .ref (b + 9), .null]) C0 (C := RX5) (T := TX5) (N := 7) iG_X5 tyX5 tyX5_ok nmX5 hM hS hE rfl 6 (by decide) tw_124 rfl rfl hin rfl (ty := tyX5 6) (tyX5_ok 6 (by decide)) rfl rfl (Nat.le_of_ble_eq_true rfl) dX5_init_67 (fun H locs hM hS hsz => ?_)
  replace hz := hsz.trans hz
  clear hsz
  obtain ⟨E12, hE12⟩ : ∃ X : mE, X = mm_up E11 (b) (.inr (4, [.null, .ref (b + 1), .ref (b + 3), .ref (b + 5), .ref (b + 7), .ref (b + 9), .ref (b + 11)])) := ⟨_, rfl⟩
  replace hM : mm_M G E12 H := by rw [hE12]; exact hM
  have frs : ∀ q : Nat, q ≠ b → E12 q = E11 q := fun q h => by rw [hE12]; exact mm_up_n _ _ h
  replace hfr : ∀ q : Nat, q < b → E12 q = E0 q := fun q h => (frs q (by omega)).trans (hfr q h)
  replace hE : E12 b = some (.inr (4, [.null, .ref (b + 1), .ref (b + 3), .ref (b + 5), .ref (b + 7), .ref (b + 9), .ref (b + 11)])) := by rw [hE12]; exact mm_up_s _ _ _
  replace w0 : wR G E12 (b + 1) 0 (fun _ => 0) := w0.kept (frs _ (by omega)) (frs _ (by omega))
  replace w1 : wR G E12 (b + 3) 0 (fun _ => 0) := w1.kept (frs _ (by omega)) (frs _ (by omega))
  replace w2 : wR G E12 (b + 5) 0 (fun _ => 0) := w2.kept (frs _ (by omega)) (frs _ (by omega))
  replace w3 : wR G E12 (b + 7) 0 (fun _ => 0) := w3.kept (frs _ (by omega)) (frs _ (by omega))
  replace w4 : wR G E12 (b + 9) 0 (fun _ => 0) := w4.kept (frs _ (by omega)) (frs _ (by omega))
  replace w5 : wR G E12 (b + 11) 0 (fun _ => 0) := w5.kept (frs _ (by omega)) (frs _ (by omega))
  refine lv_aload_n C0.1 C0.2.1 dX5_init_70 rfl (lv_at hl 0 rfl) ?_
  refine lv_aload_n C0.1 C0.2.1 dX5_init_71 rfl (lv_at hl 1 rfl) ?_
  refine mm_putF (v := .ref (r)) (fs := [.null, .ref (b + 1), .ref (b + 3), .ref (b + 5), .ref (b + 7), .ref (b + 9), .ref (b + 11)]) C0 (C := RX5) (T := TX5) (N := 7) iG_X5 tyX5 tyX5_ok nmX5 hM hS hE rfl 0 (by decide) tw_118 rfl rfl hin rfl (ty := tyX5 0) (tyX5_ok 0 (by decide)) rfl rfl (Nat.le_of_ble_eq_true rfl) dX5_init_72 (fun H locs hM hS hsz => ?_)
  replace hz := hsz.trans hz
  clear hsz
  obtain ⟨E13, hE13⟩ : ∃ X : mE, X = mm_up E12 (b) (.inr (4, [.ref (r), .ref (b + 1), .ref (b + 3), .ref (b + 5), .ref (b + 7), .ref (b + 9), .ref (b + 11)])) := ⟨_, rfl⟩
  replace hM : mm_M G E13 H := by rw [hE13]; exact hM
  have frs : ∀ q : Nat, q ≠ b → E13 q = E12 q := fun q h => by rw [hE13]; exact mm_up_n _ _ h
  replace hfr : ∀ q : Nat, q < b → E13 q = E0 q := fun q h => (frs q (by omega)).trans (hfr q h)
  replace hE : E13 b = some (.inr (4, [.ref (r), .ref (b + 1), .ref (b + 3), .ref (b + 5), .ref (b + 7), .ref (b + 9), .ref (b + 11)])) := by rw [hE13]; exact mm_up_s _ _ _
  replace w0 : wR G E13 (b + 1) 0 (fun _ => 0) := w0.kept (frs _ (by omega)) (frs _ (by omega))
  replace w1 : wR G E13 (b + 3) 0 (fun _ => 0) := w1.kept (frs _ (by omega)) (frs _ (by omega))
  replace w2 : wR G E13 (b + 5) 0 (fun _ => 0) := w2.kept (frs _ (by omega)) (frs _ (by omega))
  replace w3 : wR G E13 (b + 7) 0 (fun _ => 0) := w3.kept (frs _ (by omega)) (frs _ (by omega))
  replace w4 : wR G E13 (b + 9) 0 (fun _ => 0) := w4.kept (frs _ (by omega)) (frs _ (by omega))
  replace w5 : wR G E13 (b + 11) 0 (fun _ => 0) := w5.kept (frs _ (by omega)) (frs _ (by omega))
  exact mm_nret C0 hr hlk hM hS hz (Nat.le_of_ble_eq_true rfl) (Nat.le_of_ble_eq_true rfl) dX5_init_75 ⟨⟨hE, w0, w1, w2, w3, w4, w5⟩, hfr⟩
def rX1_init : Room := { frames := 2, cells := 14, slots := 406, locals := 32 }
theorem iw_X1 : mm_Iw yX1_init cX1_init 2 1 := ⟨tw_166, tw_7, tw_167, rfl, by decide +kernel⟩
set_option maxHeartbeats 4000000 in
set_option maxRecDepth 100000 in
theorem c_X1_init (l : Launch) (G : mG) (E0 : mE) {b r : Nat} (hE : E0 b = some (.inr (0, [.null, .null, .null, .null, .null, .null, .null, .null]))) : mm_Cn l yX1_init (.code yX1_init cX1_init 2 none :: wsG) rX1_init G [.ref (b), .ref (r)] E0 (b + 1) 14 406 (fun E => (fx G E b r ∧ wR G E (b + 1) 0 (fun _ => 0) ∧ wR G E (b + 3) 0 (fun _ => 0) ∧ wR G E (b + 5) 0 (fun _ => 0) ∧ wR G E (b + 7) 0 (fun _ => 0) ∧ wR G E (b + 9) 0 (fun _ => 0) ∧ wR G E (b + 11) 0 (fun _ => 0) ∧ wR G E (b + 13) 0 (fun _ => 0)) ∧ ∀ q, q < b → E q = E0 q) := by
  refine mm_of_n (by decide +kernel) (Nat.le_of_ble_eq_true rfl) rfl ?_
  intro p e s m args below meth c ls C0 hr hlk hin ho hz hM hl hS
  have hl : lv_has ls 2 [(0, .ref (b)), (1, .ref (r))] := hl
  have hfr : ∀ q : Nat, q < b → E0 q = E0 q := fun _ _ => rfl
  refine lv_aload_n C0.1 C0.2.1 dX1_init_0 rfl (lv_at hl 0 rfl) ?_
  refine mm_obj C0 tw_168 hl.1 (Nat.le_of_ble_eq_true rfl) (Nat.le_of_ble_eq_true rfl) dX1_init_1 ?_
  refine lv_aload_n C0.1 C0.2.1 dX1_init_4 rfl (lv_at hl 0 rfl) ?_
  refine mm_mk (P := fun E => wR G E (b + 1) 0 (fun _ => 0)) C0 ho (C := RX8) (T := TX8) (N := 2) iG_X8 tyX8 tyX8_ok tw_169 tw_75 tw_4 (ci := 7) rfl (fs := [.null, .int 0]) (fun j hj => by rcases (show j = 0 ∨ j = 1 by omega) with rfl | rfl <;> rfl) (y := yX8_init) (mc := 1) (ms := 56) (rm := rX8_init) iw_X8 tw_170 hz (fun E1 hE1 => c_X8_init l G E1 hE1) hM hS hl.1 (Nat.le_of_ble_eq_true rfl) ⟨rfl, rfl, (Nat.le_of_ble_eq_true rfl), (Nat.le_of_ble_eq_true rfl)⟩ (Nat.le_of_ble_eq_true rfl) (Nat.le_of_ble_eq_true rfl) dX1_init_5 dX1_init_8 dX1_init_9 (fun E2 H locs hP fr2 hM hS hz9 => ?_)
  replace hz := hz9
  clear hz9
  obtain ⟨E1, hE1⟩ : ∃ X : mE, X = E2 := ⟨_, rfl⟩
  subst hE1
  replace hE : E1 b = some (.inr (0, [.null, .null, .null, .null, .null, .null, .null, .null])) := (fr2 _ (by omega)).trans hE
  replace hfr : ∀ q : Nat, q < b → E1 q = E0 q := fun q h => (fr2 q (by omega)).trans (hfr q h)
  clear fr2
  have w0 : wR G E1 (b + 1) 0 (fun _ => 0) := hP
  refine mm_putF (v := .ref (b + 1)) (fs := [.null, .null, .null, .null, .null, .null, .null, .null]) C0 (C := RX1) (T := TX1) (N := 8) iG_X1 tyX1 tyX1_ok nmX1 hM hS hE rfl 0 (by decide) tw_171 rfl rfl hin rfl (ty := tyX1 0) (tyX1_ok 0 (by decide)) rfl rfl (Nat.le_of_ble_eq_true rfl) dX1_init_12 (fun H locs hM hS hsz => ?_)
  replace hz := hsz.trans hz
  clear hsz
  obtain ⟨E2, hE2⟩ : ∃ X : mE, X = mm_up E1 (b) (.inr (0, [.ref (b + 1), .null, .null, .null, .null, .null, .null, .null])) := ⟨_, rfl⟩
  replace hM : mm_M G E2 H := by rw [hE2]; exact hM
  have frs : ∀ q : Nat, q ≠ b → E2 q = E1 q := fun q h => by rw [hE2]; exact mm_up_n _ _ h
  replace hfr : ∀ q : Nat, q < b → E2 q = E0 q := fun q h => (frs q (by omega)).trans (hfr q h)
  replace hE : E2 b = some (.inr (0, [.ref (b + 1), .null, .null, .null, .null, .null, .null, .null])) := by rw [hE2]; exact mm_up_s _ _ _
  replace w0 : wR G E2 (b + 1) 0 (fun _ => 0) := w0.kept (frs _ (by omega)) (frs _ (by omega))
  refine lv_aload_n C0.1 C0.2.1 dX1_init_15 rfl (lv_at hl 0 rfl) ?_
  refine mm_mk (P := fun E => wR G E (b + 3) 0 (fun _ => 0)) C0 ho (C := RX8) (T := TX8) (N := 2) iG_X8 tyX8 tyX8_ok tw_169 tw_75 tw_4 (ci := 7) rfl (fs := [.null, .int 0]) (fun j hj => by rcases (show j = 0 ∨ j = 1 by omega) with rfl | rfl <;> rfl) (y := yX8_init) (mc := 1) (ms := 56) (rm := rX8_init) iw_X8 tw_170 hz (fun E1 hE1 => c_X8_init l G E1 hE1) hM hS hl.1 (Nat.le_of_ble_eq_true rfl) ⟨rfl, rfl, (Nat.le_of_ble_eq_true rfl), (Nat.le_of_ble_eq_true rfl)⟩ (Nat.le_of_ble_eq_true rfl) (Nat.le_of_ble_eq_true rfl) dX1_init_16 dX1_init_19 dX1_init_20 (fun E2 H locs hP fr2 hM hS hz9 => ?_)
  replace hz := hz9
  clear hz9
  obtain ⟨E3, hE3⟩ : ∃ X : mE, X = E2 := ⟨_, rfl⟩
  subst hE3
  replace w0 : wR G E3 (b + 1) 0 (fun _ => 0) := w0.kept (fr2 _ (by omega)) (fr2 _ (by omega))
  replace hE : E3 b = some (.inr (0, [.ref (b + 1), .null, .null, .null, .null, .null, .null, .null])) := (fr2 _ (by omega)).trans hE
  replace hfr : ∀ q : Nat, q < b → E3 q = E0 q := fun q h => (fr2 q (by omega)).trans (hfr q h)
  clear fr2
  have w1 : wR G E3 (b + 3) 0 (fun _ => 0) := hP
  refine mm_putF (v := .ref (b + 3)) (fs := [.ref (b + 1), .null, .null, .null, .null, .null, .null, .null]) C0 (C := RX1) (T := TX1) (N := 8) iG_X1 tyX1 tyX1_ok nmX1 hM hS hE rfl 1 (by decide) tw_173 rfl rfl hin rfl (ty := tyX1 1) (tyX1_ok 1 (by decide)) rfl rfl (Nat.le_of_ble_eq_true rfl) dX1_init_23 (fun H locs hM hS hsz => ?_)
  replace hz := hsz.trans hz
  clear hsz
  obtain ⟨E4, hE4⟩ : ∃ X : mE, X = mm_up E3 (b) (.inr (0, [.ref (b + 1), .ref (b + 3), .null, .null, .null, .null, .null, .null])) := ⟨_, rfl⟩
  replace hM : mm_M G E4 H := by rw [hE4]; exact hM
  have frs : ∀ q : Nat, q ≠ b → E4 q = E3 q := fun q h => by rw [hE4]; exact mm_up_n _ _ h
  replace hfr : ∀ q : Nat, q < b → E4 q = E0 q := fun q h => (frs q (by omega)).trans (hfr q h)
  replace hE : E4 b = some (.inr (0, [.ref (b + 1), .ref (b + 3), .null, .null, .null, .null, .null, .null])) := by rw [hE4]; exact mm_up_s _ _ _
  replace w0 : wR G E4 (b + 1) 0 (fun _ => 0) := w0.kept (frs _ (by omega)) (frs _ (by omega))
  replace w1 : wR G E4 (b + 3) 0 (fun _ => 0) := w1.kept (frs _ (by omega)) (frs _ (by omega))
  refine lv_aload_n C0.1 C0.2.1 dX1_init_26 rfl (lv_at hl 0 rfl) ?_
  refine mm_mk (P := fun E => wR G E (b + 5) 0 (fun _ => 0)) C0 ho (C := RX8) (T := TX8) (N := 2) iG_X8 tyX8 tyX8_ok tw_169 tw_75 tw_4 (ci := 7) rfl (fs := [.null, .int 0]) (fun j hj => by rcases (show j = 0 ∨ j = 1 by omega) with rfl | rfl <;> rfl) (y := yX8_init) (mc := 1) (ms := 56) (rm := rX8_init) iw_X8 tw_170 hz (fun E1 hE1 => c_X8_init l G E1 hE1) hM hS hl.1 (Nat.le_of_ble_eq_true rfl) ⟨rfl, rfl, (Nat.le_of_ble_eq_true rfl), (Nat.le_of_ble_eq_true rfl)⟩ (Nat.le_of_ble_eq_true rfl) (Nat.le_of_ble_eq_true rfl) dX1_init_27 dX1_init_30 dX1_init_31 (fun E2 H locs hP fr2 hM hS hz9 => ?_)
  replace hz := hz9
  clear hz9
  obtain ⟨E5, hE5⟩ : ∃ X : mE, X = E2 := ⟨_, rfl⟩
  subst hE5
  replace w0 : wR G E5 (b + 1) 0 (fun _ => 0) := w0.kept (fr2 _ (by omega)) (fr2 _ (by omega))
  replace w1 : wR G E5 (b + 3) 0 (fun _ => 0) := w1.kept (fr2 _ (by omega)) (fr2 _ (by omega))
  replace hE : E5 b = some (.inr (0, [.ref (b + 1), .ref (b + 3), .null, .null, .null, .null, .null, .null])) := (fr2 _ (by omega)).trans hE
  replace hfr : ∀ q : Nat, q < b → E5 q = E0 q := fun q h => (fr2 q (by omega)).trans (hfr q h)
  clear fr2
  have w2 : wR G E5 (b + 5) 0 (fun _ => 0) := hP
  refine mm_putF (v := .ref (b + 5)) (fs := [.ref (b + 1), .ref (b + 3), .null, .null, .null, .null, .null, .null]) C0 (C := RX1) (T := TX1) (N := 8) iG_X1 tyX1 tyX1_ok nmX1 hM hS hE rfl 3 (by decide) tw_176 rfl rfl hin rfl (ty := tyX1 3) (tyX1_ok 3 (by decide)) rfl rfl (Nat.le_of_ble_eq_true rfl) dX1_init_34 (fun H locs hM hS hsz => ?_)
  replace hz := hsz.trans hz
  clear hsz
  obtain ⟨E6, hE6⟩ : ∃ X : mE, X = mm_up E5 (b) (.inr (0, [.ref (b + 1), .ref (b + 3), .null, .ref (b + 5), .null, .null, .null, .null])) := ⟨_, rfl⟩
  replace hM : mm_M G E6 H := by rw [hE6]; exact hM
  have frs : ∀ q : Nat, q ≠ b → E6 q = E5 q := fun q h => by rw [hE6]; exact mm_up_n _ _ h
  replace hfr : ∀ q : Nat, q < b → E6 q = E0 q := fun q h => (frs q (by omega)).trans (hfr q h)
  replace hE : E6 b = some (.inr (0, [.ref (b + 1), .ref (b + 3), .null, .ref (b + 5), .null, .null, .null, .null])) := by rw [hE6]; exact mm_up_s _ _ _
  replace w0 : wR G E6 (b + 1) 0 (fun _ => 0) := w0.kept (frs _ (by omega)) (frs _ (by omega))
  replace w1 : wR G E6 (b + 3) 0 (fun _ => 0) := w1.kept (frs _ (by omega)) (frs _ (by omega))
  replace w2 : wR G E6 (b + 5) 0 (fun _ => 0) := w2.kept (frs _ (by omega)) (frs _ (by omega))
  refine lv_aload_n C0.1 C0.2.1 dX1_init_37 rfl (lv_at hl 0 rfl) ?_
  refine mm_mk (P := fun E => wR G E (b + 7) 0 (fun _ => 0)) C0 ho (C := RX8) (T := TX8) (N := 2) iG_X8 tyX8 tyX8_ok tw_169 tw_75 tw_4 (ci := 7) rfl (fs := [.null, .int 0]) (fun j hj => by rcases (show j = 0 ∨ j = 1 by omega) with rfl | rfl <;> rfl) (y := yX8_init) (mc := 1) (ms := 56) (rm := rX8_init) iw_X8 tw_170 hz (fun E1 hE1 => c_X8_init l G E1 hE1) hM hS hl.1 (Nat.le_of_ble_eq_true rfl) ⟨rfl, rfl, (Nat.le_of_ble_eq_true rfl), (Nat.le_of_ble_eq_true rfl)⟩ (Nat.le_of_ble_eq_true rfl) (Nat.le_of_ble_eq_true rfl) dX1_init_38 dX1_init_41 dX1_init_42 (fun E2 H locs hP fr2 hM hS hz9 => ?_)
  replace hz := hz9
  clear hz9
  obtain ⟨E7, hE7⟩ : ∃ X : mE, X = E2 := ⟨_, rfl⟩
  subst hE7
  replace w0 : wR G E7 (b + 1) 0 (fun _ => 0) := w0.kept (fr2 _ (by omega)) (fr2 _ (by omega))
  replace w1 : wR G E7 (b + 3) 0 (fun _ => 0) := w1.kept (fr2 _ (by omega)) (fr2 _ (by omega))
  replace w2 : wR G E7 (b + 5) 0 (fun _ => 0) := w2.kept (fr2 _ (by omega)) (fr2 _ (by omega))
  replace hE : E7 b = some (.inr (0, [.ref (b + 1), .ref (b + 3), .null, .ref (b + 5), .null, .null, .null, .null])) := (fr2 _ (by omega)).trans hE
  replace hfr : ∀ q : Nat, q < b → E7 q = E0 q := fun q h => (fr2 q (by omega)).trans (hfr q h)
  clear fr2
  have w3 : wR G E7 (b + 7) 0 (fun _ => 0) := hP
  refine mm_putF (v := .ref (b + 7)) (fs := [.ref (b + 1), .ref (b + 3), .null, .ref (b + 5), .null, .null, .null, .null]) C0 (C := RX1) (T := TX1) (N := 8) iG_X1 tyX1 tyX1_ok nmX1 hM hS hE rfl 4 (by decide) tw_177 rfl rfl hin rfl (ty := tyX1 4) (tyX1_ok 4 (by decide)) rfl rfl (Nat.le_of_ble_eq_true rfl) dX1_init_45 (fun H locs hM hS hsz => ?_)
  replace hz := hsz.trans hz
  clear hsz
  obtain ⟨E8, hE8⟩ : ∃ X : mE, X = mm_up E7 (b) (.inr (0, [.ref (b + 1), .ref (b + 3), .null, .ref (b + 5), .ref (b + 7), .null, .null, .null])) := ⟨_, rfl⟩
  replace hM : mm_M G E8 H := by rw [hE8]; exact hM
  have frs : ∀ q : Nat, q ≠ b → E8 q = E7 q := fun q h => by rw [hE8]; exact mm_up_n _ _ h
  replace hfr : ∀ q : Nat, q < b → E8 q = E0 q := fun q h => (frs q (by omega)).trans (hfr q h)
  replace hE : E8 b = some (.inr (0, [.ref (b + 1), .ref (b + 3), .null, .ref (b + 5), .ref (b + 7), .null, .null, .null])) := by rw [hE8]; exact mm_up_s _ _ _
  replace w0 : wR G E8 (b + 1) 0 (fun _ => 0) := w0.kept (frs _ (by omega)) (frs _ (by omega))
  replace w1 : wR G E8 (b + 3) 0 (fun _ => 0) := w1.kept (frs _ (by omega)) (frs _ (by omega))
  replace w2 : wR G E8 (b + 5) 0 (fun _ => 0) := w2.kept (frs _ (by omega)) (frs _ (by omega))
  replace w3 : wR G E8 (b + 7) 0 (fun _ => 0) := w3.kept (frs _ (by omega)) (frs _ (by omega))
  refine lv_aload_n C0.1 C0.2.1 dX1_init_48 rfl (lv_at hl 0 rfl) ?_
  refine mm_mk (P := fun E => wR G E (b + 9) 0 (fun _ => 0)) C0 ho (C := RX8) (T := TX8) (N := 2) iG_X8 tyX8 tyX8_ok tw_169 tw_75 tw_4 (ci := 7) rfl (fs := [.null, .int 0]) (fun j hj => by rcases (show j = 0 ∨ j = 1 by omega) with rfl | rfl <;> rfl) (y := yX8_init) (mc := 1) (ms := 56) (rm := rX8_init) iw_X8 tw_170 hz (fun E1 hE1 => c_X8_init l G E1 hE1) hM hS hl.1 (Nat.le_of_ble_eq_true rfl) ⟨rfl, rfl, (Nat.le_of_ble_eq_true rfl), (Nat.le_of_ble_eq_true rfl)⟩ (Nat.le_of_ble_eq_true rfl) (Nat.le_of_ble_eq_true rfl) dX1_init_49 dX1_init_52 dX1_init_53 (fun E2 H locs hP fr2 hM hS hz9 => ?_)
  replace hz := hz9
  clear hz9
  obtain ⟨E9, hE9⟩ : ∃ X : mE, X = E2 := ⟨_, rfl⟩
  subst hE9
  replace w0 : wR G E9 (b + 1) 0 (fun _ => 0) := w0.kept (fr2 _ (by omega)) (fr2 _ (by omega))
  replace w1 : wR G E9 (b + 3) 0 (fun _ => 0) := w1.kept (fr2 _ (by omega)) (fr2 _ (by omega))
  replace w2 : wR G E9 (b + 5) 0 (fun _ => 0) := w2.kept (fr2 _ (by omega)) (fr2 _ (by omega))
  replace w3 : wR G E9 (b + 7) 0 (fun _ => 0) := w3.kept (fr2 _ (by omega)) (fr2 _ (by omega))
  replace hE : E9 b = some (.inr (0, [.ref (b + 1), .ref (b + 3), .null, .ref (b + 5), .ref (b + 7), .null, .null, .null])) := (fr2 _ (by omega)).trans hE
  replace hfr : ∀ q : Nat, q < b → E9 q = E0 q := fun q h => (fr2 q (by omega)).trans (hfr q h)
  clear fr2
  have w4 : wR G E9 (b + 9) 0 (fun _ => 0) := hP
  refine mm_putF (v := .ref (b + 9)) (fs := [.ref (b + 1), .ref (b + 3), .null, .ref (b + 5), .ref (b + 7), .null, .null, .null]) C0 (C := RX1) (T := TX1) (N := 8) iG_X1 tyX1 tyX1_ok nmX1 hM hS hE rfl 5 (by decide) tw_178 rfl rfl hin rfl (ty := tyX1 5) (tyX1_ok 5 (by decide)) rfl rfl (Nat.le_of_ble_eq_true rfl) dX1_init_56 (fun H locs hM hS hsz => ?_)
  replace hz := hsz.trans hz
  clear hsz
  obtain ⟨E10, hE10⟩ : ∃ X : mE, X = mm_up E9 (b) (.inr (0, [.ref (b + 1), .ref (b + 3), .null, .ref (b + 5), .ref (b + 7), .ref (b + 9), .null, .null])) := ⟨_, rfl⟩
  replace hM : mm_M G E10 H := by rw [hE10]; exact hM
  have frs : ∀ q : Nat, q ≠ b → E10 q = E9 q := fun q h => by rw [hE10]; exact mm_up_n _ _ h
  replace hfr : ∀ q : Nat, q < b → E10 q = E0 q := fun q h => (frs q (by omega)).trans (hfr q h)
  replace hE : E10 b = some (.inr (0, [.ref (b + 1), .ref (b + 3), .null, .ref (b + 5), .ref (b + 7), .ref (b + 9), .null, .null])) := by rw [hE10]; exact mm_up_s _ _ _
  replace w0 : wR G E10 (b + 1) 0 (fun _ => 0) := w0.kept (frs _ (by omega)) (frs _ (by omega))
  replace w1 : wR G E10 (b + 3) 0 (fun _ => 0) := w1.kept (frs _ (by omega)) (frs _ (by omega))
  replace w2 : wR G E10 (b + 5) 0 (fun _ => 0) := w2.kept (frs _ (by omega)) (frs _ (by omega))
  replace w3 : wR G E10 (b + 7) 0 (fun _ => 0) := w3.kept (frs _ (by omega)) (frs _ (by omega))
  replace w4 : wR G E10 (b + 9) 0 (fun _ => 0) := w4.kept (frs _ (by omega)) (frs _ (by omega))
  refine lv_aload_n C0.1 C0.2.1 dX1_init_59 rfl (lv_at hl 0 rfl) ?_
  refine mm_mk (P := fun E => wR G E (b + 11) 0 (fun _ => 0)) C0 ho (C := RX8) (T := TX8) (N := 2) iG_X8 tyX8 tyX8_ok tw_169 tw_75 tw_4 (ci := 7) rfl (fs := [.null, .int 0]) (fun j hj => by rcases (show j = 0 ∨ j = 1 by omega) with rfl | rfl <;> rfl) (y := yX8_init) (mc := 1) (ms := 56) (rm := rX8_init) iw_X8 tw_170 hz (fun E1 hE1 => c_X8_init l G E1 hE1) hM hS hl.1 (Nat.le_of_ble_eq_true rfl) ⟨rfl, rfl, (Nat.le_of_ble_eq_true rfl), (Nat.le_of_ble_eq_true rfl)⟩ (Nat.le_of_ble_eq_true rfl) (Nat.le_of_ble_eq_true rfl) dX1_init_60 dX1_init_63 dX1_init_64 (fun E2 H locs hP fr2 hM hS hz9 => ?_)
  replace hz := hz9
  clear hz9
  obtain ⟨E11, hE11⟩ : ∃ X : mE, X = E2 := ⟨_, rfl⟩
  subst hE11
  replace w0 : wR G E11 (b + 1) 0 (fun _ => 0) := w0.kept (fr2 _ (by omega)) (fr2 _ (by omega))
  replace w1 : wR G E11 (b + 3) 0 (fun _ => 0) := w1.kept (fr2 _ (by omega)) (fr2 _ (by omega))
  replace w2 : wR G E11 (b + 5) 0 (fun _ => 0) := w2.kept (fr2 _ (by omega)) (fr2 _ (by omega))
  replace w3 : wR G E11 (b + 7) 0 (fun _ => 0) := w3.kept (fr2 _ (by omega)) (fr2 _ (by omega))
  replace w4 : wR G E11 (b + 9) 0 (fun _ => 0) := w4.kept (fr2 _ (by omega)) (fr2 _ (by omega))
  replace hE : E11 b = some (.inr (0, [.ref (b + 1), .ref (b + 3), .null, .ref (b + 5), .ref (b + 7), .ref (b + 9), .null, .null])) := (fr2 _ (by omega)).trans hE
  replace hfr : ∀ q : Nat, q < b → E11 q = E0 q := fun q h => (fr2 q (by omega)).trans (hfr q h)
  clear fr2
  have w5 : wR G E11 (b + 11) 0 (fun _ => 0) := hP
  refine mm_putF (v := .ref (b + 11)) (fs := [.ref (b + 1), .ref (b + 3), .null, .ref (b + 5), .ref (b + 7), .ref (b + 9), .null, .null]) C0 (C := RX1) (T := TX1) (N := 8) iG_X1 tyX1 tyX1_ok nmX1 hM hS hE rfl 6 (by decide) tw_179 rfl rfl hin rfl (ty := tyX1 6) (tyX1_ok 6 (by decide)) rfl rfl (Nat.le_of_ble_eq_true rfl) dX1_init_67 (fun H locs hM hS hsz => ?_)
  replace hz := hsz.trans hz
  clear hsz
  obtain ⟨E12, hE12⟩ : ∃ X : mE, X = mm_up E11 (b) (.inr (0, [.ref (b + 1), .ref (b + 3), .null, .ref (b + 5), .ref (b + 7), .ref (b + 9), .ref (b + 11), .null])) := ⟨_, rfl⟩
  replace hM : mm_M G E12 H := by rw [hE12]; exact hM
  have frs : ∀ q : Nat, q ≠ b → E12 q = E11 q := fun q h => by rw [hE12]; exact mm_up_n _ _ h
  replace hfr : ∀ q : Nat, q < b → E12 q = E0 q := fun q h => (frs q (by omega)).trans (hfr q h)
  replace hE : E12 b = some (.inr (0, [.ref (b + 1), .ref (b + 3), .null, .ref (b + 5), .ref (b + 7), .ref (b + 9), .ref (b + 11), .null])) := by rw [hE12]; exact mm_up_s _ _ _
  replace w0 : wR G E12 (b + 1) 0 (fun _ => 0) := w0.kept (frs _ (by omega)) (frs _ (by omega))
  replace w1 : wR G E12 (b + 3) 0 (fun _ => 0) := w1.kept (frs _ (by omega)) (frs _ (by omega))
  replace w2 : wR G E12 (b + 5) 0 (fun _ => 0) := w2.kept (frs _ (by omega)) (frs _ (by omega))
  replace w3 : wR G E12 (b + 7) 0 (fun _ => 0) := w3.kept (frs _ (by omega)) (frs _ (by omega))
  replace w4 : wR G E12 (b + 9) 0 (fun _ => 0) := w4.kept (frs _ (by omega)) (frs _ (by omega))
  replace w5 : wR G E12 (b + 11) 0 (fun _ => 0) := w5.kept (frs _ (by omega)) (frs _ (by omega))
  refine lv_aload_n C0.1 C0.2.1 dX1_init_70 rfl (lv_at hl 0 rfl) ?_
  refine mm_mk (P := fun E => wR G E (b + 13) 0 (fun _ => 0)) C0 ho (C := RX8) (T := TX8) (N := 2) iG_X8 tyX8 tyX8_ok tw_169 tw_75 tw_4 (ci := 7) rfl (fs := [.null, .int 0]) (fun j hj => by rcases (show j = 0 ∨ j = 1 by omega) with rfl | rfl <;> rfl) (y := yX8_init) (mc := 1) (ms := 56) (rm := rX8_init) iw_X8 tw_170 hz (fun E1 hE1 => c_X8_init l G E1 hE1) hM hS hl.1 (Nat.le_of_ble_eq_true rfl) ⟨rfl, rfl, (Nat.le_of_ble_eq_true rfl), (Nat.le_of_ble_eq_true rfl)⟩ (Nat.le_of_ble_eq_true rfl) (Nat.le_of_ble_eq_true rfl) dX1_init_71 dX1_init_74 dX1_init_75 (fun E2 H locs hP fr2 hM hS hz9 => ?_)
  replace hz := hz9
  clear hz9
  obtain ⟨E13, hE13⟩ : ∃ X : mE, X = E2 := ⟨_, rfl⟩
  subst hE13
  replace w0 : wR G E13 (b + 1) 0 (fun _ => 0) := w0.kept (fr2 _ (by omega)) (fr2 _ (by omega))
  replace w1 : wR G E13 (b + 3) 0 (fun _ => 0) := w1.kept (fr2 _ (by omega)) (fr2 _ (by omega))
  replace w2 : wR G E13 (b + 5) 0 (fun _ => 0) := w2.kept (fr2 _ (by omega)) (fr2 _ (by omega))
  replace w3 : wR G E13 (b + 7) 0 (fun _ => 0) := w3.kept (fr2 _ (by omega)) (fr2 _ (by omega))
  replace w4 : wR G E13 (b + 9) 0 (fun _ => 0) := w4.kept (fr2 _ (by omega)) (fr2 _ (by omega))
  replace w5 : wR G E13 (b + 11) 0 (fun _ => 0) := w5.kept (fr2 _ (by omega)) (fr2 _ (by omega))
  replace hE : E13 b = some (.inr (0, [.ref (b + 1), .ref (b + 3), .null, .ref (b + 5), .ref (b + 7), .ref (b + 9), .ref (b + 11), .null])) := (fr2 _ (by omega)).trans hE
  replace hfr : ∀ q : Nat, q < b → E13 q = E0 q := fun q h => (fr2 q (by omega)).trans (hfr q h)
  clear fr2
  have w6 : wR G E13 (b + 13) 0 (fun _ => 0) := hP
  refine mm_putF (v := .ref (b + 13)) (fs := [.ref (b + 1), .ref (b + 3), .null, .ref (b + 5), .ref (b + 7), .ref (b + 9), .ref (b + 11), .null]) C0 (C := RX1) (T := TX1) (N := 8) iG_X1 tyX1 tyX1_ok nmX1 hM hS hE rfl 7 (by decide) tw_180 rfl rfl hin rfl (ty := tyX1 7) (tyX1_ok 7 (by decide)) rfl rfl (Nat.le_of_ble_eq_true rfl) dX1_init_78 (fun H locs hM hS hsz => ?_)
  replace hz := hsz.trans hz
  clear hsz
  obtain ⟨E14, hE14⟩ : ∃ X : mE, X = mm_up E13 (b) (.inr (0, [.ref (b + 1), .ref (b + 3), .null, .ref (b + 5), .ref (b + 7), .ref (b + 9), .ref (b + 11), .ref (b + 13)])) := ⟨_, rfl⟩
  replace hM : mm_M G E14 H := by rw [hE14]; exact hM
  have frs : ∀ q : Nat, q ≠ b → E14 q = E13 q := fun q h => by rw [hE14]; exact mm_up_n _ _ h
  replace hfr : ∀ q : Nat, q < b → E14 q = E0 q := fun q h => (frs q (by omega)).trans (hfr q h)
  replace hE : E14 b = some (.inr (0, [.ref (b + 1), .ref (b + 3), .null, .ref (b + 5), .ref (b + 7), .ref (b + 9), .ref (b + 11), .ref (b + 13)])) := by rw [hE14]; exact mm_up_s _ _ _
  replace w0 : wR G E14 (b + 1) 0 (fun _ => 0) := w0.kept (frs _ (by omega)) (frs _ (by omega))
  replace w1 : wR G E14 (b + 3) 0 (fun _ => 0) := w1.kept (frs _ (by omega)) (frs _ (by omega))
  replace w2 : wR G E14 (b + 5) 0 (fun _ => 0) := w2.kept (frs _ (by omega)) (frs _ (by omega))
  replace w3 : wR G E14 (b + 7) 0 (fun _ => 0) := w3.kept (frs _ (by omega)) (frs _ (by omega))
  replace w4 : wR G E14 (b + 9) 0 (fun _ => 0) := w4.kept (frs _ (by omega)) (frs _ (by omega))
  replace w5 : wR G E14 (b + 11) 0 (fun _ => 0) := w5.kept (frs _ (by omega)) (frs _ (by omega))
  replace w6 : wR G E14 (b + 13) 0 (fun _ => 0) := w6.kept (frs _ (by omega)) (frs _ (by omega))
  refine lv_aload_n C0.1 C0.2.1 dX1_init_81 rfl (lv_at hl 0 rfl) ?_
  refine lv_aload_n C0.1 C0.2.1 dX1_init_82 rfl (lv_at hl 1 rfl) ?_
  refine mm_putF (v := .ref (r)) (fs := [.ref (b + 1), .ref (b + 3), .null, .ref (b + 5), .ref (b + 7), .ref (b + 9), .ref (b + 11), .ref (b + 13)]) C0 (C := RX1) (T := TX1) (N := 8) iG_X1 tyX1 tyX1_ok nmX1 hM hS hE rfl 2 (by decide) tw_175 rfl rfl hin rfl (ty := tyX1 2) (tyX1_ok 2 (by decide)) rfl rfl (Nat.le_of_ble_eq_true rfl) dX1_init_83 (fun H locs hM hS hsz => ?_)
  replace hz := hsz.trans hz
  clear hsz
  obtain ⟨E15, hE15⟩ : ∃ X : mE, X = mm_up E14 (b) (.inr (0, [.ref (b + 1), .ref (b + 3), .ref (r), .ref (b + 5), .ref (b + 7), .ref (b + 9), .ref (b + 11), .ref (b + 13)])) := ⟨_, rfl⟩
  replace hM : mm_M G E15 H := by rw [hE15]; exact hM
  have frs : ∀ q : Nat, q ≠ b → E15 q = E14 q := fun q h => by rw [hE15]; exact mm_up_n _ _ h
  replace hfr : ∀ q : Nat, q < b → E15 q = E0 q := fun q h => (frs q (by omega)).trans (hfr q h)
  replace hE : E15 b = some (.inr (0, [.ref (b + 1), .ref (b + 3), .ref (r), .ref (b + 5), .ref (b + 7), .ref (b + 9), .ref (b + 11), .ref (b + 13)])) := by rw [hE15]; exact mm_up_s _ _ _
  replace w0 : wR G E15 (b + 1) 0 (fun _ => 0) := w0.kept (frs _ (by omega)) (frs _ (by omega))
  replace w1 : wR G E15 (b + 3) 0 (fun _ => 0) := w1.kept (frs _ (by omega)) (frs _ (by omega))
  replace w2 : wR G E15 (b + 5) 0 (fun _ => 0) := w2.kept (frs _ (by omega)) (frs _ (by omega))
  replace w3 : wR G E15 (b + 7) 0 (fun _ => 0) := w3.kept (frs _ (by omega)) (frs _ (by omega))
  replace w4 : wR G E15 (b + 9) 0 (fun _ => 0) := w4.kept (frs _ (by omega)) (frs _ (by omega))
  replace w5 : wR G E15 (b + 11) 0 (fun _ => 0) := w5.kept (frs _ (by omega)) (frs _ (by omega))
  replace w6 : wR G E15 (b + 13) 0 (fun _ => 0) := w6.kept (frs _ (by omega)) (frs _ (by omega))
  exact mm_nret C0 hr hlk hM hS hz (Nat.le_of_ble_eq_true rfl) (Nat.le_of_ble_eq_true rfl) dX1_init_86 ⟨⟨hE, w0, w1, w2, w3, w4, w5, w6⟩, hfr⟩
