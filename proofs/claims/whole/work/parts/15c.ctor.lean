/-! the constructor of the reference -/
def s0 : mST := ((0, (fun _ => 0), 0), ((fun _ => 0), (fun _ => 0), (fun _ => 0)), ((fun _ => 0), (fun _ => 0), (fun _ => 0)), ((fun _ _ => 0), (fun _ => 0), (fun _ => -1)))
theorem dg00 (j : Nat) : (0 : Int) = ((dg 0 j : Nat) : Int) := by
  unfold dg; rw [Nat.zero_div, Nat.zero_mod]; rfl
theorem rf_new {G : mG} {E : mE} {b : Nat} {fl : Nat → Int} (hE : E b = some (.inr (9, [.ref (b + 1), .ref (b + 2), .ref (b + 3), .ref (b + 4), .int 0, .int 0, .long 0, .ref (b + 5), .ref (b + 6), .ref (b + 7), .ref (b + 8), .int 0, .int 0, .int 0, .int 0, .int 0, .ref (b + 9), .ref (b + 10), .ref (b + 11), .ref (b + 12)])))
    (h1 : E (b + 1) = some (mm_I G 1280 (fun _ => 0))) (h2 : E (b + 2) = some (mm_I G 8 (fun _ => 0))) (h3 : E (b + 3) = some (mm_I G 8 (fun _ => 0))) (h4 : E (b + 4) = some (mm_I G 100 (fun _ => 0))) (h5 : E (b + 5) = some (mm_J G 8 (fun _ => 0))) (h6 : E (b + 6) = some (mm_I G 8 (fun _ => 0))) (h7 : E (b + 7) = some (mm_I G 8 (fun _ => 0))) (h8 : E (b + 8) = some (mm_I G 8 (fun _ => 0))) (h9 : E (b + 9) = some (mm_I G 656 (fun _ => 0))) (h10 : E (b + 10) = some (mm_I G 4 fl)) (hl : ∀ i, i < 4 → fl i = -1) (h11 : E (b + 11) = some (mm_I G 4 (fun _ => 0))) (h12 : E (b + 12) = some (mm_J G 96 (fun _ => 0))) : rf G E b s0 :=
  ⟨fun _ => 0, 0, 0, 0, 0, 0, 0, hE, ⟨fun r _ => by rw [nl_0]; exact Nat.zero_le _, _, h1, fun r _ j _ => dg00 j⟩, fun _ _ => rfl, ⟨_, _, h2, h3, fun i _ => ⟨rfl, rfl⟩⟩, h4, ⟨_, _, _, _, h5, h6, h7, h8⟩, ⟨_, h9, fun i _ => ⟨fun j _ => dg00 j, rfl, rfl⟩⟩, ⟨_, _, _, h10, h11, h12, fun i hi => ⟨fun _ => hl i hi, fun h => absurd h (by show ¬ (0 : Int) ≤ -1; decide)⟩⟩, Or.inl rfl⟩
def rX10_init : Room := { frames := 1, cells := 12, slots := 2188, locals := 12 }
theorem iw_X10 : mm_Iw yX10_init cX10_init 2 0 := ⟨tw_913, tw_10, tw_914, rfl, by decide +kernel⟩
set_option maxHeartbeats 4000000 in
set_option maxRecDepth 100000 in
theorem c_X10_init (l : Launch) (G : mG) (E0 : mE) {b : Nat} (hE : E0 b = some (.inr (9, [.null, .null, .null, .null, .int 0, .int 0, .long 0, .null, .null, .null, .null, .int 0, .int 0, .int 0, .int 0, .int 0, .null, .null, .null, .null]))) : mm_Cn l yX10_init (.code yX10_init cX10_init 2 none :: wsG) rX10_init G [.ref (b)] E0 (b + 1) 12 2188 (fun E => (rf G E b s0) ∧ ∀ q, q < b → E q = E0 q) := by
  refine mm_of_n (by decide +kernel) (Nat.le_of_ble_eq_true rfl) rfl ?_
  intro p e s m args below meth c ls C0 hr hlk hin ho hz hM hl hS
  have hl : lv_has ls 2 [(0, .ref (b))] := hl
  have hfr : ∀ q : Nat, q < b → E0 q = E0 q := fun _ _ => rfl
  refine lv_aload_n C0.1 C0.2.1 dX10_init_0 rfl (lv_at hl 0 rfl) ?_
  refine mm_obj C0 tw_915 hl.1 (Nat.le_of_ble_eq_true rfl) (Nat.le_of_ble_eq_true rfl) dX10_init_1 ?_
  refine lv_aload_n C0.1 C0.2.1 dX10_init_4 rfl (lv_at hl 0 rfl) ?_
  refine lv_sipush (v := zI 1280) C0.1 C0.2.1 dX10_init_5 rfl ?_
  refine mm_newI (N := 1280) C0 hM hS hz rfl (by decide) (Nat.le_of_ble_eq_true rfl) (Nat.le_of_ble_eq_true rfl) dX10_init_8 (fun H hM hS hz9 => ?_)
  replace hz := hz9
  clear hz9
  obtain ⟨E1, hE1⟩ : ∃ X : mE, X = mm_up E0 (b + 1) (mm_I G 1280 (fun _ => 0)) := ⟨_, rfl⟩
  replace hM : mm_M G E1 H := by rw [hE1]; exact hM
  have frs : ∀ q : Nat, q ≠ b + 1 → E1 q = E0 q := fun q h => by rw [hE1]; exact mm_up_n _ _ h
  replace hE : E1 b = some (.inr (9, [.null, .null, .null, .null, .int 0, .int 0, .long 0, .null, .null, .null, .null, .int 0, .int 0, .int 0, .int 0, .int 0, .null, .null, .null, .null])) := (frs _ (by omega)).trans hE
  replace hfr : ∀ q : Nat, q < b → E1 q = E0 q := fun q h => (frs q (by omega)).trans (hfr q h)
  have a1 : E1 (b + 1) = some (mm_I G 1280 (fun _ => 0)) := by rw [hE1]; exact mm_up_s _ _ _
  refine mm_putF (v := .ref (b + 1)) (fs := [.null, .null, .null, .null, .int 0, .int 0, .long 0, .null, .null, .null, .null, .int 0, .int 0, .int 0, .int 0, .int 0, .null, .null, .null, .null]) C0 (C := RX10) (T := TX10) (N := 20) iG_X10 tyX10 tyX10_ok nmX10 hM hS hE rfl 0 (by decide) tw_916 rfl rfl hin rfl (ty := tyX10 0) (tyX10_ok 0 (by decide)) rfl rfl (Nat.le_of_ble_eq_true rfl) dX10_init_10 (fun H locs hM hS hsz => ?_)
  replace hz := hsz.trans hz
  clear hsz
  obtain ⟨E2, hE2⟩ : ∃ X : mE, X = mm_up E1 (b) (.inr (9, [.ref (b + 1), .null, .null, .null, .int 0, .int 0, .long 0, .null, .null, .null, .null, .int 0, .int 0, .int 0, .int 0, .int 0, .null, .null, .null, .null])) := ⟨_, rfl⟩
  replace hM : mm_M G E2 H := by rw [hE2]; exact hM
  have frs : ∀ q : Nat, q ≠ b → E2 q = E1 q := fun q h => by rw [hE2]; exact mm_up_n _ _ h
  replace hfr : ∀ q : Nat, q < b → E2 q = E0 q := fun q h => (frs q (by omega)).trans (hfr q h)
  replace hE : E2 b = some (.inr (9, [.ref (b + 1), .null, .null, .null, .int 0, .int 0, .long 0, .null, .null, .null, .null, .int 0, .int 0, .int 0, .int 0, .int 0, .null, .null, .null, .null])) := by rw [hE2]; exact mm_up_s _ _ _
  replace a1 : E2 (b + 1) = some (mm_I G 1280 (fun _ => 0)) := (frs _ (by omega)).trans a1
  refine lv_aload_n C0.1 C0.2.1 dX10_init_13 rfl (lv_at hl 0 rfl) ?_
  refine lv_bipush (v := zI 8) C0.1 C0.2.1 dX10_init_14 rfl ?_
  refine mm_newI (N := 8) C0 hM hS hz rfl (by decide) (Nat.le_of_ble_eq_true rfl) (Nat.le_of_ble_eq_true rfl) dX10_init_16 (fun H hM hS hz9 => ?_)
  replace hz := hz9
  clear hz9
  obtain ⟨E3, hE3⟩ : ∃ X : mE, X = mm_up E2 (b + 2) (mm_I G 8 (fun _ => 0)) := ⟨_, rfl⟩
  replace hM : mm_M G E3 H := by rw [hE3]; exact hM
  have frs : ∀ q : Nat, q ≠ b + 2 → E3 q = E2 q := fun q h => by rw [hE3]; exact mm_up_n _ _ h
  replace a1 : E3 (b + 1) = some (mm_I G 1280 (fun _ => 0)) := (frs _ (by omega)).trans a1
  replace hE : E3 b = some (.inr (9, [.ref (b + 1), .null, .null, .null, .int 0, .int 0, .long 0, .null, .null, .null, .null, .int 0, .int 0, .int 0, .int 0, .int 0, .null, .null, .null, .null])) := (frs _ (by omega)).trans hE
  replace hfr : ∀ q : Nat, q < b → E3 q = E0 q := fun q h => (frs q (by omega)).trans (hfr q h)
  have a2 : E3 (b + 2) = some (mm_I G 8 (fun _ => 0)) := by rw [hE3]; exact mm_up_s _ _ _
  refine mm_putF (v := .ref (b + 2)) (fs := [.ref (b + 1), .null, .null, .null, .int 0, .int 0, .long 0, .null, .null, .null, .null, .int 0, .int 0, .int 0, .int 0, .int 0, .null, .null, .null, .null]) C0 (C := RX10) (T := TX10) (N := 20) iG_X10 tyX10 tyX10_ok nmX10 hM hS hE rfl 1 (by decide) tw_917 rfl rfl hin rfl (ty := tyX10 1) (tyX10_ok 1 (by decide)) rfl rfl (Nat.le_of_ble_eq_true rfl) dX10_init_18 (fun H locs hM hS hsz => ?_)
  replace hz := hsz.trans hz
  clear hsz
  obtain ⟨E4, hE4⟩ : ∃ X : mE, X = mm_up E3 (b) (.inr (9, [.ref (b + 1), .ref (b + 2), .null, .null, .int 0, .int 0, .long 0, .null, .null, .null, .null, .int 0, .int 0, .int 0, .int 0, .int 0, .null, .null, .null, .null])) := ⟨_, rfl⟩
  replace hM : mm_M G E4 H := by rw [hE4]; exact hM
  have frs : ∀ q : Nat, q ≠ b → E4 q = E3 q := fun q h => by rw [hE4]; exact mm_up_n _ _ h
  replace hfr : ∀ q : Nat, q < b → E4 q = E0 q := fun q h => (frs q (by omega)).trans (hfr q h)
  replace hE : E4 b = some (.inr (9, [.ref (b + 1), .ref (b + 2), .null, .null, .int 0, .int 0, .long 0, .null, .null, .null, .null, .int 0, .int 0, .int 0, .int 0, .int 0, .null, .null, .null, .null])) := by rw [hE4]; exact mm_up_s _ _ _
  replace a1 : E4 (b + 1) = some (mm_I G 1280 (fun _ => 0)) := (frs _ (by omega)).trans a1
  replace a2 : E4 (b + 2) = some (mm_I G 8 (fun _ => 0)) := (frs _ (by omega)).trans a2
  refine lv_aload_n C0.1 C0.2.1 dX10_init_21 rfl (lv_at hl 0 rfl) ?_
  refine lv_bipush (v := zI 8) C0.1 C0.2.1 dX10_init_22 rfl ?_
  refine mm_newI (N := 8) C0 hM hS hz rfl (by decide) (Nat.le_of_ble_eq_true rfl) (Nat.le_of_ble_eq_true rfl) dX10_init_24 (fun H hM hS hz9 => ?_)
  replace hz := hz9
  clear hz9
  obtain ⟨E5, hE5⟩ : ∃ X : mE, X = mm_up E4 (b + 3) (mm_I G 8 (fun _ => 0)) := ⟨_, rfl⟩
  replace hM : mm_M G E5 H := by rw [hE5]; exact hM
  have frs : ∀ q : Nat, q ≠ b + 3 → E5 q = E4 q := fun q h => by rw [hE5]; exact mm_up_n _ _ h
  replace a1 : E5 (b + 1) = some (mm_I G 1280 (fun _ => 0)) := (frs _ (by omega)).trans a1
  replace a2 : E5 (b + 2) = some (mm_I G 8 (fun _ => 0)) := (frs _ (by omega)).trans a2
  replace hE : E5 b = some (.inr (9, [.ref (b + 1), .ref (b + 2), .null, .null, .int 0, .int 0, .long 0, .null, .null, .null, .null, .int 0, .int 0, .int 0, .int 0, .int 0, .null, .null, .null, .null])) := (frs _ (by omega)).trans hE
  replace hfr : ∀ q : Nat, q < b → E5 q = E0 q := fun q h => (frs q (by omega)).trans (hfr q h)
  have a3 : E5 (b + 3) = some (mm_I G 8 (fun _ => 0)) := by rw [hE5]; exact mm_up_s _ _ _
  refine mm_putF (v := .ref (b + 3)) (fs := [.ref (b + 1), .ref (b + 2), .null, .null, .int 0, .int 0, .long 0, .null, .null, .null, .null, .int 0, .int 0, .int 0, .int 0, .int 0, .null, .null, .null, .null]) C0 (C := RX10) (T := TX10) (N := 20) iG_X10 tyX10 tyX10_ok nmX10 hM hS hE rfl 2 (by decide) tw_918 rfl rfl hin rfl (ty := tyX10 2) (tyX10_ok 2 (by decide)) rfl rfl (Nat.le_of_ble_eq_true rfl) dX10_init_26 (fun H locs hM hS hsz => ?_)
  replace hz := hsz.trans hz
  clear hsz
  obtain ⟨E6, hE6⟩ : ∃ X : mE, X = mm_up E5 (b) (.inr (9, [.ref (b + 1), .ref (b + 2), .ref (b + 3), .null, .int 0, .int 0, .long 0, .null, .null, .null, .null, .int 0, .int 0, .int 0, .int 0, .int 0, .null, .null, .null, .null])) := ⟨_, rfl⟩
  replace hM : mm_M G E6 H := by rw [hE6]; exact hM
  have frs : ∀ q : Nat, q ≠ b → E6 q = E5 q := fun q h => by rw [hE6]; exact mm_up_n _ _ h
  replace hfr : ∀ q : Nat, q < b → E6 q = E0 q := fun q h => (frs q (by omega)).trans (hfr q h)
  replace hE : E6 b = some (.inr (9, [.ref (b + 1), .ref (b + 2), .ref (b + 3), .null, .int 0, .int 0, .long 0, .null, .null, .null, .null, .int 0, .int 0, .int 0, .int 0, .int 0, .null, .null, .null, .null])) := by rw [hE6]; exact mm_up_s _ _ _
  replace a1 : E6 (b + 1) = some (mm_I G 1280 (fun _ => 0)) := (frs _ (by omega)).trans a1
  replace a2 : E6 (b + 2) = some (mm_I G 8 (fun _ => 0)) := (frs _ (by omega)).trans a2
  replace a3 : E6 (b + 3) = some (mm_I G 8 (fun _ => 0)) := (frs _ (by omega)).trans a3
  refine lv_aload_n C0.1 C0.2.1 dX10_init_29 rfl (lv_at hl 0 rfl) ?_
  refine lv_bipush (v := zI 100) C0.1 C0.2.1 dX10_init_30 rfl ?_
  refine mm_newI (N := 100) C0 hM hS hz rfl (by decide) (Nat.le_of_ble_eq_true rfl) (Nat.le_of_ble_eq_true rfl) dX10_init_32 (fun H hM hS hz9 => ?_)
  replace hz := hz9
  clear hz9
  obtain ⟨E7, hE7⟩ : ∃ X : mE, X = mm_up E6 (b + 4) (mm_I G 100 (fun _ => 0)) := ⟨_, rfl⟩
  replace hM : mm_M G E7 H := by rw [hE7]; exact hM
  have frs : ∀ q : Nat, q ≠ b + 4 → E7 q = E6 q := fun q h => by rw [hE7]; exact mm_up_n _ _ h
  replace a1 : E7 (b + 1) = some (mm_I G 1280 (fun _ => 0)) := (frs _ (by omega)).trans a1
  replace a2 : E7 (b + 2) = some (mm_I G 8 (fun _ => 0)) := (frs _ (by omega)).trans a2
  replace a3 : E7 (b + 3) = some (mm_I G 8 (fun _ => 0)) := (frs _ (by omega)).trans a3
  replace hE : E7 b = some (.inr (9, [.ref (b + 1), .ref (b + 2), .ref (b + 3), .null, .int 0, .int 0, .long 0, .null, .null, .null, .null, .int 0, .int 0, .int 0, .int 0, .int 0, .null, .null, .null, .null])) := (frs _ (by omega)).trans hE
  replace hfr : ∀ q : Nat, q < b → E7 q = E0 q := fun q h => (frs q (by omega)).trans (hfr q h)
  have a4 : E7 (b + 4) = some (mm_I G 100 (fun _ => 0)) := by rw [hE7]; exact mm_up_s _ _ _
  refine mm_putF (v := .ref (b + 4)) (fs := [.ref (b + 1), .ref (b + 2), .ref (b + 3), .null, .int 0, .int 0, .long 0, .null, .null, .null, .null, .int 0, .int 0, .int 0, .int 0, .int 0, .null, .null, .null, .null]) C0 (C := RX10) (T := TX10) (N := 20) iG_X10 tyX10 tyX10_ok nmX10 hM hS hE rfl 3 (by decide) tw_919 rfl rfl hin rfl (ty := tyX10 3) (tyX10_ok 3 (by decide)) rfl rfl (Nat.le_of_ble_eq_true rfl) dX10_init_34 (fun H locs hM hS hsz => ?_)
  replace hz := hsz.trans hz
  clear hsz
  obtain ⟨E8, hE8⟩ : ∃ X : mE, X = mm_up E7 (b) (.inr (9, [.ref (b + 1), .ref (b + 2), .ref (b + 3), .ref (b + 4), .int 0, .int 0, .long 0, .null, .null, .null, .null, .int 0, .int 0, .int 0, .int 0, .int 0, .null, .null, .null, .null])) := ⟨_, rfl⟩
  replace hM : mm_M G E8 H := by rw [hE8]; exact hM
  have frs : ∀ q : Nat, q ≠ b → E8 q = E7 q := fun q h => by rw [hE8]; exact mm_up_n _ _ h
  replace hfr : ∀ q : Nat, q < b → E8 q = E0 q := fun q h => (frs q (by omega)).trans (hfr q h)
  replace hE : E8 b = some (.inr (9, [.ref (b + 1), .ref (b + 2), .ref (b + 3), .ref (b + 4), .int 0, .int 0, .long 0, .null, .null, .null, .null, .int 0, .int 0, .int 0, .int 0, .int 0, .null, .null, .null, .null])) := by rw [hE8]; exact mm_up_s _ _ _
  replace a1 : E8 (b + 1) = some (mm_I G 1280 (fun _ => 0)) := (frs _ (by omega)).trans a1
  replace a2 : E8 (b + 2) = some (mm_I G 8 (fun _ => 0)) := (frs _ (by omega)).trans a2
  replace a3 : E8 (b + 3) = some (mm_I G 8 (fun _ => 0)) := (frs _ (by omega)).trans a3
  replace a4 : E8 (b + 4) = some (mm_I G 100 (fun _ => 0)) := (frs _ (by omega)).trans a4
  refine lv_aload_n C0.1 C0.2.1 dX10_init_37 rfl (lv_at hl 0 rfl) ?_
  refine lv_bipush (v := zI 8) C0.1 C0.2.1 dX10_init_38 rfl ?_
  refine mm_newJ (N := 8) C0 hM hS hz rfl (by decide) (Nat.le_of_ble_eq_true rfl) (Nat.le_of_ble_eq_true rfl) dX10_init_40 (fun H hM hS hz9 => ?_)
  replace hz := hz9
  clear hz9
  obtain ⟨E9, hE9⟩ : ∃ X : mE, X = mm_up E8 (b + 5) (mm_J G 8 (fun _ => 0)) := ⟨_, rfl⟩
  replace hM : mm_M G E9 H := by rw [hE9]; exact hM
  have frs : ∀ q : Nat, q ≠ b + 5 → E9 q = E8 q := fun q h => by rw [hE9]; exact mm_up_n _ _ h
  replace a1 : E9 (b + 1) = some (mm_I G 1280 (fun _ => 0)) := (frs _ (by omega)).trans a1
  replace a2 : E9 (b + 2) = some (mm_I G 8 (fun _ => 0)) := (frs _ (by omega)).trans a2
  replace a3 : E9 (b + 3) = some (mm_I G 8 (fun _ => 0)) := (frs _ (by omega)).trans a3
  replace a4 : E9 (b + 4) = some (mm_I G 100 (fun _ => 0)) := (frs _ (by omega)).trans a4
  replace hE : E9 b = some (.inr (9, [.ref (b + 1), .ref (b + 2), .ref (b + 3), .ref (b + 4), .int 0, .int 0, .long 0, .null, .null, .null, .null, .int 0, .int 0, .int 0, .int 0, .int 0, .null, .null, .null, .null])) := (frs _ (by omega)).trans hE
  replace hfr : ∀ q : Nat, q < b → E9 q = E0 q := fun q h => (frs q (by omega)).trans (hfr q h)
  have a5 : E9 (b + 5) = some (mm_J G 8 (fun _ => 0)) := by rw [hE9]; exact mm_up_s _ _ _
  refine mm_putF (v := .ref (b + 5)) (fs := [.ref (b + 1), .ref (b + 2), .ref (b + 3), .ref (b + 4), .int 0, .int 0, .long 0, .null, .null, .null, .null, .int 0, .int 0, .int 0, .int 0, .int 0, .null, .null, .null, .null]) C0 (C := RX10) (T := TX10) (N := 20) iG_X10 tyX10 tyX10_ok nmX10 hM hS hE rfl 7 (by decide) tw_923 rfl rfl hin rfl (ty := tyX10 7) (tyX10_ok 7 (by decide)) rfl rfl (Nat.le_of_ble_eq_true rfl) dX10_init_42 (fun H locs hM hS hsz => ?_)
  replace hz := hsz.trans hz
  clear hsz
  obtain ⟨E10, hE10⟩ : ∃ X : mE, X = mm_up E9 (b) (.inr (9, [.ref (b + 1), .ref (b + 2), .ref (b + 3), .ref (b + 4), .int 0, .int 0, .long 0, .ref (b + 5), .null, .null, .null, .int 0, .int 0, .int 0, .int 0, .int 0, .null, .null, .null, .null])) := ⟨_, rfl⟩
  replace hM : mm_M G E10 H := by rw [hE10]; exact hM
  have frs : ∀ q : Nat, q ≠ b → E10 q = E9 q := fun q h => by rw [hE10]; exact mm_up_n _ _ h
  replace hfr : ∀ q : Nat, q < b → E10 q = E0 q := fun q h => (frs q (by omega)).trans (hfr q h)
  replace hE : E10 b = some (.inr (9, [.ref (b + 1), .ref (b + 2), .ref (b + 3), .ref (b + 4), .int 0, .int 0, .long 0, .ref (b + 5), .null, .null, .null, .int 0, .int 0, .int 0, .int 0, .int 0, .null, .null, .null, .null])) := by rw [hE10]; exact mm_up_s _ _ _
  replace a1 : E10 (b + 1) = some (mm_I G 1280 (fun _ => 0)) := (frs _ (by omega)).trans a1
  replace a2 : E10 (b + 2) = some (mm_I G 8 (fun _ => 0)) := (frs _ (by omega)).trans a2
  replace a3 : E10 (b + 3) = some (mm_I G 8 (fun _ => 0)) := (frs _ (by omega)).trans a3
  replace a4 : E10 (b + 4) = some (mm_I G 100 (fun _ => 0)) := (frs _ (by omega)).trans a4
  replace a5 : E10 (b + 5) = some (mm_J G 8 (fun _ => 0)) := (frs _ (by omega)).trans a5
  refine lv_aload_n C0.1 C0.2.1 dX10_init_45 rfl (lv_at hl 0 rfl) ?_
  refine lv_bipush (v := zI 8) C0.1 C0.2.1 dX10_init_46 rfl ?_
  refine mm_newI (N := 8) C0 hM hS hz rfl (by decide) (Nat.le_of_ble_eq_true rfl) (Nat.le_of_ble_eq_true rfl) dX10_init_48 (fun H hM hS hz9 => ?_)
  replace hz := hz9
  clear hz9
  obtain ⟨E11, hE11⟩ : ∃ X : mE, X = mm_up E10 (b + 6) (mm_I G 8 (fun _ => 0)) := ⟨_, rfl⟩
  replace hM : mm_M G E11 H := by rw [hE11]; exact hM
  have frs : ∀ q : Nat, q ≠ b + 6 → E11 q = E10 q := fun q h => by rw [hE11]; exact mm_up_n _ _ h
  replace a1 : E11 (b + 1) = some (mm_I G 1280 (fun _ => 0)) := (frs _ (by omega)).trans a1
  replace a2 : E11 (b + 2) = some (mm_I G 8 (fun _ => 0)) := (frs _ (by omega)).trans a2
  replace a3 : E11 (b + 3) = some (mm_I G 8 (fun _ => 0)) := (frs _ (by omega)).trans a3
  replace a4 : E11 (b + 4) = some (mm_I G 100 (fun _ => 0)) := (frs _ (by omega)).trans a4
  replace a5 : E11 (b + 5) = some (mm_J G 8 (fun _ => 0)) := (frs _ (by omega)).trans a5
  replace hE : E11 b = some (.inr (9, [.ref (b + 1), .ref (b + 2), .ref (b + 3), .ref (b + 4), .int 0, .int 0, .long 0, .ref (b + 5), .null, .null, .null, .int 0, .int 0, .int 0, .int 0, .int 0, .null, .null, .null, .null])) := (frs _ (by omega)).trans hE
  replace hfr : ∀ q : Nat, q < b → E11 q = E0 q := fun q h => (frs q (by omega)).trans (hfr q h)
  have a6 : E11 (b + 6) = some (mm_I G 8 (fun _ => 0)) := by rw [hE11]; exact mm_up_s _ _ _
  refine mm_putF (v := .ref (b + 6)) (fs := [.ref (b + 1), .ref (b + 2), .ref (b + 3), .ref (b + 4), .int 0, .int 0, .long 0, .ref (b + 5), .null, .null, .null, .int 0, .int 0, .int 0, .int 0, .int 0, .null, .null, .null, .null]) C0 (C := RX10) (T := TX10) (N := 20) iG_X10 tyX10 tyX10_ok nmX10 hM hS hE rfl 8 (by decide) tw_924 rfl rfl hin rfl (ty := tyX10 8) (tyX10_ok 8 (by decide)) rfl rfl (Nat.le_of_ble_eq_true rfl) dX10_init_50 (fun H locs hM hS hsz => ?_)
  replace hz := hsz.trans hz
  clear hsz
  obtain ⟨E12, hE12⟩ : ∃ X : mE, X = mm_up E11 (b) (.inr (9, [.ref (b + 1), .ref (b + 2), .ref (b + 3), .ref (b + 4), .int 0, .int 0, .long 0, .ref (b + 5), .ref (b + 6), .null, .null, .int 0, .int 0, .int 0, .int 0, .int 0, .null, .null, .null, .null])) := ⟨_, rfl⟩
  replace hM : mm_M G E12 H := by rw [hE12]; exact hM
  have frs : ∀ q : Nat, q ≠ b → E12 q = E11 q := fun q h => by rw [hE12]; exact mm_up_n _ _ h
  replace hfr : ∀ q : Nat, q < b → E12 q = E0 q := fun q h => (frs q (by omega)).trans (hfr q h)
  replace hE : E12 b = some (.inr (9, [.ref (b + 1), .ref (b + 2), .ref (b + 3), .ref (b + 4), .int 0, .int 0, .long 0, .ref (b + 5), .ref (b + 6), .null, .null, .int 0, .int 0, .int 0, .int 0, .int 0, .null, .null, .null, .null])) := by rw [hE12]; exact mm_up_s _ _ _
  replace a1 : E12 (b + 1) = some (mm_I G 1280 (fun _ => 0)) := (frs _ (by omega)).trans a1
  replace a2 : E12 (b + 2) = some (mm_I G 8 (fun _ => 0)) := (frs _ (by omega)).trans a2
  replace a3 : E12 (b + 3) = some (mm_I G 8 (fun _ => 0)) := (frs _ (by omega)).trans a3
  replace a4 : E12 (b + 4) = some (mm_I G 100 (fun _ => 0)) := (frs _ (by omega)).trans a4
  replace a5 : E12 (b + 5) = some (mm_J G 8 (fun _ => 0)) := (frs _ (by omega)).trans a5
  replace a6 : E12 (b + 6) = some (mm_I G 8 (fun _ => 0)) := (frs _ (by omega)).trans a6
  refine lv_aload_n C0.1 C0.2.1 dX10_init_53 rfl (lv_at hl 0 rfl) ?_
  refine lv_bipush (v := zI 8) C0.1 C0.2.1 dX10_init_54 rfl ?_
  refine mm_newI (N := 8) C0 hM hS hz rfl (by decide) (Nat.le_of_ble_eq_true rfl) (Nat.le_of_ble_eq_true rfl) dX10_init_56 (fun H hM hS hz9 => ?_)
  replace hz := hz9
  clear hz9
  obtain ⟨E13, hE13⟩ : ∃ X : mE, X = mm_up E12 (b + 7) (mm_I G 8 (fun _ => 0)) := ⟨_, rfl⟩
  replace hM : mm_M G E13 H := by rw [hE13]; exact hM
  have frs : ∀ q : Nat, q ≠ b + 7 → E13 q = E12 q := fun q h => by rw [hE13]; exact mm_up_n _ _ h
  replace a1 : E13 (b + 1) = some (mm_I G 1280 (fun _ => 0)) := (frs _ (by omega)).trans a1
  replace a2 : E13 (b + 2) = some (mm_I G 8 (fun _ => 0)) := (frs _ (by omega)).trans a2
  replace a3 : E13 (b + 3) = some (mm_I G 8 (fun _ => 0)) := (frs _ (by omega)).trans a3
  replace a4 : E13 (b + 4) = some (mm_I G 100 (fun _ => 0)) := (frs _ (by omega)).trans a4
  replace a5 : E13 (b + 5) = some (mm_J G 8 (fun _ => 0)) := (frs _ (by omega)).trans a5
  replace a6 : E13 (b + 6) = some (mm_I G 8 (fun _ => 0)) := (frs _ (by omega)).trans a6
  replace hE : E13 b = some (.inr (9, [.ref (b + 1), .ref (b + 2), .ref (b + 3), .ref (b + 4), .int 0, .int 0, .long 0, .ref (b + 5), .ref (b + 6), .null, .null, .int 0, .int 0, .int 0, .int 0, .int 0, .null, .null, .null, .null])) := (frs _ (by omega)).trans hE
  replace hfr : ∀ q : Nat, q < b → E13 q = E0 q := fun q h => (frs q (by omega)).trans (hfr q h)
  have a7 : E13 (b + 7) = some (mm_I G 8 (fun _ => 0)) := by rw [hE13]; exact mm_up_s _ _ _
  refine mm_putF (v := .ref (b + 7)) (fs := [.ref (b + 1), .ref (b + 2), .ref (b + 3), .ref (b + 4), .int 0, .int 0, .long 0, .ref (b + 5), .ref (b + 6), .null, .null, .int 0, .int 0, .int 0, .int 0, .int 0, .null, .null, .null, .null]) C0 (C := RX10) (T := TX10) (N := 20) iG_X10 tyX10 tyX10_ok nmX10 hM hS hE rfl 9 (by decide) tw_925 rfl rfl hin rfl (ty := tyX10 9) (tyX10_ok 9 (by decide)) rfl rfl (Nat.le_of_ble_eq_true rfl) dX10_init_58 (fun H locs hM hS hsz => ?_)
  replace hz := hsz.trans hz
  clear hsz
  obtain ⟨E14, hE14⟩ : ∃ X : mE, X = mm_up E13 (b) (.inr (9, [.ref (b + 1), .ref (b + 2), .ref (b + 3), .ref (b + 4), .int 0, .int 0, .long 0, .ref (b + 5), .ref (b + 6), .ref (b + 7), .null, .int 0, .int 0, .int 0, .int 0, .int 0, .null, .null, .null, .null])) := ⟨_, rfl⟩
  replace hM : mm_M G E14 H := by rw [hE14]; exact hM
  have frs : ∀ q : Nat, q ≠ b → E14 q = E13 q := fun q h => by rw [hE14]; exact mm_up_n _ _ h
  replace hfr : ∀ q : Nat, q < b → E14 q = E0 q := fun q h => (frs q (by omega)).trans (hfr q h)
  replace hE : E14 b = some (.inr (9, [.ref (b + 1), .ref (b + 2), .ref (b + 3), .ref (b + 4), .int 0, .int 0, .long 0, .ref (b + 5), .ref (b + 6), .ref (b + 7), .null, .int 0, .int 0, .int 0, .int 0, .int 0, .null, .null, .null, .null])) := by rw [hE14]; exact mm_up_s _ _ _
  replace a1 : E14 (b + 1) = some (mm_I G 1280 (fun _ => 0)) := (frs _ (by omega)).trans a1
  replace a2 : E14 (b + 2) = some (mm_I G 8 (fun _ => 0)) := (frs _ (by omega)).trans a2
  replace a3 : E14 (b + 3) = some (mm_I G 8 (fun _ => 0)) := (frs _ (by omega)).trans a3
  replace a4 : E14 (b + 4) = some (mm_I G 100 (fun _ => 0)) := (frs _ (by omega)).trans a4
  replace a5 : E14 (b + 5) = some (mm_J G 8 (fun _ => 0)) := (frs _ (by omega)).trans a5
  replace a6 : E14 (b + 6) = some (mm_I G 8 (fun _ => 0)) := (frs _ (by omega)).trans a6
  replace a7 : E14 (b + 7) = some (mm_I G 8 (fun _ => 0)) := (frs _ (by omega)).trans a7
  refine lv_aload_n C0.1 C0.2.1 dX10_init_61 rfl (lv_at hl 0 rfl) ?_
  refine lv_bipush (v := zI 8) C0.1 C0.2.1 dX10_init_62 rfl ?_
  refine mm_newI (N := 8) C0 hM hS hz rfl (by decide) (Nat.le_of_ble_eq_true rfl) (Nat.le_of_ble_eq_true rfl) dX10_init_64 (fun H hM hS hz9 => ?_)
  replace hz := hz9
  clear hz9
  obtain ⟨E15, hE15⟩ : ∃ X : mE, X = mm_up E14 (b + 8) (mm_I G 8 (fun _ => 0)) := ⟨_, rfl⟩
  replace hM : mm_M G E15 H := by rw [hE15]; exact hM
  have frs : ∀ q : Nat, q ≠ b + 8 → E15 q = E14 q := fun q h => by rw [hE15]; exact mm_up_n _ _ h
  replace a1 : E15 (b + 1) = some (mm_I G 1280 (fun _ => 0)) := (frs _ (by omega)).trans a1
  replace a2 : E15 (b + 2) = some (mm_I G 8 (fun _ => 0)) := (frs _ (by omega)).trans a2
  replace a3 : E15 (b + 3) = some (mm_I G 8 (fun _ => 0)) := (frs _ (by omega)).trans a3
  replace a4 : E15 (b + 4) = some (mm_I G 100 (fun _ => 0)) := (frs _ (by omega)).trans a4
  replace a5 : E15 (b + 5) = some (mm_J G 8 (fun _ => 0)) := (frs _ (by omega)).trans a5
  replace a6 : E15 (b + 6) = some (mm_I G 8 (fun _ => 0)) := (frs _ (by omega)).trans a6
  replace a7 : E15 (b + 7) = some (mm_I G 8 (fun _ => 0)) := (frs _ (by omega)).trans a7
  replace hE : E15 b = some (.inr (9, [.ref (b + 1), .ref (b + 2), .ref (b + 3), .ref (b + 4), .int 0, .int 0, .long 0, .ref (b + 5), .ref (b + 6), .ref (b + 7), .null, .int 0, .int 0, .int 0, .int 0, .int 0, .null, .null, .null, .null])) := (frs _ (by omega)).trans hE
  replace hfr : ∀ q : Nat, q < b → E15 q = E0 q := fun q h => (frs q (by omega)).trans (hfr q h)
  have a8 : E15 (b + 8) = some (mm_I G 8 (fun _ => 0)) := by rw [hE15]; exact mm_up_s _ _ _
  refine mm_putF (v := .ref (b + 8)) (fs := [.ref (b + 1), .ref (b + 2), .ref (b + 3), .ref (b + 4), .int 0, .int 0, .long 0, .ref (b + 5), .ref (b + 6), .ref (b + 7), .null, .int 0, .int 0, .int 0, .int 0, .int 0, .null, .null, .null, .null]) C0 (C := RX10) (T := TX10) (N := 20) iG_X10 tyX10 tyX10_ok nmX10 hM hS hE rfl 10 (by decide) tw_926 rfl rfl hin rfl (ty := tyX10 10) (tyX10_ok 10 (by decide)) rfl rfl (Nat.le_of_ble_eq_true rfl) dX10_init_66 (fun H locs hM hS hsz => ?_)
  replace hz := hsz.trans hz
  clear hsz
  obtain ⟨E16, hE16⟩ : ∃ X : mE, X = mm_up E15 (b) (.inr (9, [.ref (b + 1), .ref (b + 2), .ref (b + 3), .ref (b + 4), .int 0, .int 0, .long 0, .ref (b + 5), .ref (b + 6), .ref (b + 7), .ref (b + 8), .int 0, .int 0, .int 0, .int 0, .int 0, .null, .null, .null, .null])) := ⟨_, rfl⟩
  replace hM : mm_M G E16 H := by rw [hE16]; exact hM
  have frs : ∀ q : Nat, q ≠ b → E16 q = E15 q := fun q h => by rw [hE16]; exact mm_up_n _ _ h
  replace hfr : ∀ q : Nat, q < b → E16 q = E0 q := fun q h => (frs q (by omega)).trans (hfr q h)
  replace hE : E16 b = some (.inr (9, [.ref (b + 1), .ref (b + 2), .ref (b + 3), .ref (b + 4), .int 0, .int 0, .long 0, .ref (b + 5), .ref (b + 6), .ref (b + 7), .ref (b + 8), .int 0, .int 0, .int 0, .int 0, .int 0, .null, .null, .null, .null])) := by rw [hE16]; exact mm_up_s _ _ _
  replace a1 : E16 (b + 1) = some (mm_I G 1280 (fun _ => 0)) := (frs _ (by omega)).trans a1
  replace a2 : E16 (b + 2) = some (mm_I G 8 (fun _ => 0)) := (frs _ (by omega)).trans a2
  replace a3 : E16 (b + 3) = some (mm_I G 8 (fun _ => 0)) := (frs _ (by omega)).trans a3
  replace a4 : E16 (b + 4) = some (mm_I G 100 (fun _ => 0)) := (frs _ (by omega)).trans a4
  replace a5 : E16 (b + 5) = some (mm_J G 8 (fun _ => 0)) := (frs _ (by omega)).trans a5
  replace a6 : E16 (b + 6) = some (mm_I G 8 (fun _ => 0)) := (frs _ (by omega)).trans a6
  replace a7 : E16 (b + 7) = some (mm_I G 8 (fun _ => 0)) := (frs _ (by omega)).trans a7
  replace a8 : E16 (b + 8) = some (mm_I G 8 (fun _ => 0)) := (frs _ (by omega)).trans a8
  refine lv_aload_n C0.1 C0.2.1 dX10_init_69 rfl (lv_at hl 0 rfl) ?_
  refine lv_sipush (v := zI 656) C0.1 C0.2.1 dX10_init_70 rfl ?_
  refine mm_newI (N := 656) C0 hM hS hz rfl (by decide) (Nat.le_of_ble_eq_true rfl) (Nat.le_of_ble_eq_true rfl) dX10_init_73 (fun H hM hS hz9 => ?_)
  replace hz := hz9
  clear hz9
  obtain ⟨E17, hE17⟩ : ∃ X : mE, X = mm_up E16 (b + 9) (mm_I G 656 (fun _ => 0)) := ⟨_, rfl⟩
  replace hM : mm_M G E17 H := by rw [hE17]; exact hM
  have frs : ∀ q : Nat, q ≠ b + 9 → E17 q = E16 q := fun q h => by rw [hE17]; exact mm_up_n _ _ h
  replace a1 : E17 (b + 1) = some (mm_I G 1280 (fun _ => 0)) := (frs _ (by omega)).trans a1
  replace a2 : E17 (b + 2) = some (mm_I G 8 (fun _ => 0)) := (frs _ (by omega)).trans a2
  replace a3 : E17 (b + 3) = some (mm_I G 8 (fun _ => 0)) := (frs _ (by omega)).trans a3
  replace a4 : E17 (b + 4) = some (mm_I G 100 (fun _ => 0)) := (frs _ (by omega)).trans a4
  replace a5 : E17 (b + 5) = some (mm_J G 8 (fun _ => 0)) := (frs _ (by omega)).trans a5
  replace a6 : E17 (b + 6) = some (mm_I G 8 (fun _ => 0)) := (frs _ (by omega)).trans a6
  replace a7 : E17 (b + 7) = some (mm_I G 8 (fun _ => 0)) := (frs _ (by omega)).trans a7
  replace a8 : E17 (b + 8) = some (mm_I G 8 (fun _ => 0)) := (frs _ (by omega)).trans a8
  replace hE : E17 b = some (.inr (9, [.ref (b + 1), .ref (b + 2), .ref (b + 3), .ref (b + 4), .int 0, .int 0, .long 0, .ref (b + 5), .ref (b + 6), .ref (b + 7), .ref (b + 8), .int 0, .int 0, .int 0, .int 0, .int 0, .null, .null, .null, .null])) := (frs _ (by omega)).trans hE
  replace hfr : ∀ q : Nat, q < b → E17 q = E0 q := fun q h => (frs q (by omega)).trans (hfr q h)
  have a9 : E17 (b + 9) = some (mm_I G 656 (fun _ => 0)) := by rw [hE17]; exact mm_up_s _ _ _
  refine mm_putF (v := .ref (b + 9)) (fs := [.ref (b + 1), .ref (b + 2), .ref (b + 3), .ref (b + 4), .int 0, .int 0, .long 0, .ref (b + 5), .ref (b + 6), .ref (b + 7), .ref (b + 8), .int 0, .int 0, .int 0, .int 0, .int 0, .null, .null, .null, .null]) C0 (C := RX10) (T := TX10) (N := 20) iG_X10 tyX10 tyX10_ok nmX10 hM hS hE rfl 16 (by decide) tw_932 rfl rfl hin rfl (ty := tyX10 16) (tyX10_ok 16 (by decide)) rfl rfl (Nat.le_of_ble_eq_true rfl) dX10_init_75 (fun H locs hM hS hsz => ?_)
  replace hz := hsz.trans hz
  clear hsz
  obtain ⟨E18, hE18⟩ : ∃ X : mE, X = mm_up E17 (b) (.inr (9, [.ref (b + 1), .ref (b + 2), .ref (b + 3), .ref (b + 4), .int 0, .int 0, .long 0, .ref (b + 5), .ref (b + 6), .ref (b + 7), .ref (b + 8), .int 0, .int 0, .int 0, .int 0, .int 0, .ref (b + 9), .null, .null, .null])) := ⟨_, rfl⟩
  replace hM : mm_M G E18 H := by rw [hE18]; exact hM
  have frs : ∀ q : Nat, q ≠ b → E18 q = E17 q := fun q h => by rw [hE18]; exact mm_up_n _ _ h
  replace hfr : ∀ q : Nat, q < b → E18 q = E0 q := fun q h => (frs q (by omega)).trans (hfr q h)
  replace hE : E18 b = some (.inr (9, [.ref (b + 1), .ref (b + 2), .ref (b + 3), .ref (b + 4), .int 0, .int 0, .long 0, .ref (b + 5), .ref (b + 6), .ref (b + 7), .ref (b + 8), .int 0, .int 0, .int 0, .int 0, .int 0, .ref (b + 9), .null, .null, .null])) := by rw [hE18]; exact mm_up_s _ _ _
  replace a1 : E18 (b + 1) = some (mm_I G 1280 (fun _ => 0)) := (frs _ (by omega)).trans a1
  replace a2 : E18 (b + 2) = some (mm_I G 8 (fun _ => 0)) := (frs _ (by omega)).trans a2
  replace a3 : E18 (b + 3) = some (mm_I G 8 (fun _ => 0)) := (frs _ (by omega)).trans a3
  replace a4 : E18 (b + 4) = some (mm_I G 100 (fun _ => 0)) := (frs _ (by omega)).trans a4
  replace a5 : E18 (b + 5) = some (mm_J G 8 (fun _ => 0)) := (frs _ (by omega)).trans a5
  replace a6 : E18 (b + 6) = some (mm_I G 8 (fun _ => 0)) := (frs _ (by omega)).trans a6
  replace a7 : E18 (b + 7) = some (mm_I G 8 (fun _ => 0)) := (frs _ (by omega)).trans a7
  replace a8 : E18 (b + 8) = some (mm_I G 8 (fun _ => 0)) := (frs _ (by omega)).trans a8
  replace a9 : E18 (b + 9) = some (mm_I G 656 (fun _ => 0)) := (frs _ (by omega)).trans a9
  refine lv_aload_n C0.1 C0.2.1 dX10_init_78 rfl (lv_at hl 0 rfl) ?_
  refine lv_iconst (v := zI 4) C0.1 C0.2.1 dX10_init_79 rfl ?_
  refine mm_newI (N := 4) C0 hM hS hz rfl (by decide) (Nat.le_of_ble_eq_true rfl) (Nat.le_of_ble_eq_true rfl) dX10_init_80 (fun H hM hS hz9 => ?_)
  replace hz := hz9
  clear hz9
  obtain ⟨E19, hE19⟩ : ∃ X : mE, X = mm_up E18 (b + 10) (mm_I G 4 (fun _ => 0)) := ⟨_, rfl⟩
  replace hM : mm_M G E19 H := by rw [hE19]; exact hM
  have frs : ∀ q : Nat, q ≠ b + 10 → E19 q = E18 q := fun q h => by rw [hE19]; exact mm_up_n _ _ h
  replace a1 : E19 (b + 1) = some (mm_I G 1280 (fun _ => 0)) := (frs _ (by omega)).trans a1
  replace a2 : E19 (b + 2) = some (mm_I G 8 (fun _ => 0)) := (frs _ (by omega)).trans a2
  replace a3 : E19 (b + 3) = some (mm_I G 8 (fun _ => 0)) := (frs _ (by omega)).trans a3
  replace a4 : E19 (b + 4) = some (mm_I G 100 (fun _ => 0)) := (frs _ (by omega)).trans a4
  replace a5 : E19 (b + 5) = some (mm_J G 8 (fun _ => 0)) := (frs _ (by omega)).trans a5
  replace a6 : E19 (b + 6) = some (mm_I G 8 (fun _ => 0)) := (frs _ (by omega)).trans a6
  replace a7 : E19 (b + 7) = some (mm_I G 8 (fun _ => 0)) := (frs _ (by omega)).trans a7
  replace a8 : E19 (b + 8) = some (mm_I G 8 (fun _ => 0)) := (frs _ (by omega)).trans a8
  replace a9 : E19 (b + 9) = some (mm_I G 656 (fun _ => 0)) := (frs _ (by omega)).trans a9
  replace hE : E19 b = some (.inr (9, [.ref (b + 1), .ref (b + 2), .ref (b + 3), .ref (b + 4), .int 0, .int 0, .long 0, .ref (b + 5), .ref (b + 6), .ref (b + 7), .ref (b + 8), .int 0, .int 0, .int 0, .int 0, .int 0, .ref (b + 9), .null, .null, .null])) := (frs _ (by omega)).trans hE
  replace hfr : ∀ q : Nat, q < b → E19 q = E0 q := fun q h => (frs q (by omega)).trans (hfr q h)
  have a10 : E19 (b + 10) = some (mm_I G 4 (fun _ => 0)) := by rw [hE19]; exact mm_up_s _ _ _
  refine mm_putF (v := .ref (b + 10)) (fs := [.ref (b + 1), .ref (b + 2), .ref (b + 3), .ref (b + 4), .int 0, .int 0, .long 0, .ref (b + 5), .ref (b + 6), .ref (b + 7), .ref (b + 8), .int 0, .int 0, .int 0, .int 0, .int 0, .ref (b + 9), .null, .null, .null]) C0 (C := RX10) (T := TX10) (N := 20) iG_X10 tyX10 tyX10_ok nmX10 hM hS hE rfl 17 (by decide) tw_933 rfl rfl hin rfl (ty := tyX10 17) (tyX10_ok 17 (by decide)) rfl rfl (Nat.le_of_ble_eq_true rfl) dX10_init_82 (fun H locs hM hS hsz => ?_)
  replace hz := hsz.trans hz
  clear hsz
  obtain ⟨E20, hE20⟩ : ∃ X : mE, X = mm_up E19 (b) (.inr (9, [.ref (b + 1), .ref (b + 2), .ref (b + 3), .ref (b + 4), .int 0, .int 0, .long 0, .ref (b + 5), .ref (b + 6), .ref (b + 7), .ref (b + 8), .int 0, .int 0, .int 0, .int 0, .int 0, .ref (b + 9), .ref (b + 10), .null, .null])) := ⟨_, rfl⟩
  replace hM : mm_M G E20 H := by rw [hE20]; exact hM
  have frs : ∀ q : Nat, q ≠ b → E20 q = E19 q := fun q h => by rw [hE20]; exact mm_up_n _ _ h
  replace hfr : ∀ q : Nat, q < b → E20 q = E0 q := fun q h => (frs q (by omega)).trans (hfr q h)
  replace hE : E20 b = some (.inr (9, [.ref (b + 1), .ref (b + 2), .ref (b + 3), .ref (b + 4), .int 0, .int 0, .long 0, .ref (b + 5), .ref (b + 6), .ref (b + 7), .ref (b + 8), .int 0, .int 0, .int 0, .int 0, .int 0, .ref (b + 9), .ref (b + 10), .null, .null])) := by rw [hE20]; exact mm_up_s _ _ _
  replace a1 : E20 (b + 1) = some (mm_I G 1280 (fun _ => 0)) := (frs _ (by omega)).trans a1
  replace a2 : E20 (b + 2) = some (mm_I G 8 (fun _ => 0)) := (frs _ (by omega)).trans a2
  replace a3 : E20 (b + 3) = some (mm_I G 8 (fun _ => 0)) := (frs _ (by omega)).trans a3
  replace a4 : E20 (b + 4) = some (mm_I G 100 (fun _ => 0)) := (frs _ (by omega)).trans a4
  replace a5 : E20 (b + 5) = some (mm_J G 8 (fun _ => 0)) := (frs _ (by omega)).trans a5
  replace a6 : E20 (b + 6) = some (mm_I G 8 (fun _ => 0)) := (frs _ (by omega)).trans a6
  replace a7 : E20 (b + 7) = some (mm_I G 8 (fun _ => 0)) := (frs _ (by omega)).trans a7
  replace a8 : E20 (b + 8) = some (mm_I G 8 (fun _ => 0)) := (frs _ (by omega)).trans a8
  replace a9 : E20 (b + 9) = some (mm_I G 656 (fun _ => 0)) := (frs _ (by omega)).trans a9
  replace a10 : E20 (b + 10) = some (mm_I G 4 (fun _ => 0)) := (frs _ (by omega)).trans a10
  refine lv_aload_n C0.1 C0.2.1 dX10_init_85 rfl (lv_at hl 0 rfl) ?_
  refine lv_iconst (v := zI 4) C0.1 C0.2.1 dX10_init_86 rfl ?_
  refine mm_newI (N := 4) C0 hM hS hz rfl (by decide) (Nat.le_of_ble_eq_true rfl) (Nat.le_of_ble_eq_true rfl) dX10_init_87 (fun H hM hS hz9 => ?_)
  replace hz := hz9
  clear hz9
  obtain ⟨E21, hE21⟩ : ∃ X : mE, X = mm_up E20 (b + 11) (mm_I G 4 (fun _ => 0)) := ⟨_, rfl⟩
  replace hM : mm_M G E21 H := by rw [hE21]; exact hM
  have frs : ∀ q : Nat, q ≠ b + 11 → E21 q = E20 q := fun q h => by rw [hE21]; exact mm_up_n _ _ h
  replace a1 : E21 (b + 1) = some (mm_I G 1280 (fun _ => 0)) := (frs _ (by omega)).trans a1
  replace a2 : E21 (b + 2) = some (mm_I G 8 (fun _ => 0)) := (frs _ (by omega)).trans a2
  replace a3 : E21 (b + 3) = some (mm_I G 8 (fun _ => 0)) := (frs _ (by omega)).trans a3
  replace a4 : E21 (b + 4) = some (mm_I G 100 (fun _ => 0)) := (frs _ (by omega)).trans a4
  replace a5 : E21 (b + 5) = some (mm_J G 8 (fun _ => 0)) := (frs _ (by omega)).trans a5
  replace a6 : E21 (b + 6) = some (mm_I G 8 (fun _ => 0)) := (frs _ (by omega)).trans a6
  replace a7 : E21 (b + 7) = some (mm_I G 8 (fun _ => 0)) := (frs _ (by omega)).trans a7
  replace a8 : E21 (b + 8) = some (mm_I G 8 (fun _ => 0)) := (frs _ (by omega)).trans a8
  replace a9 : E21 (b + 9) = some (mm_I G 656 (fun _ => 0)) := (frs _ (by omega)).trans a9
  replace a10 : E21 (b + 10) = some (mm_I G 4 (fun _ => 0)) := (frs _ (by omega)).trans a10
  replace hE : E21 b = some (.inr (9, [.ref (b + 1), .ref (b + 2), .ref (b + 3), .ref (b + 4), .int 0, .int 0, .long 0, .ref (b + 5), .ref (b + 6), .ref (b + 7), .ref (b + 8), .int 0, .int 0, .int 0, .int 0, .int 0, .ref (b + 9), .ref (b + 10), .null, .null])) := (frs _ (by omega)).trans hE
  replace hfr : ∀ q : Nat, q < b → E21 q = E0 q := fun q h => (frs q (by omega)).trans (hfr q h)
  have a11 : E21 (b + 11) = some (mm_I G 4 (fun _ => 0)) := by rw [hE21]; exact mm_up_s _ _ _
  refine mm_putF (v := .ref (b + 11)) (fs := [.ref (b + 1), .ref (b + 2), .ref (b + 3), .ref (b + 4), .int 0, .int 0, .long 0, .ref (b + 5), .ref (b + 6), .ref (b + 7), .ref (b + 8), .int 0, .int 0, .int 0, .int 0, .int 0, .ref (b + 9), .ref (b + 10), .null, .null]) C0 (C := RX10) (T := TX10) (N := 20) iG_X10 tyX10 tyX10_ok nmX10 hM hS hE rfl 18 (by decide) tw_934 rfl rfl hin rfl (ty := tyX10 18) (tyX10_ok 18 (by decide)) rfl rfl (Nat.le_of_ble_eq_true rfl) dX10_init_89 (fun H locs hM hS hsz => ?_)
  replace hz := hsz.trans hz
  clear hsz
  obtain ⟨E22, hE22⟩ : ∃ X : mE, X = mm_up E21 (b) (.inr (9, [.ref (b + 1), .ref (b + 2), .ref (b + 3), .ref (b + 4), .int 0, .int 0, .long 0, .ref (b + 5), .ref (b + 6), .ref (b + 7), .ref (b + 8), .int 0, .int 0, .int 0, .int 0, .int 0, .ref (b + 9), .ref (b + 10), .ref (b + 11), .null])) := ⟨_, rfl⟩
  replace hM : mm_M G E22 H := by rw [hE22]; exact hM
  have frs : ∀ q : Nat, q ≠ b → E22 q = E21 q := fun q h => by rw [hE22]; exact mm_up_n _ _ h
  replace hfr : ∀ q : Nat, q < b → E22 q = E0 q := fun q h => (frs q (by omega)).trans (hfr q h)
  replace hE : E22 b = some (.inr (9, [.ref (b + 1), .ref (b + 2), .ref (b + 3), .ref (b + 4), .int 0, .int 0, .long 0, .ref (b + 5), .ref (b + 6), .ref (b + 7), .ref (b + 8), .int 0, .int 0, .int 0, .int 0, .int 0, .ref (b + 9), .ref (b + 10), .ref (b + 11), .null])) := by rw [hE22]; exact mm_up_s _ _ _
  replace a1 : E22 (b + 1) = some (mm_I G 1280 (fun _ => 0)) := (frs _ (by omega)).trans a1
  replace a2 : E22 (b + 2) = some (mm_I G 8 (fun _ => 0)) := (frs _ (by omega)).trans a2
  replace a3 : E22 (b + 3) = some (mm_I G 8 (fun _ => 0)) := (frs _ (by omega)).trans a3
  replace a4 : E22 (b + 4) = some (mm_I G 100 (fun _ => 0)) := (frs _ (by omega)).trans a4
  replace a5 : E22 (b + 5) = some (mm_J G 8 (fun _ => 0)) := (frs _ (by omega)).trans a5
  replace a6 : E22 (b + 6) = some (mm_I G 8 (fun _ => 0)) := (frs _ (by omega)).trans a6
  replace a7 : E22 (b + 7) = some (mm_I G 8 (fun _ => 0)) := (frs _ (by omega)).trans a7
  replace a8 : E22 (b + 8) = some (mm_I G 8 (fun _ => 0)) := (frs _ (by omega)).trans a8
  replace a9 : E22 (b + 9) = some (mm_I G 656 (fun _ => 0)) := (frs _ (by omega)).trans a9
  replace a10 : E22 (b + 10) = some (mm_I G 4 (fun _ => 0)) := (frs _ (by omega)).trans a10
  replace a11 : E22 (b + 11) = some (mm_I G 4 (fun _ => 0)) := (frs _ (by omega)).trans a11
  refine lv_aload_n C0.1 C0.2.1 dX10_init_92 rfl (lv_at hl 0 rfl) ?_
  refine lv_bipush (v := zI 96) C0.1 C0.2.1 dX10_init_93 rfl ?_
  refine mm_newJ (N := 96) C0 hM hS hz rfl (by decide) (Nat.le_of_ble_eq_true rfl) (Nat.le_of_ble_eq_true rfl) dX10_init_95 (fun H hM hS hz9 => ?_)
  replace hz := hz9
  clear hz9
  obtain ⟨E23, hE23⟩ : ∃ X : mE, X = mm_up E22 (b + 12) (mm_J G 96 (fun _ => 0)) := ⟨_, rfl⟩
  replace hM : mm_M G E23 H := by rw [hE23]; exact hM
  have frs : ∀ q : Nat, q ≠ b + 12 → E23 q = E22 q := fun q h => by rw [hE23]; exact mm_up_n _ _ h
  replace a1 : E23 (b + 1) = some (mm_I G 1280 (fun _ => 0)) := (frs _ (by omega)).trans a1
  replace a2 : E23 (b + 2) = some (mm_I G 8 (fun _ => 0)) := (frs _ (by omega)).trans a2
  replace a3 : E23 (b + 3) = some (mm_I G 8 (fun _ => 0)) := (frs _ (by omega)).trans a3
  replace a4 : E23 (b + 4) = some (mm_I G 100 (fun _ => 0)) := (frs _ (by omega)).trans a4
  replace a5 : E23 (b + 5) = some (mm_J G 8 (fun _ => 0)) := (frs _ (by omega)).trans a5
  replace a6 : E23 (b + 6) = some (mm_I G 8 (fun _ => 0)) := (frs _ (by omega)).trans a6
  replace a7 : E23 (b + 7) = some (mm_I G 8 (fun _ => 0)) := (frs _ (by omega)).trans a7
  replace a8 : E23 (b + 8) = some (mm_I G 8 (fun _ => 0)) := (frs _ (by omega)).trans a8
  replace a9 : E23 (b + 9) = some (mm_I G 656 (fun _ => 0)) := (frs _ (by omega)).trans a9
  replace a10 : E23 (b + 10) = some (mm_I G 4 (fun _ => 0)) := (frs _ (by omega)).trans a10
  replace a11 : E23 (b + 11) = some (mm_I G 4 (fun _ => 0)) := (frs _ (by omega)).trans a11
  replace hE : E23 b = some (.inr (9, [.ref (b + 1), .ref (b + 2), .ref (b + 3), .ref (b + 4), .int 0, .int 0, .long 0, .ref (b + 5), .ref (b + 6), .ref (b + 7), .ref (b + 8), .int 0, .int 0, .int 0, .int 0, .int 0, .ref (b + 9), .ref (b + 10), .ref (b + 11), .null])) := (frs _ (by omega)).trans hE
  replace hfr : ∀ q : Nat, q < b → E23 q = E0 q := fun q h => (frs q (by omega)).trans (hfr q h)
  have a12 : E23 (b + 12) = some (mm_J G 96 (fun _ => 0)) := by rw [hE23]; exact mm_up_s _ _ _
  refine mm_putF (v := .ref (b + 12)) (fs := [.ref (b + 1), .ref (b + 2), .ref (b + 3), .ref (b + 4), .int 0, .int 0, .long 0, .ref (b + 5), .ref (b + 6), .ref (b + 7), .ref (b + 8), .int 0, .int 0, .int 0, .int 0, .int 0, .ref (b + 9), .ref (b + 10), .ref (b + 11), .null]) C0 (C := RX10) (T := TX10) (N := 20) iG_X10 tyX10 tyX10_ok nmX10 hM hS hE rfl 19 (by decide) tw_935 rfl rfl hin rfl (ty := tyX10 19) (tyX10_ok 19 (by decide)) rfl rfl (Nat.le_of_ble_eq_true rfl) dX10_init_97 (fun H locs hM hS hsz => ?_)
  replace hz := hsz.trans hz
  clear hsz
  obtain ⟨E24, hE24⟩ : ∃ X : mE, X = mm_up E23 (b) (.inr (9, [.ref (b + 1), .ref (b + 2), .ref (b + 3), .ref (b + 4), .int 0, .int 0, .long 0, .ref (b + 5), .ref (b + 6), .ref (b + 7), .ref (b + 8), .int 0, .int 0, .int 0, .int 0, .int 0, .ref (b + 9), .ref (b + 10), .ref (b + 11), .ref (b + 12)])) := ⟨_, rfl⟩
  replace hM : mm_M G E24 H := by rw [hE24]; exact hM
  have frs : ∀ q : Nat, q ≠ b → E24 q = E23 q := fun q h => by rw [hE24]; exact mm_up_n _ _ h
  replace hfr : ∀ q : Nat, q < b → E24 q = E0 q := fun q h => (frs q (by omega)).trans (hfr q h)
  replace hE : E24 b = some (.inr (9, [.ref (b + 1), .ref (b + 2), .ref (b + 3), .ref (b + 4), .int 0, .int 0, .long 0, .ref (b + 5), .ref (b + 6), .ref (b + 7), .ref (b + 8), .int 0, .int 0, .int 0, .int 0, .int 0, .ref (b + 9), .ref (b + 10), .ref (b + 11), .ref (b + 12)])) := by rw [hE24]; exact mm_up_s _ _ _
  replace a1 : E24 (b + 1) = some (mm_I G 1280 (fun _ => 0)) := (frs _ (by omega)).trans a1
  replace a2 : E24 (b + 2) = some (mm_I G 8 (fun _ => 0)) := (frs _ (by omega)).trans a2
  replace a3 : E24 (b + 3) = some (mm_I G 8 (fun _ => 0)) := (frs _ (by omega)).trans a3
  replace a4 : E24 (b + 4) = some (mm_I G 100 (fun _ => 0)) := (frs _ (by omega)).trans a4
  replace a5 : E24 (b + 5) = some (mm_J G 8 (fun _ => 0)) := (frs _ (by omega)).trans a5
  replace a6 : E24 (b + 6) = some (mm_I G 8 (fun _ => 0)) := (frs _ (by omega)).trans a6
  replace a7 : E24 (b + 7) = some (mm_I G 8 (fun _ => 0)) := (frs _ (by omega)).trans a7
  replace a8 : E24 (b + 8) = some (mm_I G 8 (fun _ => 0)) := (frs _ (by omega)).trans a8
  replace a9 : E24 (b + 9) = some (mm_I G 656 (fun _ => 0)) := (frs _ (by omega)).trans a9
  replace a10 : E24 (b + 10) = some (mm_I G 4 (fun _ => 0)) := (frs _ (by omega)).trans a10
  replace a11 : E24 (b + 11) = some (mm_I G 4 (fun _ => 0)) := (frs _ (by omega)).trans a11
  replace a12 : E24 (b + 12) = some (mm_J G 96 (fun _ => 0)) := (frs _ (by omega)).trans a12
  refine lv_iconst (v := zI 0) C0.1 C0.2.1 dX10_init_100 rfl ?_
  refine lv_istore_n (lv' := [(1, .int (zI (0))), (0, .ref (b))]) C0.1 C0.2.1 dX10_init_101 rfl hl (by decide) rfl (fun ls hl => ?_)
  refine lv_iload_n C0.1 C0.2.1 dX10_init_102 rfl (lv_at hl 0 rfl) ?_
  refine lv_iconst (v := zI 4) C0.1 C0.2.1 dX10_init_103 rfl ?_
  refine z_icmp_ge (tgt := 120) C0.1 C0.2.1 dX10_init_104 (by decide) ⟨by omega, by omega⟩ ⟨by omega, by omega⟩ (fun c_5 => absurd c_5 (by decide)) (fun c_5 => ?_)
  refine lv_aload_n C0.1 C0.2.1 dX10_init_107 rfl (lv_at hl 1 rfl) ?_
  refine mm_get (fs := [.ref (b + 1), .ref (b + 2), .ref (b + 3), .ref (b + 4), .int 0, .int 0, .long 0, .ref (b + 5), .ref (b + 6), .ref (b + 7), .ref (b + 8), .int 0, .int 0, .int 0, .int 0, .int 0, .ref (b + 9), .ref (b + 10), .ref (b + 11), .ref (b + 12)]) C0 (C := RX10) (T := TX10) (N := 20) iG_X10 hM hE rfl 17 (by decide) tw_933 rfl rfl dX10_init_108 ?_
  refine lv_iload_n C0.1 C0.2.1 dX10_init_111 rfl (lv_at hl 0 rfl) ?_
  refine lv_iconst (v := zI (-1)) C0.1 C0.2.1 dX10_init_112 rfl ?_
  refine mm_iast C0 hM hS (g := (fun _ => 0)) a10 0 (i := 0) (x := -1) (by omega) (by omega) (by decide) dX10_init_113 (fun H locs hM hS hsz => ?_)
  replace hz := hsz.trans hz
  clear hsz
  obtain ⟨E25, hE25⟩ : ∃ X : mE, X = mm_up E24 (b + 10) (mm_I G 4 (zup (fun _ => 0) 0 (-1))) := ⟨_, rfl⟩
  replace hM : mm_M G E25 H := by rw [hE25]; exact hM
  have frs : ∀ q : Nat, q ≠ b + 10 → E25 q = E24 q := fun q h => by rw [hE25]; exact mm_up_n _ _ h
  replace a1 : E25 (b + 1) = some (mm_I G 1280 (fun _ => 0)) := (frs _ (by omega)).trans a1
  replace a2 : E25 (b + 2) = some (mm_I G 8 (fun _ => 0)) := (frs _ (by omega)).trans a2
  replace a3 : E25 (b + 3) = some (mm_I G 8 (fun _ => 0)) := (frs _ (by omega)).trans a3
  replace a4 : E25 (b + 4) = some (mm_I G 100 (fun _ => 0)) := (frs _ (by omega)).trans a4
  replace a5 : E25 (b + 5) = some (mm_J G 8 (fun _ => 0)) := (frs _ (by omega)).trans a5
  replace a6 : E25 (b + 6) = some (mm_I G 8 (fun _ => 0)) := (frs _ (by omega)).trans a6
  replace a7 : E25 (b + 7) = some (mm_I G 8 (fun _ => 0)) := (frs _ (by omega)).trans a7
  replace a8 : E25 (b + 8) = some (mm_I G 8 (fun _ => 0)) := (frs _ (by omega)).trans a8
  replace a9 : E25 (b + 9) = some (mm_I G 656 (fun _ => 0)) := (frs _ (by omega)).trans a9
  replace a11 : E25 (b + 11) = some (mm_I G 4 (fun _ => 0)) := (frs _ (by omega)).trans a11
  replace a12 : E25 (b + 12) = some (mm_J G 96 (fun _ => 0)) := (frs _ (by omega)).trans a12
  replace hE : E25 b = some (.inr (9, [.ref (b + 1), .ref (b + 2), .ref (b + 3), .ref (b + 4), .int 0, .int 0, .long 0, .ref (b + 5), .ref (b + 6), .ref (b + 7), .ref (b + 8), .int 0, .int 0, .int 0, .int 0, .int 0, .ref (b + 9), .ref (b + 10), .ref (b + 11), .ref (b + 12)])) := (frs _ (by omega)).trans hE
  replace hfr : ∀ q : Nat, q < b → E25 q = E0 q := fun q h => (frs q (by omega)).trans (hfr q h)
  replace a10 : E25 (b + 10) = some (mm_I G 4 (zup (fun _ => 0) 0 (-1))) := by rw [hE25]; exact mm_up_s _ _ _
  refine lv_iinc (v := zI (1)) (lv' := [(1, .int (zI (1))), (0, .ref (b))]) C0.1 C0.2.1 dX10_init_114 hl (k := 0) rfl (z_inc (a := 0) (n := 1) (by omega)) (by decide) rfl (fun ls hl => ?_)
  refine lv_goto (tgt := 102) C0.1 C0.2.1 dX10_init_117 (by decide) ?_
  refine lv_iload_n C0.1 C0.2.1 dX10_init_102 rfl (lv_at hl 0 rfl) ?_
  refine lv_iconst (v := zI 4) C0.1 C0.2.1 dX10_init_103 rfl ?_
  refine z_icmp_ge (tgt := 120) C0.1 C0.2.1 dX10_init_104 (by decide) ⟨by omega, by omega⟩ ⟨by omega, by omega⟩ (fun c_5 => absurd c_5 (by decide)) (fun c_5 => ?_)
  refine lv_aload_n C0.1 C0.2.1 dX10_init_107 rfl (lv_at hl 1 rfl) ?_
  refine mm_get (fs := [.ref (b + 1), .ref (b + 2), .ref (b + 3), .ref (b + 4), .int 0, .int 0, .long 0, .ref (b + 5), .ref (b + 6), .ref (b + 7), .ref (b + 8), .int 0, .int 0, .int 0, .int 0, .int 0, .ref (b + 9), .ref (b + 10), .ref (b + 11), .ref (b + 12)]) C0 (C := RX10) (T := TX10) (N := 20) iG_X10 hM hE rfl 17 (by decide) tw_933 rfl rfl dX10_init_108 ?_
  refine lv_iload_n C0.1 C0.2.1 dX10_init_111 rfl (lv_at hl 0 rfl) ?_
  refine lv_iconst (v := zI (-1)) C0.1 C0.2.1 dX10_init_112 rfl ?_
  refine mm_iast C0 hM hS (g := (zup (fun _ => 0) 0 (-1))) a10 1 (i := 1) (x := -1) (by omega) (by omega) (by decide) dX10_init_113 (fun H locs hM hS hsz => ?_)
  replace hz := hsz.trans hz
  clear hsz
  obtain ⟨E26, hE26⟩ : ∃ X : mE, X = mm_up E25 (b + 10) (mm_I G 4 (zup (zup (fun _ => 0) 0 (-1)) 1 (-1))) := ⟨_, rfl⟩
  replace hM : mm_M G E26 H := by rw [hE26]; exact hM
  have frs : ∀ q : Nat, q ≠ b + 10 → E26 q = E25 q := fun q h => by rw [hE26]; exact mm_up_n _ _ h
  replace a1 : E26 (b + 1) = some (mm_I G 1280 (fun _ => 0)) := (frs _ (by omega)).trans a1
  replace a2 : E26 (b + 2) = some (mm_I G 8 (fun _ => 0)) := (frs _ (by omega)).trans a2
  replace a3 : E26 (b + 3) = some (mm_I G 8 (fun _ => 0)) := (frs _ (by omega)).trans a3
  replace a4 : E26 (b + 4) = some (mm_I G 100 (fun _ => 0)) := (frs _ (by omega)).trans a4
  replace a5 : E26 (b + 5) = some (mm_J G 8 (fun _ => 0)) := (frs _ (by omega)).trans a5
  replace a6 : E26 (b + 6) = some (mm_I G 8 (fun _ => 0)) := (frs _ (by omega)).trans a6
  replace a7 : E26 (b + 7) = some (mm_I G 8 (fun _ => 0)) := (frs _ (by omega)).trans a7
  replace a8 : E26 (b + 8) = some (mm_I G 8 (fun _ => 0)) := (frs _ (by omega)).trans a8
  replace a9 : E26 (b + 9) = some (mm_I G 656 (fun _ => 0)) := (frs _ (by omega)).trans a9
  replace a11 : E26 (b + 11) = some (mm_I G 4 (fun _ => 0)) := (frs _ (by omega)).trans a11
  replace a12 : E26 (b + 12) = some (mm_J G 96 (fun _ => 0)) := (frs _ (by omega)).trans a12
  replace hE : E26 b = some (.inr (9, [.ref (b + 1), .ref (b + 2), .ref (b + 3), .ref (b + 4), .int 0, .int 0, .long 0, .ref (b + 5), .ref (b + 6), .ref (b + 7), .ref (b + 8), .int 0, .int 0, .int 0, .int 0, .int 0, .ref (b + 9), .ref (b + 10), .ref (b + 11), .ref (b + 12)])) := (frs _ (by omega)).trans hE
  replace hfr : ∀ q : Nat, q < b → E26 q = E0 q := fun q h => (frs q (by omega)).trans (hfr q h)
  replace a10 : E26 (b + 10) = some (mm_I G 4 (zup (zup (fun _ => 0) 0 (-1)) 1 (-1))) := by rw [hE26]; exact mm_up_s _ _ _
  refine lv_iinc (v := zI (2)) (lv' := [(1, .int (zI (2))), (0, .ref (b))]) C0.1 C0.2.1 dX10_init_114 hl (k := 0) rfl (z_inc (a := 1) (n := 1) (by omega)) (by decide) rfl (fun ls hl => ?_)
  refine lv_goto (tgt := 102) C0.1 C0.2.1 dX10_init_117 (by decide) ?_
  refine lv_iload_n C0.1 C0.2.1 dX10_init_102 rfl (lv_at hl 0 rfl) ?_
  refine lv_iconst (v := zI 4) C0.1 C0.2.1 dX10_init_103 rfl ?_
  refine z_icmp_ge (tgt := 120) C0.1 C0.2.1 dX10_init_104 (by decide) ⟨by omega, by omega⟩ ⟨by omega, by omega⟩ (fun c_5 => absurd c_5 (by decide)) (fun c_5 => ?_)
  refine lv_aload_n C0.1 C0.2.1 dX10_init_107 rfl (lv_at hl 1 rfl) ?_
  refine mm_get (fs := [.ref (b + 1), .ref (b + 2), .ref (b + 3), .ref (b + 4), .int 0, .int 0, .long 0, .ref (b + 5), .ref (b + 6), .ref (b + 7), .ref (b + 8), .int 0, .int 0, .int 0, .int 0, .int 0, .ref (b + 9), .ref (b + 10), .ref (b + 11), .ref (b + 12)]) C0 (C := RX10) (T := TX10) (N := 20) iG_X10 hM hE rfl 17 (by decide) tw_933 rfl rfl dX10_init_108 ?_
  refine lv_iload_n C0.1 C0.2.1 dX10_init_111 rfl (lv_at hl 0 rfl) ?_
  refine lv_iconst (v := zI (-1)) C0.1 C0.2.1 dX10_init_112 rfl ?_
  refine mm_iast C0 hM hS (g := (zup (zup (fun _ => 0) 0 (-1)) 1 (-1))) a10 2 (i := 2) (x := -1) (by omega) (by omega) (by decide) dX10_init_113 (fun H locs hM hS hsz => ?_)
  replace hz := hsz.trans hz
  clear hsz
  obtain ⟨E27, hE27⟩ : ∃ X : mE, X = mm_up E26 (b + 10) (mm_I G 4 (zup (zup (zup (fun _ => 0) 0 (-1)) 1 (-1)) 2 (-1))) := ⟨_, rfl⟩
  replace hM : mm_M G E27 H := by rw [hE27]; exact hM
  have frs : ∀ q : Nat, q ≠ b + 10 → E27 q = E26 q := fun q h => by rw [hE27]; exact mm_up_n _ _ h
  replace a1 : E27 (b + 1) = some (mm_I G 1280 (fun _ => 0)) := (frs _ (by omega)).trans a1
  replace a2 : E27 (b + 2) = some (mm_I G 8 (fun _ => 0)) := (frs _ (by omega)).trans a2
  replace a3 : E27 (b + 3) = some (mm_I G 8 (fun _ => 0)) := (frs _ (by omega)).trans a3
  replace a4 : E27 (b + 4) = some (mm_I G 100 (fun _ => 0)) := (frs _ (by omega)).trans a4
  replace a5 : E27 (b + 5) = some (mm_J G 8 (fun _ => 0)) := (frs _ (by omega)).trans a5
  replace a6 : E27 (b + 6) = some (mm_I G 8 (fun _ => 0)) := (frs _ (by omega)).trans a6
  replace a7 : E27 (b + 7) = some (mm_I G 8 (fun _ => 0)) := (frs _ (by omega)).trans a7
  replace a8 : E27 (b + 8) = some (mm_I G 8 (fun _ => 0)) := (frs _ (by omega)).trans a8
  replace a9 : E27 (b + 9) = some (mm_I G 656 (fun _ => 0)) := (frs _ (by omega)).trans a9
  replace a11 : E27 (b + 11) = some (mm_I G 4 (fun _ => 0)) := (frs _ (by omega)).trans a11
  replace a12 : E27 (b + 12) = some (mm_J G 96 (fun _ => 0)) := (frs _ (by omega)).trans a12
  replace hE : E27 b = some (.inr (9, [.ref (b + 1), .ref (b + 2), .ref (b + 3), .ref (b + 4), .int 0, .int 0, .long 0, .ref (b + 5), .ref (b + 6), .ref (b + 7), .ref (b + 8), .int 0, .int 0, .int 0, .int 0, .int 0, .ref (b + 9), .ref (b + 10), .ref (b + 11), .ref (b + 12)])) := (frs _ (by omega)).trans hE
  replace hfr : ∀ q : Nat, q < b → E27 q = E0 q := fun q h => (frs q (by omega)).trans (hfr q h)
  replace a10 : E27 (b + 10) = some (mm_I G 4 (zup (zup (zup (fun _ => 0) 0 (-1)) 1 (-1)) 2 (-1))) := by rw [hE27]; exact mm_up_s _ _ _
  refine lv_iinc (v := zI (3)) (lv' := [(1, .int (zI (3))), (0, .ref (b))]) C0.1 C0.2.1 dX10_init_114 hl (k := 0) rfl (z_inc (a := 2) (n := 1) (by omega)) (by decide) rfl (fun ls hl => ?_)
  refine lv_goto (tgt := 102) C0.1 C0.2.1 dX10_init_117 (by decide) ?_
  refine lv_iload_n C0.1 C0.2.1 dX10_init_102 rfl (lv_at hl 0 rfl) ?_
  refine lv_iconst (v := zI 4) C0.1 C0.2.1 dX10_init_103 rfl ?_
  refine z_icmp_ge (tgt := 120) C0.1 C0.2.1 dX10_init_104 (by decide) ⟨by omega, by omega⟩ ⟨by omega, by omega⟩ (fun c_5 => absurd c_5 (by decide)) (fun c_5 => ?_)
  refine lv_aload_n C0.1 C0.2.1 dX10_init_107 rfl (lv_at hl 1 rfl) ?_
  refine mm_get (fs := [.ref (b + 1), .ref (b + 2), .ref (b + 3), .ref (b + 4), .int 0, .int 0, .long 0, .ref (b + 5), .ref (b + 6), .ref (b + 7), .ref (b + 8), .int 0, .int 0, .int 0, .int 0, .int 0, .ref (b + 9), .ref (b + 10), .ref (b + 11), .ref (b + 12)]) C0 (C := RX10) (T := TX10) (N := 20) iG_X10 hM hE rfl 17 (by decide) tw_933 rfl rfl dX10_init_108 ?_
  refine lv_iload_n C0.1 C0.2.1 dX10_init_111 rfl (lv_at hl 0 rfl) ?_
  refine lv_iconst (v := zI (-1)) C0.1 C0.2.1 dX10_init_112 rfl ?_
  refine mm_iast C0 hM hS (g := (zup (zup (zup (fun _ => 0) 0 (-1)) 1 (-1)) 2 (-1))) a10 3 (i := 3) (x := -1) (by omega) (by omega) (by decide) dX10_init_113 (fun H locs hM hS hsz => ?_)
  replace hz := hsz.trans hz
  clear hsz
  obtain ⟨E28, hE28⟩ : ∃ X : mE, X = mm_up E27 (b + 10) (mm_I G 4 (zup (zup (zup (zup (fun _ => 0) 0 (-1)) 1 (-1)) 2 (-1)) 3 (-1))) := ⟨_, rfl⟩
  replace hM : mm_M G E28 H := by rw [hE28]; exact hM
  have frs : ∀ q : Nat, q ≠ b + 10 → E28 q = E27 q := fun q h => by rw [hE28]; exact mm_up_n _ _ h
  replace a1 : E28 (b + 1) = some (mm_I G 1280 (fun _ => 0)) := (frs _ (by omega)).trans a1
  replace a2 : E28 (b + 2) = some (mm_I G 8 (fun _ => 0)) := (frs _ (by omega)).trans a2
  replace a3 : E28 (b + 3) = some (mm_I G 8 (fun _ => 0)) := (frs _ (by omega)).trans a3
  replace a4 : E28 (b + 4) = some (mm_I G 100 (fun _ => 0)) := (frs _ (by omega)).trans a4
  replace a5 : E28 (b + 5) = some (mm_J G 8 (fun _ => 0)) := (frs _ (by omega)).trans a5
  replace a6 : E28 (b + 6) = some (mm_I G 8 (fun _ => 0)) := (frs _ (by omega)).trans a6
  replace a7 : E28 (b + 7) = some (mm_I G 8 (fun _ => 0)) := (frs _ (by omega)).trans a7
  replace a8 : E28 (b + 8) = some (mm_I G 8 (fun _ => 0)) := (frs _ (by omega)).trans a8
  replace a9 : E28 (b + 9) = some (mm_I G 656 (fun _ => 0)) := (frs _ (by omega)).trans a9
  replace a11 : E28 (b + 11) = some (mm_I G 4 (fun _ => 0)) := (frs _ (by omega)).trans a11
  replace a12 : E28 (b + 12) = some (mm_J G 96 (fun _ => 0)) := (frs _ (by omega)).trans a12
  replace hE : E28 b = some (.inr (9, [.ref (b + 1), .ref (b + 2), .ref (b + 3), .ref (b + 4), .int 0, .int 0, .long 0, .ref (b + 5), .ref (b + 6), .ref (b + 7), .ref (b + 8), .int 0, .int 0, .int 0, .int 0, .int 0, .ref (b + 9), .ref (b + 10), .ref (b + 11), .ref (b + 12)])) := (frs _ (by omega)).trans hE
  replace hfr : ∀ q : Nat, q < b → E28 q = E0 q := fun q h => (frs q (by omega)).trans (hfr q h)
  replace a10 : E28 (b + 10) = some (mm_I G 4 (zup (zup (zup (zup (fun _ => 0) 0 (-1)) 1 (-1)) 2 (-1)) 3 (-1))) := by rw [hE28]; exact mm_up_s _ _ _
  refine lv_iinc (v := zI (4)) (lv' := [(1, .int (zI (4))), (0, .ref (b))]) C0.1 C0.2.1 dX10_init_114 hl (k := 0) rfl (z_inc (a := 3) (n := 1) (by omega)) (by decide) rfl (fun ls hl => ?_)
  refine lv_goto (tgt := 102) C0.1 C0.2.1 dX10_init_117 (by decide) ?_
  refine lv_iload_n C0.1 C0.2.1 dX10_init_102 rfl (lv_at hl 0 rfl) ?_
  refine lv_iconst (v := zI 4) C0.1 C0.2.1 dX10_init_103 rfl ?_
  refine z_icmp_ge (tgt := 120) C0.1 C0.2.1 dX10_init_104 (by decide) ⟨by omega, by omega⟩ ⟨by omega, by omega⟩ (fun c_5 => ?_) (fun c_5 => absurd c_5 (by decide))
  exact mm_nret C0 hr hlk hM hS hz (Nat.le_of_ble_eq_true rfl) (Nat.le_of_ble_eq_true rfl) dX10_init_120 ⟨rf_new hE a1 a2 a3 a4 a5 a6 a7 a8 a9 a10 (fun i hi => by rcases (show i = 0 ∨ i = 1 ∨ i = 2 ∨ i = 3 by omega) with rfl | rfl | rfl | rfl <;> rfl) a11 a12, hfr⟩
