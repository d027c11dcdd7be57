/-! the constructor of the class -/
def nA_ (G : mG) (E : mE) (b : Nat) : Prop := rk G E b ∧ wR G E (b + 1) 0 (fun _ => 0) ∧ wR G E (b + 3) 0 (fun _ => 0) ∧ wR G E (b + 5) 0 (fun _ => 0) ∧ wR G E (b + 7) 0 (fun _ => 0) ∧ wR G E (b + 9) 0 (fun _ => 0)
def nB_ (G : mG) (E : mE) (b r : Nat) : Prop := sk G E b r ∧ wR G E (b + 1) 0 (fun _ => 0) ∧ wR G E (b + 3) 0 (fun _ => 0) ∧ wR G E (b + 5) 0 (fun _ => 0) ∧ wR G E (b + 7) 0 (fun _ => 0) ∧ wR G E (b + 9) 0 (fun _ => 0) ∧ wR G E (b + 11) 0 (fun _ => 0)
def nD_ (G : mG) (E : mE) (b r : Nat) : Prop := fx G E b r ∧ wR G E (b + 1) 0 (fun _ => 0) ∧ wR G E (b + 3) 0 (fun _ => 0) ∧ wR G E (b + 5) 0 (fun _ => 0) ∧ wR G E (b + 7) 0 (fun _ => 0) ∧ wR G E (b + 9) 0 (fun _ => 0) ∧ wR G E (b + 11) 0 (fun _ => 0) ∧ wR G E (b + 13) 0 (fun _ => 0)
def nP_ (G : mG) (E : mE) (b : Nat) : Prop := pl G E b 0 0 ∧ wR G E (b + 1) 0 (fun _ => 0)
theorem nA_.kept {G : mG} {E E1 : mE} {b : Nat} (a : nA_ G E b) (fr : ∀ q, b ≤ q → q < b + 11 → E1 q = E q) : nA_ G E1 b := by
  obtain ⟨a0, a1, a2, a3, a4, a5⟩ := a
  exact ⟨(fr _ (by omega) (by omega)).trans a0, a1.kept (fr _ (by omega) (by omega)) (fr _ (by omega) (by omega)), a2.kept (fr _ (by omega) (by omega)) (fr _ (by omega) (by omega)), a3.kept (fr _ (by omega) (by omega)) (fr _ (by omega) (by omega)), a4.kept (fr _ (by omega) (by omega)) (fr _ (by omega) (by omega)), a5.kept (fr _ (by omega) (by omega)) (fr _ (by omega) (by omega))⟩
theorem nB_.kept {G : mG} {E E1 : mE} {b r : Nat} (a : nB_ G E b r) (fr : ∀ q, b ≤ q → q < b + 13 → E1 q = E q) : nB_ G E1 b r := by
  obtain ⟨a0, a1, a2, a3, a4, a5, a6⟩ := a
  exact ⟨(fr _ (by omega) (by omega)).trans a0, a1.kept (fr _ (by omega) (by omega)) (fr _ (by omega) (by omega)), a2.kept (fr _ (by omega) (by omega)) (fr _ (by omega) (by omega)), a3.kept (fr _ (by omega) (by omega)) (fr _ (by omega) (by omega)), a4.kept (fr _ (by omega) (by omega)) (fr _ (by omega) (by omega)), a5.kept (fr _ (by omega) (by omega)) (fr _ (by omega) (by omega)), a6.kept (fr _ (by omega) (by omega)) (fr _ (by omega) (by omega))⟩
theorem nD_.kept {G : mG} {E E1 : mE} {b r : Nat} (a : nD_ G E b r) (fr : ∀ q, b ≤ q → q < b + 15 → E1 q = E q) : nD_ G E1 b r := by
  obtain ⟨a0, a1, a2, a3, a4, a5, a6, a7⟩ := a
  exact ⟨(fr _ (by omega) (by omega)).trans a0, a1.kept (fr _ (by omega) (by omega)) (fr _ (by omega) (by omega)), a2.kept (fr _ (by omega) (by omega)) (fr _ (by omega) (by omega)), a3.kept (fr _ (by omega) (by omega)) (fr _ (by omega) (by omega)), a4.kept (fr _ (by omega) (by omega)) (fr _ (by omega) (by omega)), a5.kept (fr _ (by omega) (by omega)) (fr _ (by omega) (by omega)), a6.kept (fr _ (by omega) (by omega)) (fr _ (by omega) (by omega)), a7.kept (fr _ (by omega) (by omega)) (fr _ (by omega) (by omega))⟩
theorem nP_.kept {G : mG} {E E1 : mE} {b : Nat} (a : nP_ G E b) (fr : ∀ q, b ≤ q → q < b + 3 → E1 q = E q) : nP_ G E1 b := ⟨(fr _ (by omega) (by omega)).trans a.1, a.2.kept (fr _ (by omega) (by omega)) (fr _ (by omega) (by omega))⟩
def r9_ (G : mG) (E : mE) (b : Nat) : Prop := tp G E (b + 4) (fun _ => 0) 0 0 0 0 0 0 0 ∧ nA_ G E (b + 6) ∧ nB_ G E (b + 17) (b + 6) ∧ pt G E (b + 30) 0 0 0 0 0 ∧ nD_ G E (b + 31) (b + 30) ∧ wR G E (b + 46) 0 (fun _ => 0) ∧ wR G E (b + 48) 0 (fun _ => 0)
theorem r9_.kept {G : mG} {E E1 : mE} {b : Nat} (a : r9_ G E b) (fr : ∀ q, b + 4 ≤ q → q < b + 50 → E1 q = E q) : r9_ G E1 b := by
  obtain ⟨a0, a1, a2, a3, a4, a5, a6⟩ := a
  exact ⟨a0.kept (fr _ (by omega) (by omega)) (fr _ (by omega) (by omega)), a1.kept (fun q h1 h2 => fr _ (by omega) (by omega)), a2.kept (fun q h1 h2 => fr _ (by omega) (by omega)), (fr _ (by omega) (by omega)).trans a3, a4.kept (fun q h1 h2 => fr _ (by omega) (by omega)), a5.kept (fr _ (by omega) (by omega)) (fr _ (by omega) (by omega)), a6.kept (fr _ (by omega) (by omega)) (fr _ (by omega) (by omega))⟩
theorem wR.W0 {G : mG} {E : mE} {t : Nat} (h : wR G E t 0 (fun _ => 0)) : isW G E t 0 := ⟨fun _ => 0, by rw [nl_0]; exact h, fun j hj => by rw [nl_0] at hj; exact absurd hj (Nat.not_lt_zero _)⟩
theorem wR.V0 {G : mG} {E : mE} {t : Nat} (h : wR G E t 0 (fun _ => 0)) : isV G E t := ⟨0, fun _ => 0, h⟩
theorem va_up1 {f : Nat → Option Nat} {a c u v : Nat} (hf : ∀ i, i < u → f i = some (a + c * i)) (hv : v = a + c * u) : ∀ i, i < u + 1 → va_up f u (some v) i = some (a + c * i) := fun i hi => by
  unfold va_up
  by_cases q : i = u
  · subst q; rw [if_pos rfl, hv]
  · rw [if_neg q]; exact hf i (by omega)
def sh0 (G : mG) (E : mE) (b : Nat) : Prop := sh_ G E b (fun _ => 0) 0 (-1)
theorem sh0.kept {G : mG} {E E1 : mE} {b : Nat} (a : sh0 G E b) (fr : ∀ q, b ≤ q → q < b + 2 → E1 q = E q) : sh0 G E1 b := ⟨(fr _ (by omega) (by omega)).trans a.1, (fr _ (by omega) (by omega)).trans a.2⟩
def o9_ (G : mG) (E : mE) (b : Nat) : Prop := E b = some (.inr (8, [.ref (b + 1), .ref (b + 2), .ref (b + 3), .ref (b + 4), .ref (b + 6), .ref (b + 17), .ref (b + 30), .ref (b + 31), .ref (b + 46), .ref (b + 48), .int 0]))
theorem st_new {G : mG} {E : mE} {b : Nat} {f1 f2 f3 : Nat → Option Nat} (hE : o9_ G E b) (a1 : E (b + 1) = some (mm_Q G 2 8 f1)) (a2 : E (b + 2) = some (mm_Q G 2 8 f2)) (a3 : E (b + 3) = some (mm_Q G 3 4 f3)) (e1 : ∀ i, i < 8 → f1 i = some (b + 50 + 6 * i)) (e2 : ∀ i, i < 8 → f2 i = some (b + 53 + 6 * i)) (e3 : ∀ i, i < 4 → f3 i = some (b + 98 + 2 * i)) (p1 : ∀ i, i < 8 → nP_ G E (b + 50 + 6 * i)) (p2 : ∀ i, i < 8 → nP_ G E (b + 53 + 6 * i)) (p3 : ∀ i, i < 4 → sh0 G E (b + 98 + 2 * i)) (hr : r9_ G E b) : st G E b s0 := by
  obtain ⟨r0, ⟨x0, x1, x2, x3, x4, x5⟩, ⟨y0, y1, y2, y3, y4, y5, y6⟩, r3, ⟨z0, z1, z2, z3, z4, z5, z6, z7⟩, r5, r6⟩ := hr
  refine ⟨⟨hE, ⟨f1, f2, f3, a1, a2, a3, e1, e2, e3⟩, ⟨⟨0, 0, 0, 0, 0, 0, r0, by omega, by omega⟩, Nat.zero_le _, fun j h => absurd h (Nat.not_lt_zero _)⟩, ⟨fun i hi => ⟨(p1 i hi).1, (p1 i hi).2.W0⟩, ?_⟩, ⟨fun i hi => ⟨(p2 i hi).1, (p2 i hi).2.W0⟩, ?_⟩, ⟨fun i hi => ⟨fun _ => 0, p3 i hi, fun _ _ => rfl⟩, ?_⟩⟩, ?_⟩
  · exact fun i _ => ⟨Nat.zero_le _, Nat.zero_le _, fun h => absurd h (by show ¬ 5 ≤ 0; decide), by show nl 0 ≤ 24; rw [nl_0]; exact Nat.zero_le _⟩
  · exact fun i _ => ⟨Nat.zero_le _, Nat.zero_le _, fun h => absurd h (by show ¬ 5 ≤ 0; decide), by show nl 0 ≤ 24; rw [nl_0]; exact Nat.zero_le _⟩
  · exact fun i _ => ⟨⟨by show (0 : Int) ≤ 0; decide, by show (0 : Int) ≤ 2; decide⟩, ⟨by show (-1 : Int) ≤ -1; decide, by show (-1 : Int) ≤ 24; decide⟩, fun j _ => rL_0⟩
  · exact ⟨⟨x0, x1.V0, x2.V0, x3.V0, x4.V0, x5.V0⟩, ⟨y0, y1.V0, y2.V0, y3.V0, y4.V0, y5.V0, y6.V0⟩, ⟨0, 0, 0, 0, 0, r3⟩, ⟨z0, z1.V0, z2.V0, z3.V0, z4.V0, z5.V0, z6.V0, z7.V0⟩, r5.V0, r6.V0⟩
def rX9_init : Room := { frames := 3, cells := 105, slots := 2397, locals := 53 }
theorem iw_X9 : mm_Iw yX9_init cX9_init 2 0 := ⟨tw_21, tw_1, tw_22, rfl, by decide +kernel⟩
set_option maxHeartbeats 4000000 in
set_option maxRecDepth 100000 in
theorem c_X9_init (l : Launch) (G : mG) (E0 : mE) {b : Nat} (hE : E0 b = some (.inr (8, [.null, .null, .null, .null, .null, .null, .null, .null, .null, .null, .int 0]))) : mm_Cn l yX9_init (.code yX9_init cX9_init 2 none :: wsG) rX9_init G [.ref (b)] E0 (b + 1) 105 2397 (fun E => (st G E b s0) ∧ ∀ q, q < b → E q = E0 q) := by
  refine mm_of_n (by decide +kernel) (Nat.le_of_ble_eq_true rfl) rfl ?_
  intro p e s m args below meth c ls C0 hr hlk hin ho hz hM hl hS
  have hl : lv_has ls 2 [(0, .ref (b))] := hl
  have hfr : ∀ q : Nat, q < b → E0 q = E0 q := fun _ _ => rfl
  refine lv_aload_n C0.1 C0.2.1 dX9_init_0 rfl (lv_at hl 0 rfl) ?_
  refine mm_obj C0 tw_23 hl.1 (Nat.le_of_ble_eq_true rfl) (Nat.le_of_ble_eq_true rfl) dX9_init_1 ?_
  refine lv_aload_n C0.1 C0.2.1 dX9_init_4 rfl (lv_at hl 0 rfl) ?_
  refine lv_bipush (v := zI 8) C0.1 C0.2.1 dX9_init_5 rfl ?_
  refine mm_newQ (N := 8) C0 2 rfl tw_26 ho.1 hM hS hz rfl (by decide) (Nat.le_of_ble_eq_true rfl) (Nat.le_of_ble_eq_true rfl) dX9_init_7 (fun H hM hS hz9 => ?_)
  replace hz := hz9
  clear hz9
  obtain ⟨E1, hE1⟩ : ∃ X : mE, X = mm_up E0 (b + 1) (mm_Q G 2 8 (fun _ => none)) := ⟨_, rfl⟩
  replace hM : mm_M G E1 H := by rw [hE1]; exact hM
  have frs : ∀ q : Nat, q ≠ b + 1 → E1 q = E0 q := fun q h => by rw [hE1]; exact mm_up_n _ _ h
  replace hE : E1 b = some (.inr (8, [.null, .null, .null, .null, .null, .null, .null, .null, .null, .null, .int 0])) := (frs _ (by omega)).trans hE
  replace hfr : ∀ q : Nat, q < b → E1 q = E0 q := fun q h => (frs q (by omega)).trans (hfr q h)
  have a1 : E1 (b + 1) = some (mm_Q G 2 8 (fun _ => none)) := by rw [hE1]; exact mm_up_s _ _ _
  refine mm_putF (v := .ref (b + 1)) (fs := [.null, .null, .null, .null, .null, .null, .null, .null, .null, .null, .int 0]) C0 (C := RX9) (T := TX9) (N := 11) iG_X9 tyX9 tyX9_ok nmX9 hM hS hE rfl 0 (by decide) tw_236 rfl rfl hin rfl (ty := tyX9 0) (tyX9_ok 0 (by decide)) rfl rfl (Nat.le_of_ble_eq_true rfl) dX9_init_10 (fun H locs hM hS hsz => ?_)
  replace hz := hsz.trans hz
  clear hsz
  obtain ⟨E2, hE2⟩ : ∃ X : mE, X = mm_up E1 (b) (.inr (8, [.ref (b + 1), .null, .null, .null, .null, .null, .null, .null, .null, .null, .int 0])) := ⟨_, rfl⟩
  replace hM : mm_M G E2 H := by rw [hE2]; exact hM
  have frs : ∀ q : Nat, q ≠ b → E2 q = E1 q := fun q h => by rw [hE2]; exact mm_up_n _ _ h
  replace hfr : ∀ q : Nat, q < b → E2 q = E0 q := fun q h => (frs q (by omega)).trans (hfr q h)
  replace hE : E2 b = some (.inr (8, [.ref (b + 1), .null, .null, .null, .null, .null, .null, .null, .null, .null, .int 0])) := by rw [hE2]; exact mm_up_s _ _ _
  replace a1 : E2 (b + 1) = some (mm_Q G 2 8 (fun _ => none)) := (frs _ (by omega)).trans a1
  refine lv_aload_n C0.1 C0.2.1 dX9_init_13 rfl (lv_at hl 0 rfl) ?_
  refine lv_bipush (v := zI 8) C0.1 C0.2.1 dX9_init_14 rfl ?_
  refine mm_newQ (N := 8) C0 2 rfl tw_26 ho.1 hM hS hz rfl (by decide) (Nat.le_of_ble_eq_true rfl) (Nat.le_of_ble_eq_true rfl) dX9_init_16 (fun H hM hS hz9 => ?_)
  replace hz := hz9
  clear hz9
  obtain ⟨E3, hE3⟩ : ∃ X : mE, X = mm_up E2 (b + 2) (mm_Q G 2 8 (fun _ => none)) := ⟨_, rfl⟩
  replace hM : mm_M G E3 H := by rw [hE3]; exact hM
  have frs : ∀ q : Nat, q ≠ b + 2 → E3 q = E2 q := fun q h => by rw [hE3]; exact mm_up_n _ _ h
  replace a1 : E3 (b + 1) = some (mm_Q G 2 8 (fun _ => none)) := (frs _ (by omega)).trans a1
  replace hE : E3 b = some (.inr (8, [.ref (b + 1), .null, .null, .null, .null, .null, .null, .null, .null, .null, .int 0])) := (frs _ (by omega)).trans hE
  replace hfr : ∀ q : Nat, q < b → E3 q = E0 q := fun q h => (frs q (by omega)).trans (hfr q h)
  have a2 : E3 (b + 2) = some (mm_Q G 2 8 (fun _ => none)) := by rw [hE3]; exact mm_up_s _ _ _
  refine mm_putF (v := .ref (b + 2)) (fs := [.ref (b + 1), .null, .null, .null, .null, .null, .null, .null, .null, .null, .int 0]) C0 (C := RX9) (T := TX9) (N := 11) iG_X9 tyX9 tyX9_ok nmX9 hM hS hE rfl 1 (by decide) tw_237 rfl rfl hin rfl (ty := tyX9 1) (tyX9_ok 1 (by decide)) rfl rfl (Nat.le_of_ble_eq_true rfl) dX9_init_19 (fun H locs hM hS hsz => ?_)
  replace hz := hsz.trans hz
  clear hsz
  obtain ⟨E4, hE4⟩ : ∃ X : mE, X = mm_up E3 (b) (.inr (8, [.ref (b + 1), .ref (b + 2), .null, .null, .null, .null, .null, .null, .null, .null, .int 0])) := ⟨_, rfl⟩
  replace hM : mm_M G E4 H := by rw [hE4]; exact hM
  have frs : ∀ q : Nat, q ≠ b → E4 q = E3 q := fun q h => by rw [hE4]; exact mm_up_n _ _ h
  replace hfr : ∀ q : Nat, q < b → E4 q = E0 q := fun q h => (frs q (by omega)).trans (hfr q h)
  replace hE : E4 b = some (.inr (8, [.ref (b + 1), .ref (b + 2), .null, .null, .null, .null, .null, .null, .null, .null, .int 0])) := by rw [hE4]; exact mm_up_s _ _ _
  replace a1 : E4 (b + 1) = some (mm_Q G 2 8 (fun _ => none)) := (frs _ (by omega)).trans a1
  replace a2 : E4 (b + 2) = some (mm_Q G 2 8 (fun _ => none)) := (frs _ (by omega)).trans a2
  refine lv_aload_n C0.1 C0.2.1 dX9_init_22 rfl (lv_at hl 0 rfl) ?_
  refine lv_iconst (v := zI 4) C0.1 C0.2.1 dX9_init_23 rfl ?_
  refine mm_newQ (N := 4) C0 3 rfl tw_28 ho.2 hM hS hz rfl (by decide) (Nat.le_of_ble_eq_true rfl) (Nat.le_of_ble_eq_true rfl) dX9_init_24 (fun H hM hS hz9 => ?_)
  replace hz := hz9
  clear hz9
  obtain ⟨E5, hE5⟩ : ∃ X : mE, X = mm_up E4 (b + 3) (mm_Q G 3 4 (fun _ => none)) := ⟨_, rfl⟩
  replace hM : mm_M G E5 H := by rw [hE5]; exact hM
  have frs : ∀ q : Nat, q ≠ b + 3 → E5 q = E4 q := fun q h => by rw [hE5]; exact mm_up_n _ _ h
  replace a1 : E5 (b + 1) = some (mm_Q G 2 8 (fun _ => none)) := (frs _ (by omega)).trans a1
  replace a2 : E5 (b + 2) = some (mm_Q G 2 8 (fun _ => none)) := (frs _ (by omega)).trans a2
  replace hE : E5 b = some (.inr (8, [.ref (b + 1), .ref (b + 2), .null, .null, .null, .null, .null, .null, .null, .null, .int 0])) := (frs _ (by omega)).trans hE
  replace hfr : ∀ q : Nat, q < b → E5 q = E0 q := fun q h => (frs q (by omega)).trans (hfr q h)
  have a3 : E5 (b + 3) = some (mm_Q G 3 4 (fun _ => none)) := by rw [hE5]; exact mm_up_s _ _ _
  refine mm_putF (v := .ref (b + 3)) (fs := [.ref (b + 1), .ref (b + 2), .null, .null, .null, .null, .null, .null, .null, .null, .int 0]) C0 (C := RX9) (T := TX9) (N := 11) iG_X9 tyX9 tyX9_ok nmX9 hM hS hE rfl 2 (by decide) tw_238 rfl rfl hin rfl (ty := tyX9 2) (tyX9_ok 2 (by decide)) rfl rfl (Nat.le_of_ble_eq_true rfl) dX9_init_27 (fun H locs hM hS hsz => ?_)
  replace hz := hsz.trans hz
  clear hsz
  obtain ⟨E6, hE6⟩ : ∃ X : mE, X = mm_up E5 (b) (.inr (8, [.ref (b + 1), .ref (b + 2), .ref (b + 3), .null, .null, .null, .null, .null, .null, .null, .int 0])) := ⟨_, rfl⟩
  replace hM : mm_M G E6 H := by rw [hE6]; exact hM
  have frs : ∀ q : Nat, q ≠ b → E6 q = E5 q := fun q h => by rw [hE6]; exact mm_up_n _ _ h
  replace hfr : ∀ q : Nat, q < b → E6 q = E0 q := fun q h => (frs q (by omega)).trans (hfr q h)
  replace hE : E6 b = some (.inr (8, [.ref (b + 1), .ref (b + 2), .ref (b + 3), .null, .null, .null, .null, .null, .null, .null, .int 0])) := by rw [hE6]; exact mm_up_s _ _ _
  replace a1 : E6 (b + 1) = some (mm_Q G 2 8 (fun _ => none)) := (frs _ (by omega)).trans a1
  replace a2 : E6 (b + 2) = some (mm_Q G 2 8 (fun _ => none)) := (frs _ (by omega)).trans a2
  replace a3 : E6 (b + 3) = some (mm_Q G 3 4 (fun _ => none)) := (frs _ (by omega)).trans a3
  refine lv_aload_n C0.1 C0.2.1 dX9_init_30 rfl (lv_at hl 0 rfl) ?_
  refine mm_mk (P := fun E => tp G E (b + 4) (fun _ => 0) 0 0 0 0 0 0 0) C0 ho (C := RX7) (T := TX7) (N := 8) iG_X7 tyX7 tyX7_ok tw_30 tw_31 tw_2 (ci := 6) rfl (fs := [.null, .int 0, .int 0, .long 0, .int 0, .int 0, .long 0, .long 0]) (fun j hj => by rcases (show j = 0 ∨ j = 1 ∨ j = 2 ∨ j = 3 ∨ j = 4 ∨ j = 5 ∨ j = 6 ∨ j = 7 by omega) with rfl | rfl | rfl | rfl | rfl | rfl | rfl | rfl <;> rfl) (y := yX7_init) (mc := 1) (ms := 100) (rm := rX7_init) iw_X7 tw_32 hz (fun E1 hE1 => c_X7_init l G E1 hE1) hM hS hl.1 (Nat.le_of_ble_eq_true rfl) ⟨rfl, rfl, (Nat.le_of_ble_eq_true rfl), (Nat.le_of_ble_eq_true rfl)⟩ (Nat.le_of_ble_eq_true rfl) (Nat.le_of_ble_eq_true rfl) dX9_init_31 dX9_init_34 dX9_init_35 (fun E2 H locs hP fr2 hM hS hz9 => ?_)
  replace hz := hz9
  clear hz9
  obtain ⟨E7, hE7⟩ : ∃ X : mE, X = E2 := ⟨_, rfl⟩
  subst hE7
  replace a1 : E7 (b + 1) = some (mm_Q G 2 8 (fun _ => none)) := (fr2 _ (by omega)).trans a1
  replace a2 : E7 (b + 2) = some (mm_Q G 2 8 (fun _ => none)) := (fr2 _ (by omega)).trans a2
  replace a3 : E7 (b + 3) = some (mm_Q G 3 4 (fun _ => none)) := (fr2 _ (by omega)).trans a3
  replace hE : E7 b = some (.inr (8, [.ref (b + 1), .ref (b + 2), .ref (b + 3), .null, .null, .null, .null, .null, .null, .null, .int 0])) := (fr2 _ (by omega)).trans hE
  replace hfr : ∀ q : Nat, q < b → E7 q = E0 q := fun q h => (fr2 q (by omega)).trans (hfr q h)
  clear fr2
  have t4 : tp G E7 (b + 4) (fun _ => 0) 0 0 0 0 0 0 0 := hP
  refine mm_putF (v := .ref (b + 4)) (fs := [.ref (b + 1), .ref (b + 2), .ref (b + 3), .null, .null, .null, .null, .null, .null, .null, .int 0]) C0 (C := RX9) (T := TX9) (N := 11) iG_X9 tyX9 tyX9_ok nmX9 hM hS hE rfl 3 (by decide) tw_239 rfl rfl hin rfl (ty := tyX9 3) (tyX9_ok 3 (by decide)) rfl rfl (Nat.le_of_ble_eq_true rfl) dX9_init_38 (fun H locs hM hS hsz => ?_)
  replace hz := hsz.trans hz
  clear hsz
  obtain ⟨E8, hE8⟩ : ∃ X : mE, X = mm_up E7 (b) (.inr (8, [.ref (b + 1), .ref (b + 2), .ref (b + 3), .ref (b + 4), .null, .null, .null, .null, .null, .null, .int 0])) := ⟨_, rfl⟩
  replace hM : mm_M G E8 H := by rw [hE8]; exact hM
  have frs : ∀ q : Nat, q ≠ b → E8 q = E7 q := fun q h => by rw [hE8]; exact mm_up_n _ _ h
  replace hfr : ∀ q : Nat, q < b → E8 q = E0 q := fun q h => (frs q (by omega)).trans (hfr q h)
  replace hE : E8 b = some (.inr (8, [.ref (b + 1), .ref (b + 2), .ref (b + 3), .ref (b + 4), .null, .null, .null, .null, .null, .null, .int 0])) := by rw [hE8]; exact mm_up_s _ _ _
  replace a1 : E8 (b + 1) = some (mm_Q G 2 8 (fun _ => none)) := (frs _ (by omega)).trans a1
  replace a2 : E8 (b + 2) = some (mm_Q G 2 8 (fun _ => none)) := (frs _ (by omega)).trans a2
  replace a3 : E8 (b + 3) = some (mm_Q G 3 4 (fun _ => none)) := (frs _ (by omega)).trans a3
  replace t4 : tp G E8 (b + 4) (fun _ => 0) 0 0 0 0 0 0 0 := t4.kept (frs _ (by omega)) (frs _ (by omega))
  refine lv_aload_n C0.1 C0.2.1 dX9_init_41 rfl (lv_at hl 0 rfl) ?_
  refine mm_mk (P := fun E => nA_ G E (b + 6)) C0 ho (C := RX4) (T := TX4) (N := 5) iG_X4 tyX4 tyX4_ok tw_68 tw_69 tw_3 (ci := 3) rfl (fs := [.null, .null, .null, .null, .null]) (fun j hj => by rcases (show j = 0 ∨ j = 1 ∨ j = 2 ∨ j = 3 ∨ j = 4 by omega) with rfl | rfl | rfl | rfl | rfl <;> rfl) (y := yX4_init) (mc := 10) (ms := 290) (rm := rX4_init) iw_X4 tw_70 hz (fun E1 hE1 => c_X4_init l G E1 hE1) hM hS hl.1 (Nat.le_of_ble_eq_true rfl) ⟨rfl, rfl, (Nat.le_of_ble_eq_true rfl), (Nat.le_of_ble_eq_true rfl)⟩ (Nat.le_of_ble_eq_true rfl) (Nat.le_of_ble_eq_true rfl) dX9_init_42 dX9_init_45 dX9_init_46 (fun E2 H locs hP fr2 hM hS hz9 => ?_)
  replace hz := hz9
  clear hz9
  obtain ⟨E9, hE9⟩ : ∃ X : mE, X = E2 := ⟨_, rfl⟩
  subst hE9
  replace a1 : E9 (b + 1) = some (mm_Q G 2 8 (fun _ => none)) := (fr2 _ (by omega)).trans a1
  replace a2 : E9 (b + 2) = some (mm_Q G 2 8 (fun _ => none)) := (fr2 _ (by omega)).trans a2
  replace a3 : E9 (b + 3) = some (mm_Q G 3 4 (fun _ => none)) := (fr2 _ (by omega)).trans a3
  replace t4 : tp G E9 (b + 4) (fun _ => 0) 0 0 0 0 0 0 0 := t4.kept (fr2 _ (by omega)) (fr2 _ (by omega))
  replace hE : E9 b = some (.inr (8, [.ref (b + 1), .ref (b + 2), .ref (b + 3), .ref (b + 4), .null, .null, .null, .null, .null, .null, .int 0])) := (fr2 _ (by omega)).trans hE
  replace hfr : ∀ q : Nat, q < b → E9 q = E0 q := fun q h => (fr2 q (by omega)).trans (hfr q h)
  clear fr2
  have t6 : nA_ G E9 (b + 6) := hP
  refine mm_putF (v := .ref (b + 6)) (fs := [.ref (b + 1), .ref (b + 2), .ref (b + 3), .ref (b + 4), .null, .null, .null, .null, .null, .null, .int 0]) C0 (C := RX9) (T := TX9) (N := 11) iG_X9 tyX9 tyX9_ok nmX9 hM hS hE rfl 4 (by decide) tw_240 rfl rfl hin rfl (ty := tyX9 4) (tyX9_ok 4 (by decide)) rfl rfl (Nat.le_of_ble_eq_true rfl) dX9_init_49 (fun H locs hM hS hsz => ?_)
  replace hz := hsz.trans hz
  clear hsz
  obtain ⟨E10, hE10⟩ : ∃ X : mE, X = mm_up E9 (b) (.inr (8, [.ref (b + 1), .ref (b + 2), .ref (b + 3), .ref (b + 4), .ref (b + 6), .null, .null, .null, .null, .null, .int 0])) := ⟨_, rfl⟩
  replace hM : mm_M G E10 H := by rw [hE10]; exact hM
  have frs : ∀ q : Nat, q ≠ b → E10 q = E9 q := fun q h => by rw [hE10]; exact mm_up_n _ _ h
  replace hfr : ∀ q : Nat, q < b → E10 q = E0 q := fun q h => (frs q (by omega)).trans (hfr q h)
  replace hE : E10 b = some (.inr (8, [.ref (b + 1), .ref (b + 2), .ref (b + 3), .ref (b + 4), .ref (b + 6), .null, .null, .null, .null, .null, .int 0])) := by rw [hE10]; exact mm_up_s _ _ _
  replace a1 : E10 (b + 1) = some (mm_Q G 2 8 (fun _ => none)) := (frs _ (by omega)).trans a1
  replace a2 : E10 (b + 2) = some (mm_Q G 2 8 (fun _ => none)) := (frs _ (by omega)).trans a2
  replace a3 : E10 (b + 3) = some (mm_Q G 3 4 (fun _ => none)) := (frs _ (by omega)).trans a3
  replace t4 : tp G E10 (b + 4) (fun _ => 0) 0 0 0 0 0 0 0 := t4.kept (frs _ (by omega)) (frs _ (by omega))
  replace t6 : nA_ G E10 (b + 6) := t6.kept (fun q h1 h2 => frs q (by omega))
  refine lv_aload_n C0.1 C0.2.1 dX9_init_52 rfl (lv_at hl 0 rfl) ?_
  refine mm_newA (ci := 4) (fs := [.null, .null, .null, .null, .null, .null, .null]) C0 (C := RX5) (T := TX5) (N := 7) iG_X5 tyX5 tyX5_ok tw_110 tw_111 tw_5 hM hS rfl (fun j hj => by rcases (show j = 0 ∨ j = 1 ∨ j = 2 ∨ j = 3 ∨ j = 4 ∨ j = 5 ∨ j = 6 by omega) with rfl | rfl | rfl | rfl | rfl | rfl | rfl <;> rfl) hz (Nat.le_of_ble_eq_true rfl) (Nat.le_of_ble_eq_true rfl) dX9_init_53 (fun H hM hS hz9 => ?_)
  replace hz := hz9
  clear hz9
  obtain ⟨E11, hE11⟩ : ∃ X : mE, X = mm_up E10 (b + 17) (.inr (4, [.null, .null, .null, .null, .null, .null, .null])) := ⟨_, rfl⟩
  replace hM : mm_M G E11 H := by rw [hE11]; exact hM
  have frs : ∀ q : Nat, q ≠ b + 17 → E11 q = E10 q := fun q h => by rw [hE11]; exact mm_up_n _ _ h
  replace a1 : E11 (b + 1) = some (mm_Q G 2 8 (fun _ => none)) := (frs _ (by omega)).trans a1
  replace a2 : E11 (b + 2) = some (mm_Q G 2 8 (fun _ => none)) := (frs _ (by omega)).trans a2
  replace a3 : E11 (b + 3) = some (mm_Q G 3 4 (fun _ => none)) := (frs _ (by omega)).trans a3
  replace t4 : tp G E11 (b + 4) (fun _ => 0) 0 0 0 0 0 0 0 := t4.kept (frs _ (by omega)) (frs _ (by omega))
  replace t6 : nA_ G E11 (b + 6) := t6.kept (fun q h1 h2 => frs q (by omega))
  replace hE : E11 b = some (.inr (8, [.ref (b + 1), .ref (b + 2), .ref (b + 3), .ref (b + 4), .ref (b + 6), .null, .null, .null, .null, .null, .int 0])) := (frs _ (by omega)).trans hE
  replace hfr : ∀ q : Nat, q < b → E11 q = E0 q := fun q h => (frs q (by omega)).trans (hfr q h)
  have hN : E11 (b + 17) = some (.inr (4, [.null, .null, .null, .null, .null, .null, .null])) := by rw [hE11]; exact mm_up_s _ _ _
  refine lv_dup C0.1 C0.2.1 dX9_init_56 rfl ?_
  refine lv_aload_n C0.1 C0.2.1 dX9_init_57 rfl (lv_at hl 0 rfl) ?_
  refine mm_get (fs := [.ref (b + 1), .ref (b + 2), .ref (b + 3), .ref (b + 4), .ref (b + 6), .null, .null, .null, .null, .null, .int 0]) C0 (C := RX9) (T := TX9) (N := 11) iG_X9 hM hE rfl 4 (by decide) tw_240 rfl rfl dX9_init_58 ?_
  refine mm_callI (y := yX5_init) (mc := 12) (ms := 348) (rm := rX5_init) C0 ho iw_X5 tw_112 (As := [.ref (b + 6)]) (rest := [.ref (b + 17), .ref b]) hz (c_X5_init l G E11 hN) hM rfl hl.1 rfl (Nat.le_of_ble_eq_true rfl) ⟨rfl, rfl, (Nat.le_of_ble_eq_true rfl), (Nat.le_of_ble_eq_true rfl)⟩ (Nat.le_of_ble_eq_true rfl) (Nat.le_of_ble_eq_true rfl) dX9_init_61 hS (fun E2 H locs hP hM hS hz9 => ?_)
  replace hz := hz9
  clear hz9
  obtain ⟨hP, fr2⟩ := hP
  obtain ⟨E12, hE12⟩ : ∃ X : mE, X = E2 := ⟨_, rfl⟩
  subst hE12
  replace a1 : E12 (b + 1) = some (mm_Q G 2 8 (fun _ => none)) := (fr2 _ (by omega)).trans a1
  replace a2 : E12 (b + 2) = some (mm_Q G 2 8 (fun _ => none)) := (fr2 _ (by omega)).trans a2
  replace a3 : E12 (b + 3) = some (mm_Q G 3 4 (fun _ => none)) := (fr2 _ (by omega)).trans a3
  replace t4 : tp G E12 (b + 4) (fun _ => 0) 0 0 0 0 0 0 0 := t4.kept (fr2 _ (by omega)) (fr2 _ (by omega))
  replace t6 : nA_ G E12 (b + 6) := t6.kept (fun q h1 h2 => fr2 q (by omega))
  replace hE : E12 b = some (.inr (8, [.ref (b + 1), .ref (b + 2), .ref (b + 3), .ref (b + 4), .ref (b + 6), .null, .null, .null, .null, .null, .int 0])) := (fr2 _ (by omega)).trans hE
  replace hfr : ∀ q : Nat, q < b → E12 q = E0 q := fun q h => (fr2 q (by omega)).trans (hfr q h)
  clear fr2
  have t17 : nB_ G E12 (b + 17) (b + 6) := hP
  refine mm_putF (v := .ref (b + 17)) (fs := [.ref (b + 1), .ref (b + 2), .ref (b + 3), .ref (b + 4), .ref (b + 6), .null, .null, .null, .null, .null, .int 0]) C0 (C := RX9) (T := TX9) (N := 11) iG_X9 tyX9 tyX9_ok nmX9 hM hS hE rfl 5 (by decide) tw_241 rfl rfl hin rfl (ty := tyX9 5) (tyX9_ok 5 (by decide)) rfl rfl (Nat.le_of_ble_eq_true rfl) dX9_init_64 (fun H locs hM hS hsz => ?_)
  replace hz := hsz.trans hz
  clear hsz
  obtain ⟨E13, hE13⟩ : ∃ X : mE, X = mm_up E12 (b) (.inr (8, [.ref (b + 1), .ref (b + 2), .ref (b + 3), .ref (b + 4), .ref (b + 6), .ref (b + 17), .null, .null, .null, .null, .int 0])) := ⟨_, rfl⟩
  replace hM : mm_M G E13 H := by rw [hE13]; exact hM
  have frs : ∀ q : Nat, q ≠ b → E13 q = E12 q := fun q h => by rw [hE13]; exact mm_up_n _ _ h
  replace hfr : ∀ q : Nat, q < b → E13 q = E0 q := fun q h => (frs q (by omega)).trans (hfr q h)
  replace hE : E13 b = some (.inr (8, [.ref (b + 1), .ref (b + 2), .ref (b + 3), .ref (b + 4), .ref (b + 6), .ref (b + 17), .null, .null, .null, .null, .int 0])) := by rw [hE13]; exact mm_up_s _ _ _
  replace a1 : E13 (b + 1) = some (mm_Q G 2 8 (fun _ => none)) := (frs _ (by omega)).trans a1
  replace a2 : E13 (b + 2) = some (mm_Q G 2 8 (fun _ => none)) := (frs _ (by omega)).trans a2
  replace a3 : E13 (b + 3) = some (mm_Q G 3 4 (fun _ => none)) := (frs _ (by omega)).trans a3
  replace t4 : tp G E13 (b + 4) (fun _ => 0) 0 0 0 0 0 0 0 := t4.kept (frs _ (by omega)) (frs _ (by omega))
  replace t6 : nA_ G E13 (b + 6) := t6.kept (fun q h1 h2 => frs q (by omega))
  replace t17 : nB_ G E13 (b + 17) (b + 6) := t17.kept (fun q h1 h2 => frs q (by omega))
  refine lv_aload_n C0.1 C0.2.1 dX9_init_67 rfl (lv_at hl 0 rfl) ?_
  refine mm_mk (P := fun E => pt G E (b + 30) 0 0 0 0 0) C0 ho (C := RX2) (T := TX2) (N := 5) iG_X2 tyX2 tyX2_ok tw_140 tw_141 tw_6 (ci := 1) rfl (fs := [.int 0, .int 0, .int 0, .int 0, .int 0]) (fun j hj => by rcases (show j = 0 ∨ j = 1 ∨ j = 2 ∨ j = 3 ∨ j = 4 by omega) with rfl | rfl | rfl | rfl | rfl <;> rfl) (y := yX2_init) (mc := 0) (ms := 0) (rm := rX2_init) iw_X2 tw_142 hz (fun E1 hE1 => c_X2_init l G E1 hE1) hM hS hl.1 (Nat.le_of_ble_eq_true rfl) ⟨rfl, rfl, (Nat.le_of_ble_eq_true rfl), (Nat.le_of_ble_eq_true rfl)⟩ (Nat.le_of_ble_eq_true rfl) (Nat.le_of_ble_eq_true rfl) dX9_init_68 dX9_init_71 dX9_init_72 (fun E2 H locs hP fr2 hM hS hz9 => ?_)
  replace hz := hz9
  clear hz9
  obtain ⟨E14, hE14⟩ : ∃ X : mE, X = E2 := ⟨_, rfl⟩
  subst hE14
  replace a1 : E14 (b + 1) = some (mm_Q G 2 8 (fun _ => none)) := (fr2 _ (by omega)).trans a1
  replace a2 : E14 (b + 2) = some (mm_Q G 2 8 (fun _ => none)) := (fr2 _ (by omega)).trans a2
  replace a3 : E14 (b + 3) = some (mm_Q G 3 4 (fun _ => none)) := (fr2 _ (by omega)).trans a3
  replace t4 : tp G E14 (b + 4) (fun _ => 0) 0 0 0 0 0 0 0 := t4.kept (fr2 _ (by omega)) (fr2 _ (by omega))
  replace t6 : nA_ G E14 (b + 6) := t6.kept (fun q h1 h2 => fr2 q (by omega))
  replace t17 : nB_ G E14 (b + 17) (b + 6) := t17.kept (fun q h1 h2 => fr2 q (by omega))
  replace hE : E14 b = some (.inr (8, [.ref (b + 1), .ref (b + 2), .ref (b + 3), .ref (b + 4), .ref (b + 6), .ref (b + 17), .null, .null, .null, .null, .int 0])) := (fr2 _ (by omega)).trans hE
  replace hfr : ∀ q : Nat, q < b → E14 q = E0 q := fun q h => (fr2 q (by omega)).trans (hfr q h)
  clear fr2
  have t30 : pt G E14 (b + 30) 0 0 0 0 0 := hP
  refine mm_putF (v := .ref (b + 30)) (fs := [.ref (b + 1), .ref (b + 2), .ref (b + 3), .ref (b + 4), .ref (b + 6), .ref (b + 17), .null, .null, .null, .null, .int 0]) C0 (C := RX9) (T := TX9) (N := 11) iG_X9 tyX9 tyX9_ok nmX9 hM hS hE rfl 6 (by decide) tw_242 rfl rfl hin rfl (ty := tyX9 6) (tyX9_ok 6 (by decide)) rfl rfl (Nat.le_of_ble_eq_true rfl) dX9_init_75 (fun H locs hM hS hsz => ?_)
  replace hz := hsz.trans hz
  clear hsz
  obtain ⟨E15, hE15⟩ : ∃ X : mE, X = mm_up E14 (b) (.inr (8, [.ref (b + 1), .ref (b + 2), .ref (b + 3), .ref (b + 4), .ref (b + 6), .ref (b + 17), .ref (b + 30), .null, .null, .null, .int 0])) := ⟨_, rfl⟩
  replace hM : mm_M G E15 H := by rw [hE15]; exact hM
  have frs : ∀ q : Nat, q ≠ b → E15 q = E14 q := fun q h => by rw [hE15]; exact mm_up_n _ _ h
  replace hfr : ∀ q : Nat, q < b → E15 q = E0 q := fun q h => (frs q (by omega)).trans (hfr q h)
  replace hE : E15 b = some (.inr (8, [.ref (b + 1), .ref (b + 2), .ref (b + 3), .ref (b + 4), .ref (b + 6), .ref (b + 17), .ref (b + 30), .null, .null, .null, .int 0])) := by rw [hE15]; exact mm_up_s _ _ _
  replace a1 : E15 (b + 1) = some (mm_Q G 2 8 (fun _ => none)) := (frs _ (by omega)).trans a1
  replace a2 : E15 (b + 2) = some (mm_Q G 2 8 (fun _ => none)) := (frs _ (by omega)).trans a2
  replace a3 : E15 (b + 3) = some (mm_Q G 3 4 (fun _ => none)) := (frs _ (by omega)).trans a3
  replace t4 : tp G E15 (b + 4) (fun _ => 0) 0 0 0 0 0 0 0 := t4.kept (frs _ (by omega)) (frs _ (by omega))
  replace t6 : nA_ G E15 (b + 6) := t6.kept (fun q h1 h2 => frs q (by omega))
  replace t17 : nB_ G E15 (b + 17) (b + 6) := t17.kept (fun q h1 h2 => frs q (by omega))
  replace t30 : pt G E15 (b + 30) 0 0 0 0 0 := (frs _ (by omega)).trans t30
  refine lv_aload_n C0.1 C0.2.1 dX9_init_78 rfl (lv_at hl 0 rfl) ?_
  refine mm_newA (ci := 0) (fs := [.null, .null, .null, .null, .null, .null, .null, .null]) C0 (C := RX1) (T := TX1) (N := 8) iG_X1 tyX1 tyX1_ok tw_163 tw_164 tw_7 hM hS rfl (fun j hj => by rcases (show j = 0 ∨ j = 1 ∨ j = 2 ∨ j = 3 ∨ j = 4 ∨ j = 5 ∨ j = 6 ∨ j = 7 by omega) with rfl | rfl | rfl | rfl | rfl | rfl | rfl | rfl <;> rfl) hz (Nat.le_of_ble_eq_true rfl) (Nat.le_of_ble_eq_true rfl) dX9_init_79 (fun H hM hS hz9 => ?_)
  replace hz := hz9
  clear hz9
  obtain ⟨E16, hE16⟩ : ∃ X : mE, X = mm_up E15 (b + 31) (.inr (0, [.null, .null, .null, .null, .null, .null, .null, .null])) := ⟨_, rfl⟩
  replace hM : mm_M G E16 H := by rw [hE16]; exact hM
  have frs : ∀ q : Nat, q ≠ b + 31 → E16 q = E15 q := fun q h => by rw [hE16]; exact mm_up_n _ _ h
  replace a1 : E16 (b + 1) = some (mm_Q G 2 8 (fun _ => none)) := (frs _ (by omega)).trans a1
  replace a2 : E16 (b + 2) = some (mm_Q G 2 8 (fun _ => none)) := (frs _ (by omega)).trans a2
  replace a3 : E16 (b + 3) = some (mm_Q G 3 4 (fun _ => none)) := (frs _ (by omega)).trans a3
  replace t4 : tp G E16 (b + 4) (fun _ => 0) 0 0 0 0 0 0 0 := t4.kept (frs _ (by omega)) (frs _ (by omega))
  replace t6 : nA_ G E16 (b + 6) := t6.kept (fun q h1 h2 => frs q (by omega))
  replace t17 : nB_ G E16 (b + 17) (b + 6) := t17.kept (fun q h1 h2 => frs q (by omega))
  replace t30 : pt G E16 (b + 30) 0 0 0 0 0 := (frs _ (by omega)).trans t30
  replace hE : E16 b = some (.inr (8, [.ref (b + 1), .ref (b + 2), .ref (b + 3), .ref (b + 4), .ref (b + 6), .ref (b + 17), .ref (b + 30), .null, .null, .null, .int 0])) := (frs _ (by omega)).trans hE
  replace hfr : ∀ q : Nat, q < b → E16 q = E0 q := fun q h => (frs q (by omega)).trans (hfr q h)
  have hN : E16 (b + 31) = some (.inr (0, [.null, .null, .null, .null, .null, .null, .null, .null])) := by rw [hE16]; exact mm_up_s _ _ _
  refine lv_dup C0.1 C0.2.1 dX9_init_82 rfl ?_
  refine lv_aload_n C0.1 C0.2.1 dX9_init_83 rfl (lv_at hl 0 rfl) ?_
  refine mm_get (fs := [.ref (b + 1), .ref (b + 2), .ref (b + 3), .ref (b + 4), .ref (b + 6), .ref (b + 17), .ref (b + 30), .null, .null, .null, .int 0]) C0 (C := RX9) (T := TX9) (N := 11) iG_X9 hM hE rfl 6 (by decide) tw_242 rfl rfl dX9_init_84 ?_
  refine mm_callI (y := yX1_init) (mc := 14) (ms := 406) (rm := rX1_init) C0 ho iw_X1 tw_165 (As := [.ref (b + 30)]) (rest := [.ref (b + 31), .ref b]) hz (c_X1_init l G E16 hN) hM rfl hl.1 rfl (Nat.le_of_ble_eq_true rfl) ⟨rfl, rfl, (Nat.le_of_ble_eq_true rfl), (Nat.le_of_ble_eq_true rfl)⟩ (Nat.le_of_ble_eq_true rfl) (Nat.le_of_ble_eq_true rfl) dX9_init_87 hS (fun E2 H locs hP hM hS hz9 => ?_)
  replace hz := hz9
  clear hz9
  obtain ⟨hP, fr2⟩ := hP
  obtain ⟨E17, hE17⟩ : ∃ X : mE, X = E2 := ⟨_, rfl⟩
  subst hE17
  replace a1 : E17 (b + 1) = some (mm_Q G 2 8 (fun _ => none)) := (fr2 _ (by omega)).trans a1
  replace a2 : E17 (b + 2) = some (mm_Q G 2 8 (fun _ => none)) := (fr2 _ (by omega)).trans a2
  replace a3 : E17 (b + 3) = some (mm_Q G 3 4 (fun _ => none)) := (fr2 _ (by omega)).trans a3
  replace t4 : tp G E17 (b + 4) (fun _ => 0) 0 0 0 0 0 0 0 := t4.kept (fr2 _ (by omega)) (fr2 _ (by omega))
  replace t6 : nA_ G E17 (b + 6) := t6.kept (fun q h1 h2 => fr2 q (by omega))
  replace t17 : nB_ G E17 (b + 17) (b + 6) := t17.kept (fun q h1 h2 => fr2 q (by omega))
  replace t30 : pt G E17 (b + 30) 0 0 0 0 0 := (fr2 _ (by omega)).trans t30
  replace hE : E17 b = some (.inr (8, [.ref (b + 1), .ref (b + 2), .ref (b + 3), .ref (b + 4), .ref (b + 6), .ref (b + 17), .ref (b + 30), .null, .null, .null, .int 0])) := (fr2 _ (by omega)).trans hE
  replace hfr : ∀ q : Nat, q < b → E17 q = E0 q := fun q h => (fr2 q (by omega)).trans (hfr q h)
  clear fr2
  have t31 : nD_ G E17 (b + 31) (b + 30) := hP
  refine mm_putF (v := .ref (b + 31)) (fs := [.ref (b + 1), .ref (b + 2), .ref (b + 3), .ref (b + 4), .ref (b + 6), .ref (b + 17), .ref (b + 30), .null, .null, .null, .int 0]) C0 (C := RX9) (T := TX9) (N := 11) iG_X9 tyX9 tyX9_ok nmX9 hM hS hE rfl 7 (by decide) tw_243 rfl rfl hin rfl (ty := tyX9 7) (tyX9_ok 7 (by decide)) rfl rfl (Nat.le_of_ble_eq_true rfl) dX9_init_90 (fun H locs hM hS hsz => ?_)
  replace hz := hsz.trans hz
  clear hsz
  obtain ⟨E18, hE18⟩ : ∃ X : mE, X = mm_up E17 (b) (.inr (8, [.ref (b + 1), .ref (b + 2), .ref (b + 3), .ref (b + 4), .ref (b + 6), .ref (b + 17), .ref (b + 30), .ref (b + 31), .null, .null, .int 0])) := ⟨_, rfl⟩
  replace hM : mm_M G E18 H := by rw [hE18]; exact hM
  have frs : ∀ q : Nat, q ≠ b → E18 q = E17 q := fun q h => by rw [hE18]; exact mm_up_n _ _ h
  replace hfr : ∀ q : Nat, q < b → E18 q = E0 q := fun q h => (frs q (by omega)).trans (hfr q h)
  replace hE : E18 b = some (.inr (8, [.ref (b + 1), .ref (b + 2), .ref (b + 3), .ref (b + 4), .ref (b + 6), .ref (b + 17), .ref (b + 30), .ref (b + 31), .null, .null, .int 0])) := by rw [hE18]; exact mm_up_s _ _ _
  replace a1 : E18 (b + 1) = some (mm_Q G 2 8 (fun _ => none)) := (frs _ (by omega)).trans a1
  replace a2 : E18 (b + 2) = some (mm_Q G 2 8 (fun _ => none)) := (frs _ (by omega)).trans a2
  replace a3 : E18 (b + 3) = some (mm_Q G 3 4 (fun _ => none)) := (frs _ (by omega)).trans a3
  replace t4 : tp G E18 (b + 4) (fun _ => 0) 0 0 0 0 0 0 0 := t4.kept (frs _ (by omega)) (frs _ (by omega))
  replace t6 : nA_ G E18 (b + 6) := t6.kept (fun q h1 h2 => frs q (by omega))
  replace t17 : nB_ G E18 (b + 17) (b + 6) := t17.kept (fun q h1 h2 => frs q (by omega))
  replace t30 : pt G E18 (b + 30) 0 0 0 0 0 := (frs _ (by omega)).trans t30
  replace t31 : nD_ G E18 (b + 31) (b + 30) := t31.kept (fun q h1 h2 => frs q (by omega))
  refine lv_aload_n C0.1 C0.2.1 dX9_init_93 rfl (lv_at hl 0 rfl) ?_
  refine mm_mk (P := fun E => wR G E (b + 46) 0 (fun _ => 0)) C0 ho (C := RX8) (T := TX8) (N := 2) iG_X8 tyX8 tyX8_ok tw_198 tw_75 tw_4 (ci := 7) rfl (fs := [.null, .int 0]) (fun j hj => by rcases (show j = 0 ∨ j = 1 by omega) with rfl | rfl <;> rfl) (y := yX8_init) (mc := 1) (ms := 56) (rm := rX8_init) iw_X8 tw_199 hz (fun E1 hE1 => c_X8_init l G E1 hE1) hM hS hl.1 (Nat.le_of_ble_eq_true rfl) ⟨rfl, rfl, (Nat.le_of_ble_eq_true rfl), (Nat.le_of_ble_eq_true rfl)⟩ (Nat.le_of_ble_eq_true rfl) (Nat.le_of_ble_eq_true rfl) dX9_init_94 dX9_init_97 dX9_init_98 (fun E2 H locs hP fr2 hM hS hz9 => ?_)
  replace hz := hz9
  clear hz9
  obtain ⟨E19, hE19⟩ : ∃ X : mE, X = E2 := ⟨_, rfl⟩
  subst hE19
  replace a1 : E19 (b + 1) = some (mm_Q G 2 8 (fun _ => none)) := (fr2 _ (by omega)).trans a1
  replace a2 : E19 (b + 2) = some (mm_Q G 2 8 (fun _ => none)) := (fr2 _ (by omega)).trans a2
  replace a3 : E19 (b + 3) = some (mm_Q G 3 4 (fun _ => none)) := (fr2 _ (by omega)).trans a3
  replace t4 : tp G E19 (b + 4) (fun _ => 0) 0 0 0 0 0 0 0 := t4.kept (fr2 _ (by omega)) (fr2 _ (by omega))
  replace t6 : nA_ G E19 (b + 6) := t6.kept (fun q h1 h2 => fr2 q (by omega))
  replace t17 : nB_ G E19 (b + 17) (b + 6) := t17.kept (fun q h1 h2 => fr2 q (by omega))
  replace t30 : pt G E19 (b + 30) 0 0 0 0 0 := (fr2 _ (by omega)).trans t30
  replace t31 : nD_ G E19 (b + 31) (b + 30) := t31.kept (fun q h1 h2 => fr2 q (by omega))
  replace hE : E19 b = some (.inr (8, [.ref (b + 1), .ref (b + 2), .ref (b + 3), .ref (b + 4), .ref (b + 6), .ref (b + 17), .ref (b + 30), .ref (b + 31), .null, .null, .int 0])) := (fr2 _ (by omega)).trans hE
  replace hfr : ∀ q : Nat, q < b → E19 q = E0 q := fun q h => (fr2 q (by omega)).trans (hfr q h)
  clear fr2
  have t46 : wR G E19 (b + 46) 0 (fun _ => 0) := hP
  refine mm_putF (v := .ref (b + 46)) (fs := [.ref (b + 1), .ref (b + 2), .ref (b + 3), .ref (b + 4), .ref (b + 6), .ref (b + 17), .ref (b + 30), .ref (b + 31), .null, .null, .int 0]) C0 (C := RX9) (T := TX9) (N := 11) iG_X9 tyX9 tyX9_ok nmX9 hM hS hE rfl 8 (by decide) tw_244 rfl rfl hin rfl (ty := tyX9 8) (tyX9_ok 8 (by decide)) rfl rfl (Nat.le_of_ble_eq_true rfl) dX9_init_101 (fun H locs hM hS hsz => ?_)
  replace hz := hsz.trans hz
  clear hsz
  obtain ⟨E20, hE20⟩ : ∃ X : mE, X = mm_up E19 (b) (.inr (8, [.ref (b + 1), .ref (b + 2), .ref (b + 3), .ref (b + 4), .ref (b + 6), .ref (b + 17), .ref (b + 30), .ref (b + 31), .ref (b + 46), .null, .int 0])) := ⟨_, rfl⟩
  replace hM : mm_M G E20 H := by rw [hE20]; exact hM
  have frs : ∀ q : Nat, q ≠ b → E20 q = E19 q := fun q h => by rw [hE20]; exact mm_up_n _ _ h
  replace hfr : ∀ q : Nat, q < b → E20 q = E0 q := fun q h => (frs q (by omega)).trans (hfr q h)
  replace hE : E20 b = some (.inr (8, [.ref (b + 1), .ref (b + 2), .ref (b + 3), .ref (b + 4), .ref (b + 6), .ref (b + 17), .ref (b + 30), .ref (b + 31), .ref (b + 46), .null, .int 0])) := by rw [hE20]; exact mm_up_s _ _ _
  replace a1 : E20 (b + 1) = some (mm_Q G 2 8 (fun _ => none)) := (frs _ (by omega)).trans a1
  replace a2 : E20 (b + 2) = some (mm_Q G 2 8 (fun _ => none)) := (frs _ (by omega)).trans a2
  replace a3 : E20 (b + 3) = some (mm_Q G 3 4 (fun _ => none)) := (frs _ (by omega)).trans a3
  replace t4 : tp G E20 (b + 4) (fun _ => 0) 0 0 0 0 0 0 0 := t4.kept (frs _ (by omega)) (frs _ (by omega))
  replace t6 : nA_ G E20 (b + 6) := t6.kept (fun q h1 h2 => frs q (by omega))
  replace t17 : nB_ G E20 (b + 17) (b + 6) := t17.kept (fun q h1 h2 => frs q (by omega))
  replace t30 : pt G E20 (b + 30) 0 0 0 0 0 := (frs _ (by omega)).trans t30
  replace t31 : nD_ G E20 (b + 31) (b + 30) := t31.kept (fun q h1 h2 => frs q (by omega))
  replace t46 : wR G E20 (b + 46) 0 (fun _ => 0) := t46.kept (frs _ (by omega)) (frs _ (by omega))
  refine lv_aload_n C0.1 C0.2.1 dX9_init_104 rfl (lv_at hl 0 rfl) ?_
  refine mm_mk (P := fun E => wR G E (b + 48) 0 (fun _ => 0)) C0 ho (C := RX8) (T := TX8) (N := 2) iG_X8 tyX8 tyX8_ok tw_198 tw_75 tw_4 (ci := 7) rfl (fs := [.null, .int 0]) (fun j hj => by rcases (show j = 0 ∨ j = 1 by omega) with rfl | rfl <;> rfl) (y := yX8_init) (mc := 1) (ms := 56) (rm := rX8_init) iw_X8 tw_199 hz (fun E1 hE1 => c_X8_init l G E1 hE1) hM hS hl.1 (Nat.le_of_ble_eq_true rfl) ⟨rfl, rfl, (Nat.le_of_ble_eq_true rfl), (Nat.le_of_ble_eq_true rfl)⟩ (Nat.le_of_ble_eq_true rfl) (Nat.le_of_ble_eq_true rfl) dX9_init_105 dX9_init_108 dX9_init_109 (fun E2 H locs hP fr2 hM hS hz9 => ?_)
  replace hz := hz9
  clear hz9
  obtain ⟨E21, hE21⟩ : ∃ X : mE, X = E2 := ⟨_, rfl⟩
  subst hE21
  replace a1 : E21 (b + 1) = some (mm_Q G 2 8 (fun _ => none)) := (fr2 _ (by omega)).trans a1
  replace a2 : E21 (b + 2) = some (mm_Q G 2 8 (fun _ => none)) := (fr2 _ (by omega)).trans a2
  replace a3 : E21 (b + 3) = some (mm_Q G 3 4 (fun _ => none)) := (fr2 _ (by omega)).trans a3
  replace t4 : tp G E21 (b + 4) (fun _ => 0) 0 0 0 0 0 0 0 := t4.kept (fr2 _ (by omega)) (fr2 _ (by omega))
  replace t6 : nA_ G E21 (b + 6) := t6.kept (fun q h1 h2 => fr2 q (by omega))
  replace t17 : nB_ G E21 (b + 17) (b + 6) := t17.kept (fun q h1 h2 => fr2 q (by omega))
  replace t30 : pt G E21 (b + 30) 0 0 0 0 0 := (fr2 _ (by omega)).trans t30
  replace t31 : nD_ G E21 (b + 31) (b + 30) := t31.kept (fun q h1 h2 => fr2 q (by omega))
  replace t46 : wR G E21 (b + 46) 0 (fun _ => 0) := t46.kept (fr2 _ (by omega)) (fr2 _ (by omega))
  replace hE : E21 b = some (.inr (8, [.ref (b + 1), .ref (b + 2), .ref (b + 3), .ref (b + 4), .ref (b + 6), .ref (b + 17), .ref (b + 30), .ref (b + 31), .ref (b + 46), .null, .int 0])) := (fr2 _ (by omega)).trans hE
  replace hfr : ∀ q : Nat, q < b → E21 q = E0 q := fun q h => (fr2 q (by omega)).trans (hfr q h)
  clear fr2
  have t48 : wR G E21 (b + 48) 0 (fun _ => 0) := hP
  refine mm_putF (v := .ref (b + 48)) (fs := [.ref (b + 1), .ref (b + 2), .ref (b + 3), .ref (b + 4), .ref (b + 6), .ref (b + 17), .ref (b + 30), .ref (b + 31), .ref (b + 46), .null, .int 0]) C0 (C := RX9) (T := TX9) (N := 11) iG_X9 tyX9 tyX9_ok nmX9 hM hS hE rfl 9 (by decide) tw_245 rfl rfl hin rfl (ty := tyX9 9) (tyX9_ok 9 (by decide)) rfl rfl (Nat.le_of_ble_eq_true rfl) dX9_init_112 (fun H locs hM hS hsz => ?_)
  replace hz := hsz.trans hz
  clear hsz
  obtain ⟨E22, hE22⟩ : ∃ X : mE, X = mm_up E21 (b) (.inr (8, [.ref (b + 1), .ref (b + 2), .ref (b + 3), .ref (b + 4), .ref (b + 6), .ref (b + 17), .ref (b + 30), .ref (b + 31), .ref (b + 46), .ref (b + 48), .int 0])) := ⟨_, rfl⟩
  replace hM : mm_M G E22 H := by rw [hE22]; exact hM
  have frs : ∀ q : Nat, q ≠ b → E22 q = E21 q := fun q h => by rw [hE22]; exact mm_up_n _ _ h
  replace hfr : ∀ q : Nat, q < b → E22 q = E0 q := fun q h => (frs q (by omega)).trans (hfr q h)
  replace hE : E22 b = some (.inr (8, [.ref (b + 1), .ref (b + 2), .ref (b + 3), .ref (b + 4), .ref (b + 6), .ref (b + 17), .ref (b + 30), .ref (b + 31), .ref (b + 46), .ref (b + 48), .int 0])) := by rw [hE22]; exact mm_up_s _ _ _
  replace a1 : E22 (b + 1) = some (mm_Q G 2 8 (fun _ => none)) := (frs _ (by omega)).trans a1
  replace a2 : E22 (b + 2) = some (mm_Q G 2 8 (fun _ => none)) := (frs _ (by omega)).trans a2
  replace a3 : E22 (b + 3) = some (mm_Q G 3 4 (fun _ => none)) := (frs _ (by omega)).trans a3
  replace t4 : tp G E22 (b + 4) (fun _ => 0) 0 0 0 0 0 0 0 := t4.kept (frs _ (by omega)) (frs _ (by omega))
  replace t6 : nA_ G E22 (b + 6) := t6.kept (fun q h1 h2 => frs q (by omega))
  replace t17 : nB_ G E22 (b + 17) (b + 6) := t17.kept (fun q h1 h2 => frs q (by omega))
  replace t30 : pt G E22 (b + 30) 0 0 0 0 0 := (frs _ (by omega)).trans t30
  replace t31 : nD_ G E22 (b + 31) (b + 30) := t31.kept (fun q h1 h2 => frs q (by omega))
  replace t46 : wR G E22 (b + 46) 0 (fun _ => 0) := t46.kept (frs _ (by omega)) (frs _ (by omega))
  replace t48 : wR G E22 (b + 48) 0 (fun _ => 0) := t48.kept (frs _ (by omega)) (frs _ (by omega))
  have hO9 : o9_ G E22 b := hE
  have hR9 : r9_ G E22 b := ⟨t4, t6, t17, t30, t31, t46, t48⟩
  refine lv_iconst (v := zI 0) C0.1 C0.2.1 dX9_init_115 rfl ?_
  refine lv_istore_n (lv' := [(1, .int (zI (0))), (0, .ref (b))]) C0.1 C0.2.1 dX9_init_116 rfl hl (by decide) rfl (fun ls hl => ?_)
  have L2 : ∀ (k2 : Nat) (u : Nat) (f1 f2 f3 : Nat → Option Nat) (E1 : mE) (H : Heap) (locs : List Loc) (ls : Array Slot), u ≤ 4 → o9_ G E1 b → E1 (b + 1) = some (mm_Q G 2 8 f1) → E1 (b + 2) = some (mm_Q G 2 8 f2) → E1 (b + 3) = some (mm_Q G 3 4 f3) → (∀ i, i < 8 → f1 i = some (b + 50 + 6 * i)) → (∀ i, i < 8 → f2 i = some (b + 53 + 6 * i)) → (∀ i, i < u → f3 i = some (b + 98 + 2 * i)) → (∀ i, i < 8 → nP_ G E1 (b + 50 + 6 * i)) → (∀ i, i < 8 → nP_ G E1 (b + 53 + 6 * i)) → (∀ i, i < u → sh0 G E1 (b + 98 + 2 * i)) → r9_ G E1 b → (∀ q : Nat, q < b → E1 q = E0 q) → H.size = b + 98 + 2 * u → 4 - u < k2 → mm_M G E1 H → va_S (mm_A G) s.heap H locs → lv_has ls 2 [(0, .ref (b)), (1, .int (zI ((u : Int))))] → W p l e rX9_init s m args below meth c H locs (97 + 2 * u) (2289 + 27 * u) (mm_Zn G below args s (b + 1) 105 2397 (fun E => (st G E b s0) ∧ ∀ q, q < b → E q = E0 q)) (F0 m 157 ls []) := by
    intro k2
    induction k2 with
    | zero => intro u f1 f2 f3 E1 H locs ls hu hE a1 a2 a3 e1 e2 e3 p1 p2 p3 hR hfr hz hk hM hS hl; exact absurd hk (Nat.not_lt_zero _)
    | succ k2 ih2 =>
      intro u f1 f2 f3 E1 H locs ls hu hE a1 a2 a3 e1 e2 e3 p1 p2 p3 hR hfr hz hk hM hS hl
      refine lv_iload_n C0.1 C0.2.1 dX9_init_157 rfl (lv_at hl 1 rfl) ?_
      refine lv_iconst (v := zI 4) C0.1 C0.2.1 dX9_init_158 rfl ?_
      refine z_icmp_ge (tgt := 181) C0.1 C0.2.1 dX9_init_159 (by decide) ⟨by omega, by omega⟩ ⟨by omega, by omega⟩ (fun c_5 => ?_) (fun c_5 => ?_)
      · have hu4 : u = 4 := by omega
        subst hu4
        exact mm_nret C0 hr hlk hM hS (hz.trans (by omega)) (by omega) (by omega) dX9_init_181 ⟨st_new hE a1 a2 a3 e1 e2 e3 p1 p2 p3 hR, hfr⟩
      · refine lv_aload_n C0.1 C0.2.1 dX9_init_162 rfl (lv_at hl 0 rfl) ?_
        refine mm_get (fs := [.ref (b + 1), .ref (b + 2), .ref (b + 3), .ref (b + 4), .ref (b + 6), .ref (b + 17), .ref (b + 30), .ref (b + 31), .ref (b + 46), .ref (b + 48), .int 0]) C0 (C := RX9) (T := TX9) (N := 11) iG_X9 hM hE rfl 2 (by decide) tw_238 rfl rfl dX9_init_163 ?_
        refine lv_iload_n C0.1 C0.2.1 dX9_init_166 rfl (lv_at hl 1 rfl) ?_
        refine mm_mk (P := fun E => sh0 G E (b + 98 + 2 * u)) C0 ho (C := RX6) (T := TX6) (N := 3) iG_X6 tyX6 tyX6_ok tw_28 tw_220 tw_9 (ci := 5) rfl (fs := [.null, .int 0, .int 0]) (fun j hj => by rcases (show j = 0 ∨ j = 1 ∨ j = 2 by omega) with rfl | rfl | rfl <;> rfl) (y := yX6_init) (mc := 1) (ms := 24) (rm := rX6_init) iw_X6 tw_221 hz (fun E1 hE1 => c_X6_init l G E1 hE1) hM hS hl.1 (Nat.le_of_ble_eq_true rfl) ⟨rfl, rfl, (Nat.le_of_ble_eq_true rfl), (Nat.le_of_ble_eq_true rfl)⟩ (by show _ ≤ 105; omega) (by show _ ≤ 2397; omega) dX9_init_167 dX9_init_170 dX9_init_171 (fun E2 H locs hP fr2 hM hS hz => ?_)
        have hE := (fr2 b (by omega)).trans hE
        have a1 := (fr2 _ (by omega)).trans a1
        have a2 := (fr2 _ (by omega)).trans a2
        have a3 := (fr2 _ (by omega)).trans a3
        have p1 := fun i hi => (p1 i hi).kept (fun q h1 h2 => fr2 q (by omega))
        have p2 := fun i hi => (p2 i hi).kept (fun q h1 h2 => fr2 q (by omega))
        have p3 := fun i hi => (p3 i hi).kept (fun q h1 h2 => fr2 q (by omega))
        have hR := hR.kept (fun q h1 h2 => fr2 q (by omega))
        have hfr := fun q h => (fr2 q (by omega)).trans (hfr q h)
        refine mm_aast C0 hM hS 3 (f := f3) (r := (RX6, TX6, 3)) (ci := 5) a3 rfl (id hP.1) rfl u (i := (u : Int)) rfl (by omega) (by decide) dX9_init_174 (fun H locs hM hS hsz => ?_)
        have hz := hsz.trans hz
        obtain ⟨E3, hE3⟩ : ∃ X : mE, X = mm_up E2 (b + 3) (mm_Q G 3 4 (va_up f3 u (some (b + 98 + 2 * u)))) := ⟨_, rfl⟩
        replace hM : mm_M G E3 H := by rw [hE3]; exact hM
        have frs : ∀ q : Nat, q ≠ b + 3 → E3 q = E2 q := fun q h => by rw [hE3]; exact mm_up_n _ _ h
        have hat : E3 (b + 3) = some (mm_Q G 3 4 (va_up f3 u (some (b + 98 + 2 * u)))) := by rw [hE3]; exact mm_up_s _ _ _
        refine lv_iinc (v := zI (((u + 1 : Nat) : Int))) (lv' := [(1, .int (zI (((u + 1 : Nat) : Int)))), (0, .ref (b))]) C0.1 C0.2.1 dX9_init_175 hl (k := 1) rfl (z_inc (a := (u : Int)) (n := 1) (by omega)) (by decide) rfl (fun ls hl => ?_)
        refine lv_goto (tgt := 157) C0.1 C0.2.1 dX9_init_178 (by decide) ?_
        refine W.widen (k := 97 + 2 * (u + 1)) (n := 2289 + 27 * (u + 1)) (by omega) (by omega) ?_
        exact ih2 (u + 1) f1 f2 _ E3 _ _ _ (by omega) ((frs b (by omega)).trans hE) ((frs _ (by omega)).trans a1) ((frs _ (by omega)).trans a2) hat e1 e2 (va_up1 e3 rfl) (fun i hi => (p1 i hi).kept (fun q h1 h2 => frs q (by omega))) (fun i hi => (p2 i hi).kept (fun q h1 h2 => frs q (by omega))) (fun i hi => by
          by_cases q : i = u
          · subst q; exact sh0.kept hP (fun q h1 h2 => frs q (by omega))
          · exact (p3 i (by omega)).kept (fun q h1 h2 => frs q (by omega))) (hR.kept (fun q h1 h2 => frs q (by omega))) (fun q h => (frs q (by omega)).trans (hfr q h)) (hz.trans (by omega)) (by omega) hM hS (lv_sub hl [1, 0] rfl)
  have L1 : ∀ (k2 : Nat) (u : Nat) (f1 f2 : Nat → Option Nat) (E1 : mE) (H : Heap) (locs : List Loc) (ls : Array Slot), u ≤ 8 → o9_ G E1 b → E1 (b + 1) = some (mm_Q G 2 8 f1) → E1 (b + 2) = some (mm_Q G 2 8 f2) → E1 (b + 3) = some (mm_Q G 3 4 (fun _ => none)) → (∀ i, i < u → f1 i = some (b + 50 + 6 * i)) → (∀ i, i < u → f2 i = some (b + 53 + 6 * i)) → (∀ i, i < u → nP_ G E1 (b + 50 + 6 * i)) → (∀ i, i < u → nP_ G E1 (b + 53 + 6 * i)) → r9_ G E1 b → (∀ q : Nat, q < b → E1 q = E0 q) → H.size = b + 50 + 6 * u → 8 - u < k2 → mm_M G E1 H → va_S (mm_A G) s.heap H locs → lv_has ls 2 [(0, .ref (b)), (1, .int (zI ((u : Int))))] → W p l e rX9_init s m args below meth c H locs (49 + 6 * u) (1313 + 122 * u) (mm_Zn G below args s (b + 1) 105 2397 (fun E => (st G E b s0) ∧ ∀ q, q < b → E q = E0 q)) (F0 m 117 ls []) := by
    intro k2
    induction k2 with
    | zero => intro u f1 f2 E1 H locs ls hu hE a1 a2 a3 e1 e2 p1 p2 hR hfr hz hk hM hS hl; exact absurd hk (Nat.not_lt_zero _)
    | succ k2 ih2 =>
      intro u f1 f2 E1 H locs ls hu hE a1 a2 a3 e1 e2 p1 p2 hR hfr hz hk hM hS hl
      refine lv_iload_n C0.1 C0.2.1 dX9_init_117 rfl (lv_at hl 1 rfl) ?_
      refine lv_bipush (v := zI 8) C0.1 C0.2.1 dX9_init_118 rfl ?_
      refine z_icmp_ge (tgt := 155) C0.1 C0.2.1 dX9_init_120 (by decide) ⟨by omega, by omega⟩ ⟨by omega, by omega⟩ (fun c_5 => ?_) (fun c_5 => ?_)
      · have hu8 : u = 8 := by omega
        subst hu8
        refine lv_iconst (v := zI 0) C0.1 C0.2.1 dX9_init_155 rfl ?_
        refine lv_istore_n (lv' := [(1, .int (zI (0))), (0, .ref (b))]) C0.1 C0.2.1 dX9_init_156 rfl hl (by decide) rfl (fun ls hl => ?_)
        refine W.widen (k := 97 + 2 * 0) (n := 2289 + 27 * 0) (by omega) (by omega) ?_
        exact L2 (4 - 0 + 1) 0 f1 f2 _ E1 _ _ _ (Nat.zero_le _) hE a1 a2 a3 e1 e2 (fun i hi => absurd hi (Nat.not_lt_zero _)) p1 p2 (fun i hi => absurd hi (Nat.not_lt_zero _)) hR hfr (hz.trans (by omega)) (by omega) hM hS (lv_sub hl [1, 0] rfl)
      · refine lv_aload_n C0.1 C0.2.1 dX9_init_123 rfl (lv_at hl 0 rfl) ?_
        refine mm_get (fs := [.ref (b + 1), .ref (b + 2), .ref (b + 3), .ref (b + 4), .ref (b + 6), .ref (b + 17), .ref (b + 30), .ref (b + 31), .ref (b + 46), .ref (b + 48), .int 0]) C0 (C := RX9) (T := TX9) (N := 11) iG_X9 hM hE rfl 0 (by decide) tw_236 rfl rfl dX9_init_124 ?_
        refine lv_iload_n C0.1 C0.2.1 dX9_init_127 rfl (lv_at hl 1 rfl) ?_
        refine mm_mk (P := fun E => nP_ G E (b + 50 + 6 * u)) C0 ho (C := RX3) (T := TX3) (N := 3) iG_X3 tyX3 tyX3_ok tw_26 tw_200 tw_8 (ci := 2) rfl (fs := [.int 0, .int 0, .null]) (fun j hj => by rcases (show j = 0 ∨ j = 1 ∨ j = 2 by omega) with rfl | rfl | rfl <;> rfl) (y := yX3_init) (mc := 2) (ms := 58) (rm := rX3_init) iw_X3 tw_201 hz (fun E1 hE1 => c_X3_init l G E1 hE1) hM hS hl.1 (Nat.le_of_ble_eq_true rfl) ⟨rfl, rfl, (Nat.le_of_ble_eq_true rfl), (Nat.le_of_ble_eq_true rfl)⟩ (by show _ ≤ 105; omega) (by show _ ≤ 2397; omega) dX9_init_128 dX9_init_131 dX9_init_132 (fun E2 H locs hP fr2 hM hS hz => ?_)
        have hE := (fr2 b (by omega)).trans hE
        have a1 := (fr2 _ (by omega)).trans a1
        have a2 := (fr2 _ (by omega)).trans a2
        have a3 := (fr2 _ (by omega)).trans a3
        have p1 := fun i hi => (p1 i hi).kept (fun q h1 h2 => fr2 q (by omega))
        have p2 := fun i hi => (p2 i hi).kept (fun q h1 h2 => fr2 q (by omega))
        have hR := hR.kept (fun q h1 h2 => fr2 q (by omega))
        have hfr := fun q h => (fr2 q (by omega)).trans (hfr q h)
        refine mm_aast C0 hM hS 2 (f := f1) (r := (RX3, TX3, 3)) (ci := 2) a1 rfl (id hP.1) rfl u (i := (u : Int)) rfl (by omega) (by decide) dX9_init_135 (fun H locs hM hS hsz => ?_)
        have hz := hsz.trans hz
        obtain ⟨E3, hE3⟩ : ∃ X : mE, X = mm_up E2 (b + 1) (mm_Q G 2 8 (va_up f1 u (some (b + 50 + 6 * u)))) := ⟨_, rfl⟩
        replace hM : mm_M G E3 H := by rw [hE3]; exact hM
        have frs : ∀ q : Nat, q ≠ b + 1 → E3 q = E2 q := fun q h => by rw [hE3]; exact mm_up_n _ _ h
        have a1 : E3 (b + 1) = some (mm_Q G 2 8 (va_up f1 u (some (b + 50 + 6 * u)))) := by rw [hE3]; exact mm_up_s _ _ _
        have hE := (frs b (by omega)).trans hE
        have a2 := (frs _ (by omega)).trans a2
        have a3 := (frs _ (by omega)).trans a3
        have p1 := fun i hi => (p1 i hi).kept (fun q h1 h2 => frs q (by omega))
        have p2 := fun i hi => (p2 i hi).kept (fun q h1 h2 => frs q (by omega))
        have hP1 : nP_ G E3 (b + 50 + 6 * u) := nP_.kept hP (fun q h1 h2 => frs q (by omega))
        have hR := hR.kept (fun q h1 h2 => frs q (by omega))
        have hfr := fun q h => (frs q (by omega)).trans (hfr q h)
        have e1 := va_up1 (v := b + 50 + 6 * u) e1 rfl
        clear frs fr2 hP
        refine lv_aload_n C0.1 C0.2.1 dX9_init_136 rfl (lv_at hl 0 rfl) ?_
        refine mm_get (fs := [.ref (b + 1), .ref (b + 2), .ref (b + 3), .ref (b + 4), .ref (b + 6), .ref (b + 17), .ref (b + 30), .ref (b + 31), .ref (b + 46), .ref (b + 48), .int 0]) C0 (C := RX9) (T := TX9) (N := 11) iG_X9 hM hE rfl 1 (by decide) tw_237 rfl rfl dX9_init_137 ?_
        refine lv_iload_n C0.1 C0.2.1 dX9_init_140 rfl (lv_at hl 1 rfl) ?_
        have hz : H.size = b + 53 + 6 * u := by rw [hz]; omega
        refine mm_mk (P := fun E => nP_ G E (b + 53 + 6 * u)) C0 ho (C := RX3) (T := TX3) (N := 3) iG_X3 tyX3 tyX3_ok tw_26 tw_200 tw_8 (ci := 2) rfl (fs := [.int 0, .int 0, .null]) (fun j hj => by rcases (show j = 0 ∨ j = 1 ∨ j = 2 by omega) with rfl | rfl | rfl <;> rfl) (y := yX3_init) (mc := 2) (ms := 58) (rm := rX3_init) iw_X3 tw_201 hz (fun E1 hE1 => c_X3_init l G E1 hE1) hM hS hl.1 (Nat.le_of_ble_eq_true rfl) ⟨rfl, rfl, (Nat.le_of_ble_eq_true rfl), (Nat.le_of_ble_eq_true rfl)⟩ (by show _ ≤ 105; omega) (by show _ ≤ 2397; omega) dX9_init_141 dX9_init_144 dX9_init_145 (fun E2 H locs hP fr2 hM hS hz => ?_)
        have hE := (fr2 b (by omega)).trans hE
        have a1 := (fr2 _ (by omega)).trans a1
        have a2 := (fr2 _ (by omega)).trans a2
        have a3 := (fr2 _ (by omega)).trans a3
        have p1 := fun i hi => (p1 i hi).kept (fun q h1 h2 => fr2 q (by omega))
        have p2 := fun i hi => (p2 i hi).kept (fun q h1 h2 => fr2 q (by omega))
        have hP1 := hP1.kept (fun q h1 h2 => fr2 q (by omega))
        have hR := hR.kept (fun q h1 h2 => fr2 q (by omega))
        have hfr := fun q h => (fr2 q (by omega)).trans (hfr q h)
        refine mm_aast C0 hM hS 2 (f := f2) (r := (RX3, TX3, 3)) (ci := 2) a2 rfl (id hP.1) rfl u (i := (u : Int)) rfl (by omega) (by decide) dX9_init_148 (fun H locs hM hS hsz => ?_)
        have hz := hsz.trans hz
        obtain ⟨E4, hE4⟩ : ∃ X : mE, X = mm_up E2 (b + 2) (mm_Q G 2 8 (va_up f2 u (some (b + 53 + 6 * u)))) := ⟨_, rfl⟩
        replace hM : mm_M G E4 H := by rw [hE4]; exact hM
        have frs : ∀ q : Nat, q ≠ b + 2 → E4 q = E2 q := fun q h => by rw [hE4]; exact mm_up_n _ _ h
        have hat : E4 (b + 2) = some (mm_Q G 2 8 (va_up f2 u (some (b + 53 + 6 * u)))) := by rw [hE4]; exact mm_up_s _ _ _
        refine lv_iinc (v := zI (((u + 1 : Nat) : Int))) (lv' := [(1, .int (zI (((u + 1 : Nat) : Int)))), (0, .ref (b))]) C0.1 C0.2.1 dX9_init_149 hl (k := 1) rfl (z_inc (a := (u : Int)) (n := 1) (by omega)) (by decide) rfl (fun ls hl => ?_)
        refine lv_goto (tgt := 117) C0.1 C0.2.1 dX9_init_152 (by decide) ?_
        refine W.widen (k := 49 + 6 * (u + 1)) (n := 1313 + 122 * (u + 1)) (by omega) (by omega) ?_
        exact ih2 (u + 1) _ _ E4 _ _ _ (by omega) ((frs b (by omega)).trans hE) ((frs _ (by omega)).trans a1) hat ((frs _ (by omega)).trans a3) e1 (va_up1 e2 rfl) (fun i hi => by
          by_cases q : i = u
          · subst q; exact hP1.kept (fun q h1 h2 => frs q (by omega))
          · exact (p1 i (by omega)).kept (fun q h1 h2 => frs q (by omega))) (fun i hi => by
          by_cases q : i = u
          · subst q; exact nP_.kept hP (fun q h1 h2 => frs q (by omega))
          · exact (p2 i (by omega)).kept (fun q h1 h2 => frs q (by omega))) (hR.kept (fun q h1 h2 => frs q (by omega))) (fun q h => (frs q (by omega)).trans (hfr q h)) (hz.trans (by omega)) (by omega) hM hS (lv_sub hl [1, 0] rfl)
  refine W.widen (k := 49 + 6 * 0) (n := 1313 + 122 * 0) (Nat.le_of_ble_eq_true rfl) (Nat.le_of_ble_eq_true rfl) ?_
  exact L1 (8 - 0 + 1) 0 _ _ E22 _ _ _ (Nat.zero_le _) hO9 a1 a2 a3 (fun i hi => absurd hi (Nat.not_lt_zero _)) (fun i hi => absurd hi (Nat.not_lt_zero _)) (fun i hi => absurd hi (Nat.not_lt_zero _)) (fun i hi => absurd hi (Nat.not_lt_zero _)) hR9 hfr (hz.trans (by omega)) (by omega) hM hS (lv_sub hl [1, 0] rfl)
