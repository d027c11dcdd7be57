def pt (G : mG) (E : mE) (t : Nat) (d f m D a : Int) : Prop := E t = some (.inr (1, [.int (zI a), .int (zI f), .int (zI m), .int (zI D), .int (zI d)]))
theorem pt.kept {G : mG} {E E1 : mE} {t : Nat} {d f m D a : Int} (h : pt G E t d f m D a) (h1 : E1 t = E t) : pt G E1 t d f m D a := h1.trans h
/-- a number whose root is no whole one, with the root rounded down -/
def rl (d f : Nat) : Prop := 1 ≤ f ∧ f ≤ 99 ∧ f * f < d ∧ d < (f + 1) * (f + 1) ∧ d ≤ 9999
theorem rl_rt {d f t : Nat} (h : rl d f) (hr : rtP 2 d t) : t = f := by
  obtain ⟨-, -, a, b, -⟩ := h
  obtain ⟨q1, q2⟩ := hr
  rw [Nat.pow_two] at q1 q2
  have u1 : t < f + 1 := Nat.lt_of_not_le fun q => by have := Nat.mul_le_mul q q; omega
  have u2 : f < t + 1 := Nat.lt_of_not_le fun q => by have := Nat.mul_le_mul q q; omega
  omega
def ptn (G : mG) (E : mE) (t d f n : Nat) : Prop := pt G E t d f ((cf d f n).1 : Int) ((cf d f n).2.1 : Int) ((cf d f n).2.2 : Int)
theorem ptn.kept {G : mG} {E E1 : mE} {t d f n : Nat} (h : ptn G E t d f n) (h1 : E1 t = E t) : ptn G E1 t d f n := pt.kept h h1
theorem cf_a {d f : Nat} (h : rl d f) (n : Nat) : 1 ≤ (cf d f n).2.2 ∧ (cf d f n).2.2 ≤ 198 := by
  have h9 := cf_ok h.1 h.2.2.1 h.2.2.2.1 n
  have h8 := cf_next h.2.2.1 h.2.2.2.1 h9
  have := h.2.1; have := h9.1
  omega

def rX2_begin : Room := { frames := 1, cells := 0, slots := 0, locals := 26 }
theorem vw_X2_begin : mm_Vw RX2 yX2_begin cX2_begin 2 none 1 := ⟨tw_579, tw_580, tw_6, tw_581, by decide +kernel⟩
set_option maxHeartbeats 4000000 in
set_option maxRecDepth 100000 in
theorem c_X2_begin (l : Launch) (G : mG) (E0 : mE) {t d f : Nat} {d0 f0 m0 D0 a0 : Int} (hP : pt G E0 t d0 f0 m0 D0 a0) (hrl : rl d f) : mm_Cv l yX2_begin (.code yX2_begin cX2_begin 2 none :: wsG) rX2_begin G [.ref (t), .int (zI ((d : Int)))] E0 (fun E => ptn G E t d f 0 ∧ ∀ q : Nat, q ≠ t → E q = E0 q) := by
  refine mm_of_v (by decide +kernel) (Nat.le_of_ble_eq_true rfl) ?_
  intro p e s m args below meth c ls C0 hr hlk hM hl hS
  have hl : lv_has ls 2 [(0, .ref (t)), (1, .int (zI ((d : Int))))] := hl
  have hr9 := hrl
  obtain ⟨hf1, hf2, hf3, hf4, hd⟩ := hrl
  have hfr : ∀ q : Nat, q ≠ t → E0 q = E0 q := fun _ _ => rfl
  refine lv_aload_n C0.1 C0.2.1 dX2_begin_0 rfl (lv_at hl 0 rfl) ?_
  refine lv_iload_n C0.1 C0.2.1 dX2_begin_1 rfl (lv_at hl 1 rfl) ?_
  refine mm_put (v := .int (zI ((d : Int)))) (fs := [.int (zI (a0)), .int (zI (f0)), .int (zI (m0)), .int (zI (D0)), .int (zI (d0))]) C0 (C := RX2) (T := TX2) (N := 5) iG_X2 tyX2 tyX2_ok nmX2 hM hS (hP) rfl 4 (by decide) tw_151 rfl rfl (ty := tyX2 4) (tyX2_ok 4 (by decide)) rfl rfl (Nat.le_of_ble_eq_true rfl) dX2_begin_2 (fun H locs hM hS hsz => ?_)
  obtain ⟨E1, hE1⟩ : ∃ X : mE, X = mm_up E0 (t) (.inr (1, [.int (zI (a0)), .int (zI (f0)), .int (zI (m0)), .int (zI (D0)), .int (zI ((d : Int)))])) := ⟨_, rfl⟩
  replace hM : mm_M G E1 H := by rw [hE1]; exact hM
  have frs : ∀ q : Nat, q ≠ t → E1 q = E0 q := fun q h => by rw [hE1]; exact mm_up_n _ _ h
  have hat : E1 (t) = some (.inr (1, [.int (zI (a0)), .int (zI (f0)), .int (zI (m0)), .int (zI (D0)), .int (zI ((d : Int)))])) := by rw [hE1]; exact mm_up_s _ _ _
  have hP1 : pt G E1 t d f0 m0 D0 a0 := hat
  have hfr := (fun q h => (frs q (by omega)).trans (hfr q h) : ∀ q : Nat, q ≠ t → E1 q = E0 q)
  refine lv_aload_n C0.1 C0.2.1 dX2_begin_5 rfl (lv_at hl 0 rfl) ?_
  refine lv_iload_n C0.1 C0.2.1 dX2_begin_6 rfl (lv_at hl 1 rfl) ?_
  refine z_i2l C0.1 C0.2.1 dX2_begin_7 ⟨by omega, by omega⟩ ?_
  refine mm_callSl (As := [.long (zL ((d : Int)))]) C0 sw_X0_rootOf tw_582 (c_X0_rootOf l G _ d rfl (by omega)) hM rfl hl.1 rfl (Nat.le_of_ble_eq_true rfl) ⟨rfl, rfl, Nat.le_of_ble_eq_true rfl, Nat.le_of_ble_eq_true rfl, Nat.zero_le _, Nat.zero_le _⟩ dX2_begin_8 hS (fun z_8 E2 H locs hp hM hS => ?_)
  obtain ⟨hz_8, hEq⟩ := hp
  rw [hEq] at hM
  obtain ⟨u, hu1, hu2⟩ := hz_8
  refine z_asL (b := (f : Int)) (by rw [hu1, rl_rt hr9 hu2]) ?_
  refine z_l2i C0.1 C0.2.1 dX2_begin_11 ?_
  refine mm_put (v := .int (zI ((f : Int)))) (fs := [.int (zI (a0)), .int (zI (f0)), .int (zI (m0)), .int (zI (D0)), .int (zI ((d : Int)))]) C0 (C := RX2) (T := TX2) (N := 5) iG_X2 tyX2 tyX2_ok nmX2 hM hS (hP1) rfl 1 (by decide) tw_148 rfl rfl (ty := tyX2 1) (tyX2_ok 1 (by decide)) rfl rfl (Nat.le_of_ble_eq_true rfl) dX2_begin_12 (fun H locs hM hS hsz => ?_)
  obtain ⟨E3, hE3⟩ : ∃ X : mE, X = mm_up E1 (t) (.inr (1, [.int (zI (a0)), .int (zI ((f : Int))), .int (zI (m0)), .int (zI (D0)), .int (zI ((d : Int)))])) := ⟨_, rfl⟩
  replace hM : mm_M G E3 H := by rw [hE3]; exact hM
  have frs : ∀ q : Nat, q ≠ t → E3 q = E1 q := fun q h => by rw [hE3]; exact mm_up_n _ _ h
  have hat : E3 (t) = some (.inr (1, [.int (zI (a0)), .int (zI ((f : Int))), .int (zI (m0)), .int (zI (D0)), .int (zI ((d : Int)))])) := by rw [hE3]; exact mm_up_s _ _ _
  have hP2 : pt G E3 t d f m0 D0 a0 := hat
  have hfr := (fun q h => (frs q (by omega)).trans (hfr q h) : ∀ q : Nat, q ≠ t → E3 q = E0 q)
  refine lv_aload_n C0.1 C0.2.1 dX2_begin_15 rfl (lv_at hl 0 rfl) ?_
  refine lv_aload_n C0.1 C0.2.1 dX2_begin_16 rfl (lv_at hl 0 rfl) ?_
  refine mm_get (fs := [.int (zI (a0)), .int (zI ((f : Int))), .int (zI (m0)), .int (zI (D0)), .int (zI ((d : Int)))]) C0 (C := RX2) (T := TX2) (N := 5) iG_X2 hM (hP2) rfl 1 (by decide) tw_148 rfl rfl dX2_begin_17 ?_
  refine mm_put (v := .int (zI ((f : Int)))) (fs := [.int (zI (a0)), .int (zI ((f : Int))), .int (zI (m0)), .int (zI (D0)), .int (zI ((d : Int)))]) C0 (C := RX2) (T := TX2) (N := 5) iG_X2 tyX2 tyX2_ok nmX2 hM hS (hP2) rfl 0 (by decide) tw_146 rfl rfl (ty := tyX2 0) (tyX2_ok 0 (by decide)) rfl rfl (Nat.le_of_ble_eq_true rfl) dX2_begin_20 (fun H locs hM hS hsz => ?_)
  obtain ⟨E4, hE4⟩ : ∃ X : mE, X = mm_up E3 (t) (.inr (1, [.int (zI ((f : Int))), .int (zI ((f : Int))), .int (zI (m0)), .int (zI (D0)), .int (zI ((d : Int)))])) := ⟨_, rfl⟩
  replace hM : mm_M G E4 H := by rw [hE4]; exact hM
  have frs : ∀ q : Nat, q ≠ t → E4 q = E3 q := fun q h => by rw [hE4]; exact mm_up_n _ _ h
  have hat : E4 (t) = some (.inr (1, [.int (zI ((f : Int))), .int (zI ((f : Int))), .int (zI (m0)), .int (zI (D0)), .int (zI ((d : Int)))])) := by rw [hE4]; exact mm_up_s _ _ _
  have hP3 : pt G E4 t d f m0 D0 f := hat
  have hfr := (fun q h => (frs q (by omega)).trans (hfr q h) : ∀ q : Nat, q ≠ t → E4 q = E0 q)
  refine lv_aload_n C0.1 C0.2.1 dX2_begin_23 rfl (lv_at hl 0 rfl) ?_
  refine lv_iconst (v := zI 0) C0.1 C0.2.1 dX2_begin_24 rfl ?_
  refine mm_put (v := .int (zI (0))) (fs := [.int (zI ((f : Int))), .int (zI ((f : Int))), .int (zI (m0)), .int (zI (D0)), .int (zI ((d : Int)))]) C0 (C := RX2) (T := TX2) (N := 5) iG_X2 tyX2 tyX2_ok nmX2 hM hS (hP3) rfl 2 (by decide) tw_149 rfl rfl (ty := tyX2 2) (tyX2_ok 2 (by decide)) rfl rfl (Nat.le_of_ble_eq_true rfl) dX2_begin_25 (fun H locs hM hS hsz => ?_)
  obtain ⟨E5, hE5⟩ : ∃ X : mE, X = mm_up E4 (t) (.inr (1, [.int (zI ((f : Int))), .int (zI ((f : Int))), .int (zI (0)), .int (zI (D0)), .int (zI ((d : Int)))])) := ⟨_, rfl⟩
  replace hM : mm_M G E5 H := by rw [hE5]; exact hM
  have frs : ∀ q : Nat, q ≠ t → E5 q = E4 q := fun q h => by rw [hE5]; exact mm_up_n _ _ h
  have hat : E5 (t) = some (.inr (1, [.int (zI ((f : Int))), .int (zI ((f : Int))), .int (zI (0)), .int (zI (D0)), .int (zI ((d : Int)))])) := by rw [hE5]; exact mm_up_s _ _ _
  have hP4 : pt G E5 t d f 0 D0 f := hat
  have hfr := (fun q h => (frs q (by omega)).trans (hfr q h) : ∀ q : Nat, q ≠ t → E5 q = E0 q)
  refine lv_aload_n C0.1 C0.2.1 dX2_begin_28 rfl (lv_at hl 0 rfl) ?_
  refine lv_iconst (v := zI 1) C0.1 C0.2.1 dX2_begin_29 rfl ?_
  refine mm_put (v := .int (zI (1))) (fs := [.int (zI ((f : Int))), .int (zI ((f : Int))), .int (zI (0)), .int (zI (D0)), .int (zI ((d : Int)))]) C0 (C := RX2) (T := TX2) (N := 5) iG_X2 tyX2 tyX2_ok nmX2 hM hS (hP4) rfl 3 (by decide) tw_150 rfl rfl (ty := tyX2 3) (tyX2_ok 3 (by decide)) rfl rfl (Nat.le_of_ble_eq_true rfl) dX2_begin_30 (fun H locs hM hS hsz => ?_)
  obtain ⟨E6, hE6⟩ : ∃ X : mE, X = mm_up E5 (t) (.inr (1, [.int (zI ((f : Int))), .int (zI ((f : Int))), .int (zI (0)), .int (zI (1)), .int (zI ((d : Int)))])) := ⟨_, rfl⟩
  replace hM : mm_M G E6 H := by rw [hE6]; exact hM
  have frs : ∀ q : Nat, q ≠ t → E6 q = E5 q := fun q h => by rw [hE6]; exact mm_up_n _ _ h
  have hat : E6 (t) = some (.inr (1, [.int (zI ((f : Int))), .int (zI ((f : Int))), .int (zI (0)), .int (zI (1)), .int (zI ((d : Int)))])) := by rw [hE6]; exact mm_up_s _ _ _
  have hP5 : pt G E6 t d f 0 1 f := hat
  have hfr := (fun q h => (frs q (by omega)).trans (hfr q h) : ∀ q : Nat, q ≠ t → E6 q = E0 q)
  exact mm_vret C0 hr hlk hM hS dX2_begin_33 (⟨hP5, hfr⟩)

def rX2_step : Room := { frames := 0, cells := 0, slots := 0, locals := 0 }
theorem vw_X2_step : mm_Vw RX2 yX2_step cX2_step 1 none 0 := ⟨tw_585, tw_586, tw_6, tw_587, by decide +kernel⟩
set_option maxHeartbeats 4000000 in
set_option maxRecDepth 100000 in
theorem c_X2_step (l : Launch) (G : mG) (E0 : mE) {t d f n : Nat} (hP : ptn G E0 t d f n) (hrl : rl d f) : mm_Cv l yX2_step (.code yX2_step cX2_step 1 none :: wsG) rX2_step G [.ref (t)] E0 (fun E => ptn G E t d f (n + 1) ∧ ∀ q : Nat, q ≠ t → E q = E0 q) := by
  refine mm_of_v (by decide +kernel) (Nat.le_of_ble_eq_true rfl) ?_
  intro p e s m args below meth c ls C0 hr hlk hM hl hS
  have hl : lv_has ls 1 [(0, .ref (t))] := hl
  obtain ⟨hf1, hf2, hf3, hf4, hd⟩ := hrl
  have hfr : ∀ q : Nat, q ≠ t → E0 q = E0 q := fun _ _ => rfl
  have hcI := cf_ok hf1 hf3 hf4 n
  have hnx := cf_next hf3 hf4 hcI
  have hcs : cf d f (n + 1) = ((cf d f n).2.1 * (cf d f n).2.2 - (cf d f n).1, (d - ((cf d f n).2.1 * (cf d f n).2.2 - (cf d f n).1) * ((cf d f n).2.1 * (cf d f n).2.2 - (cf d f n).1)) / (cf d f n).2.1, (f + ((cf d f n).2.1 * (cf d f n).2.2 - (cf d f n).1)) / ((d - ((cf d f n).2.1 * (cf d f n).2.2 - (cf d f n).1) * ((cf d f n).2.1 * (cf d f n).2.2 - (cf d f n).1)) / (cf d f n).2.1)) := rfl
  unfold ptn at hP ⊢
  rw [hcs]
  generalize (cf d f n).1 = m_ at *
  generalize (cf d f n).2.1 = D at *
  generalize (cf d f n).2.2 = a at *
  obtain ⟨x, hx⟩ : ∃ x, x = D * a - m_ := ⟨_, rfl⟩
  rw [← hx] at hnx ⊢
  obtain ⟨y, hy⟩ : ∃ y, y = (d - x * x) / D := ⟨_, rfl⟩
  rw [← hy] at hnx ⊢
  obtain ⟨n1, n2, n3, n4, n5, n6, n7⟩ := hnx
  obtain ⟨i1, i2, i3, -, i5⟩ := hcI
  obtain ⟨j1, j2, j3, -, j5⟩ := n5
  have ha2 : (f + x) / y ≤ f + x := Nat.div_le_self _ _
  have hz1 : ((D * a : Nat) : Int) = (D : Int) * (a : Int) := Int.natCast_mul _ _
  have hz2 : ((x * x : Nat) : Int) = (x : Int) * (x : Int) := Int.natCast_mul _ _
  refine lv_aload_n C0.1 C0.2.1 dX2_step_0 rfl (lv_at hl 0 rfl) ?_
  refine lv_aload_n C0.1 C0.2.1 dX2_step_1 rfl (lv_at hl 0 rfl) ?_
  refine mm_get (fs := [.int (zI ((a : Int))), .int (zI ((f : Int))), .int (zI ((m_ : Int))), .int (zI ((D : Int))), .int (zI ((d : Int)))]) C0 (C := RX2) (T := TX2) (N := 5) iG_X2 hM (hP) rfl 3 (by decide) tw_150 rfl rfl dX2_step_2 ?_
  refine lv_aload_n C0.1 C0.2.1 dX2_step_5 rfl (lv_at hl 0 rfl) ?_
  refine mm_get (fs := [.int (zI ((a : Int))), .int (zI ((f : Int))), .int (zI ((m_ : Int))), .int (zI ((D : Int))), .int (zI ((d : Int)))]) C0 (C := RX2) (T := TX2) (N := 5) iG_X2 hM (hP) rfl 0 (by decide) tw_146 rfl rfl dX2_step_6 ?_
  refine z_imul C0.1 C0.2.1 dX2_step_9 ?_
  refine lv_aload_n C0.1 C0.2.1 dX2_step_10 rfl (lv_at hl 0 rfl) ?_
  refine mm_get (fs := [.int (zI ((a : Int))), .int (zI ((f : Int))), .int (zI ((m_ : Int))), .int (zI ((D : Int))), .int (zI ((d : Int)))]) C0 (C := RX2) (T := TX2) (N := 5) iG_X2 hM (hP) rfl 2 (by decide) tw_149 rfl rfl dX2_step_11 ?_
  refine z_isub C0.1 C0.2.1 dX2_step_14 ?_
  refine z_asI (a := (((((D : Int)) * ((a : Int)))) - ((m_ : Int)))) (b := (x : Int)) (by omega) ?_
  refine mm_put (v := .int (zI ((x : Int)))) (fs := [.int (zI ((a : Int))), .int (zI ((f : Int))), .int (zI ((m_ : Int))), .int (zI ((D : Int))), .int (zI ((d : Int)))]) C0 (C := RX2) (T := TX2) (N := 5) iG_X2 tyX2 tyX2_ok nmX2 hM hS (hP) rfl 2 (by decide) tw_149 rfl rfl (ty := tyX2 2) (tyX2_ok 2 (by decide)) rfl rfl (Nat.le_of_ble_eq_true rfl) dX2_step_15 (fun H locs hM hS hsz => ?_)
  obtain ⟨E1, hE1⟩ : ∃ X : mE, X = mm_up E0 (t) (.inr (1, [.int (zI ((a : Int))), .int (zI ((f : Int))), .int (zI ((x : Int))), .int (zI ((D : Int))), .int (zI ((d : Int)))])) := ⟨_, rfl⟩
  replace hM : mm_M G E1 H := by rw [hE1]; exact hM
  have frs : ∀ q : Nat, q ≠ t → E1 q = E0 q := fun q h => by rw [hE1]; exact mm_up_n _ _ h
  have hat : E1 (t) = some (.inr (1, [.int (zI ((a : Int))), .int (zI ((f : Int))), .int (zI ((x : Int))), .int (zI ((D : Int))), .int (zI ((d : Int)))])) := by rw [hE1]; exact mm_up_s _ _ _
  have hP1 : pt G E1 t d f x D a := hat
  have hfr := (fun q h => (frs q (by omega)).trans (hfr q h) : ∀ q : Nat, q ≠ t → E1 q = E0 q)
  refine lv_aload_n C0.1 C0.2.1 dX2_step_18 rfl (lv_at hl 0 rfl) ?_
  refine lv_aload_n C0.1 C0.2.1 dX2_step_19 rfl (lv_at hl 0 rfl) ?_
  refine mm_get (fs := [.int (zI ((a : Int))), .int (zI ((f : Int))), .int (zI ((x : Int))), .int (zI ((D : Int))), .int (zI ((d : Int)))]) C0 (C := RX2) (T := TX2) (N := 5) iG_X2 hM (hP1) rfl 3 (by decide) tw_150 rfl rfl dX2_step_20 ?_
  refine z_if_ne (tgt := 30) C0.1 C0.2.1 dX2_step_23 (by decide) ⟨by omega, by omega⟩ (fun c_23 => ?_) (fun c_23 => ?_)
  · skip
    refine lv_aload_n C0.1 C0.2.1 dX2_step_30 rfl (lv_at hl 0 rfl) ?_
    refine mm_get (fs := [.int (zI ((a : Int))), .int (zI ((f : Int))), .int (zI ((x : Int))), .int (zI ((D : Int))), .int (zI ((d : Int)))]) C0 (C := RX2) (T := TX2) (N := 5) iG_X2 hM (hP1) rfl 4 (by decide) tw_151 rfl rfl dX2_step_31 ?_
    refine lv_aload_n C0.1 C0.2.1 dX2_step_34 rfl (lv_at hl 0 rfl) ?_
    refine mm_get (fs := [.int (zI ((a : Int))), .int (zI ((f : Int))), .int (zI ((x : Int))), .int (zI ((D : Int))), .int (zI ((d : Int)))]) C0 (C := RX2) (T := TX2) (N := 5) iG_X2 hM (hP1) rfl 2 (by decide) tw_149 rfl rfl dX2_step_35 ?_
    refine lv_aload_n C0.1 C0.2.1 dX2_step_38 rfl (lv_at hl 0 rfl) ?_
    refine mm_get (fs := [.int (zI ((a : Int))), .int (zI ((f : Int))), .int (zI ((x : Int))), .int (zI ((D : Int))), .int (zI ((d : Int)))]) C0 (C := RX2) (T := TX2) (N := 5) iG_X2 hM (hP1) rfl 2 (by decide) tw_149 rfl rfl dX2_step_39 ?_
    refine z_imul C0.1 C0.2.1 dX2_step_42 ?_
    refine z_isub C0.1 C0.2.1 dX2_step_43 ?_
    refine lv_aload_n C0.1 C0.2.1 dX2_step_44 rfl (lv_at hl 0 rfl) ?_
    refine mm_get (fs := [.int (zI ((a : Int))), .int (zI ((f : Int))), .int (zI ((x : Int))), .int (zI ((D : Int))), .int (zI ((d : Int)))]) C0 (C := RX2) (T := TX2) (N := 5) iG_X2 hM (hP1) rfl 3 (by decide) tw_150 rfl rfl dX2_step_45 ?_
    refine z_idivp C0.1 C0.2.1 dX2_step_48 ⟨by omega, by omega⟩ ⟨by omega, by omega⟩ (by omega) (by omega) ?_
    refine z_asI (a := (((((d : Int)) - ((((x : Int)) * ((x : Int)))))) / ((D : Int)))) (b := (y : Int)) (by rw [hy, Int.natCast_ediv]; congr 1; omega) ?_
    refine mm_put (v := .int (zI ((y : Int)))) (fs := [.int (zI ((a : Int))), .int (zI ((f : Int))), .int (zI ((x : Int))), .int (zI ((D : Int))), .int (zI ((d : Int)))]) C0 (C := RX2) (T := TX2) (N := 5) iG_X2 tyX2 tyX2_ok nmX2 hM hS (hP1) rfl 3 (by decide) tw_150 rfl rfl (ty := tyX2 3) (tyX2_ok 3 (by decide)) rfl rfl (Nat.le_of_ble_eq_true rfl) dX2_step_49 (fun H locs hM hS hsz => ?_)
    obtain ⟨E2, hE2⟩ : ∃ X : mE, X = mm_up E1 (t) (.inr (1, [.int (zI ((a : Int))), .int (zI ((f : Int))), .int (zI ((x : Int))), .int (zI ((y : Int))), .int (zI ((d : Int)))])) := ⟨_, rfl⟩
    replace hM : mm_M G E2 H := by rw [hE2]; exact hM
    have frs : ∀ q : Nat, q ≠ t → E2 q = E1 q := fun q h => by rw [hE2]; exact mm_up_n _ _ h
    have hat : E2 (t) = some (.inr (1, [.int (zI ((a : Int))), .int (zI ((f : Int))), .int (zI ((x : Int))), .int (zI ((y : Int))), .int (zI ((d : Int)))])) := by rw [hE2]; exact mm_up_s _ _ _
    have hP2 : pt G E2 t d f x y a := hat
    have hfr := (fun q h => (frs q (by omega)).trans (hfr q h) : ∀ q : Nat, q ≠ t → E2 q = E0 q)
    refine lv_aload_n C0.1 C0.2.1 dX2_step_52 rfl (lv_at hl 0 rfl) ?_
    refine lv_aload_n C0.1 C0.2.1 dX2_step_53 rfl (lv_at hl 0 rfl) ?_
    refine mm_get (fs := [.int (zI ((a : Int))), .int (zI ((f : Int))), .int (zI ((x : Int))), .int (zI ((y : Int))), .int (zI ((d : Int)))]) C0 (C := RX2) (T := TX2) (N := 5) iG_X2 hM (hP2) rfl 3 (by decide) tw_150 rfl rfl dX2_step_54 ?_
    refine z_if_ne (tgt := 64) C0.1 C0.2.1 dX2_step_57 (by decide) ⟨by omega, by omega⟩ (fun c_57 => ?_) (fun c_57 => ?_)
    · skip
      refine lv_aload_n C0.1 C0.2.1 dX2_step_64 rfl (lv_at hl 0 rfl) ?_
      refine mm_get (fs := [.int (zI ((a : Int))), .int (zI ((f : Int))), .int (zI ((x : Int))), .int (zI ((y : Int))), .int (zI ((d : Int)))]) C0 (C := RX2) (T := TX2) (N := 5) iG_X2 hM (hP2) rfl 1 (by decide) tw_148 rfl rfl dX2_step_65 ?_
      refine lv_aload_n C0.1 C0.2.1 dX2_step_68 rfl (lv_at hl 0 rfl) ?_
      refine mm_get (fs := [.int (zI ((a : Int))), .int (zI ((f : Int))), .int (zI ((x : Int))), .int (zI ((y : Int))), .int (zI ((d : Int)))]) C0 (C := RX2) (T := TX2) (N := 5) iG_X2 hM (hP2) rfl 2 (by decide) tw_149 rfl rfl dX2_step_69 ?_
      refine z_iadd C0.1 C0.2.1 dX2_step_72 ?_
      refine lv_aload_n C0.1 C0.2.1 dX2_step_73 rfl (lv_at hl 0 rfl) ?_
      refine mm_get (fs := [.int (zI ((a : Int))), .int (zI ((f : Int))), .int (zI ((x : Int))), .int (zI ((y : Int))), .int (zI ((d : Int)))]) C0 (C := RX2) (T := TX2) (N := 5) iG_X2 hM (hP2) rfl 3 (by decide) tw_150 rfl rfl dX2_step_74 ?_
      refine z_idivp C0.1 C0.2.1 dX2_step_77 ⟨by omega, by omega⟩ ⟨by omega, by omega⟩ (by omega) (by omega) ?_
      refine z_asI (a := (((((f : Int)) + ((x : Int)))) / ((y : Int)))) (b := (((f + x) / y : Nat) : Int)) (by rw [Int.natCast_ediv, Int.natCast_add]) ?_
      refine mm_put (v := .int (zI ((((f + x) / y : Nat) : Int)))) (fs := [.int (zI ((a : Int))), .int (zI ((f : Int))), .int (zI ((x : Int))), .int (zI ((y : Int))), .int (zI ((d : Int)))]) C0 (C := RX2) (T := TX2) (N := 5) iG_X2 tyX2 tyX2_ok nmX2 hM hS (hP2) rfl 0 (by decide) tw_146 rfl rfl (ty := tyX2 0) (tyX2_ok 0 (by decide)) rfl rfl (Nat.le_of_ble_eq_true rfl) dX2_step_78 (fun H locs hM hS hsz => ?_)
      obtain ⟨E3, hE3⟩ : ∃ X : mE, X = mm_up E2 (t) (.inr (1, [.int (zI ((((f + x) / y : Nat) : Int))), .int (zI ((f : Int))), .int (zI ((x : Int))), .int (zI ((y : Int))), .int (zI ((d : Int)))])) := ⟨_, rfl⟩
      replace hM : mm_M G E3 H := by rw [hE3]; exact hM
      have frs : ∀ q : Nat, q ≠ t → E3 q = E2 q := fun q h => by rw [hE3]; exact mm_up_n _ _ h
      have hat : E3 (t) = some (.inr (1, [.int (zI ((((f + x) / y : Nat) : Int))), .int (zI ((f : Int))), .int (zI ((x : Int))), .int (zI ((y : Int))), .int (zI ((d : Int)))])) := by rw [hE3]; exact mm_up_s _ _ _
      have hP3 : pt G E3 t d f x y ((f + x) / y : Nat) := hat
      have hfr := (fun q h => (frs q (by omega)).trans (hfr q h) : ∀ q : Nat, q ≠ t → E3 q = E0 q)
      exact mm_vret C0 hr hlk hM hS dX2_step_81 (⟨hP3, hfr⟩)
    · skip
      omega
  · skip
    omega

def rX2_countRound : Room := { frames := 2, cells := 0, slots := 0, locals := 47 }
theorem vw_X2_countRound : mm_Vw RX2 yX2_countRound cX2_countRound 3 (some .int) 1 := ⟨tw_575, tw_576, tw_6, tw_577, by decide +kernel⟩
set_option maxHeartbeats 4000000 in
set_option maxRecDepth 100000 in
theorem c_X2_countRound (l : Launch) (G : mG) (E0 : mE) {t d f k : Nat} {d0 f0 m0 D0 a0 : Int} (hP : pt G E0 t d0 f0 m0 D0 a0) (hrl : rl d f) (hk : rnd d f k) (hk9 : k < 1000000) : mm_Ci l yX2_countRound (.code yX2_countRound cX2_countRound 3 (some .int) :: wsG) rX2_countRound G [.ref (t), .int (zI ((d : Int)))] E0 (fun z E => z = (k : Int) ∧ (∃ d1 f1 m1 D1 a1 : Int, pt G E t d1 f1 m1 D1 a1) ∧ ∀ q : Nat, q ≠ t → E q = E0 q) := by
  refine mm_of_i (by decide +kernel) (Nat.le_of_ble_eq_true rfl) ?_
  intro p e s m args below meth c ls C0 hr hlk hM hl hS
  have hl : lv_has ls 3 [(0, .ref (t)), (1, .int (zI ((d : Int))))] := hl
  have hfr : ∀ q : Nat, q ≠ t → E0 q = E0 q := fun _ _ => rfl
  have hf9 := hrl.2.1
  refine lv_aload_n C0.1 C0.2.1 dX2_countRound_0 rfl (lv_at hl 0 rfl) ?_
  refine lv_iload_n C0.1 C0.2.1 dX2_countRound_1 rfl (lv_at hl 1 rfl) ?_
  refine mm_callVv (As := [.int (zI ((d : Int)))]) C0 vw_X2_begin tw_578 (c_X2_begin l G _ hP hrl) hM (hP) rfl rfl hl.1 rfl (Nat.le_of_ble_eq_true rfl) ⟨rfl, rfl, Nat.le_of_ble_eq_true rfl, Nat.le_of_ble_eq_true rfl, Nat.zero_le _, Nat.zero_le _⟩ dX2_countRound_2 hS (fun E1 H locs hp hM hS => ?_)
  obtain ⟨hP1, fr⟩ := hp
  have hfr := (fun q h => (fr q (by omega)).trans (hfr q h) : ∀ q : Nat, q ≠ t → E1 q = E0 q)
  refine lv_iconst (v := zI 1) C0.1 C0.2.1 dX2_countRound_5 rfl ?_
  refine lv_istore_n (lv' := [(2, .int (zI (1))), (0, .ref (t)), (1, .int (zI ((d : Int))))]) C0.1 C0.2.1 dX2_countRound_6 rfl hl (by decide) rfl (fun ls hl => ?_)
  have L7 : ∀ (k7 : Nat) (j : Nat) (E2 : mE) (H : Heap) (locs : List Loc) (ls : Array Slot), (j < k) → (∀ i, 0 < i → i ≤ j → (cf d f i).2.2 ≠ 2 * f) → (ptn G E2 t d f j) → (∀ q : Nat, q ≠ t → E2 q = E0 q) → k - j < k7 → mm_M G E2 H → va_S (mm_A G) s.heap H locs → lv_has ls 3 [(0, .ref (t)), (1, .int (zI ((d : Int)))), (2, .int (zI (((j + 1 : Nat) : Int))))] → W p l e rX2_countRound s m args below meth c H locs 0 0 (mm_Zi G below args s (fun z E => z = (k : Int) ∧ (∃ d1 f1 m1 D1 a1 : Int, pt G E t d1 f1 m1 D1 a1) ∧ ∀ q : Nat, q ≠ t → E q = E0 q)) (F0 m 7 ls []) := by
    intro k7
    induction k7 with
    | zero => intro j E2 H locs ls hj hno hP1 hfr hk hM hS hl; exact absurd hk (Nat.not_lt_zero _)
    | succ k7 ih7 =>
      intro j E2 H locs ls hj hno hP1 hfr hk7 hM hS hl
      refine lv_iload_n C0.1 C0.2.1 dX2_countRound_7 rfl (lv_at hl 2 rfl) ?_
      refine mm_ldc (z := 1000000) C0 tw_583 rfl dX2_countRound_8 ?_
      refine z_icmp_ge (tgt := 38) C0.1 C0.2.1 dX2_countRound_10 (by decide) ⟨by omega, by omega⟩ ⟨by omega, by omega⟩ (fun c_10 => ?_) (fun c_10 => ?_)
      · skip
        omega
      · skip
        refine lv_aload_n C0.1 C0.2.1 dX2_countRound_13 rfl (lv_at hl 0 rfl) ?_
        refine mm_callVv (As := []) C0 vw_X2_step tw_584 (c_X2_step l G _ hP1 hrl) hM (hP1) rfl rfl hl.1 rfl (Nat.le_of_ble_eq_true rfl) ⟨rfl, rfl, Nat.le_of_ble_eq_true rfl, Nat.le_of_ble_eq_true rfl, Nat.zero_le _, Nat.zero_le _⟩ dX2_countRound_14 hS (fun E3 H locs hp hM hS => ?_)
        obtain ⟨hP1, fr⟩ := hp
        have hfr := (fun q h => (fr q (by omega)).trans (hfr q h) : ∀ q : Nat, q ≠ t → E3 q = E0 q)
        have hca := cf_a hrl (j + 1)
        refine lv_aload_n C0.1 C0.2.1 dX2_countRound_17 rfl (lv_at hl 0 rfl) ?_
        refine mm_get (fs := [.int (zI (((cf d f (j + 1)).2.2 : Int))), .int (zI ((f : Int))), .int (zI (((cf d f (j + 1)).1 : Int))), .int (zI (((cf d f (j + 1)).2.1 : Int))), .int (zI ((d : Int)))]) C0 (C := RX2) (T := TX2) (N := 5) iG_X2 hM (hP1) rfl 0 (by decide) tw_146 rfl rfl dX2_countRound_18 ?_
        refine lv_iconst (v := zI 2) C0.1 C0.2.1 dX2_countRound_21 rfl ?_
        refine lv_aload_n C0.1 C0.2.1 dX2_countRound_22 rfl (lv_at hl 0 rfl) ?_
        refine mm_get (fs := [.int (zI (((cf d f (j + 1)).2.2 : Int))), .int (zI ((f : Int))), .int (zI (((cf d f (j + 1)).1 : Int))), .int (zI (((cf d f (j + 1)).2.1 : Int))), .int (zI ((d : Int)))]) C0 (C := RX2) (T := TX2) (N := 5) iG_X2 hM (hP1) rfl 1 (by decide) tw_148 rfl rfl dX2_countRound_23 ?_
        refine z_imul C0.1 C0.2.1 dX2_countRound_26 ?_
        refine z_icmp_ne (tgt := 32) C0.1 C0.2.1 dX2_countRound_27 (by decide) ⟨by omega, by omega⟩ ⟨by omega, by omega⟩ (fun c_27 => ?_) (fun c_27 => ?_)
        · skip
          have hne : ¬ (cf d f (j + 1)).2.2 = 2 * f := by omega
          have hj1 : j + 1 < k := Nat.lt_of_le_of_ne hj (fun q => hne (by rw [q]; exact hk.2.1))
          refine lv_iinc (v := zI (((j + 1 + 1 : Nat) : Int))) (lv' := [(2, .int (zI (((j + 1 + 1 : Nat) : Int)))), (0, .ref (t)), (1, .int (zI ((d : Int))))]) C0.1 C0.2.1 dX2_countRound_32 hl (k := 2) rfl (z_inc (a := ((j + 1 : Nat) : Int)) (n := 1) (by omega)) (by decide) rfl (fun ls hl => ?_)
          refine lv_goto (tgt := 7) C0.1 C0.2.1 dX2_countRound_35 (by decide) ?_
          exact ih7  (j + 1) E3 _ _ _ (hj1) (fun i h1 h2 q => (Nat.lt_or_ge j i).elim (fun h => hne (by rw [show j + 1 = i by omega]; exact q)) (fun h => hno i h1 h q)) (hP1) (hfr) (by omega) hM hS (lv_sub hl [1, 2, 0] rfl)
        · skip
          have heq : (cf d f (j + 1)).2.2 = 2 * f := by omega
          have hjk : j + 1 = k := Nat.le_antisymm hj (Nat.le_of_not_lt fun q => hk.2.2 (j + 1) (by omega) q heq)
          refine lv_iload_n C0.1 C0.2.1 dX2_countRound_30 rfl (lv_at hl 2 rfl) ?_
          exact mm_iret (z := ((j + 1 : Nat) : Int)) C0 hr hlk hM hS dX2_countRound_31 (⟨by rw [hjk], ⟨_, _, _, _, _, hP1⟩, hfr⟩)
  exact L7 (_ + 1) 0 E1 _ _ _ (hk.1) (fun i h1 h2 => by omega) (hP1) (hfr) (Nat.lt_succ_self _) hM hS (lv_sub hl [1, 2, 0] rfl)

def rX2_find : Room := { frames := 2, cells := 0, slots := 0, locals := 47 }
theorem vw_X2_find : mm_Vw RX2 yX2_find cX2_find 4 (some .int) 2 := ⟨tw_614, tw_615, tw_6, tw_616, by decide +kernel⟩
set_option maxHeartbeats 4000000 in
set_option maxRecDepth 100000 in
theorem c_X2_find (l : Launch) (G : mG) (E0 : mE) {t d f k : Nat} {d0 f0 m0 D0 a0 : Int} (hP : pt G E0 t d0 f0 m0 D0 a0) (hrl : rl d f) (hk9 : k < 1000000) : mm_Ci l yX2_find (.code yX2_find cX2_find 4 (some .int) :: wsG) rX2_find G [.ref (t), .int (zI ((d : Int))), .int (zI ((k : Int)))] E0 (fun z E => z = ((cf d f k).2.2 : Int) ∧ (∃ d1 f1 m1 D1 a1 : Int, pt G E t d1 f1 m1 D1 a1) ∧ ∀ q : Nat, q ≠ t → E q = E0 q) := by
  refine mm_of_i (by decide +kernel) (Nat.le_of_ble_eq_true rfl) ?_
  intro p e s m args below meth c ls C0 hr hlk hM hl hS
  have hl : lv_has ls 4 [(0, .ref (t)), (1, .int (zI ((d : Int)))), (2, .int (zI ((k : Int))))] := hl
  have hfr : ∀ q : Nat, q ≠ t → E0 q = E0 q := fun _ _ => rfl
  have hf9 := hrl.2.1
  refine lv_aload_n C0.1 C0.2.1 dX2_find_0 rfl (lv_at hl 0 rfl) ?_
  refine lv_iload_n C0.1 C0.2.1 dX2_find_1 rfl (lv_at hl 1 rfl) ?_
  refine mm_callVv (As := [.int (zI ((d : Int)))]) C0 vw_X2_begin tw_578 (c_X2_begin l G _ hP hrl) hM (hP) rfl rfl hl.1 rfl (Nat.le_of_ble_eq_true rfl) ⟨rfl, rfl, Nat.le_of_ble_eq_true rfl, Nat.le_of_ble_eq_true rfl, Nat.zero_le _, Nat.zero_le _⟩ dX2_find_2 hS (fun E1 H locs hp hM hS => ?_)
  obtain ⟨hP1, fr⟩ := hp
  have hfr := (fun q h => (fr q (by omega)).trans (hfr q h) : ∀ q : Nat, q ≠ t → E1 q = E0 q)
  refine lv_iconst (v := zI 0) C0.1 C0.2.1 dX2_find_5 rfl ?_
  refine lv_istore_n (lv' := [(3, .int (zI (0))), (0, .ref (t)), (1, .int (zI ((d : Int)))), (2, .int (zI ((k : Int))))]) C0.1 C0.2.1 dX2_find_6 rfl hl (by decide) rfl (fun ls hl => ?_)
  have L7 : ∀ (k7 : Nat) (j : Nat) (E2 : mE) (H : Heap) (locs : List Loc) (ls : Array Slot), (j ≤ k) → (ptn G E2 t d f j) → (∀ q : Nat, q ≠ t → E2 q = E0 q) → k - j < k7 → mm_M G E2 H → va_S (mm_A G) s.heap H locs → lv_has ls 4 [(0, .ref (t)), (1, .int (zI ((d : Int)))), (2, .int (zI ((k : Int)))), (3, .int (zI ((j : Int))))] → W p l e rX2_find s m args below meth c H locs 0 0 (mm_Zi G below args s (fun z E => z = ((cf d f k).2.2 : Int) ∧ (∃ d1 f1 m1 D1 a1 : Int, pt G E t d1 f1 m1 D1 a1) ∧ ∀ q : Nat, q ≠ t → E q = E0 q)) (F0 m 7 ls []) := by
    intro k7
    induction k7 with
    | zero => intro j E2 H locs ls hj hP1 hfr hk hM hS hl; exact absurd hk (Nat.not_lt_zero _)
    | succ k7 ih7 =>
      intro j E2 H locs ls hj hP1 hfr hk7 hM hS hl
      refine lv_iload_n C0.1 C0.2.1 dX2_find_7 rfl (lv_at hl 3 rfl) ?_
      refine lv_iload_n C0.1 C0.2.1 dX2_find_8 rfl (lv_at hl 2 rfl) ?_
      refine z_icmp_ge (tgt := 22) C0.1 C0.2.1 dX2_find_9 (by decide) ⟨by omega, by omega⟩ ⟨by omega, by omega⟩ (fun c_9 => ?_) (fun c_9 => ?_)
      · skip
        refine lv_aload_n C0.1 C0.2.1 dX2_find_22 rfl (lv_at hl 0 rfl) ?_
        refine mm_get (fs := [.int (zI (((cf d f (j)).2.2 : Int))), .int (zI ((f : Int))), .int (zI (((cf d f (j)).1 : Int))), .int (zI (((cf d f (j)).2.1 : Int))), .int (zI ((d : Int)))]) C0 (C := RX2) (T := TX2) (N := 5) iG_X2 hM (hP1) rfl 0 (by decide) tw_146 rfl rfl dX2_find_23 ?_
        exact mm_iret (z := ((cf d f (j)).2.2 : Int)) C0 hr hlk hM hS dX2_find_26 (⟨by rw [show j = k by omega], ⟨_, _, _, _, _, hP1⟩, hfr⟩)
      · skip
        refine lv_aload_n C0.1 C0.2.1 dX2_find_12 rfl (lv_at hl 0 rfl) ?_
        refine mm_callVv (As := []) C0 vw_X2_step tw_584 (c_X2_step l G _ hP1 hrl) hM (hP1) rfl rfl hl.1 rfl (Nat.le_of_ble_eq_true rfl) ⟨rfl, rfl, Nat.le_of_ble_eq_true rfl, Nat.le_of_ble_eq_true rfl, Nat.zero_le _, Nat.zero_le _⟩ dX2_find_13 hS (fun E3 H locs hp hM hS => ?_)
        obtain ⟨hP1, fr⟩ := hp
        have hfr := (fun q h => (fr q (by omega)).trans (hfr q h) : ∀ q : Nat, q ≠ t → E3 q = E0 q)
        refine lv_iinc (v := zI (((j + 1 : Nat) : Int))) (lv' := [(3, .int (zI (((j + 1 : Nat) : Int)))), (0, .ref (t)), (1, .int (zI ((d : Int)))), (2, .int (zI ((k : Int))))]) C0.1 C0.2.1 dX2_find_16 hl (k := 3) rfl (z_inc (a := (j : Int)) (n := 1) (by omega)) (by decide) rfl (fun ls hl => ?_)
        refine lv_goto (tgt := 7) C0.1 C0.2.1 dX2_find_19 (by decide) ?_
        exact ih7  (j + 1) E3 _ _ _ (by omega) (hP1) (hfr) (by omega) hM hS (lv_sub hl [1, 2, 3, 0] rfl)
  exact L7 (_ + 1) 0 E1 _ _ _ (Nat.zero_le _) (hP1) (hfr) (Nat.lt_succ_self _) hM hS (lv_sub hl [1, 2, 3, 0] rfl)
