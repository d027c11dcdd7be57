theorem tb_c {B : Nat → Int} {L : Nat} (h : okT B L) (i : Nat) : (i < L ∧ tb B L i = B i ∧ okB (B i)) ∨ (¬ i < L ∧ tb B L i = 0) := by
  by_cases q : i < L
  · exact Or.inl ⟨q, if_pos q, h.2 i q⟩
  · exact Or.inr ⟨q, if_neg q⟩
theorem tb_x {B : Nat → Int} {L i : Nat} {x : Int} (h : (i < L ∧ tb B L i = B i ∧ okB (B i)) ∨ (¬ i < L ∧ tb B L i = 0)) (e : tb B L i = x) (hx : 32 ≤ x) : i < L ∧ B i = x := by
  rcases h with ⟨h1, h2, -⟩ | ⟨-, h2⟩
  · exact ⟨h1, h2.symm.trans e⟩
  · omega
theorem tb_r {B : Nat → Int} {L : Nat} (h : okT B L) (i : Nat) : 0 ≤ tb B L i ∧ tb B L i ≤ 126 := by
  rcases tb_c h i with ⟨-, h2, h3, h4⟩ | ⟨-, h2⟩ <;> omega
def rX7_allTypable : Room := { frames := 0, cells := 0, slots := 0, locals := 0 }
theorem sw_X7_allTypable : mm_Sw yX7_allTypable cX7_allTypable 6 (some .boolean) 2 := ⟨tw_342, tw_2, tw_343, by decide +kernel⟩
set_option maxHeartbeats 4000000 in
set_option maxRecDepth 100000 in
theorem c_X7_allTypable (l : Launch) (G : mG) (E0 : mE) {w : Int} {n : Nat} (hw : rL w) (hn : n ≤ 8) : mm_Ci l yX7_allTypable (.code yX7_allTypable cX7_allTypable 6 (some .boolean) :: wsG) rX7_allTypable G [.long (zL (w)), .int (zI ((n : Int)))] E0 (fun z E => ((z = 1 ∧ ∀ i, i < n → okB (bt w i)) ∨ (z = 0 ∧ ¬ ∀ i, i < n → okB (bt w i))) ∧ E = E0) := by
  refine mm_of_i (by decide +kernel) (Nat.le_of_ble_eq_true rfl) ?_
  intro p e s m args below meth c ls C0 hr hlk hM hl hS
  have hl : lv_has ls 6 [(0, .long (zL (w))), (2, .int (zI ((n : Int))))] := hl
  obtain ⟨hw1, hw2⟩ := hw
  refine lv_iconst (v := zI 0) C0.1 C0.2.1 dX7_allTypable_0 rfl ?_
  refine lv_istore_n (lv' := [(3, .int (zI (0))), (0, .long (zL (w))), (2, .int (zI ((n : Int))))]) C0.1 C0.2.1 dX7_allTypable_1 rfl hl (by decide) rfl (fun ls hl => ?_)
  have L2 : ∀ (k2 : Nat) (i : Nat) (H : Heap) (locs : List Loc) (ls : Array Slot), (i ≤ n) → (∀ j, j < i → okB (bt w j)) → n - i < k2 → mm_M G E0 H → va_S (mm_A G) s.heap H locs → lv_has ls 6 [(0, .long (zL (w))), (2, .int (zI ((n : Int)))), (3, .int (zI ((i : Int))))] → W p l e rX7_allTypable s m args below meth c H locs 0 0 (mm_Zi G below args s (fun z E => ((z = 1 ∧ ∀ i, i < n → okB (bt w i)) ∨ (z = 0 ∧ ¬ ∀ i, i < n → okB (bt w i))) ∧ E = E0)) (F0 m 2 ls []) := by
    intro k2
    induction k2 with
    | zero => intro i H locs ls hi hz hk hM hS hl; exact absurd hk (Nat.not_lt_zero _)
    | succ k2 ih2 =>
      intro i H locs ls hi hz hk2 hM hS hl
      refine lv_iload_n C0.1 C0.2.1 dX7_allTypable_2 rfl (lv_at hl 2 rfl) ?_
      refine lv_iload_n C0.1 C0.2.1 dX7_allTypable_3 rfl (lv_at hl 1 rfl) ?_
      refine z_icmp_ge (tgt := 45) C0.1 C0.2.1 dX7_allTypable_4 (by decide) ⟨by omega, by omega⟩ ⟨by omega, by omega⟩ (fun c_4 => ?_) (fun c_4 => ?_)
      · skip
        refine lv_iconst (v := zI 1) C0.1 C0.2.1 dX7_allTypable_45 rfl ?_
        exact mm_zret (z := 1) C0 hr hlk hM hS (by omega) dX7_allTypable_46 (⟨Or.inl ⟨rfl, fun j h => hz j (by omega)⟩, rfl⟩)
      · skip
        refine lv_lload_n C0.1 C0.2.1 dX7_allTypable_7 rfl (lv_at hl 0 rfl) ?_
        refine lv_bipush (v := zI 8) C0.1 C0.2.1 dX7_allTypable_8 rfl ?_
        refine lv_iload_n C0.1 C0.2.1 dX7_allTypable_10 rfl (lv_at hl 2 rfl) ?_
        refine z_imul C0.1 C0.2.1 dX7_allTypable_11 ?_
        refine z_byte (j := i) C0.1 C0.2.1 dX7_allTypable_12 ⟨by omega, by omega⟩ (by omega) (by omega) (fun hB9 => ?_)
        refine mm_ldc2 (z := 255) C0 tw_344 rfl dX7_allTypable_13 ?_
        refine lv_land C0.1 C0.2.1 dX7_allTypable_16 ?_
        rw [hB9]
        have hbb := bt_b w (i)
        refine lv_lstore (lv' := [(4, .long (zL ((bt w (i))))), (0, .long (zL (w))), (2, .int (zI ((n : Int)))), (3, .int (zI ((i : Int))))]) C0.1 C0.2.1 dX7_allTypable_17 hl (by decide) rfl (fun ls hl => ?_)
        refine lv_lload C0.1 C0.2.1 dX7_allTypable_19 (lv_at hl 0 rfl) ?_
        refine mm_ldc2 (z := 32) C0 tw_345 rfl dX7_allTypable_21 ?_
        refine z_lcmp_lt (tgt := 37) C0.1 C0.2.1 dX7_allTypable_24 dX7_allTypable_25 (by decide) ⟨by omega, by omega⟩ ⟨by omega, by omega⟩ (fun c_24 => ?_) (fun c_24 => ?_)
        · skip
          refine lv_iconst (v := zI 0) C0.1 C0.2.1 dX7_allTypable_37 rfl ?_
          exact mm_zret (z := 0) C0 hr hlk hM hS (by omega) dX7_allTypable_38 (⟨Or.inr ⟨rfl, fun h => by have h9 := h i (by omega); unfold okB at h9; omega⟩, rfl⟩)
        · skip
          refine lv_lload C0.1 C0.2.1 dX7_allTypable_28 (lv_at hl 0 rfl) ?_
          refine mm_ldc2 (z := 126) C0 tw_346 rfl dX7_allTypable_30 ?_
          refine z_lcmp_le (tgt := 39) C0.1 C0.2.1 dX7_allTypable_33 dX7_allTypable_34 (by decide) ⟨by omega, by omega⟩ ⟨by omega, by omega⟩ (fun c_33 => ?_) (fun c_33 => ?_)
          · skip
            refine lv_iinc (v := zI (((i + 1 : Nat) : Int))) (lv' := [(3, .int (zI (((i + 1 : Nat) : Int)))), (4, .long (zL ((bt w (i))))), (0, .long (zL (w))), (2, .int (zI ((n : Int))))]) C0.1 C0.2.1 dX7_allTypable_39 hl (k := 3) rfl (z_inc (a := (i : Int)) (n := 1) (by omega)) (by decide) rfl (fun ls hl => ?_)
            refine lv_goto (tgt := 2) C0.1 C0.2.1 dX7_allTypable_42 (by decide) ?_
            exact ih2  (i + 1) _ _ _ (by omega) (fun j h => (Nat.lt_or_ge j i).elim (hz j) (fun h2 => by rw [show j = i by omega]; exact ⟨by omega, by omega⟩))  (by omega) hM hS (lv_sub hl [2, 3, 0] rfl)
          · skip
            refine lv_iconst (v := zI 0) C0.1 C0.2.1 dX7_allTypable_37 rfl ?_
            exact mm_zret (z := 0) C0 hr hlk hM hS (by omega) dX7_allTypable_38 (⟨Or.inr ⟨rfl, fun h => by have h9 := h i (by omega); unfold okB at h9; omega⟩, rfl⟩)
  exact L2 (_ + 1) 0 _ _ _ (Nat.zero_le _) (fun j h => absurd h (Nat.not_lt_zero _))  (Nat.lt_succ_self _) hM hS (lv_sub hl [1, 2, 0] rfl)

def rX7_append : Room := { frames := 0, cells := 0, slots := 0, locals := 0 }
theorem vw_X7_append : mm_Vw RX7 yX7_append cX7_append 5 none 2 := ⟨tw_348, tw_349, tw_2, tw_350, by decide +kernel⟩
set_option maxHeartbeats 4000000 in
set_option maxRecDepth 100000 in
theorem c_X7_append (l : Launch) (G : mG) (E0 : mE) {t : Nat} {B : Nat → Int} {L a u : Nat} {v kd k n rd w : Int} (hP : tp G E0 t B L a v kd k n rd) (hw : rL w) (hu : u ≤ 8) (hLu : L + u ≤ 100) : mm_Cv l yX7_append (.code yX7_append cX7_append 5 none :: wsG) rX7_append G [.ref (t), .long (zL (w)), .int (zI ((u : Int)))] E0 (fun E => tp G E t (apB w B L u) (L + u) a v kd k n rd ∧ ∀ q : Nat, (q < t ∨ t + 2 ≤ q) → E q = E0 q) := by
  refine mm_of_v (by decide +kernel) (Nat.le_of_ble_eq_true rfl) ?_
  intro p e s m args below meth c ls C0 hr hlk hM hl hS
  have hl : lv_has ls 5 [(0, .ref (t)), (1, .long (zL (w))), (3, .int (zI ((u : Int))))] := hl
  obtain ⟨hw1, hw2⟩ := hw
  have hfr : ∀ q : Nat, (q < t ∨ t + 2 ≤ q) → E0 q = E0 q := fun _ _ => rfl
  refine lv_iload_n C0.1 C0.2.1 dX7_append_0 rfl (lv_at hl 2 rfl) ?_
  refine lv_iconst (v := zI 1) C0.1 C0.2.1 dX7_append_1 rfl ?_
  refine z_isub C0.1 C0.2.1 dX7_append_2 ?_
  refine lv_istore (lv' := [(4, .int (zI ((((u : Int)) - (1))))), (0, .ref (t)), (1, .long (zL (w))), (3, .int (zI ((u : Int))))]) C0.1 C0.2.1 dX7_append_3 hl (by decide) rfl (fun ls hl => ?_)
  have L5 : ∀ (k5 : Nat) (u1 L1 : Nat) (B1 : Nat → Int) (E1 : mE) (H : Heap) (locs : List Loc) (ls : Array Slot), (u1 ≤ 8) → (L1 + u1 = L + u) → (apB w B1 L1 u1 = apB w B L u) → (tp G E1 t B1 L1 a v kd k n rd) → (∀ q : Nat, (q < t ∨ t + 2 ≤ q) → E1 q = E0 q) → u1 < k5 → mm_M G E1 H → va_S (mm_A G) s.heap H locs → lv_has ls 5 [(0, .ref (t)), (1, .long (zL (w))), (3, .int (zI ((u : Int)))), (4, .int (zI ((u1 : Int) - 1)))] → W p l e rX7_append s m args below meth c H locs 0 0 (mm_Zv G below args s (fun E => tp G E t (apB w B L u) (L + u) a v kd k n rd ∧ ∀ q : Nat, (q < t ∨ t + 2 ≤ q) → E q = E0 q)) (F0 m 5 ls []) := by
    intro k5
    induction k5 with
    | zero => intro u1 L1 B1 E1 H locs ls hu1 hLL hap hP hfr hk hM hS hl; exact absurd hk (Nat.not_lt_zero _)
    | succ k5 ih5 =>
      intro u1 L1 B1 E1 H locs ls hu1 hLL hap hP hfr hk5 hM hS hl
      refine lv_iload C0.1 C0.2.1 dX7_append_5 (lv_at hl 3 rfl) ?_
      refine z_if_lt (tgt := 56) C0.1 C0.2.1 dX7_append_7 (by decide) ⟨by omega, by omega⟩ (fun c_7 => ?_) (fun c_7 => ?_)
      · skip
        exact mm_vret C0 hr hlk hM hS dX7_append_56 (⟨by rw [show u1 = 0 by omega] at hap hLL; rw [← hap, ← hLL]; exact hP, hfr⟩)
      · skip
        refine lv_aload_n C0.1 C0.2.1 dX7_append_10 rfl (lv_at hl 0 rfl) ?_
        refine mm_get (fs := [.ref (t + 1), .int (zI ((L1 : Int))), .int (zI ((a : Int))), .long (zL (v)), .int (zI (kd)), .int (zI (k)), .long (zL (n)), .long (zL (rd))]) C0 (C := RX7) (T := TX7) (N := 8) iG_X7 hM (hP.1) rfl 1 (by decide) tw_37 rfl rfl dX7_append_11 ?_
        refine lv_bipush (v := zI 100) C0.1 C0.2.1 dX7_append_14 rfl ?_
        refine z_icmp_ge (tgt := 56) C0.1 C0.2.1 dX7_append_16 (by decide) ⟨by omega, by omega⟩ ⟨by omega, by omega⟩ (fun c_16 => ?_) (fun c_16 => ?_)
        · skip
          omega
        · skip
          refine lv_aload_n C0.1 C0.2.1 dX7_append_19 rfl (lv_at hl 0 rfl) ?_
          refine mm_get (fs := [.ref (t + 1), .int (zI ((L1 : Int))), .int (zI ((a : Int))), .long (zL (v)), .int (zI (kd)), .int (zI (k)), .long (zL (n)), .long (zL (rd))]) C0 (C := RX7) (T := TX7) (N := 8) iG_X7 hM (hP.1) rfl 0 (by decide) tw_36 rfl rfl dX7_append_20 ?_
          refine lv_aload_n C0.1 C0.2.1 dX7_append_23 rfl (lv_at hl 0 rfl) ?_
          refine mm_get (fs := [.ref (t + 1), .int (zI ((L1 : Int))), .int (zI ((a : Int))), .long (zL (v)), .int (zI (kd)), .int (zI (k)), .long (zL (n)), .long (zL (rd))]) C0 (C := RX7) (T := TX7) (N := 8) iG_X7 hM (hP.1) rfl 1 (by decide) tw_37 rfl rfl dX7_append_24 ?_
          refine lv_lload_n C0.1 C0.2.1 dX7_append_27 rfl (lv_at hl 1 rfl) ?_
          refine lv_bipush (v := zI 8) C0.1 C0.2.1 dX7_append_28 rfl ?_
          refine lv_iload C0.1 C0.2.1 dX7_append_30 (lv_at hl 3 rfl) ?_
          refine z_imul C0.1 C0.2.1 dX7_append_32 ?_
          refine z_byte (j := u1 - 1) C0.1 C0.2.1 dX7_append_33 ⟨by omega, by omega⟩ (by omega) (by omega) (fun hB9 => ?_)
          refine mm_ldc2 (z := 255) C0 tw_344 rfl dX7_append_34 ?_
          refine lv_land C0.1 C0.2.1 dX7_append_37 ?_
          rw [hB9]
          have hbb := bt_b w (u1 - 1)
          refine z_l2i C0.1 C0.2.1 dX7_append_38 ?_
          refine mm_iast C0 hM hS (g := B1) (hP.2) (L1) (i := (L1 : Int)) (x := (bt w (u1 - 1))) (by omega) (by omega) (by decide) dX7_append_39 (fun H locs hM hS hsz => ?_)
          obtain ⟨E2, hE2⟩ : ∃ X : mE, X = mm_up E1 (t + 1) (mm_I G 100 (zup (B1) (L1) ((bt w (u1 - 1))))) := ⟨_, rfl⟩
          replace hM : mm_M G E2 H := by rw [hE2]; exact hM
          have frs : ∀ q : Nat, q ≠ t + 1 → E2 q = E1 q := fun q h => by rw [hE2]; exact mm_up_n _ _ h
          have hat : E2 (t + 1) = some (mm_I G 100 (zup (B1) (L1) ((bt w (u1 - 1))))) := by rw [hE2]; exact mm_up_s _ _ _
          have hP : tp G E2 t (zup B1 L1 (bt w (u1 - 1))) L1 a v kd k n rd := ⟨(frs _ (by omega)).trans hP.1, hat⟩
          have hfr := (fun q h => (frs q (by omega)).trans (hfr q h) : ∀ q : Nat, (q < t ∨ t + 2 ≤ q) → E2 q = E0 q)
          refine lv_aload_n C0.1 C0.2.1 dX7_append_40 rfl (lv_at hl 0 rfl) ?_
          refine lv_dup C0.1 C0.2.1 dX7_append_41 rfl ?_
          refine mm_get (fs := [.ref (t + 1), .int (zI ((L1 : Int))), .int (zI ((a : Int))), .long (zL (v)), .int (zI (kd)), .int (zI (k)), .long (zL (n)), .long (zL (rd))]) C0 (C := RX7) (T := TX7) (N := 8) iG_X7 hM (hP.1) rfl 1 (by decide) tw_37 rfl rfl dX7_append_42 ?_
          refine lv_iconst (v := zI 1) C0.1 C0.2.1 dX7_append_45 rfl ?_
          refine z_iadd C0.1 C0.2.1 dX7_append_46 ?_
          refine z_asI (a := (((L1 : Int)) + (1))) (b := ((L1 + 1 : Nat) : Int)) (by omega) ?_
          refine mm_put (v := .int (zI (((L1 + 1 : Nat) : Int)))) (fs := [.ref (t + 1), .int (zI ((L1 : Int))), .int (zI ((a : Int))), .long (zL (v)), .int (zI (kd)), .int (zI (k)), .long (zL (n)), .long (zL (rd))]) C0 (C := RX7) (T := TX7) (N := 8) iG_X7 tyX7 tyX7_ok nmX7 hM hS (hP.1) rfl 1 (by decide) tw_37 rfl rfl (ty := tyX7 1) (tyX7_ok 1 (by decide)) rfl rfl (Nat.le_of_ble_eq_true rfl) dX7_append_47 (fun H locs hM hS hsz => ?_)
          obtain ⟨E3, hE3⟩ : ∃ X : mE, X = mm_up E2 (t) (.inr (6, [.ref (t + 1), .int (zI (((L1 + 1 : Nat) : Int))), .int (zI ((a : Int))), .long (zL (v)), .int (zI (kd)), .int (zI (k)), .long (zL (n)), .long (zL (rd))])) := ⟨_, rfl⟩
          replace hM : mm_M G E3 H := by rw [hE3]; exact hM
          have frs : ∀ q : Nat, q ≠ t → E3 q = E2 q := fun q h => by rw [hE3]; exact mm_up_n _ _ h
          have hat : E3 (t) = some (.inr (6, [.ref (t + 1), .int (zI (((L1 + 1 : Nat) : Int))), .int (zI ((a : Int))), .long (zL (v)), .int (zI (kd)), .int (zI (k)), .long (zL (n)), .long (zL (rd))])) := by rw [hE3]; exact mm_up_s _ _ _
          have hP : tp G E3 t (zup B1 L1 (bt w (u1 - 1))) (L1 + 1) a v kd k n rd := ⟨hat, (frs _ (by omega)).trans hP.2⟩
          have hfr := (fun q h => (frs q (by omega)).trans (hfr q h) : ∀ q : Nat, (q < t ∨ t + 2 ≤ q) → E3 q = E0 q)
          refine lv_iinc (v := zI (((u1 - 1 : Nat) : Int) - 1)) (lv' := [(4, .int (zI (((u1 - 1 : Nat) : Int) - 1))), (0, .ref (t)), (1, .long (zL (w))), (3, .int (zI ((u : Int))))]) C0.1 C0.2.1 dX7_append_50 hl (k := 3) rfl (z_inc (a := (u1 : Int) - 1) (n := (-1)) (by omega)) (by decide) rfl (fun ls hl => ?_)
          refine lv_goto (tgt := 5) C0.1 C0.2.1 dX7_append_53 (by decide) ?_
          exact ih5  (u1 - 1) (L1 + 1) (zup B1 L1 (bt w (u1 - 1))) E3 _ _ _ (by omega) (by omega) (by rw [← hap]; obtain ⟨u2, rfl⟩ : ∃ u2, u1 = u2 + 1 := ⟨u1 - 1, by omega⟩; rfl) (hP) (hfr) (by omega) hM hS (lv_sub hl [1, 2, 3, 0] rfl)
  exact L5 (_ + 1) u L B E0 _ _ _ (hu) (rfl) (rfl) (hP) (hfr) (Nat.lt_succ_self _) hM hS (lv_sub hl [1, 2, 3, 0] rfl)

def rX7_byteAt : Room := { frames := 0, cells := 0, slots := 0, locals := 0 }
theorem vw_X7_byteAt : mm_Vw RX7 yX7_byteAt cX7_byteAt 2 (some .int) 1 := ⟨tw_361, tw_362, tw_2, tw_363, by decide +kernel⟩
set_option maxHeartbeats 4000000 in
set_option maxRecDepth 100000 in
theorem c_X7_byteAt (l : Launch) (G : mG) (E0 : mE) {t : Nat} {B : Nat → Int} {L a : Nat} {v kd k n rd : Int} (hP : tp G E0 t B L a v kd k n rd) (hT : okT B L) (i : Nat) (hi : i < 2147483648) : mm_Ci l yX7_byteAt (.code yX7_byteAt cX7_byteAt 2 (some .int) :: wsG) rX7_byteAt G [.ref (t), .int (zI ((i : Int)))] E0 (fun z E => z = tb B L i ∧ E = E0) := by
  refine mm_of_i (by decide +kernel) (Nat.le_of_ble_eq_true rfl) ?_
  intro p e s m args below meth c ls C0 hr hlk hM hl hS
  have hl : lv_has ls 2 [(0, .ref (t)), (1, .int (zI ((i : Int))))] := hl
  have hL := hT.1
  refine lv_iload_n C0.1 C0.2.1 dX7_byteAt_0 rfl (lv_at hl 1 rfl) ?_
  refine z_if_lt (tgt := 27) C0.1 C0.2.1 dX7_byteAt_1 (by decide) ⟨by omega, by omega⟩ (fun c_1 => ?_) (fun c_1 => ?_)
  · skip
    omega
  · skip
    refine lv_iload_n C0.1 C0.2.1 dX7_byteAt_4 rfl (lv_at hl 1 rfl) ?_
    refine lv_aload_n C0.1 C0.2.1 dX7_byteAt_5 rfl (lv_at hl 0 rfl) ?_
    refine mm_get (fs := [.ref (t + 1), .int (zI ((L : Int))), .int (zI ((a : Int))), .long (zL (v)), .int (zI (kd)), .int (zI (k)), .long (zL (n)), .long (zL (rd))]) C0 (C := RX7) (T := TX7) (N := 8) iG_X7 hM (hP.1) rfl 1 (by decide) tw_37 rfl rfl dX7_byteAt_6 ?_
    refine z_icmp_ge (tgt := 27) C0.1 C0.2.1 dX7_byteAt_9 (by decide) ⟨by omega, by omega⟩ ⟨by omega, by omega⟩ (fun c_9 => ?_) (fun c_9 => ?_)
    · skip
      refine lv_iconst (v := zI 0) C0.1 C0.2.1 dX7_byteAt_27 rfl ?_
      exact mm_iret (z := 0) C0 hr hlk hM hS dX7_byteAt_28 (⟨by unfold tb; rw [if_neg (by omega)], rfl⟩)
    · skip
      refine lv_iload_n C0.1 C0.2.1 dX7_byteAt_12 rfl (lv_at hl 1 rfl) ?_
      refine lv_bipush (v := zI 100) C0.1 C0.2.1 dX7_byteAt_13 rfl ?_
      refine z_icmp_ge (tgt := 27) C0.1 C0.2.1 dX7_byteAt_15 (by decide) ⟨by omega, by omega⟩ ⟨by omega, by omega⟩ (fun c_15 => ?_) (fun c_15 => ?_)
      · skip
        omega
      · skip
        refine lv_aload_n C0.1 C0.2.1 dX7_byteAt_18 rfl (lv_at hl 0 rfl) ?_
        refine mm_get (fs := [.ref (t + 1), .int (zI ((L : Int))), .int (zI ((a : Int))), .long (zL (v)), .int (zI (kd)), .int (zI (k)), .long (zL (n)), .long (zL (rd))]) C0 (C := RX7) (T := TX7) (N := 8) iG_X7 hM (hP.1) rfl 0 (by decide) tw_36 rfl rfl dX7_byteAt_19 ?_
        refine lv_iload_n C0.1 C0.2.1 dX7_byteAt_22 rfl (lv_at hl 1 rfl) ?_
        refine mm_iald C0 hM (g := B) (hP.2) (i) (i := (i : Int)) (by omega) (by omega) (by decide) dX7_byteAt_23 ?_
        refine lv_goto (tgt := 28) C0.1 C0.2.1 dX7_byteAt_24 (by decide) ?_
        exact mm_iret (z := (B) (i)) C0 hr hlk hM hS dX7_byteAt_28 (⟨by unfold tb; rw [if_pos (by omega)], rfl⟩)

def rX7_isFigure : Room := { frames := 0, cells := 0, slots := 0, locals := 0 }
theorem vw_X7_isFigure : mm_Vw RX7 yX7_isFigure cX7_isFigure 2 (some .boolean) 1 := ⟨tw_365, tw_366, tw_2, tw_367, by decide +kernel⟩
set_option maxHeartbeats 4000000 in
set_option maxRecDepth 100000 in
theorem c_X7_isFigure (l : Launch) (G : mG) (E0 : mE) {t : Nat} {B : Nat → Int} {L a : Nat} {v kd k n rd : Int} (hP : tp G E0 t B L a v kd k n rd) (hT : okT B L) {x : Int} (hx : rI x) : mm_Ci l yX7_isFigure (.code yX7_isFigure cX7_isFigure 2 (some .boolean) :: wsG) rX7_isFigure G [.ref (t), .int (zI (x))] E0 (fun z E => z = (if fig x then 1 else 0) ∧ E = E0) := by
  refine mm_of_i (by decide +kernel) (Nat.le_of_ble_eq_true rfl) ?_
  intro p e s m args below meth c ls C0 hr hlk hM hl hS
  have hl : lv_has ls 2 [(0, .ref (t)), (1, .int (zI (x)))] := hl
  obtain ⟨hx1, hx2⟩ := hx
  refine lv_iload_n C0.1 C0.2.1 dX7_isFigure_0 rfl (lv_at hl 1 rfl) ?_
  refine lv_bipush (v := zI 48) C0.1 C0.2.1 dX7_isFigure_1 rfl ?_
  refine z_icmp_lt (tgt := 16) C0.1 C0.2.1 dX7_isFigure_3 (by decide) ⟨by omega, by omega⟩ ⟨by omega, by omega⟩ (fun c_3 => ?_) (fun c_3 => ?_)
  · skip
    refine lv_iconst (v := zI 0) C0.1 C0.2.1 dX7_isFigure_16 rfl ?_
    exact mm_zret (z := 0) C0 hr hlk hM hS (by omega) dX7_isFigure_17 (⟨by rw [if_neg (by omega)], rfl⟩)
  · skip
    refine lv_iload_n C0.1 C0.2.1 dX7_isFigure_6 rfl (lv_at hl 1 rfl) ?_
    refine lv_bipush (v := zI 57) C0.1 C0.2.1 dX7_isFigure_7 rfl ?_
    refine z_icmp_gt (tgt := 16) C0.1 C0.2.1 dX7_isFigure_9 (by decide) ⟨by omega, by omega⟩ ⟨by omega, by omega⟩ (fun c_9 => ?_) (fun c_9 => ?_)
    · skip
      refine lv_iconst (v := zI 0) C0.1 C0.2.1 dX7_isFigure_16 rfl ?_
      exact mm_zret (z := 0) C0 hr hlk hM hS (by omega) dX7_isFigure_17 (⟨by rw [if_neg (by omega)], rfl⟩)
    · skip
      refine lv_iconst (v := zI 1) C0.1 C0.2.1 dX7_isFigure_12 rfl ?_
      refine lv_goto (tgt := 17) C0.1 C0.2.1 dX7_isFigure_13 (by decide) ?_
      exact mm_zret (z := 1) C0 hr hlk hM hS (by omega) dX7_isFigure_17 (⟨by rw [if_pos ⟨by omega, by omega⟩], rfl⟩)

def rX7_fault : Room := { frames := 0, cells := 0, slots := 0, locals := 0 }
theorem vw_X7_fault : mm_Vw RX7 yX7_fault cX7_fault 2 (some .int) 1 := ⟨tw_369, tw_370, tw_2, tw_371, by decide +kernel⟩
set_option maxHeartbeats 4000000 in
set_option maxRecDepth 100000 in
theorem c_X7_fault (l : Launch) (G : mG) (E0 : mE) {t : Nat} {B : Nat → Int} {L a : Nat} {v kd k n rd : Int} (hP : tp G E0 t B L a v kd k n rd) (hT : okT B L) (i : Nat) : mm_Ci l yX7_fault (.code yX7_fault cX7_fault 2 (some .int) :: wsG) rX7_fault G [.ref (t), .int (zI ((i : Int)))] E0 (fun z E => z = -20 - (i : Int) ∧ E = E0) := by
  refine mm_of_i (by decide +kernel) (Nat.le_of_ble_eq_true rfl) ?_
  intro p e s m args below meth c ls C0 hr hlk hM hl hS
  have hl : lv_has ls 2 [(0, .ref (t)), (1, .int (zI ((i : Int))))] := hl
  refine lv_bipush (v := zI (-20)) C0.1 C0.2.1 dX7_fault_0 rfl ?_
  refine lv_iload_n C0.1 C0.2.1 dX7_fault_2 rfl (lv_at hl 1 rfl) ?_
  refine z_isub C0.1 C0.2.1 dX7_fault_3 ?_
  exact mm_iret (z := (((-20)) - ((i : Int)))) C0 hr hlk hM hS dX7_fault_4 (⟨rfl, rfl⟩)

def rX7_faultHere : Room := { frames := 1, cells := 0, slots := 0, locals := 21 }
theorem vw_X7_faultHere : mm_Vw RX7 yX7_faultHere cX7_faultHere 1 (some .int) 0 := ⟨tw_751, tw_752, tw_2, tw_753, by decide +kernel⟩
set_option maxHeartbeats 4000000 in
set_option maxRecDepth 100000 in
theorem c_X7_faultHere (l : Launch) (G : mG) (E0 : mE) {t : Nat} {B : Nat → Int} {L a : Nat} {v kd k n rd : Int} (hP : tp G E0 t B L a v kd k n rd) (hT : okT B L) : mm_Ci l yX7_faultHere (.code yX7_faultHere cX7_faultHere 1 (some .int) :: wsG) rX7_faultHere G [.ref (t)] E0 (fun z E => z = -20 - (a : Int) ∧ E = E0) := by
  refine mm_of_i (by decide +kernel) (Nat.le_of_ble_eq_true rfl) ?_
  intro p e s m args below meth c ls C0 hr hlk hM hl hS
  have hl : lv_has ls 1 [(0, .ref (t))] := hl
  refine lv_aload_n C0.1 C0.2.1 dX7_faultHere_0 rfl (lv_at hl 0 rfl) ?_
  refine lv_aload_n C0.1 C0.2.1 dX7_faultHere_1 rfl (lv_at hl 0 rfl) ?_
  refine mm_get (fs := [.ref (t + 1), .int (zI ((L : Int))), .int (zI ((a : Int))), .long (zL (v)), .int (zI (kd)), .int (zI (k)), .long (zL (n)), .long (zL (rd))]) C0 (C := RX7) (T := TX7) (N := 8) iG_X7 hM (hP.1) rfl 2 (by decide) tw_39 rfl rfl dX7_faultHere_2 ?_
  refine mm_callVi (As := [.int (zI ((a : Int)))]) C0 vw_X7_fault tw_368 (c_X7_fault l G _ hP hT a) hM (hP.1) rfl rfl hl.1 rfl (Nat.le_of_ble_eq_true rfl) ⟨rfl, rfl, Nat.le_of_ble_eq_true rfl, Nat.le_of_ble_eq_true rfl, Nat.zero_le _, Nat.zero_le _⟩ dX7_faultHere_5 hS (fun z_5 E1 H locs hp hM hS => ?_)
  obtain ⟨hz_5, hEq⟩ := hp
  rw [hEq] at hM
  refine z_asI (b := (-20 - (a : Int))) (hz_5) ?_
  exact mm_iret (z := (-20 - (a : Int))) C0 hr hlk hM hS dX7_faultHere_8 (⟨rfl, rfl⟩)

def rX7_skipBlanks : Room := { frames := 1, cells := 0, slots := 0, locals := 21 }
theorem vw_X7_skipBlanks : mm_Vw RX7 yX7_skipBlanks cX7_skipBlanks 1 none 0 := ⟨tw_742, tw_743, tw_2, tw_744, by decide +kernel⟩
set_option maxHeartbeats 4000000 in
set_option maxRecDepth 100000 in
theorem c_X7_skipBlanks (l : Launch) (G : mG) (E0 : mE) {t : Nat} {B : Nat → Int} {L a : Nat} {v kd k n rd : Int} (hP : tp G E0 t B L a v kd k n rd) (hT : okT B L) (ha : a ≤ L) : mm_Cv l yX7_skipBlanks (.code yX7_skipBlanks cX7_skipBlanks 1 none :: wsG) rX7_skipBlanks G [.ref (t)] E0 (fun E => tp G E t B L (skp B L a) v kd k n rd ∧ ∀ q : Nat, q ≠ t → E q = E0 q) := by
  refine mm_of_v (by decide +kernel) (Nat.le_of_ble_eq_true rfl) ?_
  intro p e s m args below meth c ls C0 hr hlk hM hl hS
  have hl : lv_has ls 1 [(0, .ref (t))] := hl
  have hfr : ∀ q : Nat, q ≠ t → E0 q = E0 q := fun _ _ => rfl
  have hL := hT.1
  have L0 : ∀ (k0 : Nat) (a1 : Nat) (E1 : mE) (H : Heap) (locs : List Loc) (ls : Array Slot), (a1 ≤ L) → (skp B L a1 = skp B L a) → (tp G E1 t B L a1 v kd k n rd) → (∀ q : Nat, q ≠ t → E1 q = E0 q) → L - a1 < k0 → mm_M G E1 H → va_S (mm_A G) s.heap H locs → lv_has ls 1 [(0, .ref (t))] → W p l e rX7_skipBlanks s m args below meth c H locs 0 0 (mm_Zv G below args s (fun E => tp G E t B L (skp B L a) v kd k n rd ∧ ∀ q : Nat, q ≠ t → E q = E0 q)) (F0 m 0 ls []) := by
    intro k0
    induction k0 with
    | zero => intro a1 E1 H locs ls ha1 hsk hP hfr hk hM hS hl; exact absurd hk (Nat.not_lt_zero _)
    | succ k0 ih0 =>
      intro a1 E1 H locs ls ha1 hsk hP hfr hk0 hM hS hl
      refine lv_aload_n C0.1 C0.2.1 dX7_skipBlanks_0 rfl (lv_at hl 0 rfl) ?_
      refine mm_get (fs := [.ref (t + 1), .int (zI ((L : Int))), .int (zI ((a1 : Int))), .long (zL (v)), .int (zI (kd)), .int (zI (k)), .long (zL (n)), .long (zL (rd))]) C0 (C := RX7) (T := TX7) (N := 8) iG_X7 hM (hP.1) rfl 2 (by decide) tw_39 rfl rfl dX7_skipBlanks_1 ?_
      refine lv_aload_n C0.1 C0.2.1 dX7_skipBlanks_4 rfl (lv_at hl 0 rfl) ?_
      refine mm_get (fs := [.ref (t + 1), .int (zI ((L : Int))), .int (zI ((a1 : Int))), .long (zL (v)), .int (zI (kd)), .int (zI (k)), .long (zL (n)), .long (zL (rd))]) C0 (C := RX7) (T := TX7) (N := 8) iG_X7 hM (hP.1) rfl 1 (by decide) tw_37 rfl rfl dX7_skipBlanks_5 ?_
      refine z_icmp_ge (tgt := 37) C0.1 C0.2.1 dX7_skipBlanks_8 (by decide) ⟨by omega, by omega⟩ ⟨by omega, by omega⟩ (fun c_8 => ?_) (fun c_8 => ?_)
      · skip
        have hske : skp B L a1 = a1 := skp_e (by omega)
        exact mm_vret C0 hr hlk hM hS dX7_skipBlanks_37 (⟨by rw [← hsk, hske]; exact hP, hfr⟩)
      · skip
        refine lv_aload_n C0.1 C0.2.1 dX7_skipBlanks_11 rfl (lv_at hl 0 rfl) ?_
        refine lv_aload_n C0.1 C0.2.1 dX7_skipBlanks_12 rfl (lv_at hl 0 rfl) ?_
        refine mm_get (fs := [.ref (t + 1), .int (zI ((L : Int))), .int (zI ((a1 : Int))), .long (zL (v)), .int (zI (kd)), .int (zI (k)), .long (zL (n)), .long (zL (rd))]) C0 (C := RX7) (T := TX7) (N := 8) iG_X7 hM (hP.1) rfl 2 (by decide) tw_39 rfl rfl dX7_skipBlanks_13 ?_
        refine mm_callVi (As := [.int (zI ((a1 : Int)))]) C0 vw_X7_byteAt tw_360 (c_X7_byteAt l G _ hP hT a1 (by omega)) hM (hP.1) rfl rfl hl.1 rfl (Nat.le_of_ble_eq_true rfl) ⟨rfl, rfl, Nat.le_of_ble_eq_true rfl, Nat.le_of_ble_eq_true rfl, Nat.zero_le _, Nat.zero_le _⟩ dX7_skipBlanks_16 hS (fun z_16 E2 H locs hp hM hS => ?_)
        obtain ⟨hz_16, hEq⟩ := hp
        rw [hEq] at hM
        refine z_asI (b := (B a1)) (hz_16.trans (if_pos (by omega))) ?_
        have hbi := hT.2 a1 (by omega)
        obtain ⟨hbi1, hbi2⟩ := hbi
        refine lv_bipush (v := zI 32) C0.1 C0.2.1 dX7_skipBlanks_19 rfl ?_
        refine z_icmp_ne (tgt := 37) C0.1 C0.2.1 dX7_skipBlanks_21 (by decide) ⟨by omega, by omega⟩ ⟨by omega, by omega⟩ (fun c_21 => ?_) (fun c_21 => ?_)
        · skip
          have hske : skp B L a1 = a1 := skp_e (by omega)
          exact mm_vret C0 hr hlk hM hS dX7_skipBlanks_37 (⟨by rw [← hsk, hske]; exact hP, hfr⟩)
        · skip
          have h32 : B a1 = 32 := c_21
          refine lv_aload_n C0.1 C0.2.1 dX7_skipBlanks_24 rfl (lv_at hl 0 rfl) ?_
          refine lv_dup C0.1 C0.2.1 dX7_skipBlanks_25 rfl ?_
          refine mm_get (fs := [.ref (t + 1), .int (zI ((L : Int))), .int (zI ((a1 : Int))), .long (zL (v)), .int (zI (kd)), .int (zI (k)), .long (zL (n)), .long (zL (rd))]) C0 (C := RX7) (T := TX7) (N := 8) iG_X7 hM (hP.1) rfl 2 (by decide) tw_39 rfl rfl dX7_skipBlanks_26 ?_
          refine lv_iconst (v := zI 1) C0.1 C0.2.1 dX7_skipBlanks_29 rfl ?_
          refine z_iadd C0.1 C0.2.1 dX7_skipBlanks_30 ?_
          refine z_asI (a := (((a1 : Int)) + (1))) (b := ((a1 + 1 : Nat) : Int)) (by omega) ?_
          refine mm_put (v := .int (zI (((a1 + 1 : Nat) : Int)))) (fs := [.ref (t + 1), .int (zI ((L : Int))), .int (zI ((a1 : Int))), .long (zL (v)), .int (zI (kd)), .int (zI (k)), .long (zL (n)), .long (zL (rd))]) C0 (C := RX7) (T := TX7) (N := 8) iG_X7 tyX7 tyX7_ok nmX7 hM hS (hP.1) rfl 2 (by decide) tw_39 rfl rfl (ty := tyX7 2) (tyX7_ok 2 (by decide)) rfl rfl (Nat.le_of_ble_eq_true rfl) dX7_skipBlanks_31 (fun H locs hM hS hsz => ?_)
          obtain ⟨E3, hE3⟩ : ∃ X : mE, X = mm_up E1 (t) (.inr (6, [.ref (t + 1), .int (zI ((L : Int))), .int (zI (((a1 + 1 : Nat) : Int))), .long (zL (v)), .int (zI (kd)), .int (zI (k)), .long (zL (n)), .long (zL (rd))])) := ⟨_, rfl⟩
          replace hM : mm_M G E3 H := by rw [hE3]; exact hM
          have frs : ∀ q : Nat, q ≠ t → E3 q = E1 q := fun q h => by rw [hE3]; exact mm_up_n _ _ h
          have hat : E3 (t) = some (.inr (6, [.ref (t + 1), .int (zI ((L : Int))), .int (zI (((a1 + 1 : Nat) : Int))), .long (zL (v)), .int (zI (kd)), .int (zI (k)), .long (zL (n)), .long (zL (rd))])) := by rw [hE3]; exact mm_up_s _ _ _
          have hP : tp G E3 t B L (a1 + 1) v kd k n rd := ⟨hat, (frs _ (by omega)).trans hP.2⟩
          have hfr := (fun q h => (frs q (by omega)).trans (hfr q h) : ∀ q : Nat, q ≠ t → E3 q = E0 q)
          refine lv_goto (tgt := 0) C0.1 C0.2.1 dX7_skipBlanks_34 (by decide) ?_
          exact ih0  (a1 + 1) E3 _ _ _ (by omega) (by rw [← hsk, ← skp_s (by omega) h32]) (hP) (hfr) (by omega) hM hS (lv_sub hl [0] rfl)
  exact L0 (_ + 1) a E0 _ _ _ (ha) (rfl) (hP) (hfr) (Nat.lt_succ_self _) hM hS (lv_sub hl [0] rfl)

def rX7_atEnd : Room := { frames := 2, cells := 0, slots := 0, locals := 41 }
theorem vw_X7_atEnd : mm_Vw RX7 yX7_atEnd cX7_atEnd 1 (some .boolean) 0 := ⟨tw_849, tw_850, tw_2, tw_851, by decide +kernel⟩
set_option maxHeartbeats 4000000 in
set_option maxRecDepth 100000 in
theorem c_X7_atEnd (l : Launch) (G : mG) (E0 : mE) {t : Nat} {B : Nat → Int} {L a : Nat} {v kd k n rd : Int} (hP : tp G E0 t B L a v kd k n rd) (hT : okT B L) (ha : a ≤ L) : mm_Ci l yX7_atEnd (.code yX7_atEnd cX7_atEnd 1 (some .boolean) :: wsG) rX7_atEnd G [.ref (t)] E0 (fun z E => z = (if skp B L a < L then 0 else 1) ∧ tp G E t B L (skp B L a) v kd k n rd ∧ ∀ q : Nat, q ≠ t → E q = E0 q) := by
  refine mm_of_i (by decide +kernel) (Nat.le_of_ble_eq_true rfl) ?_
  intro p e s m args below meth c ls C0 hr hlk hM hl hS
  have hl : lv_has ls 1 [(0, .ref (t))] := hl
  have hfr : ∀ q : Nat, q ≠ t → E0 q = E0 q := fun _ _ => rfl
  have hL := hT.1
  have hsb := skp_b (B := B) ha
  refine lv_aload_n C0.1 C0.2.1 dX7_atEnd_0 rfl (lv_at hl 0 rfl) ?_
  refine mm_callVv (As := []) C0 vw_X7_skipBlanks tw_741 (c_X7_skipBlanks l G _ hP hT ha) hM (hP.1) rfl rfl hl.1 rfl (Nat.le_of_ble_eq_true rfl) ⟨rfl, rfl, Nat.le_of_ble_eq_true rfl, Nat.le_of_ble_eq_true rfl, Nat.zero_le _, Nat.zero_le _⟩ dX7_atEnd_1 hS (fun E1 H locs hp hM hS => ?_)
  obtain ⟨hP, fr⟩ := hp
  have hfr := (fun q h => (fr q (by omega)).trans (hfr q h) : ∀ q : Nat, q ≠ t → E1 q = E0 q)
  refine lv_aload_n C0.1 C0.2.1 dX7_atEnd_4 rfl (lv_at hl 0 rfl) ?_
  refine mm_get (fs := [.ref (t + 1), .int (zI ((L : Int))), .int (zI (((skp B L a : Nat) : Int))), .long (zL (v)), .int (zI (kd)), .int (zI (k)), .long (zL (n)), .long (zL (rd))]) C0 (C := RX7) (T := TX7) (N := 8) iG_X7 hM (hP.1) rfl 2 (by decide) tw_39 rfl rfl dX7_atEnd_5 ?_
  refine lv_aload_n C0.1 C0.2.1 dX7_atEnd_8 rfl (lv_at hl 0 rfl) ?_
  refine mm_get (fs := [.ref (t + 1), .int (zI ((L : Int))), .int (zI (((skp B L a : Nat) : Int))), .long (zL (v)), .int (zI (kd)), .int (zI (k)), .long (zL (n)), .long (zL (rd))]) C0 (C := RX7) (T := TX7) (N := 8) iG_X7 hM (hP.1) rfl 1 (by decide) tw_37 rfl rfl dX7_atEnd_9 ?_
  refine z_icmp_lt (tgt := 19) C0.1 C0.2.1 dX7_atEnd_12 (by decide) ⟨by omega, by omega⟩ ⟨by omega, by omega⟩ (fun c_12 => ?_) (fun c_12 => ?_)
  · skip
    refine lv_iconst (v := zI 0) C0.1 C0.2.1 dX7_atEnd_19 rfl ?_
    exact mm_zret (z := 0) C0 hr hlk hM hS (by omega) dX7_atEnd_20 (⟨by rw [if_pos (by omega)], hP, hfr⟩)
  · skip
    refine lv_iconst (v := zI 1) C0.1 C0.2.1 dX7_atEnd_15 rfl ?_
    refine lv_goto (tgt := 20) C0.1 C0.2.1 dX7_atEnd_16 (by decide) ?_
    exact mm_zret (z := 1) C0 hr hlk hM hS (by omega) dX7_atEnd_20 (⟨by rw [if_neg (by omega)], hP, hfr⟩)

def rX7_pass : Room := { frames := 2, cells := 0, slots := 0, locals := 41 }
theorem vw_X7_pass : mm_Vw RX7 yX7_pass cX7_pass 2 (some .boolean) 1 := ⟨tw_747, tw_748, tw_2, tw_749, by decide +kernel⟩
set_option maxHeartbeats 4000000 in
set_option maxRecDepth 100000 in
theorem c_X7_pass (l : Launch) (G : mG) (E0 : mE) {t : Nat} {B : Nat → Int} {L a : Nat} {v kd k n rd : Int} (hP : tp G E0 t B L a v kd k n rd) (hT : okT B L) (ha : a ≤ L) {x : Int} (hx : okB x) : mm_Ci l yX7_pass (.code yX7_pass cX7_pass 2 (some .boolean) :: wsG) rX7_pass G [.ref (t), .int (zI (x))] E0 (fun z E => ((z = 1 ∧ skp B L a < L ∧ B (skp B L a) = x ∧ tp G E t B L (skp B L a + 1) v kd k n rd) ∨ (z = 0 ∧ ¬ (skp B L a < L ∧ B (skp B L a) = x) ∧ tp G E t B L (skp B L a) v kd k n rd)) ∧ ∀ q : Nat, q ≠ t → E q = E0 q) := by
  refine mm_of_i (by decide +kernel) (Nat.le_of_ble_eq_true rfl) ?_
  intro p e s m args below meth c ls C0 hr hlk hM hl hS
  have hl : lv_has ls 2 [(0, .ref (t)), (1, .int (zI (x)))] := hl
  have hfr : ∀ q : Nat, q ≠ t → E0 q = E0 q := fun _ _ => rfl
  have hL := hT.1
  have hsb := skp_b (B := B) ha
  obtain ⟨hx1, hx2⟩ := hx
  refine lv_aload_n C0.1 C0.2.1 dX7_pass_0 rfl (lv_at hl 0 rfl) ?_
  refine mm_callVv (As := []) C0 vw_X7_skipBlanks tw_741 (c_X7_skipBlanks l G _ hP hT ha) hM (hP.1) rfl rfl hl.1 rfl (Nat.le_of_ble_eq_true rfl) ⟨rfl, rfl, Nat.le_of_ble_eq_true rfl, Nat.le_of_ble_eq_true rfl, Nat.zero_le _, Nat.zero_le _⟩ dX7_pass_1 hS (fun E1 H locs hp hM hS => ?_)
  obtain ⟨hP, fr⟩ := hp
  have hfr := (fun q h => (fr q (by omega)).trans (hfr q h) : ∀ q : Nat, q ≠ t → E1 q = E0 q)
  refine lv_aload_n C0.1 C0.2.1 dX7_pass_4 rfl (lv_at hl 0 rfl) ?_
  refine lv_aload_n C0.1 C0.2.1 dX7_pass_5 rfl (lv_at hl 0 rfl) ?_
  refine mm_get (fs := [.ref (t + 1), .int (zI ((L : Int))), .int (zI (((skp B L a : Nat) : Int))), .long (zL (v)), .int (zI (kd)), .int (zI (k)), .long (zL (n)), .long (zL (rd))]) C0 (C := RX7) (T := TX7) (N := 8) iG_X7 hM (hP.1) rfl 2 (by decide) tw_39 rfl rfl dX7_pass_6 ?_
  refine mm_callVi (As := [.int (zI (((skp B L a : Nat) : Int)))]) C0 vw_X7_byteAt tw_360 (c_X7_byteAt l G _ hP hT (skp B L a) (by omega)) hM (hP.1) rfl rfl hl.1 rfl (Nat.le_of_ble_eq_true rfl) ⟨rfl, rfl, Nat.le_of_ble_eq_true rfl, Nat.le_of_ble_eq_true rfl, Nat.zero_le _, Nat.zero_le _⟩ dX7_pass_9 hS (fun z_9 E2 H locs hp hM hS => ?_)
  obtain ⟨hz_9, hEq⟩ := hp
  rw [hEq] at hM
  refine z_asI (b := (tb B L (skp B L a))) (hz_9) ?_
  have htb := tb_c hT (skp B L a)
  obtain ⟨htr1, htr2⟩ := tb_r hT (skp B L a)
  refine lv_iload_n C0.1 C0.2.1 dX7_pass_12 rfl (lv_at hl 1 rfl) ?_
  refine z_icmp_eq (tgt := 18) C0.1 C0.2.1 dX7_pass_13 (by decide) ⟨by omega, by omega⟩ ⟨by omega, by omega⟩ (fun c_13 => ?_) (fun c_13 => ?_)
  · skip
    have hyes := tb_x htb c_13 (by omega)
    refine lv_aload_n C0.1 C0.2.1 dX7_pass_18 rfl (lv_at hl 0 rfl) ?_
    refine lv_dup C0.1 C0.2.1 dX7_pass_19 rfl ?_
    refine mm_get (fs := [.ref (t + 1), .int (zI ((L : Int))), .int (zI (((skp B L a : Nat) : Int))), .long (zL (v)), .int (zI (kd)), .int (zI (k)), .long (zL (n)), .long (zL (rd))]) C0 (C := RX7) (T := TX7) (N := 8) iG_X7 hM (hP.1) rfl 2 (by decide) tw_39 rfl rfl dX7_pass_20 ?_
    refine lv_iconst (v := zI 1) C0.1 C0.2.1 dX7_pass_23 rfl ?_
    refine z_iadd C0.1 C0.2.1 dX7_pass_24 ?_
    refine z_asI (a := ((((skp B L a : Nat) : Int)) + (1))) (b := ((skp B L a + 1 : Nat) : Int)) (by omega) ?_
    refine mm_put (v := .int (zI (((skp B L a + 1 : Nat) : Int)))) (fs := [.ref (t + 1), .int (zI ((L : Int))), .int (zI (((skp B L a : Nat) : Int))), .long (zL (v)), .int (zI (kd)), .int (zI (k)), .long (zL (n)), .long (zL (rd))]) C0 (C := RX7) (T := TX7) (N := 8) iG_X7 tyX7 tyX7_ok nmX7 hM hS (hP.1) rfl 2 (by decide) tw_39 rfl rfl (ty := tyX7 2) (tyX7_ok 2 (by decide)) rfl rfl (Nat.le_of_ble_eq_true rfl) dX7_pass_25 (fun H locs hM hS hsz => ?_)
    obtain ⟨E3, hE3⟩ : ∃ X : mE, X = mm_up E1 (t) (.inr (6, [.ref (t + 1), .int (zI ((L : Int))), .int (zI (((skp B L a + 1 : Nat) : Int))), .long (zL (v)), .int (zI (kd)), .int (zI (k)), .long (zL (n)), .long (zL (rd))])) := ⟨_, rfl⟩
    replace hM : mm_M G E3 H := by rw [hE3]; exact hM
    have frs : ∀ q : Nat, q ≠ t → E3 q = E1 q := fun q h => by rw [hE3]; exact mm_up_n _ _ h
    have hat : E3 (t) = some (.inr (6, [.ref (t + 1), .int (zI ((L : Int))), .int (zI (((skp B L a + 1 : Nat) : Int))), .long (zL (v)), .int (zI (kd)), .int (zI (k)), .long (zL (n)), .long (zL (rd))])) := by rw [hE3]; exact mm_up_s _ _ _
    have hP : tp G E3 t B L (skp B L a + 1) v kd k n rd := ⟨hat, (frs _ (by omega)).trans hP.2⟩
    have hfr := (fun q h => (frs q (by omega)).trans (hfr q h) : ∀ q : Nat, q ≠ t → E3 q = E0 q)
    refine lv_iconst (v := zI 1) C0.1 C0.2.1 dX7_pass_28 rfl ?_
    exact mm_zret (z := 1) C0 hr hlk hM hS (by omega) dX7_pass_29 (⟨Or.inl ⟨rfl, hyes.1, hyes.2, hP⟩, hfr⟩)
  · skip
    refine lv_iconst (v := zI 0) C0.1 C0.2.1 dX7_pass_16 rfl ?_
    exact mm_zret (z := 0) C0 hr hlk hM hS (by omega) dX7_pass_17 (⟨Or.inr ⟨rfl, fun h => c_13 (by unfold tb; rw [if_pos h.1]; exact h.2), hP⟩, hfr⟩)

def rX7_readText : Room := { frames := 3, cells := 0, slots := 0, locals := 75 }
theorem vw_X7_readText : mm_Vw RX7 yX7_readText cX7_readText 6 (some .int) 2 := ⟨tw_356, tw_357, tw_2, tw_358, by decide +kernel⟩
set_option maxHeartbeats 4000000 in
set_option maxRecDepth 100000 in
theorem c_X7_readText (l : Launch) (G : mG) (E0 : mE) {t : Nat} {B : Nat → Int} {L a : Nat} {v kd k n rd : Int} (hP : tp G E0 t B L a v kd k n rd) (hT : okT B L) {o w : Nat} (hO : isV G E0 o) (hW : isV G E0 w) (how : o + 2 ≤ w ∨ w + 2 ≤ o) (hto : t + 2 ≤ o ∨ o + 2 ≤ t) (htw : t + 2 ≤ w ∨ w + 2 ≤ t) : mm_Ci l yX7_readText (.code yX7_readText cX7_readText 6 (some .int) :: wsG) rX7_readText G [.ref (t), .ref (o), .ref (w)] E0 (fun z E => z = (rdT B L 0 0 0).1 ∧ isW G E o (rdT B L 0 0 0).2 ∧ isV G E w ∧ ∀ q : Nat, (q < o ∨ o + 2 ≤ q) ∧ (q < w ∨ w + 2 ≤ q) → E q = E0 q) := by
  refine mm_of_i (by decide +kernel) (Nat.le_of_ble_eq_true rfl) ?_
  intro p e s m args below meth c ls C0 hr hlk hM hl hS
  have hl : lv_has ls 6 [(0, .ref (t)), (1, .ref (o)), (2, .ref (w))] := hl
  have hfr : ∀ q : Nat, (q < o ∨ o + 2 ≤ q) ∧ (q < w ∨ w + 2 ≤ q) → E0 q = E0 q := fun _ _ => rfl
  have hL := hT.1
  refine lv_aload_n C0.1 C0.2.1 dX7_readText_0 rfl (lv_at hl 1 rfl) ?_
  refine lv_lconst (v := zL 0) C0.1 C0.2.1 dX7_readText_1 rfl ?_
  refine mm_callVv (As := [.long (zL (0))]) C0 vw_X8_setLong tw_359 (c_X8_setLongV l G _ (N := 0) hO rfl (by omega)) hM ((hO.obj).choose_spec) rfl rfl hl.1 rfl (Nat.le_of_ble_eq_true rfl) ⟨rfl, rfl, Nat.le_of_ble_eq_true rfl, Nat.le_of_ble_eq_true rfl, Nat.zero_le _, Nat.zero_le _⟩ dX7_readText_2 hS (fun E1 H locs hp hM hS => ?_)
  obtain ⟨hO, fr⟩ := hp
  have hfr := (fun q h => (fr q (by omega)).trans (hfr q h) : ∀ q : Nat, (q < o ∨ o + 2 ≤ q) ∧ (q < w ∨ w + 2 ≤ q) → E1 q = E0 q)
  have hP := tp.kept hP (fr _ (by omega)) (fr _ (by omega))
  have hW := isV.kept hW (fr _ (by omega)) (fr _ (by omega))
  refine lv_iconst (v := zI 0) C0.1 C0.2.1 dX7_readText_5 rfl ?_
  refine lv_istore_n (lv' := [(3, .int (zI (0))), (0, .ref (t)), (1, .ref (o)), (2, .ref (w))]) C0.1 C0.2.1 dX7_readText_6 rfl hl (by decide) rfl (fun ls hl => ?_)
  refine lv_iconst (v := zI 0) C0.1 C0.2.1 dX7_readText_7 rfl ?_
  refine lv_istore (lv' := [(4, .int (zI (0))), (3, .int (zI (0))), (0, .ref (t)), (1, .ref (o)), (2, .ref (w))]) C0.1 C0.2.1 dX7_readText_8 hl (by decide) rfl (fun ls hl => ?_)
  have L10 : ∀ (k10 : Nat) (i cnt N : Nat) (E2 : mE) (H : Heap) (locs : List Loc) (ls : Array Slot), (i ≤ L) → (cnt ≤ 80) → (hid (N < 10 ^ cnt)) → (rdT B L 0 0 0 = rdT B (L - i) i cnt N) → (tp G E2 t B L a v kd k n rd) → (isW G E2 o N) → (isV G E2 w) → (∀ q : Nat, (q < o ∨ o + 2 ≤ q) ∧ (q < w ∨ w + 2 ≤ q) → E2 q = E0 q) → L - i < k10 → mm_M G E2 H → va_S (mm_A G) s.heap H locs → lv_has ls 6 [(0, .ref (t)), (1, .ref (o)), (2, .ref (w)), (3, .int (zI ((cnt : Int)))), (4, .int (zI ((i : Int))))] → W p l e rX7_readText s m args below meth c H locs 0 0 (mm_Zi G below args s (fun z E => z = (rdT B L 0 0 0).1 ∧ isW G E o (rdT B L 0 0 0).2 ∧ isV G E w ∧ ∀ q : Nat, (q < o ∨ o + 2 ≤ q) ∧ (q < w ∨ w + 2 ≤ q) → E q = E0 q)) (F0 m 10 ls []) := by
    intro k10
    induction k10 with
    | zero => intro i cnt N E2 H locs ls hi hcn hN hrd hP hO hW hfr hk hM hS hl; exact absurd hk (Nat.not_lt_zero _)
    | succ k10 ih10 =>
      intro i cnt N E2 H locs ls hi hcn hN hrd hP hO hW hfr hk10 hM hS hl
      have hn9 : nl N ≤ 9 := nl80 hN hcn
      refine lv_iload C0.1 C0.2.1 dX7_readText_10 (lv_at hl 4 rfl) ?_
      refine lv_aload_n C0.1 C0.2.1 dX7_readText_12 rfl (lv_at hl 0 rfl) ?_
      refine mm_get (fs := [.ref (t + 1), .int (zI ((L : Int))), .int (zI ((a : Int))), .long (zL (v)), .int (zI (kd)), .int (zI (k)), .long (zL (n)), .long (zL (rd))]) C0 (C := RX7) (T := TX7) (N := 8) iG_X7 hM (hP.1) rfl 1 (by decide) tw_37 rfl rfl dX7_readText_13 ?_
      refine z_icmp_ge (tgt := 91) C0.1 C0.2.1 dX7_readText_16 (by decide) ⟨by omega, by omega⟩ ⟨by omega, by omega⟩ (fun c_16 => ?_) (fun c_16 => ?_)
      · skip
        refine lv_iload_n C0.1 C0.2.1 dX7_readText_91 rfl (lv_at hl 3 rfl) ?_
        refine z_if_ne (tgt := 106) C0.1 C0.2.1 dX7_readText_92 (by decide) ⟨by omega, by omega⟩ (fun c_92 => ?_) (fun c_92 => ?_)
        · skip
          refine lv_iconst (v := zI 0) C0.1 C0.2.1 dX7_readText_106 rfl ?_
          exact mm_iret (z := 0) C0 hr hlk hM hS dX7_readText_107 (⟨by rw [hrd, show L - i = 0 by omega, rdT_0, if_neg (by omega)], by rw [hrd, show L - i = 0 by omega, rdT_0]; exact hO, hW, hfr⟩)
        · skip
          refine lv_aload_n C0.1 C0.2.1 dX7_readText_95 rfl (lv_at hl 0 rfl) ?_
          refine lv_aload_n C0.1 C0.2.1 dX7_readText_96 rfl (lv_at hl 0 rfl) ?_
          refine mm_get (fs := [.ref (t + 1), .int (zI ((L : Int))), .int (zI ((a : Int))), .long (zL (v)), .int (zI (kd)), .int (zI (k)), .long (zL (n)), .long (zL (rd))]) C0 (C := RX7) (T := TX7) (N := 8) iG_X7 hM (hP.1) rfl 1 (by decide) tw_37 rfl rfl dX7_readText_97 ?_
          refine mm_callVi (As := [.int (zI ((L : Int)))]) C0 vw_X7_fault tw_368 (c_X7_fault l G _ hP hT L) hM (hP.1) rfl rfl hl.1 rfl (Nat.le_of_ble_eq_true rfl) ⟨rfl, rfl, Nat.le_of_ble_eq_true rfl, Nat.le_of_ble_eq_true rfl, Nat.zero_le _, Nat.zero_le _⟩ dX7_readText_100 hS (fun z_100 E3 H locs hp hM hS => ?_)
          obtain ⟨hz_100, hEq⟩ := hp
          rw [hEq] at hM
          refine z_asI (b := (-20 - (L : Int))) (hz_100) ?_
          refine lv_goto (tgt := 107) C0.1 C0.2.1 dX7_readText_103 (by decide) ?_
          exact mm_iret (z := (-20 - (L : Int))) C0 hr hlk hM hS dX7_readText_107 (⟨by rw [hrd, show L - i = 0 by omega, rdT_0, if_pos (by omega), show i = L by omega], by rw [hrd, show L - i = 0 by omega, rdT_0]; exact hO, hW, hfr⟩)
      · skip
        refine lv_aload_n C0.1 C0.2.1 dX7_readText_19 rfl (lv_at hl 0 rfl) ?_
        refine lv_iload C0.1 C0.2.1 dX7_readText_20 (lv_at hl 4 rfl) ?_
        refine mm_callVi (As := [.int (zI ((i : Int)))]) C0 vw_X7_byteAt tw_360 (c_X7_byteAt l G _ hP hT i (by omega)) hM (hP.1) rfl rfl hl.1 rfl (Nat.le_of_ble_eq_true rfl) ⟨rfl, rfl, Nat.le_of_ble_eq_true rfl, Nat.le_of_ble_eq_true rfl, Nat.zero_le _, Nat.zero_le _⟩ dX7_readText_22 hS (fun z_22 E4 H locs hp hM hS => ?_)
        obtain ⟨hz_22, hEq⟩ := hp
        rw [hEq] at hM
        refine z_asI (b := (B i)) (hz_22.trans (if_pos (by omega))) ?_
        have hbi := hT.2 i (by omega)
        obtain ⟨hbi1, hbi2⟩ := hbi
        refine lv_istore (lv' := [(5, .int (zI ((B i)))), (0, .ref (t)), (1, .ref (o)), (2, .ref (w)), (3, .int (zI ((cnt : Int)))), (4, .int (zI ((i : Int))))]) C0.1 C0.2.1 dX7_readText_25 hl (by decide) rfl (fun ls hl => ?_)
        refine lv_iload C0.1 C0.2.1 dX7_readText_27 (lv_at hl 0 rfl) ?_
        refine lv_bipush (v := zI 32) C0.1 C0.2.1 dX7_readText_29 rfl ?_
        refine z_icmp_ne (tgt := 37) C0.1 C0.2.1 dX7_readText_31 (by decide) ⟨by omega, by omega⟩ ⟨by omega, by omega⟩ (fun c_31 => ?_) (fun c_31 => ?_)
        · skip
          refine lv_aload_n C0.1 C0.2.1 dX7_readText_37 rfl (lv_at hl 1 rfl) ?_
          refine lv_iload C0.1 C0.2.1 dX7_readText_38 (lv_at hl 0 rfl) ?_
          refine mm_callVi (As := [.int (zI ((B i)))]) C0 vw_X7_isFigure tw_364 (c_X7_isFigure l G _ hP hT (x := B i) ⟨by omega, by omega⟩) hM (hP.1) rfl rfl hl.1 rfl (Nat.le_of_ble_eq_true rfl) ⟨rfl, rfl, Nat.le_of_ble_eq_true rfl, Nat.le_of_ble_eq_true rfl, Nat.zero_le _, Nat.zero_le _⟩ dX7_readText_40 hS (fun z_40 E5 H locs hp hM hS => ?_)
          obtain ⟨hz_40, hEq⟩ := hp
          rw [hEq] at hM
          refine z_asI (b := (if fig (B i) then 1 else 0)) (hz_40) ?_
          refine z_if_eq (tgt := 52) C0.1 C0.2.1 dX7_readText_43 (by decide) (by split <;> exact ⟨by omega, by omega⟩) (fun c_43 => ?_) (fun c_43 => ?_)
          · skip
            have hfg : ¬ fig (B i) := fun q => by rw [if_pos q] at c_43; omega
            refine lv_aload_n C0.1 C0.2.1 dX7_readText_52 rfl (lv_at hl 1 rfl) ?_
            refine lv_iload C0.1 C0.2.1 dX7_readText_53 (lv_at hl 5 rfl) ?_
            refine mm_callVi (As := [.int (zI ((i : Int)))]) C0 vw_X7_fault tw_368 (c_X7_fault l G _ hP hT i) hM (hP.1) rfl rfl hl.1 rfl (Nat.le_of_ble_eq_true rfl) ⟨rfl, rfl, Nat.le_of_ble_eq_true rfl, Nat.le_of_ble_eq_true rfl, Nat.zero_le _, Nat.zero_le _⟩ dX7_readText_55 hS (fun z_55 E6 H locs hp hM hS => ?_)
            obtain ⟨hz_55, hEq⟩ := hp
            rw [hEq] at hM
            refine z_asI (b := (-20 - (i : Int))) (hz_55) ?_
            exact mm_iret (z := (-20 - (i : Int))) C0 hr hlk hM hS dX7_readText_58 (⟨by rw [hrd, rdT_x (r := L - i - 1) (by omega) c_31 (Or.inl hfg)], by rw [hrd, rdT_x (r := L - i - 1) (by omega) c_31 (Or.inl hfg)]; exact hO, hW, hfr⟩)
          · skip
            have hfg : fig (B i) := Classical.byContradiction fun q => c_43 (if_neg q)
            refine lv_iload_n C0.1 C0.2.1 dX7_readText_46 rfl (lv_at hl 4 rfl) ?_
            refine lv_bipush (v := zI 80) C0.1 C0.2.1 dX7_readText_47 rfl ?_
            refine z_icmp_ne (tgt := 59) C0.1 C0.2.1 dX7_readText_49 (by decide) ⟨by omega, by omega⟩ ⟨by omega, by omega⟩ (fun c_49 => ?_) (fun c_49 => ?_)
            · skip
              refine lv_aload_n C0.1 C0.2.1 dX7_readText_59 rfl (lv_at hl 2 rfl) ?_
              refine mm_ldc2 (z := 10) C0 tw_372 rfl dX7_readText_60 ?_
              refine lv_lconst (v := zL 0) C0.1 C0.2.1 dX7_readText_63 rfl ?_
              refine mm_callVv (As := [.long (zL (10)), .long (zL (0))]) C0 vw_X8_scale tw_373 (c_X8_scale l G _ 10 0 rfl rfl hO (by omega) (by omega) (by omega)) hM ((hO.v.obj).choose_spec) rfl rfl hl.1 rfl (Nat.le_of_ble_eq_true rfl) ⟨rfl, rfl, Nat.le_of_ble_eq_true rfl, Nat.le_of_ble_eq_true rfl, Nat.zero_le _, Nat.zero_le _⟩ dX7_readText_64 hS (fun E7 H locs hp hM hS => ?_)
              obtain ⟨hO, fr⟩ := hp
              have hP := tp.kept hP (fr _ (by omega)) (fr _ (by omega))
              have hW := isV.kept hW (fr _ (by omega)) (fr _ (by omega))
              have hfr := (fun q h => (fr q (by omega)).trans (hfr q h) : ∀ q : Nat, (q < o ∨ o + 2 ≤ q) ∧ (q < w ∨ w + 2 ≤ q) → E7 q = E0 q)
              have hn8 : nl (N * 10 + 0) ≤ 10 := Nat.le_trans (nl_mul1 (N := N) (a := 10) (by omega)) (by omega)
              refine lv_aload_n C0.1 C0.2.1 dX7_readText_67 rfl (lv_at hl 3 rfl) ?_
              refine lv_iload C0.1 C0.2.1 dX7_readText_68 (lv_at hl 0 rfl) ?_
              refine lv_bipush (v := zI 48) C0.1 C0.2.1 dX7_readText_70 rfl ?_
              refine z_isub C0.1 C0.2.1 dX7_readText_72 ?_
              refine z_i2l C0.1 C0.2.1 dX7_readText_73 ⟨by omega, by omega⟩ ?_
              refine mm_callVv (As := [.long (zL ((((B i)) - (48))))]) C0 vw_X8_setLong tw_359 (c_X8_setLongV l G _ (N := (B i - 48).toNat) hW (by omega) (by omega)) hM ((hW.obj).choose_spec) rfl rfl hl.1 rfl (Nat.le_of_ble_eq_true rfl) ⟨rfl, rfl, Nat.le_of_ble_eq_true rfl, Nat.le_of_ble_eq_true rfl, Nat.zero_le _, Nat.zero_le _⟩ dX7_readText_74 hS (fun E8 H locs hp hM hS => ?_)
              obtain ⟨hW, fr⟩ := hp
              have hP := tp.kept hP (fr _ (by omega)) (fr _ (by omega))
              have hO := isW.kept hO (fr _ (by omega)) (fr _ (by omega))
              have hfr := (fun q h => (fr q (by omega)).trans (hfr q h) : ∀ q : Nat, (q < o ∨ o + 2 ≤ q) ∧ (q < w ∨ w + 2 ≤ q) → E8 q = E0 q)
              refine lv_aload_n C0.1 C0.2.1 dX7_readText_77 rfl (lv_at hl 2 rfl) ?_
              refine lv_aload_n C0.1 C0.2.1 dX7_readText_78 rfl (lv_at hl 3 rfl) ?_
              have hW9 : nl (B i - 48).toNat ≤ 1 := (nl_le _ _).mpr (by omega)
              refine mm_callVv (As := [.ref (w)]) C0 vw_X8_add tw_377 (c_X8_add l G _ hO hW (by omega) (by omega) (Nat.lt_of_le_of_lt hW9 (by omega))) hM ((hO.v.obj).choose_spec) rfl rfl hl.1 rfl (Nat.le_of_ble_eq_true rfl) ⟨rfl, rfl, Nat.le_of_ble_eq_true rfl, Nat.le_of_ble_eq_true rfl, Nat.zero_le _, Nat.zero_le _⟩ dX7_readText_79 hS (fun E9 H locs hp hM hS => ?_)
              obtain ⟨hO, fr⟩ := hp
              have hP := tp.kept hP (fr _ (by omega)) (fr _ (by omega))
              have hW := isW.kept hW (fr _ (by omega)) (fr _ (by omega))
              have hfr := (fun q h => (fr q (by omega)).trans (hfr q h) : ∀ q : Nat, (q < o ∨ o + 2 ≤ q) ∧ (q < w ∨ w + 2 ≤ q) → E9 q = E0 q)
              replace hW := hW.v
              refine lv_iinc (v := zI (((cnt + 1 : Nat) : Int))) (lv' := [(3, .int (zI (((cnt + 1 : Nat) : Int)))), (5, .int (zI ((B i)))), (0, .ref (t)), (1, .ref (o)), (2, .ref (w)), (4, .int (zI ((i : Int))))]) C0.1 C0.2.1 dX7_readText_82 hl (k := 4) rfl (z_inc (a := (cnt : Int)) (n := 1) (by omega)) (by decide) rfl (fun ls hl => ?_)
              refine lv_iinc (v := zI (((i + 1 : Nat) : Int))) (lv' := [(4, .int (zI (((i + 1 : Nat) : Int)))), (3, .int (zI (((cnt + 1 : Nat) : Int)))), (5, .int (zI ((B i)))), (0, .ref (t)), (1, .ref (o)), (2, .ref (w))]) C0.1 C0.2.1 dX7_readText_85 hl (k := 5) rfl (z_inc (a := (i : Int)) (n := 1) (by omega)) (by decide) rfl (fun ls hl => ?_)
              refine lv_goto (tgt := 10) C0.1 C0.2.1 dX7_readText_88 (by decide) ?_
              exact ih10  (i + 1) (cnt + 1) (N * 10 + (B i - 48).toNat) E9 _ _ _ (by omega) (by omega) (rdN hN hfg) (hrd.trans (rdT_f (by omega) c_31 hfg (by omega))) (hP) (hO) (hW) (hfr) (by omega) hM hS (lv_sub hl [3, 4, 5, 1, 0] rfl)
            · skip
              refine lv_aload_n C0.1 C0.2.1 dX7_readText_52 rfl (lv_at hl 1 rfl) ?_
              refine lv_iload C0.1 C0.2.1 dX7_readText_53 (lv_at hl 5 rfl) ?_
              refine mm_callVi (As := [.int (zI ((i : Int)))]) C0 vw_X7_fault tw_368 (c_X7_fault l G _ hP hT i) hM (hP.1) rfl rfl hl.1 rfl (Nat.le_of_ble_eq_true rfl) ⟨rfl, rfl, Nat.le_of_ble_eq_true rfl, Nat.le_of_ble_eq_true rfl, Nat.zero_le _, Nat.zero_le _⟩ dX7_readText_55 hS (fun z_55 E10 H locs hp hM hS => ?_)
              obtain ⟨hz_55, hEq⟩ := hp
              rw [hEq] at hM
              refine z_asI (b := (-20 - (i : Int))) (hz_55) ?_
              exact mm_iret (z := (-20 - (i : Int))) C0 hr hlk hM hS dX7_readText_58 (⟨by rw [hrd, rdT_x (r := L - i - 1) (by omega) c_31 (Or.inr (by omega))], by rw [hrd, rdT_x (r := L - i - 1) (by omega) c_31 (Or.inr (by omega))]; exact hO, hW, hfr⟩)
        · skip
          refine lv_goto (tgt := 85) C0.1 C0.2.1 dX7_readText_34 (by decide) ?_
          refine lv_iinc (v := zI (((i + 1 : Nat) : Int))) (lv' := [(4, .int (zI (((i + 1 : Nat) : Int)))), (5, .int (zI ((B i)))), (0, .ref (t)), (1, .ref (o)), (2, .ref (w)), (3, .int (zI ((cnt : Int))))]) C0.1 C0.2.1 dX7_readText_85 hl (k := 5) rfl (z_inc (a := (i : Int)) (n := 1) (by omega)) (by decide) rfl (fun ls hl => ?_)
          refine lv_goto (tgt := 10) C0.1 C0.2.1 dX7_readText_88 (by decide) ?_
          exact ih10  (i + 1) cnt N E2 _ _ _ (by omega) (hcn) (hN) (hrd.trans (rdT_b (by omega) c_31)) (hP) (hO) (hW) (hfr) (by omega) hM hS (lv_sub hl [2, 3, 4, 5, 0] rfl)
  exact L10 (_ + 1) 0 0 0 E1 _ _ _ (Nat.zero_le _) (Nat.zero_le _) ((by decide : 0 < 10 ^ 0)) (rfl) (hP) (hO) (hW) (hfr) (Nat.lt_succ_self _) hM hS (lv_sub hl [2, 3, 4, 1, 0] rfl)
