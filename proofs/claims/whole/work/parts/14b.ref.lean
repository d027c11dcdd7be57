def rX10_in : Room := { frames := 0, cells := 0, slots := 0, locals := 0 }
theorem sw_X10_in : mm_Sw yX10_in cX10_in 6 (some .boolean) 3 := ⟨tw_986, tw_10, tw_987, by decide +kernel⟩
set_option maxHeartbeats 4000000 in
set_option maxRecDepth 100000 in
theorem c_X10_in (l : Launch) (G : mG) (E0 : mE) {v lo hi : Int} (hv : rL v) (hlo : rL lo) (hhi : rL hi) : mm_Ci l yX10_in (.code yX10_in cX10_in 6 (some .boolean) :: wsG) rX10_in G [.long (zL (v)), .long (zL (lo)), .long (zL (hi))] E0 (fun z E => z = (if lo ≤ v ∧ v ≤ hi then 1 else 0) ∧ E = E0) := by
  refine mm_of_i (by decide +kernel) (Nat.le_of_ble_eq_true rfl) ?_
  intro p e s m args below meth c ls C0 hr hlk hM hl hS
  have hl : lv_has ls 6 [(0, .long (zL (v))), (2, .long (zL (lo))), (4, .long (zL (hi)))] := hl
  obtain ⟨hv1, hv2⟩ := hv
  obtain ⟨hlo1, hlo2⟩ := hlo
  obtain ⟨hhi1, hhi2⟩ := hhi
  refine lv_lload_n C0.1 C0.2.1 dX10_in_0 rfl (lv_at hl 0 rfl) ?_
  refine lv_lload_n C0.1 C0.2.1 dX10_in_1 rfl (lv_at hl 1 rfl) ?_
  refine z_lcmp_lt (tgt := 17) C0.1 C0.2.1 dX10_in_2 dX10_in_3 (by decide) ⟨by omega, by omega⟩ ⟨by omega, by omega⟩ (fun c_2 => ?_) (fun c_2 => ?_)
  · skip
    refine lv_iconst (v := zI 0) C0.1 C0.2.1 dX10_in_17 rfl ?_
    exact mm_zret (z := 0) C0 hr hlk hM hS (by omega) dX10_in_18 (⟨by rw [if_neg (by omega)], rfl⟩)
  · skip
    refine lv_lload_n C0.1 C0.2.1 dX10_in_6 rfl (lv_at hl 0 rfl) ?_
    refine lv_lload C0.1 C0.2.1 dX10_in_7 (lv_at hl 2 rfl) ?_
    refine z_lcmp_gt (tgt := 17) C0.1 C0.2.1 dX10_in_9 dX10_in_10 (by decide) ⟨by omega, by omega⟩ ⟨by omega, by omega⟩ (fun c_9 => ?_) (fun c_9 => ?_)
    · skip
      refine lv_iconst (v := zI 0) C0.1 C0.2.1 dX10_in_17 rfl ?_
      exact mm_zret (z := 0) C0 hr hlk hM hS (by omega) dX10_in_18 (⟨by rw [if_neg (by omega)], rfl⟩)
    · skip
      refine lv_iconst (v := zI 1) C0.1 C0.2.1 dX10_in_13 rfl ?_
      refine lv_goto (tgt := 18) C0.1 C0.2.1 dX10_in_14 (by decide) ?_
      exact mm_zret (z := 1) C0 hr hlk hM hS (by omega) dX10_in_18 (⟨by rw [if_pos ⟨by omega, by omega⟩], rfl⟩)

def rX10_isPlace : Room := { frames := 1, cells := 0, slots := 0, locals := 25 }
theorem sw_X10_isPlace : mm_Sw yX10_isPlace cX10_isPlace 1 (some .boolean) 1 := ⟨tw_982, tw_10, tw_983, by decide +kernel⟩
set_option maxHeartbeats 4000000 in
set_option maxRecDepth 100000 in
theorem c_X10_isPlace (l : Launch) (G : mG) (E0 : mE) {i : Int} (hi : rI i) : mm_Ci l yX10_isPlace (.code yX10_isPlace cX10_isPlace 1 (some .boolean) :: wsG) rX10_isPlace G [.int (zI (i))] E0 (fun z E => z = (if 0 ≤ i ∧ i < 8 then 1 else 0) ∧ E = E0) := by
  refine mm_of_i (by decide +kernel) (Nat.le_of_ble_eq_true rfl) ?_
  intro p e s m args below meth c ls C0 hr hlk hM hl hS
  have hl : lv_has ls 1 [(0, .int (zI (i)))] := hl
  obtain ⟨hi1, hi2⟩ := hi
  refine lv_iload_n C0.1 C0.2.1 dX10_isPlace_0 rfl (lv_at hl 0 rfl) ?_
  refine z_i2l C0.1 C0.2.1 dX10_isPlace_1 ⟨by omega, by omega⟩ ?_
  refine lv_lconst (v := zL 0) C0.1 C0.2.1 dX10_isPlace_2 rfl ?_
  refine mm_ldc2 (z := 7) C0 tw_984 rfl dX10_isPlace_3 ?_
  refine mm_callSi (As := [.long (zL (i)), .long (zL (0)), .long (zL (7))]) C0 sw_X10_in tw_985 (c_X10_in l G _ (v := i) (lo := 0) (hi := 7) ⟨by omega, by omega⟩ ⟨by omega, by omega⟩ ⟨by omega, by omega⟩) hM rfl hl.1 rfl (Nat.le_of_ble_eq_true rfl) ⟨rfl, rfl, Nat.le_of_ble_eq_true rfl, Nat.le_of_ble_eq_true rfl, Nat.zero_le _, Nat.zero_le _⟩ dX10_isPlace_6 hS (fun z_6 E1 H locs hp hM hS => ?_)
  obtain ⟨hz_6, hEq⟩ := hp
  rw [hEq] at hM
  exact mm_zret (z := z_6) C0 hr hlk hM hS (by rw [hz_6]; split <;> omega) dX10_isPlace_9 (⟨by rw [hz_6]; by_cases q : 0 ≤ i ∧ i < 8; rw [if_pos q, if_pos (by omega)]; rw [if_neg q, if_neg (by omega)], rfl⟩)

def rX10_copy : Room := { frames := 0, cells := 0, slots := 0, locals := 0 }
theorem vw_X10_copy : mm_Vw RX10 yX10_copy cX10_copy 4 none 2 := ⟨tw_1049, tp_24, tw_10, tw_1050, by decide +kernel⟩
set_option maxHeartbeats 4000000 in
set_option maxRecDepth 100000 in
theorem c_X10_copy (l : Launch) (G : mG) (E0 : mE) {h : Nat} {x1 x2 x3 x4 x5 x6 x7 x8 : Int} (hO : ro G E0 h x1 x2 x3 x4 x5 x6 x7 x8) {R : Nat → Nat} (hR : rg G E0 h R) {i : Int} {t : Nat} (hi : i = (t : Int)) (ht : t < 16) {j : Int} {a A : Nat} (hj : j = (a : Int)) (ha : a < 16) (hA : R a = A) : mm_Cv l yX10_copy (.code yX10_copy cX10_copy 4 none :: wsG) rX10_copy G [.ref (h), .int (zI (i)), .int (zI (j))] E0 (fun E => (∃ R1, rg G E h R1 ∧ R1 t = A ∧ ∀ r, r ≠ t → R1 r = R r) ∧ ∀ q : Nat, (q ≠ h + 1) → E q = E0 q) := by
  refine mm_of_v (by decide +kernel) (Nat.le_of_ble_eq_true rfl) ?_
  intro p e s m args below meth c ls C0 hr hlk hM hl hS
  have hl : lv_has ls 4 [(0, .ref (h)), (1, .int (zI (i))), (2, .int (zI (j)))] := hl
  have hfr : ∀ q : Nat, (q ≠ h + 1) → E0 q = E0 q := fun _ _ => rfl
  have hnA : nl A ≤ 80 := hA ▸ hR.1 a ha
  have hU := hR.F t
  refine lv_iconst (v := zI 0) C0.1 C0.2.1 dX10_copy_0 rfl ?_
  refine lv_istore_n (lv' := [(3, .int (zI (0))), (0, .ref (h)), (1, .int (zI (i))), (2, .int (zI (j)))]) C0.1 C0.2.1 dX10_copy_1 rfl hl (by decide) rfl (fun ls hl => ?_)
  have L2 : ∀ (k2 : Nat) (k : Nat) (f : Nat → Nat) (E1 : mE) (H : Heap) (locs : List Loc) (ls : Array Slot), (k ≤ 80) → (∀ x, x < k → f x = dg A x) → (∀ x, k ≤ x → f x = dg (R t) x) → (ro G E1 h x1 x2 x3 x4 x5 x6 x7 x8) → (rgF G E1 h R t f) → (∀ q : Nat, (q ≠ h + 1) → E1 q = E0 q) → 80 - k < k2 → mm_M G E1 H → va_S (mm_A G) s.heap H locs → lv_has ls 4 [(0, .ref (h)), (1, .int (zI (i))), (2, .int (zI (j))), (3, .int (zI ((k : Int))))] → W p l e rX10_copy s m args below meth c H locs 0 0 (mm_Zv G below args s (fun E => (∃ R1, rg G E h R1 ∧ R1 t = A ∧ ∀ r, r ≠ t → R1 r = R r) ∧ ∀ q : Nat, (q ≠ h + 1) → E q = E0 q)) (F0 m 2 ls []) := by
    intro k2
    induction k2 with
    | zero => intro k f E1 H locs ls hk9 hf hf2 hO hU hfr hk hM hS hl; exact absurd hk (Nat.not_lt_zero _)
    | succ k2 ih2 =>
      intro k f E1 H locs ls hk9 hf hf2 hO hU hfr hk2 hM hS hl
      obtain ⟨hB9, g, hg, hP9⟩ := id hU
      refine lv_iload_n C0.1 C0.2.1 dX10_copy_2 rfl (lv_at hl 3 rfl) ?_
      refine lv_bipush (v := zI 80) C0.1 C0.2.1 dX10_copy_3 rfl ?_
      refine z_icmp_ge (tgt := 36) C0.1 C0.2.1 dX10_copy_5 (by decide) ⟨by omega, by omega⟩ ⟨by omega, by omega⟩ (fun c_5 => ?_) (fun c_5 => ?_)
      · skip
        exact mm_vret C0 hr hlk hM hS dX10_copy_36 (⟨rgF.done hU (hnA) (fun x hx => hf x (by omega)), hfr⟩)
      · skip
        refine lv_aload_n C0.1 C0.2.1 dX10_copy_8 rfl (lv_at hl 0 rfl) ?_
        refine mm_get (fs := [.ref (h + 1), .ref (h + 2), .ref (h + 3), .ref (h + 4), .int (zI (x1)), .int (zI (x2)), .long (zL (x3)), .ref (h + 5), .ref (h + 6), .ref (h + 7), .ref (h + 8), .int (zI (x4)), .int (zI (x5)), .int (zI (x6)), .int (zI (x7)), .int (zI (x8)), .ref (h + 9), .ref (h + 10), .ref (h + 11), .ref (h + 12)]) C0 (C := RX10) (T := TX10) (N := 20) iG_X10 hM (hO) rfl 0 (by decide) tw_916 rfl rfl dX10_copy_9 ?_
        refine lv_bipush (v := zI 80) C0.1 C0.2.1 dX10_copy_12 rfl ?_
        refine lv_iload_n C0.1 C0.2.1 dX10_copy_14 rfl (lv_at hl 1 rfl) ?_
        refine z_imul C0.1 C0.2.1 dX10_copy_15 ?_
        refine lv_iload_n C0.1 C0.2.1 dX10_copy_16 rfl (lv_at hl 3 rfl) ?_
        refine z_iadd C0.1 C0.2.1 dX10_copy_17 ?_
        refine lv_aload_n C0.1 C0.2.1 dX10_copy_18 rfl (lv_at hl 0 rfl) ?_
        refine mm_get (fs := [.ref (h + 1), .ref (h + 2), .ref (h + 3), .ref (h + 4), .int (zI (x1)), .int (zI (x2)), .long (zL (x3)), .ref (h + 5), .ref (h + 6), .ref (h + 7), .ref (h + 8), .int (zI (x4)), .int (zI (x5)), .int (zI (x6)), .int (zI (x7)), .int (zI (x8)), .ref (h + 9), .ref (h + 10), .ref (h + 11), .ref (h + 12)]) C0 (C := RX10) (T := TX10) (N := 20) iG_X10 hM (hO) rfl 0 (by decide) tw_916 rfl rfl dX10_copy_19 ?_
        refine lv_bipush (v := zI 80) C0.1 C0.2.1 dX10_copy_22 rfl ?_
        refine lv_iload_n C0.1 C0.2.1 dX10_copy_24 rfl (lv_at hl 2 rfl) ?_
        refine z_imul C0.1 C0.2.1 dX10_copy_25 ?_
        refine lv_iload_n C0.1 C0.2.1 dX10_copy_26 rfl (lv_at hl 3 rfl) ?_
        refine z_iadd C0.1 C0.2.1 dX10_copy_27 ?_
        refine mm_iald C0 hM (g := g) (hg) (80 * a + k) (i := ((((80) * (j))) + ((k : Int)))) (by omega) (by omega) (by decide) dX10_copy_28 ?_
        refine z_asI (b := (dg A k : Int)) (hP9.rd (by omega) (by omega) hA (hf2 k (Nat.le_refl _))) ?_
        refine mm_iast C0 hM hS (g := g) (hg) (80 * t + k) (i := ((((80) * (i))) + ((k : Int)))) (x := (dg A k : Int)) (by omega) (by omega) (by decide) dX10_copy_29 (fun H locs hM hS hsz => ?_)
        obtain ⟨E2, hE2⟩ : ∃ X : mE, X = mm_up E1 (h + 1) (mm_I G 1280 (zup (g) (80 * t + k) ((dg A k : Int)))) := ⟨_, rfl⟩
        replace hM : mm_M G E2 H := by rw [hE2]; exact hM
        have frs : ∀ q : Nat, q ≠ h + 1 → E2 q = E1 q := fun q h => by rw [hE2]; exact mm_up_n _ _ h
        have hat : E2 (h + 1) = some (mm_I G 1280 (zup (g) (80 * t + k) ((dg A k : Int)))) := by rw [hE2]; exact mm_up_s _ _ _
        have hU : rgF G E2 h R t (nup f k (dg A k)) := ⟨hB9, _, hat, hP9.st (by omega)⟩
        have hO := ro.kept hO (frs _ (by omega))
        have hfr := (fun q h => (frs q (by omega)).trans (hfr q h) : ∀ q : Nat, (q ≠ h + 1) → E2 q = E0 q)
        refine lv_iinc (v := zI (((k + 1 : Nat) : Int))) (lv' := [(3, .int (zI (((k + 1 : Nat) : Int)))), (0, .ref (h)), (1, .int (zI (i))), (2, .int (zI (j)))]) C0.1 C0.2.1 dX10_copy_30 hl (k := 3) rfl (z_inc (a := (k : Int)) (n := 1) (by omega)) (by decide) rfl (fun ls hl => ?_)
        refine lv_goto (tgt := 2) C0.1 C0.2.1 dX10_copy_33 (by decide) ?_
        exact ih2  (k + 1) (nup f k (dg A k)) E2 _ _ _ (by omega) (fun x hx => if q : x = k then (by subst q; exact nup_s _ _ _) else (by rw [nup_n _ _ q]; exact hf x (by omega))) (fun x hx => by rw [nup_n _ _ (by omega)]; exact hf2 x (by omega)) (hO) (hU) (hfr) (by omega) hM hS (lv_sub hl [1, 2, 3, 0] rfl)
  exact L2 (_ + 1) 0 (dg (R t)) E0 _ _ _ (Nat.zero_le _) (fun x hx => absurd hx (Nat.not_lt_zero _)) (fun x _ => rfl) (hO) (hU) (hfr) (Nat.lt_succ_self _) hM hS (lv_sub hl [1, 2, 3, 0] rfl)

def rX10_set : Room := { frames := 0, cells := 0, slots := 0, locals := 0 }
theorem vw_X10_set : mm_Vw RX10 yX10_set cX10_set 7 none 2 := ⟨tw_990, tp_17, tw_10, tw_991, by decide +kernel⟩
set_option maxHeartbeats 4000000 in
set_option maxRecDepth 100000 in
theorem c_X10_set (l : Launch) (G : mG) (E0 : mE) {h : Nat} {x1 x2 x3 x4 x5 x6 x7 x8 : Int} (hO : ro G E0 h x1 x2 x3 x4 x5 x6 x7 x8) {R : Nat → Nat} (hR : rg G E0 h R) {i : Int} {t : Nat} (hi : i = (t : Int)) (ht : t < 16) {v : Int} (N : Nat) (hv : v = (N : Int)) (hN : N < 9223372036854775808) : mm_Cv l yX10_set (.code yX10_set cX10_set 7 none :: wsG) rX10_set G [.ref (h), .int (zI (i)), .long (zL (v))] E0 (fun E => (∃ R1, rg G E h R1 ∧ R1 t = N ∧ ∀ r, r ≠ t → R1 r = R r) ∧ ∀ q : Nat, (q ≠ h + 1) → E q = E0 q) := by
  refine mm_of_v (by decide +kernel) (Nat.le_of_ble_eq_true rfl) ?_
  intro p e s m args below meth c ls C0 hr hlk hM hl hS
  have hl : lv_has ls 7 [(0, .ref (h)), (1, .int (zI (i))), (2, .long (zL (v)))] := hl
  have hfr : ∀ q : Nat, (q ≠ h + 1) → E0 q = E0 q := fun _ _ => rfl
  have hnA : nl N ≤ 80 := Nat.le_trans (nlL hN) (by omega)
  have hU := hR.F t
  refine lv_lload_n C0.1 C0.2.1 dX10_set_0 rfl (lv_at hl 2 rfl) ?_
  refine z_asL (a := v) (b := (qt N 0 : Int)) (by rw [qt_0]; exact hv) ?_
  refine lv_lstore (lv' := [(4, .long (zL ((qt N 0 : Int)))), (0, .ref (h)), (1, .int (zI (i))), (2, .long (zL (v)))]) C0.1 C0.2.1 dX10_set_1 hl (by decide) rfl (fun ls hl => ?_)
  refine lv_iconst (v := zI 0) C0.1 C0.2.1 dX10_set_3 rfl ?_
  refine lv_istore (lv' := [(6, .int (zI (0))), (4, .long (zL ((qt N 0 : Int)))), (0, .ref (h)), (1, .int (zI (i))), (2, .long (zL (v)))]) C0.1 C0.2.1 dX10_set_4 hl (by decide) rfl (fun ls hl => ?_)
  have L6 : ∀ (k6 : Nat) (k : Nat) (f : Nat → Nat) (E1 : mE) (H : Heap) (locs : List Loc) (ls : Array Slot), (k ≤ 80) → (∀ x, x < k → f x = dg N x) → (qt N k ≤ N) → (ro G E1 h x1 x2 x3 x4 x5 x6 x7 x8) → (rgF G E1 h R t f) → (∀ q : Nat, (q ≠ h + 1) → E1 q = E0 q) → 80 - k < k6 → mm_M G E1 H → va_S (mm_A G) s.heap H locs → lv_has ls 7 [(0, .ref (h)), (1, .int (zI (i))), (4, .long (zL ((qt N k : Int)))), (6, .int (zI ((k : Int))))] → W p l e rX10_set s m args below meth c H locs 0 0 (mm_Zv G below args s (fun E => (∃ R1, rg G E h R1 ∧ R1 t = N ∧ ∀ r, r ≠ t → R1 r = R r) ∧ ∀ q : Nat, (q ≠ h + 1) → E q = E0 q)) (F0 m 6 ls []) := by
    intro k6
    induction k6 with
    | zero => intro k f E1 H locs ls hk9 hf hq hO hU hfr hk hM hS hl; exact absurd hk (Nat.not_lt_zero _)
    | succ k6 ih6 =>
      intro k f E1 H locs ls hk9 hf hq hO hU hfr hk6 hM hS hl
      obtain ⟨hB9, g, hg, hP9⟩ := id hU
      have hqs := qt_s N k
      have hqd := dg_qt N k
      refine lv_iload C0.1 C0.2.1 dX10_set_6 (lv_at hl 3 rfl) ?_
      refine lv_bipush (v := zI 80) C0.1 C0.2.1 dX10_set_8 rfl ?_
      refine z_icmp_ge (tgt := 46) C0.1 C0.2.1 dX10_set_10 (by decide) ⟨by omega, by omega⟩ ⟨by omega, by omega⟩ (fun c_10 => ?_) (fun c_10 => ?_)
      · skip
        exact mm_vret C0 hr hlk hM hS dX10_set_46 (⟨rgF.done hU (hnA) (fun x hx => hf x (by omega)), hfr⟩)
      · skip
        refine lv_aload_n C0.1 C0.2.1 dX10_set_13 rfl (lv_at hl 0 rfl) ?_
        refine mm_get (fs := [.ref (h + 1), .ref (h + 2), .ref (h + 3), .ref (h + 4), .int (zI (x1)), .int (zI (x2)), .long (zL (x3)), .ref (h + 5), .ref (h + 6), .ref (h + 7), .ref (h + 8), .int (zI (x4)), .int (zI (x5)), .int (zI (x6)), .int (zI (x7)), .int (zI (x8)), .ref (h + 9), .ref (h + 10), .ref (h + 11), .ref (h + 12)]) C0 (C := RX10) (T := TX10) (N := 20) iG_X10 hM (hO) rfl 0 (by decide) tw_916 rfl rfl dX10_set_14 ?_
        refine lv_bipush (v := zI 80) C0.1 C0.2.1 dX10_set_17 rfl ?_
        refine lv_iload_n C0.1 C0.2.1 dX10_set_19 rfl (lv_at hl 1 rfl) ?_
        refine z_imul C0.1 C0.2.1 dX10_set_20 ?_
        refine lv_iload C0.1 C0.2.1 dX10_set_21 (lv_at hl 3 rfl) ?_
        refine z_iadd C0.1 C0.2.1 dX10_set_23 ?_
        refine lv_lload C0.1 C0.2.1 dX10_set_24 (lv_at hl 2 rfl) ?_
        refine mm_ldc2 (z := 1000000000) C0 tw_992 rfl dX10_set_26 ?_
        refine z_lremp C0.1 C0.2.1 dX10_set_29 ⟨by omega, by omega⟩ ⟨by omega, by omega⟩ (by omega) (by omega) ?_
        refine z_l2i C0.1 C0.2.1 dX10_set_30 ?_
        refine z_asI (a := (((qt N k : Int)) % (1000000000))) (b := (dg N k : Int)) (by omega) ?_
        refine mm_iast C0 hM hS (g := g) (hg) (80 * t + k) (i := ((((80) * (i))) + ((k : Int)))) (x := (dg N k : Int)) (by omega) (by omega) (by decide) dX10_set_31 (fun H locs hM hS hsz => ?_)
        obtain ⟨E2, hE2⟩ : ∃ X : mE, X = mm_up E1 (h + 1) (mm_I G 1280 (zup (g) (80 * t + k) ((dg N k : Int)))) := ⟨_, rfl⟩
        replace hM : mm_M G E2 H := by rw [hE2]; exact hM
        have frs : ∀ q : Nat, q ≠ h + 1 → E2 q = E1 q := fun q h => by rw [hE2]; exact mm_up_n _ _ h
        have hat : E2 (h + 1) = some (mm_I G 1280 (zup (g) (80 * t + k) ((dg N k : Int)))) := by rw [hE2]; exact mm_up_s _ _ _
        have hU : rgF G E2 h R t (nup f k (dg N k)) := ⟨hB9, _, hat, hP9.st (by omega)⟩
        have hO := ro.kept hO (frs _ (by omega))
        have hfr := (fun q h => (frs q (by omega)).trans (hfr q h) : ∀ q : Nat, (q ≠ h + 1) → E2 q = E0 q)
        refine lv_lload C0.1 C0.2.1 dX10_set_32 (lv_at hl 2 rfl) ?_
        refine mm_ldc2 (z := 1000000000) C0 tw_992 rfl dX10_set_34 ?_
        refine z_ldivp C0.1 C0.2.1 dX10_set_37 ⟨by omega, by omega⟩ ⟨by omega, by omega⟩ (by omega) (by omega) ?_
        refine z_asL (a := (((qt N k : Int)) / (1000000000))) (b := (qt N (k + 1) : Int)) (by omega) ?_
        refine lv_lstore (lv' := [(4, .long (zL ((qt N (k + 1) : Int)))), (0, .ref (h)), (1, .int (zI (i))), (6, .int (zI ((k : Int))))]) C0.1 C0.2.1 dX10_set_38 hl (by decide) rfl (fun ls hl => ?_)
        refine lv_iinc (v := zI (((k + 1 : Nat) : Int))) (lv' := [(6, .int (zI (((k + 1 : Nat) : Int)))), (4, .long (zL ((qt N (k + 1) : Int)))), (0, .ref (h)), (1, .int (zI (i)))]) C0.1 C0.2.1 dX10_set_40 hl (k := 3) rfl (z_inc (a := (k : Int)) (n := 1) (by omega)) (by decide) rfl (fun ls hl => ?_)
        refine lv_goto (tgt := 6) C0.1 C0.2.1 dX10_set_43 (by decide) ?_
        exact ih6  (k + 1) (nup f k (dg N k)) E2 _ _ _ (by omega) (fun x hx => if q : x = k then (by subst q; exact nup_s _ _ _) else (by rw [nup_n _ _ q]; exact hf x (by omega))) (by omega) (hO) (hU) (hfr) (by omega) hM hS (lv_sub hl [2, 3, 1, 0] rfl)
  exact L6 (_ + 1) 0 (dg (R t)) E0 _ _ _ (Nat.zero_le _) (fun x hx => absurd hx (Nat.not_lt_zero _)) (Nat.le_of_eq (qt_0 N)) (hO) (hU) (hfr) (Nat.lt_succ_self _) hM hS (lv_sub hl [2, 3, 1, 0] rfl)

def rX10_sizeOf : Room := { frames := 0, cells := 0, slots := 0, locals := 0 }
theorem vw_X10_sizeOf : mm_Vw RX10 yX10_sizeOf cX10_sizeOf 3 (some .int) 1 := ⟨tw_999, tp_19, tw_10, tw_1000, by decide +kernel⟩
set_option maxHeartbeats 4000000 in
set_option maxRecDepth 100000 in
theorem c_X10_sizeOf (l : Launch) (G : mG) (E0 : mE) {h : Nat} {x1 x2 x3 x4 x5 x6 x7 x8 : Int} (hO : ro G E0 h x1 x2 x3 x4 x5 x6 x7 x8) {R : Nat → Nat} (hR : rg G E0 h R) {j : Int} {a A : Nat} (hj : j = (a : Int)) (ha : a < 16) (hA : R a = A) : mm_Ci l yX10_sizeOf (.code yX10_sizeOf cX10_sizeOf 3 (some .int) :: wsG) rX10_sizeOf G [.ref (h), .int (zI (j))] E0 (fun z E => z = (nl A : Int) ∧ E = E0) := by
  refine mm_of_i (by decide +kernel) (Nat.le_of_ble_eq_true rfl) ?_
  intro p e s m args below meth c ls C0 hr hlk hM hl hS
  have hl : lv_has ls 3 [(0, .ref (h)), (1, .int (zI (j)))] := hl
  obtain ⟨hB9, g, hg, hP9⟩ := hR.F a
  have hnA : nl A ≤ 80 := hA ▸ hB9 a ha
  refine lv_bipush (v := zI 80) C0.1 C0.2.1 dX10_sizeOf_0 rfl ?_
  refine lv_istore_n (lv' := [(2, .int (zI (80))), (0, .ref (h)), (1, .int (zI (j)))]) C0.1 C0.2.1 dX10_sizeOf_2 rfl hl (by decide) rfl (fun ls hl => ?_)
  have L3 : ∀ (k3 : Nat) (u : Nat) (H : Heap) (locs : List Loc) (ls : Array Slot), (u ≤ 80) → (∀ x, u ≤ x → dg A x = 0) → u < k3 → mm_M G E0 H → va_S (mm_A G) s.heap H locs → lv_has ls 3 [(0, .ref (h)), (1, .int (zI (j))), (2, .int (zI ((u : Int))))] → W p l e rX10_sizeOf s m args below meth c H locs 0 0 (mm_Zi G below args s (fun z E => z = (nl A : Int) ∧ E = E0)) (F0 m 3 ls []) := by
    intro k3
    induction k3 with
    | zero => intro u H locs ls hu hz hk hM hS hl; exact absurd hk (Nat.not_lt_zero _)
    | succ k3 ih3 =>
      intro u H locs ls hu hz hk3 hM hS hl
      have hd1 := dg_lt A (u - 1)
      refine lv_iload_n C0.1 C0.2.1 dX10_sizeOf_3 rfl (lv_at hl 2 rfl) ?_
      refine z_if_le (tgt := 29) C0.1 C0.2.1 dX10_sizeOf_4 (by decide) ⟨by omega, by omega⟩ (fun c_4 => ?_) (fun c_4 => ?_)
      · skip
        refine lv_iload_n C0.1 C0.2.1 dX10_sizeOf_29 rfl (lv_at hl 2 rfl) ?_
        exact mm_iret (z := (u : Int)) C0 hr hlk hM hS dX10_sizeOf_30 (⟨by rw [← nl_uniq (N := A) (n := u) (m := 80) ((nl_le _ _).mp hnA) hu (fun x h1 _ => hz x h1) (by omega)], rfl⟩)
      · skip
        refine lv_aload_n C0.1 C0.2.1 dX10_sizeOf_7 rfl (lv_at hl 0 rfl) ?_
        refine mm_get (fs := [.ref (h + 1), .ref (h + 2), .ref (h + 3), .ref (h + 4), .int (zI (x1)), .int (zI (x2)), .long (zL (x3)), .ref (h + 5), .ref (h + 6), .ref (h + 7), .ref (h + 8), .int (zI (x4)), .int (zI (x5)), .int (zI (x6)), .int (zI (x7)), .int (zI (x8)), .ref (h + 9), .ref (h + 10), .ref (h + 11), .ref (h + 12)]) C0 (C := RX10) (T := TX10) (N := 20) iG_X10 hM (hO) rfl 0 (by decide) tw_916 rfl rfl dX10_sizeOf_8 ?_
        refine lv_bipush (v := zI 80) C0.1 C0.2.1 dX10_sizeOf_11 rfl ?_
        refine lv_iload_n C0.1 C0.2.1 dX10_sizeOf_13 rfl (lv_at hl 1 rfl) ?_
        refine z_imul C0.1 C0.2.1 dX10_sizeOf_14 ?_
        refine lv_iload_n C0.1 C0.2.1 dX10_sizeOf_15 rfl (lv_at hl 2 rfl) ?_
        refine z_iadd C0.1 C0.2.1 dX10_sizeOf_16 ?_
        refine lv_iconst (v := zI 1) C0.1 C0.2.1 dX10_sizeOf_17 rfl ?_
        refine z_isub C0.1 C0.2.1 dX10_sizeOf_18 ?_
        refine mm_iald C0 hM (g := g) (hg) (80 * a + (u - 1)) (i := ((((((80) * (j))) + ((u : Int)))) - (1))) (by omega) (by omega) (by decide) dX10_sizeOf_19 ?_
        refine z_asI (b := (dg A (u - 1) : Int)) (hP9.rd (by omega) (by omega) hA rfl) ?_
        refine z_if_ne (tgt := 29) C0.1 C0.2.1 dX10_sizeOf_20 (by decide) ⟨by omega, by omega⟩ (fun c_20 => ?_) (fun c_20 => ?_)
        · skip
          refine lv_iload_n C0.1 C0.2.1 dX10_sizeOf_29 rfl (lv_at hl 2 rfl) ?_
          exact mm_iret (z := (u : Int)) C0 hr hlk hM hS dX10_sizeOf_30 (⟨by rw [← nl_uniq (N := A) (n := u) (m := 80) ((nl_le _ _).mp hnA) hu (fun x h1 _ => hz x h1) (by omega)], rfl⟩)
        · skip
          refine lv_iinc (v := zI (((u - 1 : Nat) : Int))) (lv' := [(2, .int (zI (((u - 1 : Nat) : Int)))), (0, .ref (h)), (1, .int (zI (j)))]) C0.1 C0.2.1 dX10_sizeOf_23 hl (k := 2) rfl (z_inc (a := (u : Int)) (n := (-1)) (by omega)) (by decide) rfl (fun ls hl => ?_)
          refine lv_goto (tgt := 3) C0.1 C0.2.1 dX10_sizeOf_26 (by decide) ?_
          exact ih3  (u - 1) _ _ _ (by omega) (fun x hx => if q : x = u - 1 then (by subst q; omega) else hz x (by omega))  (by omega) hM hS (lv_sub hl [1, 2, 0] rfl)
  exact L3 (_ + 1) 80 _ _ _ (by omega) (fun x hx => dg_hi (by omega))  (Nat.lt_succ_self _) hM hS (lv_sub hl [1, 2, 0] rfl)

def rX10_compare : Room := { frames := 0, cells := 0, slots := 0, locals := 0 }
theorem vw_X10_compare : mm_Vw RX10 yX10_compare cX10_compare 6 (some .int) 2 := ⟨tw_1107, tp_36, tw_10, tw_1108, by decide +kernel⟩
set_option maxHeartbeats 4000000 in
set_option maxRecDepth 100000 in
theorem c_X10_compare (l : Launch) (G : mG) (E0 : mE) {h : Nat} {x1 x2 x3 x4 x5 x6 x7 x8 : Int} (hO : ro G E0 h x1 x2 x3 x4 x5 x6 x7 x8) {R : Nat → Nat} (hR : rg G E0 h R) {j : Int} {a A : Nat} (hj : j = (a : Int)) (ha : a < 16) (hA : R a = A) {jj : Int} {b B : Nat} (hjj : jj = (b : Int)) (hb : b < 16) (hB : R b = B) : mm_Ci l yX10_compare (.code yX10_compare cX10_compare 6 (some .int) :: wsG) rX10_compare G [.ref (h), .int (zI (j)), .int (zI (jj))] E0 (fun z E => z = cmpZ A B ∧ E = E0) := by
  refine mm_of_i (by decide +kernel) (Nat.le_of_ble_eq_true rfl) ?_
  intro p e s m args below meth c ls C0 hr hlk hM hl hS
  have hl : lv_has ls 6 [(0, .ref (h)), (1, .int (zI (j))), (2, .int (zI (jj)))] := hl
  obtain ⟨hB9, g, hg, hP9⟩ := hR.F a
  have hnA : nl A ≤ 80 := hA ▸ hB9 a ha
  have hnB : nl B ≤ 80 := hB ▸ hB9 b hb
  refine lv_bipush (v := zI 79) C0.1 C0.2.1 dX10_compare_0 rfl ?_
  refine lv_istore_n (lv' := [(3, .int (zI (79))), (0, .ref (h)), (1, .int (zI (j))), (2, .int (zI (jj)))]) C0.1 C0.2.1 dX10_compare_2 rfl hl (by decide) rfl (fun ls hl => ?_)
  have L3 : ∀ (k3 : Nat) (u : Nat) (H : Heap) (locs : List Loc) (ls : Array Slot), (u ≤ 79) → (∀ x, u + 1 ≤ x → dg A x = dg B x) → u < k3 → mm_M G E0 H → va_S (mm_A G) s.heap H locs → lv_has ls 6 [(0, .ref (h)), (1, .int (zI (j))), (2, .int (zI (jj))), (3, .int (zI ((u : Int))))] → W p l e rX10_compare s m args below meth c H locs 0 0 (mm_Zi G below args s (fun z E => z = cmpZ A B ∧ E = E0)) (F0 m 3 ls []) := by
    intro k3
    induction k3 with
    | zero => intro u H locs ls hu hz hk hM hS hl; exact absurd hk (Nat.not_lt_zero _)
    | succ k3 ih3 =>
      intro u H locs ls hu hz hk3 hM hS hl
      have hd1 := dg_lt A u
      have hd2 := dg_lt B u
      refine lv_iload_n C0.1 C0.2.1 dX10_compare_3 rfl (lv_at hl 3 rfl) ?_
      refine z_if_le (tgt := 38) C0.1 C0.2.1 dX10_compare_4 (by decide) ⟨by omega, by omega⟩ (fun c_4 => ?_) (fun c_4 => ?_)
      · skip
        refine lv_aload_n C0.1 C0.2.1 dX10_compare_38 rfl (lv_at hl 0 rfl) ?_
        refine mm_get (fs := [.ref (h + 1), .ref (h + 2), .ref (h + 3), .ref (h + 4), .int (zI (x1)), .int (zI (x2)), .long (zL (x3)), .ref (h + 5), .ref (h + 6), .ref (h + 7), .ref (h + 8), .int (zI (x4)), .int (zI (x5)), .int (zI (x6)), .int (zI (x7)), .int (zI (x8)), .ref (h + 9), .ref (h + 10), .ref (h + 11), .ref (h + 12)]) C0 (C := RX10) (T := TX10) (N := 20) iG_X10 hM (hO) rfl 0 (by decide) tw_916 rfl rfl dX10_compare_39 ?_
        refine lv_bipush (v := zI 80) C0.1 C0.2.1 dX10_compare_42 rfl ?_
        refine lv_iload_n C0.1 C0.2.1 dX10_compare_44 rfl (lv_at hl 1 rfl) ?_
        refine z_imul C0.1 C0.2.1 dX10_compare_45 ?_
        refine lv_iload_n C0.1 C0.2.1 dX10_compare_46 rfl (lv_at hl 3 rfl) ?_
        refine z_iadd C0.1 C0.2.1 dX10_compare_47 ?_
        refine mm_iald C0 hM (g := g) (hg) (80 * a + u) (i := ((((80) * (j))) + ((u : Int)))) (by omega) (by omega) (by decide) dX10_compare_48 ?_
        refine z_asI (b := (dg A u : Int)) (hP9.rd (by omega) (by omega) hA rfl) ?_
        refine lv_istore (lv' := [(4, .int (zI ((dg A u : Int)))), (0, .ref (h)), (1, .int (zI (j))), (2, .int (zI (jj))), (3, .int (zI ((u : Int))))]) C0.1 C0.2.1 dX10_compare_49 hl (by decide) rfl (fun ls hl => ?_)
        refine lv_aload_n C0.1 C0.2.1 dX10_compare_51 rfl (lv_at hl 1 rfl) ?_
        refine mm_get (fs := [.ref (h + 1), .ref (h + 2), .ref (h + 3), .ref (h + 4), .int (zI (x1)), .int (zI (x2)), .long (zL (x3)), .ref (h + 5), .ref (h + 6), .ref (h + 7), .ref (h + 8), .int (zI (x4)), .int (zI (x5)), .int (zI (x6)), .int (zI (x7)), .int (zI (x8)), .ref (h + 9), .ref (h + 10), .ref (h + 11), .ref (h + 12)]) C0 (C := RX10) (T := TX10) (N := 20) iG_X10 hM (hO) rfl 0 (by decide) tw_916 rfl rfl dX10_compare_52 ?_
        refine lv_bipush (v := zI 80) C0.1 C0.2.1 dX10_compare_55 rfl ?_
        refine lv_iload_n C0.1 C0.2.1 dX10_compare_57 rfl (lv_at hl 3 rfl) ?_
        refine z_imul C0.1 C0.2.1 dX10_compare_58 ?_
        refine lv_iload_n C0.1 C0.2.1 dX10_compare_59 rfl (lv_at hl 4 rfl) ?_
        refine z_iadd C0.1 C0.2.1 dX10_compare_60 ?_
        refine mm_iald C0 hM (g := g) (hg) (80 * b + u) (i := ((((80) * (jj))) + ((u : Int)))) (by omega) (by omega) (by decide) dX10_compare_61 ?_
        refine z_asI (b := (dg B u : Int)) (hP9.rd (by omega) (by omega) hB rfl) ?_
        refine lv_istore (lv' := [(5, .int (zI ((dg B u : Int)))), (4, .int (zI ((dg A u : Int)))), (0, .ref (h)), (1, .int (zI (j))), (2, .int (zI (jj))), (3, .int (zI ((u : Int))))]) C0.1 C0.2.1 dX10_compare_62 hl (by decide) rfl (fun ls hl => ?_)
        refine lv_iload C0.1 C0.2.1 dX10_compare_64 (lv_at hl 1 rfl) ?_
        refine lv_iload C0.1 C0.2.1 dX10_compare_66 (lv_at hl 0 rfl) ?_
        refine z_icmp_le (tgt := 75) C0.1 C0.2.1 dX10_compare_68 (by decide) ⟨by omega, by omega⟩ ⟨by omega, by omega⟩ (fun c_68 => ?_) (fun c_68 => ?_)
        · skip
          refine lv_iload C0.1 C0.2.1 dX10_compare_75 (lv_at hl 1 rfl) ?_
          refine lv_iload C0.1 C0.2.1 dX10_compare_77 (lv_at hl 0 rfl) ?_
          refine z_icmp_ge (tgt := 86) C0.1 C0.2.1 dX10_compare_79 (by decide) ⟨by omega, by omega⟩ ⟨by omega, by omega⟩ (fun c_79 => ?_) (fun c_79 => ?_)
          · skip
            refine lv_iconst (v := zI 0) C0.1 C0.2.1 dX10_compare_86 rfl ?_
            exact mm_iret (z := 0) C0 hr hlk hM hS dX10_compare_87 (⟨(cmpZ_eq (dg_ext (fun x => if q : u + 1 ≤ x then hz x q else (by have q0 : u = 0 := (by omega); have q1 : x = 0 := (by omega); subst q0; subst q1; omega)))).symm, rfl⟩)
          · skip
            refine lv_iconst (v := zI (-1)) C0.1 C0.2.1 dX10_compare_82 rfl ?_
            refine lv_goto (tgt := 87) C0.1 C0.2.1 dX10_compare_83 (by decide) ?_
            exact mm_iret (z := (-1)) C0 hr hlk hM hS dX10_compare_87 (⟨(cmpZ_lt (dg_cmp (u := u) (fun x hx => hz x hx) (by omega))).symm, rfl⟩)
        · skip
          refine lv_iconst (v := zI 1) C0.1 C0.2.1 dX10_compare_71 rfl ?_
          refine lv_goto (tgt := 87) C0.1 C0.2.1 dX10_compare_72 (by decide) ?_
          exact mm_iret (z := 1) C0 hr hlk hM hS dX10_compare_87 (⟨(cmpZ_gt (dg_cmp (u := u) (fun x hx => (hz x hx).symm) (by omega))).symm, rfl⟩)
      · skip
        refine lv_aload_n C0.1 C0.2.1 dX10_compare_7 rfl (lv_at hl 0 rfl) ?_
        refine mm_get (fs := [.ref (h + 1), .ref (h + 2), .ref (h + 3), .ref (h + 4), .int (zI (x1)), .int (zI (x2)), .long (zL (x3)), .ref (h + 5), .ref (h + 6), .ref (h + 7), .ref (h + 8), .int (zI (x4)), .int (zI (x5)), .int (zI (x6)), .int (zI (x7)), .int (zI (x8)), .ref (h + 9), .ref (h + 10), .ref (h + 11), .ref (h + 12)]) C0 (C := RX10) (T := TX10) (N := 20) iG_X10 hM (hO) rfl 0 (by decide) tw_916 rfl rfl dX10_compare_8 ?_
        refine lv_bipush (v := zI 80) C0.1 C0.2.1 dX10_compare_11 rfl ?_
        refine lv_iload_n C0.1 C0.2.1 dX10_compare_13 rfl (lv_at hl 1 rfl) ?_
        refine z_imul C0.1 C0.2.1 dX10_compare_14 ?_
        refine lv_iload_n C0.1 C0.2.1 dX10_compare_15 rfl (lv_at hl 3 rfl) ?_
        refine z_iadd C0.1 C0.2.1 dX10_compare_16 ?_
        refine mm_iald C0 hM (g := g) (hg) (80 * a + u) (i := ((((80) * (j))) + ((u : Int)))) (by omega) (by omega) (by decide) dX10_compare_17 ?_
        refine z_asI (b := (dg A u : Int)) (hP9.rd (by omega) (by omega) hA rfl) ?_
        refine lv_aload_n C0.1 C0.2.1 dX10_compare_18 rfl (lv_at hl 0 rfl) ?_
        refine mm_get (fs := [.ref (h + 1), .ref (h + 2), .ref (h + 3), .ref (h + 4), .int (zI (x1)), .int (zI (x2)), .long (zL (x3)), .ref (h + 5), .ref (h + 6), .ref (h + 7), .ref (h + 8), .int (zI (x4)), .int (zI (x5)), .int (zI (x6)), .int (zI (x7)), .int (zI (x8)), .ref (h + 9), .ref (h + 10), .ref (h + 11), .ref (h + 12)]) C0 (C := RX10) (T := TX10) (N := 20) iG_X10 hM (hO) rfl 0 (by decide) tw_916 rfl rfl dX10_compare_19 ?_
        refine lv_bipush (v := zI 80) C0.1 C0.2.1 dX10_compare_22 rfl ?_
        refine lv_iload_n C0.1 C0.2.1 dX10_compare_24 rfl (lv_at hl 2 rfl) ?_
        refine z_imul C0.1 C0.2.1 dX10_compare_25 ?_
        refine lv_iload_n C0.1 C0.2.1 dX10_compare_26 rfl (lv_at hl 3 rfl) ?_
        refine z_iadd C0.1 C0.2.1 dX10_compare_27 ?_
        refine mm_iald C0 hM (g := g) (hg) (80 * b + u) (i := ((((80) * (jj))) + ((u : Int)))) (by omega) (by omega) (by decide) dX10_compare_28 ?_
        refine z_asI (b := (dg B u : Int)) (hP9.rd (by omega) (by omega) hB rfl) ?_
        refine z_icmp_ne (tgt := 38) C0.1 C0.2.1 dX10_compare_29 (by decide) ⟨by omega, by omega⟩ ⟨by omega, by omega⟩ (fun c_29 => ?_) (fun c_29 => ?_)
        · skip
          refine lv_aload_n C0.1 C0.2.1 dX10_compare_38 rfl (lv_at hl 0 rfl) ?_
          refine mm_get (fs := [.ref (h + 1), .ref (h + 2), .ref (h + 3), .ref (h + 4), .int (zI (x1)), .int (zI (x2)), .long (zL (x3)), .ref (h + 5), .ref (h + 6), .ref (h + 7), .ref (h + 8), .int (zI (x4)), .int (zI (x5)), .int (zI (x6)), .int (zI (x7)), .int (zI (x8)), .ref (h + 9), .ref (h + 10), .ref (h + 11), .ref (h + 12)]) C0 (C := RX10) (T := TX10) (N := 20) iG_X10 hM (hO) rfl 0 (by decide) tw_916 rfl rfl dX10_compare_39 ?_
          refine lv_bipush (v := zI 80) C0.1 C0.2.1 dX10_compare_42 rfl ?_
          refine lv_iload_n C0.1 C0.2.1 dX10_compare_44 rfl (lv_at hl 1 rfl) ?_
          refine z_imul C0.1 C0.2.1 dX10_compare_45 ?_
          refine lv_iload_n C0.1 C0.2.1 dX10_compare_46 rfl (lv_at hl 3 rfl) ?_
          refine z_iadd C0.1 C0.2.1 dX10_compare_47 ?_
          refine mm_iald C0 hM (g := g) (hg) (80 * a + u) (i := ((((80) * (j))) + ((u : Int)))) (by omega) (by omega) (by decide) dX10_compare_48 ?_
          refine z_asI (b := (dg A u : Int)) (hP9.rd (by omega) (by omega) hA rfl) ?_
          refine lv_istore (lv' := [(4, .int (zI ((dg A u : Int)))), (0, .ref (h)), (1, .int (zI (j))), (2, .int (zI (jj))), (3, .int (zI ((u : Int))))]) C0.1 C0.2.1 dX10_compare_49 hl (by decide) rfl (fun ls hl => ?_)
          refine lv_aload_n C0.1 C0.2.1 dX10_compare_51 rfl (lv_at hl 1 rfl) ?_
          refine mm_get (fs := [.ref (h + 1), .ref (h + 2), .ref (h + 3), .ref (h + 4), .int (zI (x1)), .int (zI (x2)), .long (zL (x3)), .ref (h + 5), .ref (h + 6), .ref (h + 7), .ref (h + 8), .int (zI (x4)), .int (zI (x5)), .int (zI (x6)), .int (zI (x7)), .int (zI (x8)), .ref (h + 9), .ref (h + 10), .ref (h + 11), .ref (h + 12)]) C0 (C := RX10) (T := TX10) (N := 20) iG_X10 hM (hO) rfl 0 (by decide) tw_916 rfl rfl dX10_compare_52 ?_
          refine lv_bipush (v := zI 80) C0.1 C0.2.1 dX10_compare_55 rfl ?_
          refine lv_iload_n C0.1 C0.2.1 dX10_compare_57 rfl (lv_at hl 3 rfl) ?_
          refine z_imul C0.1 C0.2.1 dX10_compare_58 ?_
          refine lv_iload_n C0.1 C0.2.1 dX10_compare_59 rfl (lv_at hl 4 rfl) ?_
          refine z_iadd C0.1 C0.2.1 dX10_compare_60 ?_
          refine mm_iald C0 hM (g := g) (hg) (80 * b + u) (i := ((((80) * (jj))) + ((u : Int)))) (by omega) (by omega) (by decide) dX10_compare_61 ?_
          refine z_asI (b := (dg B u : Int)) (hP9.rd (by omega) (by omega) hB rfl) ?_
          refine lv_istore (lv' := [(5, .int (zI ((dg B u : Int)))), (4, .int (zI ((dg A u : Int)))), (0, .ref (h)), (1, .int (zI (j))), (2, .int (zI (jj))), (3, .int (zI ((u : Int))))]) C0.1 C0.2.1 dX10_compare_62 hl (by decide) rfl (fun ls hl => ?_)
          refine lv_iload C0.1 C0.2.1 dX10_compare_64 (lv_at hl 1 rfl) ?_
          refine lv_iload C0.1 C0.2.1 dX10_compare_66 (lv_at hl 0 rfl) ?_
          refine z_icmp_le (tgt := 75) C0.1 C0.2.1 dX10_compare_68 (by decide) ⟨by omega, by omega⟩ ⟨by omega, by omega⟩ (fun c_68 => ?_) (fun c_68 => ?_)
          · skip
            refine lv_iload C0.1 C0.2.1 dX10_compare_75 (lv_at hl 1 rfl) ?_
            refine lv_iload C0.1 C0.2.1 dX10_compare_77 (lv_at hl 0 rfl) ?_
            refine z_icmp_ge (tgt := 86) C0.1 C0.2.1 dX10_compare_79 (by decide) ⟨by omega, by omega⟩ ⟨by omega, by omega⟩ (fun c_79 => ?_) (fun c_79 => ?_)
            · skip
              refine lv_iconst (v := zI 0) C0.1 C0.2.1 dX10_compare_86 rfl ?_
              exact mm_iret (z := 0) C0 hr hlk hM hS dX10_compare_87 (⟨(cmpZ_eq (dg_ext (fun x => if q : u + 1 ≤ x then hz x q else (by have q0 : u = 0 := (by omega); have q1 : x = 0 := (by omega); subst q0; subst q1; omega)))).symm, rfl⟩)
            · skip
              refine lv_iconst (v := zI (-1)) C0.1 C0.2.1 dX10_compare_82 rfl ?_
              refine lv_goto (tgt := 87) C0.1 C0.2.1 dX10_compare_83 (by decide) ?_
              exact mm_iret (z := (-1)) C0 hr hlk hM hS dX10_compare_87 (⟨(cmpZ_lt (dg_cmp (u := u) (fun x hx => hz x hx) (by omega))).symm, rfl⟩)
          · skip
            refine lv_iconst (v := zI 1) C0.1 C0.2.1 dX10_compare_71 rfl ?_
            refine lv_goto (tgt := 87) C0.1 C0.2.1 dX10_compare_72 (by decide) ?_
            exact mm_iret (z := 1) C0 hr hlk hM hS dX10_compare_87 (⟨(cmpZ_gt (dg_cmp (u := u) (fun x hx => (hz x hx).symm) (by omega))).symm, rfl⟩)
        · skip
          refine lv_iinc (v := zI (((u - 1 : Nat) : Int))) (lv' := [(3, .int (zI (((u - 1 : Nat) : Int)))), (0, .ref (h)), (1, .int (zI (j))), (2, .int (zI (jj)))]) C0.1 C0.2.1 dX10_compare_32 hl (k := 3) rfl (z_inc (a := (u : Int)) (n := (-1)) (by omega)) (by decide) rfl (fun ls hl => ?_)
          refine lv_goto (tgt := 3) C0.1 C0.2.1 dX10_compare_35 (by decide) ?_
          exact ih3  (u - 1) _ _ _ (by omega) (fun x hx => if q : x = u then (by subst q; omega) else hz x (by omega))  (by omega) hM hS (lv_sub hl [1, 2, 3, 0] rfl)
  exact L3 (_ + 1) 79 _ _ _ (by omega) (fun x hx => by rw [dg_hi (by omega), dg_hi (by omega)])  (Nat.lt_succ_self _) hM hS (lv_sub hl [1, 2, 3, 0] rfl)

def rX10_add : Room := { frames := 0, cells := 0, slots := 0, locals := 0 }
theorem vw_X10_add : mm_Vw RX10 yX10_add cX10_add 7 none 3 := ⟨tw_1103, tp_35, tw_10, tw_1104, by decide +kernel⟩
set_option maxHeartbeats 4000000 in
set_option maxRecDepth 100000 in
theorem c_X10_add (l : Launch) (G : mG) (E0 : mE) {h : Nat} {x1 x2 x3 x4 x5 x6 x7 x8 : Int} (hO : ro G E0 h x1 x2 x3 x4 x5 x6 x7 x8) {R : Nat → Nat} (hR : rg G E0 h R) {i : Int} {t : Nat} (hi : i = (t : Int)) (ht : t < 16) {j : Int} {a A : Nat} (hj : j = (a : Int)) (ha : a < 16) (hA : R a = A) {jj : Int} {b B : Nat} (hjj : jj = (b : Int)) (hb : b < 16) (hB : R b = B) (hs : nl (A + B) ≤ 80) : mm_Cv l yX10_add (.code yX10_add cX10_add 7 none :: wsG) rX10_add G [.ref (h), .int (zI (i)), .int (zI (j)), .int (zI (jj))] E0 (fun E => (∃ R1, rg G E h R1 ∧ R1 t = (A + B) ∧ ∀ r, r ≠ t → R1 r = R r) ∧ ∀ q : Nat, (q ≠ h + 1) → E q = E0 q) := by
  refine mm_of_v (by decide +kernel) (Nat.le_of_ble_eq_true rfl) ?_
  intro p e s m args below meth c ls C0 hr hlk hM hl hS
  have hl : lv_has ls 7 [(0, .ref (h)), (1, .int (zI (i))), (2, .int (zI (j))), (3, .int (zI (jj)))] := hl
  have hfr : ∀ q : Nat, (q ≠ h + 1) → E0 q = E0 q := fun _ _ => rfl
  have hU := hR.F t
  refine lv_lconst (v := zL 0) C0.1 C0.2.1 dX10_add_0 rfl ?_
  refine lv_lstore (lv' := [(4, .long (zL (0))), (0, .ref (h)), (1, .int (zI (i))), (2, .int (zI (j))), (3, .int (zI (jj)))]) C0.1 C0.2.1 dX10_add_1 hl (by decide) rfl (fun ls hl => ?_)
  refine lv_iconst (v := zI 0) C0.1 C0.2.1 dX10_add_3 rfl ?_
  refine lv_istore (lv' := [(6, .int (zI (0))), (4, .long (zL (0))), (0, .ref (h)), (1, .int (zI (i))), (2, .int (zI (j))), (3, .int (zI (jj)))]) C0.1 C0.2.1 dX10_add_4 hl (by decide) rfl (fun ls hl => ?_)
  have L6 : ∀ (k6 : Nat) (k cy : Nat) (f : Nat → Nat) (E1 : mE) (H : Heap) (locs : List Loc) (ls : Array Slot), (k ≤ 80) → (∀ x, x < k → f x = dg (A + B) x) → (∀ x, k ≤ x → f x = dg (R t) x) → (cy ≤ 1) → (qt (A + B) k = qt A k + qt B k + cy) → (ro G E1 h x1 x2 x3 x4 x5 x6 x7 x8) → (rgF G E1 h R t f) → (∀ q : Nat, (q ≠ h + 1) → E1 q = E0 q) → 80 - k < k6 → mm_M G E1 H → va_S (mm_A G) s.heap H locs → lv_has ls 7 [(0, .ref (h)), (1, .int (zI (i))), (2, .int (zI (j))), (3, .int (zI (jj))), (4, .long (zL ((cy : Int)))), (6, .int (zI ((k : Int))))] → W p l e rX10_add s m args below meth c H locs 0 0 (mm_Zv G below args s (fun E => (∃ R1, rg G E h R1 ∧ R1 t = (A + B) ∧ ∀ r, r ≠ t → R1 r = R r) ∧ ∀ q : Nat, (q ≠ h + 1) → E q = E0 q)) (F0 m 6 ls []) := by
    intro k6
    induction k6 with
    | zero => intro k cy f E1 H locs ls hk9 hf hf2 hc hq hO hU hfr hk hM hS hl; exact absurd hk (Nat.not_lt_zero _)
    | succ k6 ih6 =>
      intro k cy f E1 H locs ls hk9 hf hf2 hc hq hO hU hfr hk6 hM hS hl
      obtain ⟨hB9, g, hg, hP9⟩ := id hU
      have hd1 := dg_lt A k
      have hd2 := dg_lt B k
      have hs1 := qt_s A k
      have hs2 := qt_s B k
      have hs3 := qt_s (A + B) k
      have hq1 := dg_qt A k
      have hq2 := dg_qt B k
      have hq3 := dg_qt (A + B) k
      refine lv_iload C0.1 C0.2.1 dX10_add_6 (lv_at hl 5 rfl) ?_
      refine lv_bipush (v := zI 80) C0.1 C0.2.1 dX10_add_8 rfl ?_
      refine z_icmp_ge (tgt := 78) C0.1 C0.2.1 dX10_add_10 (by decide) ⟨by omega, by omega⟩ ⟨by omega, by omega⟩ (fun c_10 => ?_) (fun c_10 => ?_)
      · skip
        exact mm_vret C0 hr hlk hM hS dX10_add_78 (⟨rgF.done hU (hs) (fun x hx => hf x (by omega)), hfr⟩)
      · skip
        refine lv_lload C0.1 C0.2.1 dX10_add_13 (lv_at hl 4 rfl) ?_
        refine lv_aload_n C0.1 C0.2.1 dX10_add_15 rfl (lv_at hl 0 rfl) ?_
        refine mm_get (fs := [.ref (h + 1), .ref (h + 2), .ref (h + 3), .ref (h + 4), .int (zI (x1)), .int (zI (x2)), .long (zL (x3)), .ref (h + 5), .ref (h + 6), .ref (h + 7), .ref (h + 8), .int (zI (x4)), .int (zI (x5)), .int (zI (x6)), .int (zI (x7)), .int (zI (x8)), .ref (h + 9), .ref (h + 10), .ref (h + 11), .ref (h + 12)]) C0 (C := RX10) (T := TX10) (N := 20) iG_X10 hM (hO) rfl 0 (by decide) tw_916 rfl rfl dX10_add_16 ?_
        refine lv_bipush (v := zI 80) C0.1 C0.2.1 dX10_add_19 rfl ?_
        refine lv_iload_n C0.1 C0.2.1 dX10_add_21 rfl (lv_at hl 2 rfl) ?_
        refine z_imul C0.1 C0.2.1 dX10_add_22 ?_
        refine lv_iload C0.1 C0.2.1 dX10_add_23 (lv_at hl 5 rfl) ?_
        refine z_iadd C0.1 C0.2.1 dX10_add_25 ?_
        refine mm_iald C0 hM (g := g) (hg) (80 * a + k) (i := ((((80) * (j))) + ((k : Int)))) (by omega) (by omega) (by decide) dX10_add_26 ?_
        refine z_asI (b := (dg A k : Int)) (hP9.rd (by omega) (by omega) hA (hf2 k (Nat.le_refl _))) ?_
        refine z_i2l C0.1 C0.2.1 dX10_add_27 ⟨by omega, by omega⟩ ?_
        refine lv_aload_n C0.1 C0.2.1 dX10_add_28 rfl (lv_at hl 0 rfl) ?_
        refine mm_get (fs := [.ref (h + 1), .ref (h + 2), .ref (h + 3), .ref (h + 4), .int (zI (x1)), .int (zI (x2)), .long (zL (x3)), .ref (h + 5), .ref (h + 6), .ref (h + 7), .ref (h + 8), .int (zI (x4)), .int (zI (x5)), .int (zI (x6)), .int (zI (x7)), .int (zI (x8)), .ref (h + 9), .ref (h + 10), .ref (h + 11), .ref (h + 12)]) C0 (C := RX10) (T := TX10) (N := 20) iG_X10 hM (hO) rfl 0 (by decide) tw_916 rfl rfl dX10_add_29 ?_
        refine lv_bipush (v := zI 80) C0.1 C0.2.1 dX10_add_32 rfl ?_
        refine lv_iload_n C0.1 C0.2.1 dX10_add_34 rfl (lv_at hl 3 rfl) ?_
        refine z_imul C0.1 C0.2.1 dX10_add_35 ?_
        refine lv_iload C0.1 C0.2.1 dX10_add_36 (lv_at hl 5 rfl) ?_
        refine z_iadd C0.1 C0.2.1 dX10_add_38 ?_
        refine mm_iald C0 hM (g := g) (hg) (80 * b + k) (i := ((((80) * (jj))) + ((k : Int)))) (by omega) (by omega) (by decide) dX10_add_39 ?_
        refine z_asI (b := (dg B k : Int)) (hP9.rd (by omega) (by omega) hB (hf2 k (Nat.le_refl _))) ?_
        refine z_i2l C0.1 C0.2.1 dX10_add_40 ⟨by omega, by omega⟩ ?_
        refine z_ladd C0.1 C0.2.1 dX10_add_41 ?_
        refine z_ladd C0.1 C0.2.1 dX10_add_42 ?_
        refine z_asL (a := (((cy : Int)) + ((((dg A k : Int)) + ((dg B k : Int)))))) (b := ((cy + (dg A k + dg B k) : Nat) : Int)) (by omega) ?_
        refine lv_lstore (lv' := [(4, .long (zL (((cy + (dg A k + dg B k) : Nat) : Int)))), (0, .ref (h)), (1, .int (zI (i))), (2, .int (zI (j))), (3, .int (zI (jj))), (6, .int (zI ((k : Int))))]) C0.1 C0.2.1 dX10_add_43 hl (by decide) rfl (fun ls hl => ?_)
        refine lv_aload_n C0.1 C0.2.1 dX10_add_45 rfl (lv_at hl 1 rfl) ?_
        refine mm_get (fs := [.ref (h + 1), .ref (h + 2), .ref (h + 3), .ref (h + 4), .int (zI (x1)), .int (zI (x2)), .long (zL (x3)), .ref (h + 5), .ref (h + 6), .ref (h + 7), .ref (h + 8), .int (zI (x4)), .int (zI (x5)), .int (zI (x6)), .int (zI (x7)), .int (zI (x8)), .ref (h + 9), .ref (h + 10), .ref (h + 11), .ref (h + 12)]) C0 (C := RX10) (T := TX10) (N := 20) iG_X10 hM (hO) rfl 0 (by decide) tw_916 rfl rfl dX10_add_46 ?_
        refine lv_bipush (v := zI 80) C0.1 C0.2.1 dX10_add_49 rfl ?_
        refine lv_iload_n C0.1 C0.2.1 dX10_add_51 rfl (lv_at hl 2 rfl) ?_
        refine z_imul C0.1 C0.2.1 dX10_add_52 ?_
        refine lv_iload C0.1 C0.2.1 dX10_add_53 (lv_at hl 5 rfl) ?_
        refine z_iadd C0.1 C0.2.1 dX10_add_55 ?_
        refine lv_lload C0.1 C0.2.1 dX10_add_56 (lv_at hl 0 rfl) ?_
        refine mm_ldc2 (z := 1000000000) C0 tw_992 rfl dX10_add_58 ?_
        refine z_lremp C0.1 C0.2.1 dX10_add_61 ⟨by omega, by omega⟩ ⟨by omega, by omega⟩ (by omega) (by omega) ?_
        refine z_l2i C0.1 C0.2.1 dX10_add_62 ?_
        refine z_asI (a := ((((cy + (dg A k + dg B k) : Nat) : Int)) % (1000000000))) (b := (dg (A + B) k : Int)) (by omega) ?_
        refine mm_iast C0 hM hS (g := g) (hg) (80 * t + k) (i := ((((80) * (i))) + ((k : Int)))) (x := (dg (A + B) k : Int)) (by omega) (by omega) (by decide) dX10_add_63 (fun H locs hM hS hsz => ?_)
        obtain ⟨E2, hE2⟩ : ∃ X : mE, X = mm_up E1 (h + 1) (mm_I G 1280 (zup (g) (80 * t + k) ((dg (A + B) k : Int)))) := ⟨_, rfl⟩
        replace hM : mm_M G E2 H := by rw [hE2]; exact hM
        have frs : ∀ q : Nat, q ≠ h + 1 → E2 q = E1 q := fun q h => by rw [hE2]; exact mm_up_n _ _ h
        have hat : E2 (h + 1) = some (mm_I G 1280 (zup (g) (80 * t + k) ((dg (A + B) k : Int)))) := by rw [hE2]; exact mm_up_s _ _ _
        have hU : rgF G E2 h R t (nup f k (dg (A + B) k)) := ⟨hB9, _, hat, hP9.st (by omega)⟩
        have hO := ro.kept hO (frs _ (by omega))
        have hfr := (fun q h => (frs q (by omega)).trans (hfr q h) : ∀ q : Nat, (q ≠ h + 1) → E2 q = E0 q)
        refine lv_lload C0.1 C0.2.1 dX10_add_64 (lv_at hl 0 rfl) ?_
        refine mm_ldc2 (z := 1000000000) C0 tw_992 rfl dX10_add_66 ?_
        refine z_ldivp C0.1 C0.2.1 dX10_add_69 ⟨by omega, by omega⟩ ⟨by omega, by omega⟩ (by omega) (by omega) ?_
        refine z_asL (a := ((((cy + (dg A k + dg B k) : Nat) : Int)) / (1000000000))) (b := (((cy + (dg A k + dg B k)) / 1000000000 : Nat) : Int)) (by omega) ?_
        refine lv_lstore (lv' := [(4, .long (zL ((((cy + (dg A k + dg B k)) / 1000000000 : Nat) : Int)))), (0, .ref (h)), (1, .int (zI (i))), (2, .int (zI (j))), (3, .int (zI (jj))), (6, .int (zI ((k : Int))))]) C0.1 C0.2.1 dX10_add_70 hl (by decide) rfl (fun ls hl => ?_)
        refine lv_iinc (v := zI (((k + 1 : Nat) : Int))) (lv' := [(6, .int (zI (((k + 1 : Nat) : Int)))), (4, .long (zL ((((cy + (dg A k + dg B k)) / 1000000000 : Nat) : Int)))), (0, .ref (h)), (1, .int (zI (i))), (2, .int (zI (j))), (3, .int (zI (jj)))]) C0.1 C0.2.1 dX10_add_72 hl (k := 5) rfl (z_inc (a := (k : Int)) (n := 1) (by omega)) (by decide) rfl (fun ls hl => ?_)
        refine lv_goto (tgt := 6) C0.1 C0.2.1 dX10_add_75 (by decide) ?_
        exact ih6  (k + 1) ((cy + (dg A k + dg B k)) / 1000000000) (nup f k (dg (A + B) k)) E2 _ _ _ (by omega) (fun x hx => if q : x = k then (by subst q; exact nup_s _ _ _) else (by rw [nup_n _ _ q]; exact hf x (by omega))) (fun x hx => by rw [nup_n _ _ (by omega)]; exact hf2 x (by omega)) (by omega) (by omega) (hO) (hU) (hfr) (by omega) hM hS (lv_sub hl [2, 3, 4, 5, 1, 0] rfl)
  exact L6 (_ + 1) 0 0 (dg (R t)) E0 _ _ _ (Nat.zero_le _) (fun x hx => absurd hx (Nat.not_lt_zero _)) (fun x _ => rfl) (by omega) (by rw [qt_0, qt_0, qt_0]; rfl) (hO) (hU) (hfr) (Nat.lt_succ_self _) hM hS (lv_sub hl [2, 3, 4, 5, 1, 0] rfl)

def rX10_subtract : Room := { frames := 0, cells := 0, slots := 0, locals := 0 }
theorem vw_X10_subtract : mm_Vw RX10 yX10_subtract cX10_subtract 7 none 3 := ⟨tw_1093, tp_33, tw_10, tw_1094, by decide +kernel⟩
set_option maxHeartbeats 4000000 in
set_option maxRecDepth 100000 in
theorem c_X10_subtract (l : Launch) (G : mG) (E0 : mE) {h : Nat} {x1 x2 x3 x4 x5 x6 x7 x8 : Int} (hO : ro G E0 h x1 x2 x3 x4 x5 x6 x7 x8) {R : Nat → Nat} (hR : rg G E0 h R) {i : Int} {t : Nat} (hi : i = (t : Int)) (ht : t < 16) {j : Int} {a A : Nat} (hj : j = (a : Int)) (ha : a < 16) (hA : R a = A) {jj : Int} {b B : Nat} (hjj : jj = (b : Int)) (hb : b < 16) (hB : R b = B) (hle : B ≤ A) : mm_Cv l yX10_subtract (.code yX10_subtract cX10_subtract 7 none :: wsG) rX10_subtract G [.ref (h), .int (zI (i)), .int (zI (j)), .int (zI (jj))] E0 (fun E => (∃ R1, rg G E h R1 ∧ R1 t = (A - B) ∧ ∀ r, r ≠ t → R1 r = R r) ∧ ∀ q : Nat, (q ≠ h + 1) → E q = E0 q) := by
  refine mm_of_v (by decide +kernel) (Nat.le_of_ble_eq_true rfl) ?_
  intro p e s m args below meth c ls C0 hr hlk hM hl hS
  have hl : lv_has ls 7 [(0, .ref (h)), (1, .int (zI (i))), (2, .int (zI (j))), (3, .int (zI (jj)))] := hl
  have hfr : ∀ q : Nat, (q ≠ h + 1) → E0 q = E0 q := fun _ _ => rfl
  have hU := hR.F t
  have hnA : nl A ≤ 80 := hA ▸ hR.1 a ha
  have hs : nl (A - B) ≤ 80 := Nat.le_trans (nl_mono (Nat.sub_le A B)) hnA
  refine lv_iconst (v := zI 0) C0.1 C0.2.1 dX10_subtract_0 rfl ?_
  refine lv_istore (lv' := [(4, .int (zI (0))), (0, .ref (h)), (1, .int (zI (i))), (2, .int (zI (j))), (3, .int (zI (jj)))]) C0.1 C0.2.1 dX10_subtract_1 hl (by decide) rfl (fun ls hl => ?_)
  refine lv_iconst (v := zI 0) C0.1 C0.2.1 dX10_subtract_3 rfl ?_
  refine lv_istore (lv' := [(5, .int (zI (0))), (4, .int (zI (0))), (0, .ref (h)), (1, .int (zI (i))), (2, .int (zI (j))), (3, .int (zI (jj)))]) C0.1 C0.2.1 dX10_subtract_4 hl (by decide) rfl (fun ls hl => ?_)
  have L6 : ∀ (k6 : Nat) (k cy : Nat) (f : Nat → Nat) (E1 : mE) (H : Heap) (locs : List Loc) (ls : Array Slot), (k ≤ 80) → (∀ x, x < k → f x = dg (A - B) x) → (∀ x, k ≤ x → f x = dg (R t) x) → (cy ≤ 1) → (qt (A - B) k + qt B k + cy = qt A k) → (ro G E1 h x1 x2 x3 x4 x5 x6 x7 x8) → (rgF G E1 h R t f) → (∀ q : Nat, (q ≠ h + 1) → E1 q = E0 q) → 80 - k < k6 → mm_M G E1 H → va_S (mm_A G) s.heap H locs → lv_has ls 7 [(0, .ref (h)), (1, .int (zI (i))), (2, .int (zI (j))), (3, .int (zI (jj))), (4, .int (zI ((cy : Int)))), (5, .int (zI ((k : Int))))] → W p l e rX10_subtract s m args below meth c H locs 0 0 (mm_Zv G below args s (fun E => (∃ R1, rg G E h R1 ∧ R1 t = (A - B) ∧ ∀ r, r ≠ t → R1 r = R r) ∧ ∀ q : Nat, (q ≠ h + 1) → E q = E0 q)) (F0 m 6 ls []) := by
    intro k6
    induction k6 with
    | zero => intro k cy f E1 H locs ls hk9 hf hf2 hc hq hO hU hfr hk hM hS hl; exact absurd hk (Nat.not_lt_zero _)
    | succ k6 ih6 =>
      intro k cy f E1 H locs ls hk9 hf hf2 hc hq hO hU hfr hk6 hM hS hl
      obtain ⟨hB9, g, hg, hP9⟩ := id hU
      have hd1 := dg_lt A k
      have hd2 := dg_lt B k
      have hs1 := qt_s A k
      have hs2 := qt_s B k
      have hs3 := qt_s (A - B) k
      have hq1 := dg_qt A k
      have hq2 := dg_qt B k
      have hq3 := dg_qt (A - B) k
      refine lv_iload C0.1 C0.2.1 dX10_subtract_6 (lv_at hl 5 rfl) ?_
      refine lv_bipush (v := zI 80) C0.1 C0.2.1 dX10_subtract_8 rfl ?_
      refine z_icmp_ge (tgt := 88) C0.1 C0.2.1 dX10_subtract_10 (by decide) ⟨by omega, by omega⟩ ⟨by omega, by omega⟩ (fun c_10 => ?_) (fun c_10 => ?_)
      · skip
        exact mm_vret C0 hr hlk hM hS dX10_subtract_88 (⟨rgF.done hU (hs) (fun x hx => hf x (by omega)), hfr⟩)
      · skip
        refine lv_aload_n C0.1 C0.2.1 dX10_subtract_13 rfl (lv_at hl 0 rfl) ?_
        refine mm_get (fs := [.ref (h + 1), .ref (h + 2), .ref (h + 3), .ref (h + 4), .int (zI (x1)), .int (zI (x2)), .long (zL (x3)), .ref (h + 5), .ref (h + 6), .ref (h + 7), .ref (h + 8), .int (zI (x4)), .int (zI (x5)), .int (zI (x6)), .int (zI (x7)), .int (zI (x8)), .ref (h + 9), .ref (h + 10), .ref (h + 11), .ref (h + 12)]) C0 (C := RX10) (T := TX10) (N := 20) iG_X10 hM (hO) rfl 0 (by decide) tw_916 rfl rfl dX10_subtract_14 ?_
        refine lv_bipush (v := zI 80) C0.1 C0.2.1 dX10_subtract_17 rfl ?_
        refine lv_iload_n C0.1 C0.2.1 dX10_subtract_19 rfl (lv_at hl 2 rfl) ?_
        refine z_imul C0.1 C0.2.1 dX10_subtract_20 ?_
        refine lv_iload C0.1 C0.2.1 dX10_subtract_21 (lv_at hl 5 rfl) ?_
        refine z_iadd C0.1 C0.2.1 dX10_subtract_23 ?_
        refine mm_iald C0 hM (g := g) (hg) (80 * a + k) (i := ((((80) * (j))) + ((k : Int)))) (by omega) (by omega) (by decide) dX10_subtract_24 ?_
        refine z_asI (b := (dg A k : Int)) (hP9.rd (by omega) (by omega) hA (hf2 k (Nat.le_refl _))) ?_
        refine lv_aload_n C0.1 C0.2.1 dX10_subtract_25 rfl (lv_at hl 0 rfl) ?_
        refine mm_get (fs := [.ref (h + 1), .ref (h + 2), .ref (h + 3), .ref (h + 4), .int (zI (x1)), .int (zI (x2)), .long (zL (x3)), .ref (h + 5), .ref (h + 6), .ref (h + 7), .ref (h + 8), .int (zI (x4)), .int (zI (x5)), .int (zI (x6)), .int (zI (x7)), .int (zI (x8)), .ref (h + 9), .ref (h + 10), .ref (h + 11), .ref (h + 12)]) C0 (C := RX10) (T := TX10) (N := 20) iG_X10 hM (hO) rfl 0 (by decide) tw_916 rfl rfl dX10_subtract_26 ?_
        refine lv_bipush (v := zI 80) C0.1 C0.2.1 dX10_subtract_29 rfl ?_
        refine lv_iload_n C0.1 C0.2.1 dX10_subtract_31 rfl (lv_at hl 3 rfl) ?_
        refine z_imul C0.1 C0.2.1 dX10_subtract_32 ?_
        refine lv_iload C0.1 C0.2.1 dX10_subtract_33 (lv_at hl 5 rfl) ?_
        refine z_iadd C0.1 C0.2.1 dX10_subtract_35 ?_
        refine mm_iald C0 hM (g := g) (hg) (80 * b + k) (i := ((((80) * (jj))) + ((k : Int)))) (by omega) (by omega) (by decide) dX10_subtract_36 ?_
        refine z_asI (b := (dg B k : Int)) (hP9.rd (by omega) (by omega) hB (hf2 k (Nat.le_refl _))) ?_
        refine z_isub C0.1 C0.2.1 dX10_subtract_37 ?_
        refine lv_iload C0.1 C0.2.1 dX10_subtract_38 (lv_at hl 4 rfl) ?_
        refine z_isub C0.1 C0.2.1 dX10_subtract_40 ?_
        refine lv_istore (lv' := [(6, .int (zI ((((((dg A k : Int)) - ((dg B k : Int)))) - ((cy : Int)))))), (0, .ref (h)), (1, .int (zI (i))), (2, .int (zI (j))), (3, .int (zI (jj))), (4, .int (zI ((cy : Int)))), (5, .int (zI ((k : Int))))]) C0.1 C0.2.1 dX10_subtract_41 hl (by decide) rfl (fun ls hl => ?_)
        refine lv_iload C0.1 C0.2.1 dX10_subtract_43 (lv_at hl 0 rfl) ?_
        refine z_if_ge (tgt := 52) C0.1 C0.2.1 dX10_subtract_45 (by decide) ⟨by omega, by omega⟩ (fun c_45 => ?_) (fun c_45 => ?_)
        · skip
          refine lv_iconst (v := zI 0) C0.1 C0.2.1 dX10_subtract_52 rfl ?_
          refine lv_istore (lv' := [(4, .int (zI (0))), (6, .int (zI ((((((dg A k : Int)) - ((dg B k : Int)))) - ((cy : Int)))))), (0, .ref (h)), (1, .int (zI (i))), (2, .int (zI (j))), (3, .int (zI (jj))), (5, .int (zI ((k : Int))))]) C0.1 C0.2.1 dX10_subtract_53 hl (by decide) rfl (fun ls hl => ?_)
          refine lv_aload_n C0.1 C0.2.1 dX10_subtract_55 rfl (lv_at hl 2 rfl) ?_
          refine mm_get (fs := [.ref (h + 1), .ref (h + 2), .ref (h + 3), .ref (h + 4), .int (zI (x1)), .int (zI (x2)), .long (zL (x3)), .ref (h + 5), .ref (h + 6), .ref (h + 7), .ref (h + 8), .int (zI (x4)), .int (zI (x5)), .int (zI (x6)), .int (zI (x7)), .int (zI (x8)), .ref (h + 9), .ref (h + 10), .ref (h + 11), .ref (h + 12)]) C0 (C := RX10) (T := TX10) (N := 20) iG_X10 hM (hO) rfl 0 (by decide) tw_916 rfl rfl dX10_subtract_56 ?_
          refine lv_bipush (v := zI 80) C0.1 C0.2.1 dX10_subtract_59 rfl ?_
          refine lv_iload_n C0.1 C0.2.1 dX10_subtract_61 rfl (lv_at hl 3 rfl) ?_
          refine z_imul C0.1 C0.2.1 dX10_subtract_62 ?_
          refine lv_iload C0.1 C0.2.1 dX10_subtract_63 (lv_at hl 6 rfl) ?_
          refine z_iadd C0.1 C0.2.1 dX10_subtract_65 ?_
          refine lv_iload C0.1 C0.2.1 dX10_subtract_66 (lv_at hl 1 rfl) ?_
          refine z_if_ge (tgt := 79) C0.1 C0.2.1 dX10_subtract_68 (by decide) ⟨by omega, by omega⟩ (fun c_68 => ?_) (fun c_68 => ?_)
          · skip
            refine lv_iload C0.1 C0.2.1 dX10_subtract_79 (lv_at hl 1 rfl) ?_
            refine z_asI (a := (((((dg A k : Int)) - ((dg B k : Int)))) - ((cy : Int)))) (b := (dg (A - B) k : Int)) (by omega) ?_
            refine mm_iast C0 hM hS (g := g) (hg) (80 * t + k) (i := ((((80) * (i))) + ((k : Int)))) (x := (dg (A - B) k : Int)) (by omega) (by omega) (by decide) dX10_subtract_81 (fun H locs hM hS hsz => ?_)
            obtain ⟨E2, hE2⟩ : ∃ X : mE, X = mm_up E1 (h + 1) (mm_I G 1280 (zup (g) (80 * t + k) ((dg (A - B) k : Int)))) := ⟨_, rfl⟩
            replace hM : mm_M G E2 H := by rw [hE2]; exact hM
            have frs : ∀ q : Nat, q ≠ h + 1 → E2 q = E1 q := fun q h => by rw [hE2]; exact mm_up_n _ _ h
            have hat : E2 (h + 1) = some (mm_I G 1280 (zup (g) (80 * t + k) ((dg (A - B) k : Int)))) := by rw [hE2]; exact mm_up_s _ _ _
            have hU : rgF G E2 h R t (nup f k (dg (A - B) k)) := ⟨hB9, _, hat, hP9.st (by omega)⟩
            have hO := ro.kept hO (frs _ (by omega))
            have hfr := (fun q h => (frs q (by omega)).trans (hfr q h) : ∀ q : Nat, (q ≠ h + 1) → E2 q = E0 q)
            refine lv_iinc (v := zI (((k + 1 : Nat) : Int))) (lv' := [(5, .int (zI (((k + 1 : Nat) : Int)))), (4, .int (zI (0))), (6, .int (zI ((((((dg A k : Int)) - ((dg B k : Int)))) - ((cy : Int)))))), (0, .ref (h)), (1, .int (zI (i))), (2, .int (zI (j))), (3, .int (zI (jj)))]) C0.1 C0.2.1 dX10_subtract_82 hl (k := 6) rfl (z_inc (a := (k : Int)) (n := 1) (by omega)) (by decide) rfl (fun ls hl => ?_)
            refine lv_goto (tgt := 6) C0.1 C0.2.1 dX10_subtract_85 (by decide) ?_
            exact ih6  (k + 1) 0 (nup f k (dg (A - B) k)) E2 _ _ _ (by omega) (fun x hx => if q : x = k then (by subst q; exact nup_s _ _ _) else (by rw [nup_n _ _ q]; exact hf x (by omega))) (fun x hx => by rw [nup_n _ _ (by omega)]; exact hf2 x (by omega)) (by omega) (by omega) (hO) (hU) (hfr) (by omega) hM hS (lv_sub hl [3, 4, 5, 6, 1, 0] rfl)
          · skip
            refine lv_iload C0.1 C0.2.1 dX10_subtract_71 (lv_at hl 1 rfl) ?_
            refine mm_ldc (z := 1000000000) C0 tw_1095 rfl dX10_subtract_73 ?_
            refine z_iadd C0.1 C0.2.1 dX10_subtract_75 ?_
            refine lv_goto (tgt := 81) C0.1 C0.2.1 dX10_subtract_76 (by decide) ?_
            refine z_asI (a := (((((((dg A k : Int)) - ((dg B k : Int)))) - ((cy : Int)))) + (1000000000))) (b := (dg (A - B) k : Int)) (by omega) ?_
            refine mm_iast C0 hM hS (g := g) (hg) (80 * t + k) (i := ((((80) * (i))) + ((k : Int)))) (x := (dg (A - B) k : Int)) (by omega) (by omega) (by decide) dX10_subtract_81 (fun H locs hM hS hsz => ?_)
            obtain ⟨E3, hE3⟩ : ∃ X : mE, X = mm_up E1 (h + 1) (mm_I G 1280 (zup (g) (80 * t + k) ((dg (A - B) k : Int)))) := ⟨_, rfl⟩
            replace hM : mm_M G E3 H := by rw [hE3]; exact hM
            have frs : ∀ q : Nat, q ≠ h + 1 → E3 q = E1 q := fun q h => by rw [hE3]; exact mm_up_n _ _ h
            have hat : E3 (h + 1) = some (mm_I G 1280 (zup (g) (80 * t + k) ((dg (A - B) k : Int)))) := by rw [hE3]; exact mm_up_s _ _ _
            have hU : rgF G E3 h R t (nup f k (dg (A - B) k)) := ⟨hB9, _, hat, hP9.st (by omega)⟩
            have hO := ro.kept hO (frs _ (by omega))
            have hfr := (fun q h => (frs q (by omega)).trans (hfr q h) : ∀ q : Nat, (q ≠ h + 1) → E3 q = E0 q)
            refine lv_iinc (v := zI (((k + 1 : Nat) : Int))) (lv' := [(5, .int (zI (((k + 1 : Nat) : Int)))), (4, .int (zI (0))), (6, .int (zI ((((((dg A k : Int)) - ((dg B k : Int)))) - ((cy : Int)))))), (0, .ref (h)), (1, .int (zI (i))), (2, .int (zI (j))), (3, .int (zI (jj)))]) C0.1 C0.2.1 dX10_subtract_82 hl (k := 6) rfl (z_inc (a := (k : Int)) (n := 1) (by omega)) (by decide) rfl (fun ls hl => ?_)
            refine lv_goto (tgt := 6) C0.1 C0.2.1 dX10_subtract_85 (by decide) ?_
            exact ih6  (k + 1) 0 (nup f k (dg (A - B) k)) E3 _ _ _ (by omega) (fun x hx => if q : x = k then (by subst q; exact nup_s _ _ _) else (by rw [nup_n _ _ q]; exact hf x (by omega))) (fun x hx => by rw [nup_n _ _ (by omega)]; exact hf2 x (by omega)) (by omega) (by omega) (hO) (hU) (hfr) (by omega) hM hS (lv_sub hl [3, 4, 5, 6, 1, 0] rfl)
        · skip
          refine lv_iconst (v := zI 1) C0.1 C0.2.1 dX10_subtract_48 rfl ?_
          refine lv_goto (tgt := 53) C0.1 C0.2.1 dX10_subtract_49 (by decide) ?_
          refine lv_istore (lv' := [(4, .int (zI (1))), (6, .int (zI ((((((dg A k : Int)) - ((dg B k : Int)))) - ((cy : Int)))))), (0, .ref (h)), (1, .int (zI (i))), (2, .int (zI (j))), (3, .int (zI (jj))), (5, .int (zI ((k : Int))))]) C0.1 C0.2.1 dX10_subtract_53 hl (by decide) rfl (fun ls hl => ?_)
          refine lv_aload_n C0.1 C0.2.1 dX10_subtract_55 rfl (lv_at hl 2 rfl) ?_
          refine mm_get (fs := [.ref (h + 1), .ref (h + 2), .ref (h + 3), .ref (h + 4), .int (zI (x1)), .int (zI (x2)), .long (zL (x3)), .ref (h + 5), .ref (h + 6), .ref (h + 7), .ref (h + 8), .int (zI (x4)), .int (zI (x5)), .int (zI (x6)), .int (zI (x7)), .int (zI (x8)), .ref (h + 9), .ref (h + 10), .ref (h + 11), .ref (h + 12)]) C0 (C := RX10) (T := TX10) (N := 20) iG_X10 hM (hO) rfl 0 (by decide) tw_916 rfl rfl dX10_subtract_56 ?_
          refine lv_bipush (v := zI 80) C0.1 C0.2.1 dX10_subtract_59 rfl ?_
          refine lv_iload_n C0.1 C0.2.1 dX10_subtract_61 rfl (lv_at hl 3 rfl) ?_
          refine z_imul C0.1 C0.2.1 dX10_subtract_62 ?_
          refine lv_iload C0.1 C0.2.1 dX10_subtract_63 (lv_at hl 6 rfl) ?_
          refine z_iadd C0.1 C0.2.1 dX10_subtract_65 ?_
          refine lv_iload C0.1 C0.2.1 dX10_subtract_66 (lv_at hl 1 rfl) ?_
          refine z_if_ge (tgt := 79) C0.1 C0.2.1 dX10_subtract_68 (by decide) ⟨by omega, by omega⟩ (fun c_68 => ?_) (fun c_68 => ?_)
          · skip
            refine lv_iload C0.1 C0.2.1 dX10_subtract_79 (lv_at hl 1 rfl) ?_
            refine z_asI (a := (((((dg A k : Int)) - ((dg B k : Int)))) - ((cy : Int)))) (b := (dg (A - B) k : Int)) (by omega) ?_
            refine mm_iast C0 hM hS (g := g) (hg) (80 * t + k) (i := ((((80) * (i))) + ((k : Int)))) (x := (dg (A - B) k : Int)) (by omega) (by omega) (by decide) dX10_subtract_81 (fun H locs hM hS hsz => ?_)
            obtain ⟨E4, hE4⟩ : ∃ X : mE, X = mm_up E1 (h + 1) (mm_I G 1280 (zup (g) (80 * t + k) ((dg (A - B) k : Int)))) := ⟨_, rfl⟩
            replace hM : mm_M G E4 H := by rw [hE4]; exact hM
            have frs : ∀ q : Nat, q ≠ h + 1 → E4 q = E1 q := fun q h => by rw [hE4]; exact mm_up_n _ _ h
            have hat : E4 (h + 1) = some (mm_I G 1280 (zup (g) (80 * t + k) ((dg (A - B) k : Int)))) := by rw [hE4]; exact mm_up_s _ _ _
            have hU : rgF G E4 h R t (nup f k (dg (A - B) k)) := ⟨hB9, _, hat, hP9.st (by omega)⟩
            have hO := ro.kept hO (frs _ (by omega))
            have hfr := (fun q h => (frs q (by omega)).trans (hfr q h) : ∀ q : Nat, (q ≠ h + 1) → E4 q = E0 q)
            refine lv_iinc (v := zI (((k + 1 : Nat) : Int))) (lv' := [(5, .int (zI (((k + 1 : Nat) : Int)))), (4, .int (zI (1))), (6, .int (zI ((((((dg A k : Int)) - ((dg B k : Int)))) - ((cy : Int)))))), (0, .ref (h)), (1, .int (zI (i))), (2, .int (zI (j))), (3, .int (zI (jj)))]) C0.1 C0.2.1 dX10_subtract_82 hl (k := 6) rfl (z_inc (a := (k : Int)) (n := 1) (by omega)) (by decide) rfl (fun ls hl => ?_)
            refine lv_goto (tgt := 6) C0.1 C0.2.1 dX10_subtract_85 (by decide) ?_
            exact ih6  (k + 1) 1 (nup f k (dg (A - B) k)) E4 _ _ _ (by omega) (fun x hx => if q : x = k then (by subst q; exact nup_s _ _ _) else (by rw [nup_n _ _ q]; exact hf x (by omega))) (fun x hx => by rw [nup_n _ _ (by omega)]; exact hf2 x (by omega)) (by omega) (by omega) (hO) (hU) (hfr) (by omega) hM hS (lv_sub hl [3, 4, 5, 6, 1, 0] rfl)
          · skip
            refine lv_iload C0.1 C0.2.1 dX10_subtract_71 (lv_at hl 1 rfl) ?_
            refine mm_ldc (z := 1000000000) C0 tw_1095 rfl dX10_subtract_73 ?_
            refine z_iadd C0.1 C0.2.1 dX10_subtract_75 ?_
            refine lv_goto (tgt := 81) C0.1 C0.2.1 dX10_subtract_76 (by decide) ?_
            refine z_asI (a := (((((((dg A k : Int)) - ((dg B k : Int)))) - ((cy : Int)))) + (1000000000))) (b := (dg (A - B) k : Int)) (by omega) ?_
            refine mm_iast C0 hM hS (g := g) (hg) (80 * t + k) (i := ((((80) * (i))) + ((k : Int)))) (x := (dg (A - B) k : Int)) (by omega) (by omega) (by decide) dX10_subtract_81 (fun H locs hM hS hsz => ?_)
            obtain ⟨E5, hE5⟩ : ∃ X : mE, X = mm_up E1 (h + 1) (mm_I G 1280 (zup (g) (80 * t + k) ((dg (A - B) k : Int)))) := ⟨_, rfl⟩
            replace hM : mm_M G E5 H := by rw [hE5]; exact hM
            have frs : ∀ q : Nat, q ≠ h + 1 → E5 q = E1 q := fun q h => by rw [hE5]; exact mm_up_n _ _ h
            have hat : E5 (h + 1) = some (mm_I G 1280 (zup (g) (80 * t + k) ((dg (A - B) k : Int)))) := by rw [hE5]; exact mm_up_s _ _ _
            have hU : rgF G E5 h R t (nup f k (dg (A - B) k)) := ⟨hB9, _, hat, hP9.st (by omega)⟩
            have hO := ro.kept hO (frs _ (by omega))
            have hfr := (fun q h => (frs q (by omega)).trans (hfr q h) : ∀ q : Nat, (q ≠ h + 1) → E5 q = E0 q)
            refine lv_iinc (v := zI (((k + 1 : Nat) : Int))) (lv' := [(5, .int (zI (((k + 1 : Nat) : Int)))), (4, .int (zI (1))), (6, .int (zI ((((((dg A k : Int)) - ((dg B k : Int)))) - ((cy : Int)))))), (0, .ref (h)), (1, .int (zI (i))), (2, .int (zI (j))), (3, .int (zI (jj)))]) C0.1 C0.2.1 dX10_subtract_82 hl (k := 6) rfl (z_inc (a := (k : Int)) (n := 1) (by omega)) (by decide) rfl (fun ls hl => ?_)
            refine lv_goto (tgt := 6) C0.1 C0.2.1 dX10_subtract_85 (by decide) ?_
            exact ih6  (k + 1) 1 (nup f k (dg (A - B) k)) E5 _ _ _ (by omega) (fun x hx => if q : x = k then (by subst q; exact nup_s _ _ _) else (by rw [nup_n _ _ q]; exact hf x (by omega))) (fun x hx => by rw [nup_n _ _ (by omega)]; exact hf2 x (by omega)) (by omega) (by omega) (hO) (hU) (hfr) (by omega) hM hS (lv_sub hl [3, 4, 5, 6, 1, 0] rfl)
  exact L6 (_ + 1) 0 0 (dg (R t)) E0 _ _ _ (Nat.zero_le _) (fun x hx => absurd hx (Nat.not_lt_zero _)) (fun x _ => rfl) (by omega) (by rw [qt_0, qt_0, qt_0]; omega) (hO) (hU) (hfr) (Nat.lt_succ_self _) hM hS (lv_sub hl [2, 3, 4, 5, 1, 0] rfl)

def rX10_times : Room := { frames := 0, cells := 0, slots := 0, locals := 0 }
theorem vw_X10_times : mm_Vw RX10 yX10_times cX10_times 10 none 4 := ⟨tw_1037, tp_21, tw_10, tw_1038, by decide +kernel⟩
set_option maxHeartbeats 4000000 in
set_option maxRecDepth 100000 in
theorem c_X10_times (l : Launch) (G : mG) (E0 : mE) {h : Nat} {x1 x2 x3 x4 x5 x6 x7 x8 : Int} (hO : ro G E0 h x1 x2 x3 x4 x5 x6 x7 x8) {R : Nat → Nat} (hR : rg G E0 h R) {i : Int} {t : Nat} (hi : i = (t : Int)) (ht : t < 16) {j : Int} {a A : Nat} (hj : j = (a : Int)) (ha : a < 16) (hA : R a = A) {v w : Int} (mu nu : Nat) (hv : v = (mu : Int)) (hw : w = (nu : Int)) (hm : mu < 1000000000) (hn : nu < 1000000000) (hs : nl (mu * A + nu) ≤ 80) : mm_Cv l yX10_times (.code yX10_times cX10_times 10 none :: wsG) rX10_times G [.ref (h), .int (zI (i)), .int (zI (j)), .long (zL (v)), .long (zL (w))] E0 (fun E => (∃ R1, rg G E h R1 ∧ R1 t = (mu * A + nu) ∧ ∀ r, r ≠ t → R1 r = R r) ∧ ∀ q : Nat, (q ≠ h + 1) → E q = E0 q) := by
  refine mm_of_v (by decide +kernel) (Nat.le_of_ble_eq_true rfl) ?_
  intro p e s m args below meth c ls C0 hr hlk hM hl hS
  have hl : lv_has ls 10 [(0, .ref (h)), (1, .int (zI (i))), (2, .int (zI (j))), (3, .long (zL (v))), (5, .long (zL (w)))] := hl
  have hfr : ∀ q : Nat, (q ≠ h + 1) → E0 q = E0 q := fun _ _ => rfl
  have hU := hR.F t
  refine lv_lload C0.1 C0.2.1 dX10_times_0 (lv_at hl 4 rfl) ?_
  refine z_asL (a := w) (b := (nu : Int)) (hw) ?_
  refine lv_lstore (lv' := [(7, .long (zL ((nu : Int)))), (0, .ref (h)), (1, .int (zI (i))), (2, .int (zI (j))), (3, .long (zL (v))), (5, .long (zL (w)))]) C0.1 C0.2.1 dX10_times_2 hl (by decide) rfl (fun ls hl => ?_)
  refine lv_iconst (v := zI 0) C0.1 C0.2.1 dX10_times_4 rfl ?_
  refine lv_istore (lv' := [(9, .int (zI (0))), (7, .long (zL ((nu : Int)))), (0, .ref (h)), (1, .int (zI (i))), (2, .int (zI (j))), (3, .long (zL (v))), (5, .long (zL (w)))]) C0.1 C0.2.1 dX10_times_5 hl (by decide) rfl (fun ls hl => ?_)
  have L7 : ∀ (k7 : Nat) (k cy : Nat) (f : Nat → Nat) (E1 : mE) (H : Heap) (locs : List Loc) (ls : Array Slot), (k ≤ 80) → (∀ x, x < k → f x = dg (mu * A + nu) x) → (∀ x, k ≤ x → f x = dg (R t) x) → (cy < 1000000000) → (qt (mu * A + nu) k = mu * qt A k + cy) → (ro G E1 h x1 x2 x3 x4 x5 x6 x7 x8) → (rgF G E1 h R t f) → (∀ q : Nat, (q ≠ h + 1) → E1 q = E0 q) → 80 - k < k7 → mm_M G E1 H → va_S (mm_A G) s.heap H locs → lv_has ls 10 [(0, .ref (h)), (1, .int (zI (i))), (2, .int (zI (j))), (3, .long (zL (v))), (7, .long (zL ((cy : Int)))), (9, .int (zI ((k : Int))))] → W p l e rX10_times s m args below meth c H locs 0 0 (mm_Zv G below args s (fun E => (∃ R1, rg G E h R1 ∧ R1 t = (mu * A + nu) ∧ ∀ r, r ≠ t → R1 r = R r) ∧ ∀ q : Nat, (q ≠ h + 1) → E q = E0 q)) (F0 m 7 ls []) := by
    intro k7
    induction k7 with
    | zero => intro k cy f E1 H locs ls hk9 hf hf2 hc hq hO hU hfr hk hM hS hl; exact absurd hk (Nat.not_lt_zero _)
    | succ k7 ih7 =>
      intro k cy f E1 H locs ls hk9 hf hf2 hc hq hO hU hfr hk7 hM hS hl
      obtain ⟨hB9, g, hg, hP9⟩ := id hU
      have hd1 := dg_lt A k
      obtain ⟨hm1, hm2⟩ := qt_mul (m := mu) (A := A) (k := k) (c := cy)
      have hs3 := qt_s (mu * A + nu) k
      have hq3 := dg_qt (mu * A + nu) k
      have hpm : mu * dg A k ≤ 999999999 * 999999999 := Nat.mul_le_mul (by omega) (by omega)
      obtain ⟨x9, hx9⟩ : ∃ x, x = mu * dg A k := ⟨_, rfl⟩
      rw [← hx9] at hm1 hm2 hpm
      refine lv_iload C0.1 C0.2.1 dX10_times_7 (lv_at hl 5 rfl) ?_
      refine lv_bipush (v := zI 80) C0.1 C0.2.1 dX10_times_9 rfl ?_
      refine z_icmp_ge (tgt := 67) C0.1 C0.2.1 dX10_times_11 (by decide) ⟨by omega, by omega⟩ ⟨by omega, by omega⟩ (fun c_11 => ?_) (fun c_11 => ?_)
      · skip
        exact mm_vret C0 hr hlk hM hS dX10_times_67 (⟨rgF.done hU (hs) (fun x hx => hf x (by omega)), hfr⟩)
      · skip
        refine lv_lload C0.1 C0.2.1 dX10_times_14 (lv_at hl 4 rfl) ?_
        refine lv_lload_n C0.1 C0.2.1 dX10_times_16 rfl (lv_at hl 3 rfl) ?_
        refine lv_aload_n C0.1 C0.2.1 dX10_times_17 rfl (lv_at hl 0 rfl) ?_
        refine mm_get (fs := [.ref (h + 1), .ref (h + 2), .ref (h + 3), .ref (h + 4), .int (zI (x1)), .int (zI (x2)), .long (zL (x3)), .ref (h + 5), .ref (h + 6), .ref (h + 7), .ref (h + 8), .int (zI (x4)), .int (zI (x5)), .int (zI (x6)), .int (zI (x7)), .int (zI (x8)), .ref (h + 9), .ref (h + 10), .ref (h + 11), .ref (h + 12)]) C0 (C := RX10) (T := TX10) (N := 20) iG_X10 hM (hO) rfl 0 (by decide) tw_916 rfl rfl dX10_times_18 ?_
        refine lv_bipush (v := zI 80) C0.1 C0.2.1 dX10_times_21 rfl ?_
        refine lv_iload_n C0.1 C0.2.1 dX10_times_23 rfl (lv_at hl 2 rfl) ?_
        refine z_imul C0.1 C0.2.1 dX10_times_24 ?_
        refine lv_iload C0.1 C0.2.1 dX10_times_25 (lv_at hl 5 rfl) ?_
        refine z_iadd C0.1 C0.2.1 dX10_times_27 ?_
        refine mm_iald C0 hM (g := g) (hg) (80 * a + k) (i := ((((80) * (j))) + ((k : Int)))) (by omega) (by omega) (by decide) dX10_times_28 ?_
        refine z_asI (b := (dg A k : Int)) (hP9.rd (by omega) (by omega) hA (hf2 k (Nat.le_refl _))) ?_
        refine z_i2l C0.1 C0.2.1 dX10_times_29 ⟨by omega, by omega⟩ ?_
        refine z_lmul C0.1 C0.2.1 dX10_times_30 ?_
        refine z_asL (a := ((v) * ((dg A k : Int)))) (b := (x9 : Int)) (by rw [hv, hx9]; exact (Int.natCast_mul _ _).symm) ?_
        refine z_ladd C0.1 C0.2.1 dX10_times_31 ?_
        refine z_asL (a := (((cy : Int)) + ((x9 : Int)))) (b := ((x9 + cy : Nat) : Int)) (by omega) ?_
        refine lv_lstore (lv' := [(7, .long (zL (((x9 + cy : Nat) : Int)))), (0, .ref (h)), (1, .int (zI (i))), (2, .int (zI (j))), (3, .long (zL (v))), (9, .int (zI ((k : Int))))]) C0.1 C0.2.1 dX10_times_32 hl (by decide) rfl (fun ls hl => ?_)
        refine lv_aload_n C0.1 C0.2.1 dX10_times_34 rfl (lv_at hl 1 rfl) ?_
        refine mm_get (fs := [.ref (h + 1), .ref (h + 2), .ref (h + 3), .ref (h + 4), .int (zI (x1)), .int (zI (x2)), .long (zL (x3)), .ref (h + 5), .ref (h + 6), .ref (h + 7), .ref (h + 8), .int (zI (x4)), .int (zI (x5)), .int (zI (x6)), .int (zI (x7)), .int (zI (x8)), .ref (h + 9), .ref (h + 10), .ref (h + 11), .ref (h + 12)]) C0 (C := RX10) (T := TX10) (N := 20) iG_X10 hM (hO) rfl 0 (by decide) tw_916 rfl rfl dX10_times_35 ?_
        refine lv_bipush (v := zI 80) C0.1 C0.2.1 dX10_times_38 rfl ?_
        refine lv_iload_n C0.1 C0.2.1 dX10_times_40 rfl (lv_at hl 2 rfl) ?_
        refine z_imul C0.1 C0.2.1 dX10_times_41 ?_
        refine lv_iload C0.1 C0.2.1 dX10_times_42 (lv_at hl 5 rfl) ?_
        refine z_iadd C0.1 C0.2.1 dX10_times_44 ?_
        refine lv_lload C0.1 C0.2.1 dX10_times_45 (lv_at hl 0 rfl) ?_
        refine mm_ldc2 (z := 1000000000) C0 tw_992 rfl dX10_times_47 ?_
        refine z_lremp C0.1 C0.2.1 dX10_times_50 ⟨by omega, by omega⟩ ⟨by omega, by omega⟩ (by omega) (by omega) ?_
        refine z_l2i C0.1 C0.2.1 dX10_times_51 ?_
        refine z_asI (a := ((((x9 + cy : Nat) : Int)) % (1000000000))) (b := (dg (mu * A + nu) k : Int)) (by omega) ?_
        refine mm_iast C0 hM hS (g := g) (hg) (80 * t + k) (i := ((((80) * (i))) + ((k : Int)))) (x := (dg (mu * A + nu) k : Int)) (by omega) (by omega) (by decide) dX10_times_52 (fun H locs hM hS hsz => ?_)
        obtain ⟨E2, hE2⟩ : ∃ X : mE, X = mm_up E1 (h + 1) (mm_I G 1280 (zup (g) (80 * t + k) ((dg (mu * A + nu) k : Int)))) := ⟨_, rfl⟩
        replace hM : mm_M G E2 H := by rw [hE2]; exact hM
        have frs : ∀ q : Nat, q ≠ h + 1 → E2 q = E1 q := fun q h => by rw [hE2]; exact mm_up_n _ _ h
        have hat : E2 (h + 1) = some (mm_I G 1280 (zup (g) (80 * t + k) ((dg (mu * A + nu) k : Int)))) := by rw [hE2]; exact mm_up_s _ _ _
        have hU : rgF G E2 h R t (nup f k (dg (mu * A + nu) k)) := ⟨hB9, _, hat, hP9.st (by omega)⟩
        have hO := ro.kept hO (frs _ (by omega))
        have hfr := (fun q h => (frs q (by omega)).trans (hfr q h) : ∀ q : Nat, (q ≠ h + 1) → E2 q = E0 q)
        refine lv_lload C0.1 C0.2.1 dX10_times_53 (lv_at hl 0 rfl) ?_
        refine mm_ldc2 (z := 1000000000) C0 tw_992 rfl dX10_times_55 ?_
        refine z_ldivp C0.1 C0.2.1 dX10_times_58 ⟨by omega, by omega⟩ ⟨by omega, by omega⟩ (by omega) (by omega) ?_
        refine z_asL (a := ((((x9 + cy : Nat) : Int)) / (1000000000))) (b := (((x9 + cy) / 1000000000 : Nat) : Int)) (by omega) ?_
        refine lv_lstore (lv' := [(7, .long (zL ((((x9 + cy) / 1000000000 : Nat) : Int)))), (0, .ref (h)), (1, .int (zI (i))), (2, .int (zI (j))), (3, .long (zL (v))), (9, .int (zI ((k : Int))))]) C0.1 C0.2.1 dX10_times_59 hl (by decide) rfl (fun ls hl => ?_)
        refine lv_iinc (v := zI (((k + 1 : Nat) : Int))) (lv' := [(9, .int (zI (((k + 1 : Nat) : Int)))), (7, .long (zL ((((x9 + cy) / 1000000000 : Nat) : Int)))), (0, .ref (h)), (1, .int (zI (i))), (2, .int (zI (j))), (3, .long (zL (v)))]) C0.1 C0.2.1 dX10_times_61 hl (k := 5) rfl (z_inc (a := (k : Int)) (n := 1) (by omega)) (by decide) rfl (fun ls hl => ?_)
        refine lv_goto (tgt := 7) C0.1 C0.2.1 dX10_times_64 (by decide) ?_
        exact ih7  (k + 1) ((x9 + cy) / 1000000000) (nup f k (dg (mu * A + nu) k)) E2 _ _ _ (by omega) (fun x hx => if q : x = k then (by subst q; exact nup_s _ _ _) else (by rw [nup_n _ _ q]; exact hf x (by omega))) (fun x hx => by rw [nup_n _ _ (by omega)]; exact hf2 x (by omega)) (by omega) (by rw [hs3, hq, hm1]) (hO) (hU) (hfr) (by omega) hM hS (lv_sub hl [2, 3, 4, 5, 1, 0] rfl)
  exact L7 (_ + 1) 0 nu (dg (R t)) E0 _ _ _ (Nat.zero_le _) (fun x hx => absurd hx (Nat.not_lt_zero _)) (fun x _ => rfl) (hn) (by rw [qt_0, qt_0]) (hO) (hU) (hfr) (Nat.lt_succ_self _) hM hS (lv_sub hl [2, 3, 4, 5, 1, 0] rfl)

def rX10_divide : Room := { frames := 0, cells := 0, slots := 0, locals := 0 }
theorem vw_X10_divide : mm_Vw RX10 yX10_divide cX10_divide 8 (some .long) 3 := ⟨tw_1099, tp_34, tw_10, tw_1100, by decide +kernel⟩
set_option maxHeartbeats 4000000 in
set_option maxRecDepth 100000 in
theorem c_X10_divide (l : Launch) (G : mG) (E0 : mE) {h : Nat} {x1 x2 x3 x4 x5 x6 x7 x8 : Int} (hO : ro G E0 h x1 x2 x3 x4 x5 x6 x7 x8) {R : Nat → Nat} (hR : rg G E0 h R) {i : Int} {t : Nat} (hi : i = (t : Int)) (ht : t < 16) {j : Int} {a A : Nat} (hj : j = (a : Int)) (ha : a < 16) (hA : R a = A) {v : Int} (d : Nat) (hv : v = (d : Int)) (hd0 : 0 < d) (hd : d < 1000000000) : mm_Cl l yX10_divide (.code yX10_divide cX10_divide 8 (some .long) :: wsG) rX10_divide G [.ref (h), .int (zI (i)), .int (zI (j)), .long (zL (v))] E0 (fun z E => z = ((A % d : Nat) : Int) ∧ (∃ R1, rg G E h R1 ∧ R1 t = (A / d) ∧ ∀ r, r ≠ t → R1 r = R r) ∧ ∀ q : Nat, (q ≠ h + 1) → E q = E0 q) := by
  refine mm_of_l (by decide +kernel) (Nat.le_of_ble_eq_true rfl) ?_
  intro p e s m args below meth c ls C0 hr hlk hM hl hS
  have hl : lv_has ls 8 [(0, .ref (h)), (1, .int (zI (i))), (2, .int (zI (j))), (3, .long (zL (v)))] := hl
  have hfr : ∀ q : Nat, (q ≠ h + 1) → E0 q = E0 q := fun _ _ => rfl
  have hU := hR.F t
  have hnA : nl A ≤ 80 := hA ▸ hR.1 a ha
  have hs : nl (A / d) ≤ 80 := Nat.le_trans (nl_mono (Nat.div_le_self A d)) hnA
  refine lv_lconst (v := zL 0) C0.1 C0.2.1 dX10_divide_0 rfl ?_
  refine lv_lstore (lv' := [(5, .long (zL (0))), (0, .ref (h)), (1, .int (zI (i))), (2, .int (zI (j))), (3, .long (zL (v)))]) C0.1 C0.2.1 dX10_divide_1 hl (by decide) rfl (fun ls hl => ?_)
  refine lv_bipush (v := zI 79) C0.1 C0.2.1 dX10_divide_3 rfl ?_
  refine lv_istore (lv' := [(7, .int (zI (79))), (5, .long (zL (0))), (0, .ref (h)), (1, .int (zI (i))), (2, .int (zI (j))), (3, .long (zL (v)))]) C0.1 C0.2.1 dX10_divide_5 hl (by decide) rfl (fun ls hl => ?_)
  have L7 : ∀ (k7 : Nat) (u cy : Nat) (f : Nat → Nat) (E1 : mE) (H : Heap) (locs : List Loc) (ls : Array Slot), (u ≤ 80) → (∀ x, u ≤ x → f x = dg (A / d) x) → (∀ x, x < u → f x = dg (R t) x) → (cy = qt A u % d) → (ro G E1 h x1 x2 x3 x4 x5 x6 x7 x8) → (rgF G E1 h R t f) → (∀ q : Nat, (q ≠ h + 1) → E1 q = E0 q) → u < k7 → mm_M G E1 H → va_S (mm_A G) s.heap H locs → lv_has ls 8 [(0, .ref (h)), (1, .int (zI (i))), (2, .int (zI (j))), (3, .long (zL (v))), (5, .long (zL ((cy : Int)))), (7, .int (zI ((u : Int) - 1)))] → W p l e rX10_divide s m args below meth c H locs 0 0 (mm_Zl G below args s (fun z E => z = ((A % d : Nat) : Int) ∧ (∃ R1, rg G E h R1 ∧ R1 t = (A / d) ∧ ∀ r, r ≠ t → R1 r = R r) ∧ ∀ q : Nat, (q ≠ h + 1) → E q = E0 q)) (F0 m 7 ls []) := by
    intro k7
    induction k7 with
    | zero => intro u cy f E1 H locs ls hu hf hf2 hc hO hU hfr hk hM hS hl; exact absurd hk (Nat.not_lt_zero _)
    | succ k7 ih7 =>
      intro u cy f E1 H locs ls hu hf hf2 hc hO hU hfr hk7 hM hS hl
      obtain ⟨hB9, g, hg, hP9⟩ := id hU
      have hcd : cy < d := hc ▸ Nat.mod_lt _ hd0
      have hd1 := dg_lt A (u - 1)
      refine lv_iload C0.1 C0.2.1 dX10_divide_7 (lv_at hl 5 rfl) ?_
      refine z_if_lt (tgt := 63) C0.1 C0.2.1 dX10_divide_9 (by decide) ⟨by omega, by omega⟩ (fun c_9 => ?_) (fun c_9 => ?_)
      · skip
        have hu0 : u = 0 := by omega
        subst hu0
        rw [qt_0] at hc
        refine lv_lload C0.1 C0.2.1 dX10_divide_63 (lv_at hl 4 rfl) ?_
        exact mm_lret (z := (cy : Int)) C0 hr hlk hM hS dX10_divide_65 (⟨by rw [hc], rgF.done hU hs (fun x hx => hf x (Nat.zero_le _)), hfr⟩)
      · skip
        obtain ⟨v9, hv9⟩ : ∃ v9, u = v9 + 1 := ⟨u - 1, by omega⟩
        have hcu : cy = qt A (u - 1 + 1) % d := by rw [hc]; congr 2; omega
        obtain ⟨hD1, hD2⟩ := qt_div (A := A) (d := d) (k := u - 1) hd0 hcu
        refine lv_lload C0.1 C0.2.1 dX10_divide_12 (lv_at hl 4 rfl) ?_
        refine mm_ldc2 (z := 1000000000) C0 tw_992 rfl dX10_divide_14 ?_
        refine z_lmul C0.1 C0.2.1 dX10_divide_17 ?_
        refine lv_aload_n C0.1 C0.2.1 dX10_divide_18 rfl (lv_at hl 0 rfl) ?_
        refine mm_get (fs := [.ref (h + 1), .ref (h + 2), .ref (h + 3), .ref (h + 4), .int (zI (x1)), .int (zI (x2)), .long (zL (x3)), .ref (h + 5), .ref (h + 6), .ref (h + 7), .ref (h + 8), .int (zI (x4)), .int (zI (x5)), .int (zI (x6)), .int (zI (x7)), .int (zI (x8)), .ref (h + 9), .ref (h + 10), .ref (h + 11), .ref (h + 12)]) C0 (C := RX10) (T := TX10) (N := 20) iG_X10 hM (hO) rfl 0 (by decide) tw_916 rfl rfl dX10_divide_19 ?_
        refine lv_bipush (v := zI 80) C0.1 C0.2.1 dX10_divide_22 rfl ?_
        refine lv_iload_n C0.1 C0.2.1 dX10_divide_24 rfl (lv_at hl 2 rfl) ?_
        refine z_imul C0.1 C0.2.1 dX10_divide_25 ?_
        refine lv_iload C0.1 C0.2.1 dX10_divide_26 (lv_at hl 5 rfl) ?_
        refine z_iadd C0.1 C0.2.1 dX10_divide_28 ?_
        refine mm_iald C0 hM (g := g) (hg) (80 * a + (u - 1)) (i := ((((80) * (j))) + ((u : Int) - 1))) (by omega) (by omega) (by decide) dX10_divide_29 ?_
        refine z_asI (b := (dg A (u - 1) : Int)) (hP9.rd (by omega) (by omega) hA (hf2 (u - 1) (by omega))) ?_
        refine z_i2l C0.1 C0.2.1 dX10_divide_30 ⟨by omega, by omega⟩ ?_
        refine z_ladd C0.1 C0.2.1 dX10_divide_31 ?_
        refine z_asL (a := (((((cy : Int)) * (1000000000))) + ((dg A (u - 1) : Int)))) (b := ((cy * 1000000000 + dg A (u - 1) : Nat) : Int)) (by omega) ?_
        refine lv_lstore (lv' := [(5, .long (zL (((cy * 1000000000 + dg A (u - 1) : Nat) : Int)))), (0, .ref (h)), (1, .int (zI (i))), (2, .int (zI (j))), (3, .long (zL (v))), (7, .int (zI ((u : Int) - 1)))]) C0.1 C0.2.1 dX10_divide_32 hl (by decide) rfl (fun ls hl => ?_)
        refine lv_aload_n C0.1 C0.2.1 dX10_divide_34 rfl (lv_at hl 1 rfl) ?_
        refine mm_get (fs := [.ref (h + 1), .ref (h + 2), .ref (h + 3), .ref (h + 4), .int (zI (x1)), .int (zI (x2)), .long (zL (x3)), .ref (h + 5), .ref (h + 6), .ref (h + 7), .ref (h + 8), .int (zI (x4)), .int (zI (x5)), .int (zI (x6)), .int (zI (x7)), .int (zI (x8)), .ref (h + 9), .ref (h + 10), .ref (h + 11), .ref (h + 12)]) C0 (C := RX10) (T := TX10) (N := 20) iG_X10 hM (hO) rfl 0 (by decide) tw_916 rfl rfl dX10_divide_35 ?_
        refine lv_bipush (v := zI 80) C0.1 C0.2.1 dX10_divide_38 rfl ?_
        refine lv_iload_n C0.1 C0.2.1 dX10_divide_40 rfl (lv_at hl 2 rfl) ?_
        refine z_imul C0.1 C0.2.1 dX10_divide_41 ?_
        refine lv_iload C0.1 C0.2.1 dX10_divide_42 (lv_at hl 5 rfl) ?_
        refine z_iadd C0.1 C0.2.1 dX10_divide_44 ?_
        refine lv_lload C0.1 C0.2.1 dX10_divide_45 (lv_at hl 0 rfl) ?_
        refine lv_lload_n C0.1 C0.2.1 dX10_divide_47 rfl (lv_at hl 4 rfl) ?_
        refine z_ldivp C0.1 C0.2.1 dX10_divide_48 ⟨by omega, by omega⟩ ⟨by omega, by omega⟩ (by omega) (by omega) ?_
        refine z_l2i C0.1 C0.2.1 dX10_divide_49 ?_
        refine z_asI (a := ((((cy * 1000000000 + dg A (u - 1) : Nat) : Int)) / (v))) (b := (dg (A / d) (u - 1) : Int)) (by rw [hv, ← hD1]; exact (Int.natCast_ediv _ _).symm) ?_
        refine mm_iast C0 hM hS (g := g) (hg) (80 * t + (u - 1)) (i := ((((80) * (i))) + ((u : Int) - 1))) (x := (dg (A / d) (u - 1) : Int)) (by omega) (by omega) (by decide) dX10_divide_50 (fun H locs hM hS hsz => ?_)
        obtain ⟨E2, hE2⟩ : ∃ X : mE, X = mm_up E1 (h + 1) (mm_I G 1280 (zup (g) (80 * t + (u - 1)) ((dg (A / d) (u - 1) : Int)))) := ⟨_, rfl⟩
        replace hM : mm_M G E2 H := by rw [hE2]; exact hM
        have frs : ∀ q : Nat, q ≠ h + 1 → E2 q = E1 q := fun q h => by rw [hE2]; exact mm_up_n _ _ h
        have hat : E2 (h + 1) = some (mm_I G 1280 (zup (g) (80 * t + (u - 1)) ((dg (A / d) (u - 1) : Int)))) := by rw [hE2]; exact mm_up_s _ _ _
        have hU : rgF G E2 h R t (nup f (u - 1) (dg (A / d) (u - 1))) := ⟨hB9, _, hat, hP9.st (by omega)⟩
        have hO := ro.kept hO (frs _ (by omega))
        have hfr := (fun q h => (frs q (by omega)).trans (hfr q h) : ∀ q : Nat, (q ≠ h + 1) → E2 q = E0 q)
        refine lv_lload C0.1 C0.2.1 dX10_divide_51 (lv_at hl 0 rfl) ?_
        refine lv_lload_n C0.1 C0.2.1 dX10_divide_53 rfl (lv_at hl 4 rfl) ?_
        refine z_lremp C0.1 C0.2.1 dX10_divide_54 ⟨by omega, by omega⟩ ⟨by omega, by omega⟩ (by omega) (by omega) ?_
        refine z_asL (a := ((((cy * 1000000000 + dg A (u - 1) : Nat) : Int)) % (v))) (b := (((cy * 1000000000 + dg A (u - 1)) % d : Nat) : Int)) (by rw [hv]; exact (Int.natCast_emod _ _).symm) ?_
        refine lv_lstore (lv' := [(5, .long (zL ((((cy * 1000000000 + dg A (u - 1)) % d : Nat) : Int)))), (0, .ref (h)), (1, .int (zI (i))), (2, .int (zI (j))), (3, .long (zL (v))), (7, .int (zI ((u : Int) - 1)))]) C0.1 C0.2.1 dX10_divide_55 hl (by decide) rfl (fun ls hl => ?_)
        refine lv_iinc (v := zI (((u - 1 : Nat) : Int) - 1)) (lv' := [(7, .int (zI (((u - 1 : Nat) : Int) - 1))), (5, .long (zL ((((cy * 1000000000 + dg A (u - 1)) % d : Nat) : Int)))), (0, .ref (h)), (1, .int (zI (i))), (2, .int (zI (j))), (3, .long (zL (v)))]) C0.1 C0.2.1 dX10_divide_57 hl (k := 5) rfl (z_inc (a := (u : Int) - 1) (n := (-1)) (by omega)) (by decide) rfl (fun ls hl => ?_)
        refine lv_goto (tgt := 7) C0.1 C0.2.1 dX10_divide_60 (by decide) ?_
        exact ih7  (u - 1) ((cy * 1000000000 + dg A (u - 1)) % d) (nup f (u - 1) (dg (A / d) (u - 1))) E2 _ _ _ (by omega) (fun x hx => if q : x = u - 1 then (by subst q; exact nup_s _ _ _) else (by rw [nup_n _ _ q]; exact hf x (by omega))) (fun x hx => by rw [nup_n _ _ (by omega)]; exact hf2 x (by omega)) (hD2) (hO) (hU) (hfr) (by omega) hM hS (lv_sub hl [2, 3, 4, 5, 1, 0] rfl)
  exact L7 (_ + 1) 80 0 (dg (R t)) E0 _ _ _ (by omega) (fun x hx => by rw [dg_hi (by have := hA ▸ hR.1 a ha; have := hR.1 t ht; omega), dg_hi (by omega)]) (fun x _ => rfl) (by rw [qt_z hnA, Nat.zero_mod]) (hO) (hU) (hfr) (Nat.lt_succ_self _) hM hS (lv_sub hl [2, 3, 4, 5, 1, 0] rfl)
