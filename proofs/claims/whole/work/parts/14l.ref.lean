theorem two_l {S : mST} {a b A B A2 B2 : Nat} (h1 : 24 < nl A) (h2 : 24 < nl A2) : two_ S a b A B = two_ S a b A2 B2 := by unfold two_; rw [if_pos h1, if_pos h2]
theorem pel_e {d x y n : Nat} : (pel d x y (n + 1)).1 = x * (pel d x y n).1 + (d * (y * (pel d x y n).2) + 0) ∧ (pel d x y (n + 1)).2 = x * (pel d x y n).2 + y * (pel d x y n).1 := by
  constructor
  · show (pel d x y n).2 * y * d + (pel d x y n).1 * x = _
    generalize (pel d x y n).1 = X
    generalize (pel d x y n).2 = Y
    grind
  · show (pel d x y n).2 * x + (pel d x y n).1 * y = _
    generalize (pel d x y n).1 = X
    generalize (pel d x y n).2 = Y
    grind
theorem cv_e (d f n : Nat) : (cv d f (n + 1)).1.1 = ((cf d f (n + 1)).2.2 * (cv d f n).1.1 + 0) + (cv d f n).1.2 ∧ (cv d f (n + 1)).1.2 = (cv d f n).1.1 ∧ (cv d f (n + 1)).2.1 = ((cf d f (n + 1)).2.2 * (cv d f n).2.1 + 0) + (cv d f n).2.2 ∧ (cv d f (n + 1)).2.2 = (cv d f n).2.1 := by
  refine ⟨?_, rfl, ?_, rfl⟩
  · rw [Nat.add_zero, Nat.mul_comm]; rfl
  · rw [Nat.add_zero, Nat.mul_comm]; rfl

def rX10_findNear : Room := { frames := 2, cells := 0, slots := 0, locals := 48 }
theorem vw_X10_findNear : mm_Vw RX10 yX10_findNear cX10_findNear 4 none 2 := ⟨tw_1223, tp_49, tw_10, tw_1224, by decide +kernel⟩
set_option maxHeartbeats 4000000 in
set_option maxRecDepth 100000 in
theorem c_X10_findNear (l : Launch) (G : mG) (E0 : mE) {h : Nat} {x1 x2 x3 x4 x5 x6 x7 x8 : Int} (hO : ro G E0 h x1 x2 x3 x4 x5 x6 x7 x8) {R : Nat → Nat} (hR : rg G E0 h R) {dd : Int} {d f : Nat} (hdd : dd = (d : Int)) (hrl : rl d f) {ii : Int} {n : Nat} (hii : ii = (n : Int)) (hn9 : n ≤ 1000) (hb : nl (cvp d f n) ≤ 79) : mm_Cv l yX10_findNear (.code yX10_findNear cX10_findNear 4 none :: wsG) rX10_findNear G [.ref (h), .int (zI (dd)), .int (zI (ii))] E0 (fun E => (∃ R1, rg G E h R1 ∧ R1 8 = cvp d f n ∧ R1 10 = cvq d f n ∧ ∀ r, r < 8 → R1 r = R r) ∧ (∃ y5 y6 y7 : Int, ro G E h x1 x2 x3 x4 y5 y6 y7 x8) ∧ ∀ q : Nat, (q ≠ h ∧ q ≠ h + 1) → E q = E0 q) := by
  refine mm_of_v (by decide +kernel) (Nat.le_of_ble_eq_true rfl) ?_
  intro p e s m args below meth c ls C0 hr hlk hM hl hS
  have hl : lv_has ls 4 [(0, .ref (h)), (1, .int (zI (dd))), (2, .int (zI (ii)))] := hl
  have hfr : ∀ q : Nat, (q ≠ h ∧ q ≠ h + 1) → E0 q = E0 q := fun _ _ => rfl
  obtain ⟨hj1, hj2, hj3, hj4, hj5⟩ := id hrl
  refine lv_aload_n C0.1 C0.2.1 dX10_findNear_0 rfl (lv_at hl 0 rfl) ?_
  refine lv_iload_n C0.1 C0.2.1 dX10_findNear_1 rfl (lv_at hl 1 rfl) ?_
  refine mm_callVv (As := [.int (zI (dd))]) C0 vw_X10_beginParts tw_1205 (c_X10_beginParts l G _ hO hdd hrl) hM (hO) rfl rfl hl.1 rfl (Nat.le_of_ble_eq_true rfl) ⟨rfl, rfl, Nat.le_of_ble_eq_true rfl, Nat.le_of_ble_eq_true rfl, Nat.zero_le _, Nat.zero_le _⟩ dX10_findNear_2 hS (fun E1 H locs hp hM hS => ?_)
  obtain ⟨hO, fr⟩ := hp
  have hR := rg.kept hR (fr _ (by omega))
  have hfr := (fun q h => (fr q (by omega)).trans (hfr q h) : ∀ q : Nat, (q ≠ h ∧ q ≠ h + 1) → E1 q = E0 q)
  refine lv_aload_n C0.1 C0.2.1 dX10_findNear_5 rfl (lv_at hl 0 rfl) ?_
  refine lv_bipush (v := zI 9) C0.1 C0.2.1 dX10_findNear_6 rfl ?_
  refine lv_lconst (v := zL 1) C0.1 C0.2.1 dX10_findNear_8 rfl ?_
  refine mm_callVv (As := [.int (zI (9)), .long (zL (1))]) C0 vw_X10_set tw_988 (c_X10_set l G _ hO hR (t := 9) rfl (by omega) 1 rfl (by omega)) hM (hO) rfl rfl hl.1 rfl (Nat.le_of_ble_eq_true rfl) ⟨rfl, rfl, Nat.le_of_ble_eq_true rfl, Nat.le_of_ble_eq_true rfl, Nat.zero_le _, Nat.zero_le _⟩ dX10_findNear_9 hS (fun E2 H locs hp hM hS => ?_)
  obtain ⟨⟨R1, hR1, v9, kr1⟩, fr⟩ := hp
  have hO := ro.kept hO (fr _ (by omega))
  have hfr := (fun q h => (fr q (by omega)).trans (hfr q h) : ∀ q : Nat, (q ≠ h ∧ q ≠ h + 1) → E2 q = E0 q)
  refine lv_aload_n C0.1 C0.2.1 dX10_findNear_12 rfl (lv_at hl 0 rfl) ?_
  refine lv_bipush (v := zI 11) C0.1 C0.2.1 dX10_findNear_13 rfl ?_
  refine lv_lconst (v := zL 0) C0.1 C0.2.1 dX10_findNear_15 rfl ?_
  refine mm_callVv (As := [.int (zI (11)), .long (zL (0))]) C0 vw_X10_set tw_988 (c_X10_set l G _ hO hR1 (t := 11) rfl (by omega) 0 rfl (by omega)) hM (hO) rfl rfl hl.1 rfl (Nat.le_of_ble_eq_true rfl) ⟨rfl, rfl, Nat.le_of_ble_eq_true rfl, Nat.le_of_ble_eq_true rfl, Nat.zero_le _, Nat.zero_le _⟩ dX10_findNear_16 hS (fun E3 H locs hp hM hS => ?_)
  obtain ⟨⟨R2, hR2, v11, kr2⟩, fr⟩ := hp
  have hO := ro.kept hO (fr _ (by omega))
  have hfr := (fun q h => (fr q (by omega)).trans (hfr q h) : ∀ q : Nat, (q ≠ h ∧ q ≠ h + 1) → E3 q = E0 q)
  refine lv_aload_n C0.1 C0.2.1 dX10_findNear_19 rfl (lv_at hl 0 rfl) ?_
  refine lv_bipush (v := zI 8) C0.1 C0.2.1 dX10_findNear_20 rfl ?_
  refine lv_aload_n C0.1 C0.2.1 dX10_findNear_22 rfl (lv_at hl 0 rfl) ?_
  refine mm_get (fs := [.ref (h + 1), .ref (h + 2), .ref (h + 3), .ref (h + 4), .int (zI (x1)), .int (zI (x2)), .long (zL (x3)), .ref (h + 5), .ref (h + 6), .ref (h + 7), .ref (h + 8), .int (zI (x4)), .int (zI (((cf d f 0).1 : Int))), .int (zI (((cf d f 0).2.1 : Int))), .int (zI (((cf d f 0).2.2 : Int))), .int (zI (x8)), .ref (h + 9), .ref (h + 10), .ref (h + 11), .ref (h + 12)]) C0 (C := RX10) (T := TX10) (N := 20) iG_X10 hM (hO) rfl 14 (by decide) tw_930 rfl rfl dX10_findNear_23 ?_
  refine z_asI (a := ((cf d f 0).2.2 : Int)) (b := (f : Int)) (rfl) ?_
  refine z_i2l C0.1 C0.2.1 dX10_findNear_26 ⟨by omega, by omega⟩ ?_
  refine mm_callVv (As := [.int (zI (8)), .long (zL ((f : Int)))]) C0 vw_X10_set tw_988 (c_X10_set l G _ hO hR2 (t := 8) rfl (by omega) f rfl (by omega)) hM (hO) rfl rfl hl.1 rfl (Nat.le_of_ble_eq_true rfl) ⟨rfl, rfl, Nat.le_of_ble_eq_true rfl, Nat.le_of_ble_eq_true rfl, Nat.zero_le _, Nat.zero_le _⟩ dX10_findNear_27 hS (fun E4 H locs hp hM hS => ?_)
  obtain ⟨⟨R3, hR3, v8, kr3⟩, fr⟩ := hp
  have hO := ro.kept hO (fr _ (by omega))
  have hfr := (fun q h => (fr q (by omega)).trans (hfr q h) : ∀ q : Nat, (q ≠ h ∧ q ≠ h + 1) → E4 q = E0 q)
  refine lv_aload_n C0.1 C0.2.1 dX10_findNear_30 rfl (lv_at hl 0 rfl) ?_
  refine lv_bipush (v := zI 10) C0.1 C0.2.1 dX10_findNear_31 rfl ?_
  refine lv_lconst (v := zL 1) C0.1 C0.2.1 dX10_findNear_33 rfl ?_
  refine mm_callVv (As := [.int (zI (10)), .long (zL (1))]) C0 vw_X10_set tw_988 (c_X10_set l G _ hO hR3 (t := 10) rfl (by omega) 1 rfl (by omega)) hM (hO) rfl rfl hl.1 rfl (Nat.le_of_ble_eq_true rfl) ⟨rfl, rfl, Nat.le_of_ble_eq_true rfl, Nat.le_of_ble_eq_true rfl, Nat.zero_le _, Nat.zero_le _⟩ dX10_findNear_34 hS (fun E5 H locs hp hM hS => ?_)
  obtain ⟨⟨R4, hR4, v10, kr4⟩, fr⟩ := hp
  have hO := ro.kept hO (fr _ (by omega))
  have hfr := (fun q h => (fr q (by omega)).trans (hfr q h) : ∀ q : Nat, (q ≠ h ∧ q ≠ h + 1) → E5 q = E0 q)
  refine lv_iconst (v := zI 0) C0.1 C0.2.1 dX10_findNear_37 rfl ?_
  refine lv_istore_n (lv' := [(3, .int (zI (0))), (0, .ref (h)), (1, .int (zI (dd))), (2, .int (zI (ii)))]) C0.1 C0.2.1 dX10_findNear_38 rfl hl (by decide) rfl (fun ls hl => ?_)
  have L39 : ∀ (k39 : Nat) (k : Nat) (R1 : Nat → Nat) (E6 : mE) (H : Heap) (locs : List Loc) (ls : Array Slot), (k ≤ n) → (R1 8 = (cv d f k).1.1) → (R1 9 = (cv d f k).1.2) → (R1 10 = (cv d f k).2.1) → (R1 11 = (cv d f k).2.2) → (∀ r, r < 8 → R1 r = R r) → (ro G E6 h x1 x2 x3 x4 ((cf d f k).1 : Int) ((cf d f k).2.1 : Int) ((cf d f k).2.2 : Int) x8) → (rg G E6 h R1) → (∀ q : Nat, (q ≠ h ∧ q ≠ h + 1) → E6 q = E0 q) → n - k < k39 → mm_M G E6 H → va_S (mm_A G) s.heap H locs → lv_has ls 4 [(0, .ref (h)), (1, .int (zI (dd))), (2, .int (zI (ii))), (3, .int (zI ((k : Int))))] → W p l e rX10_findNear s m args below meth c H locs 0 0 (mm_Zv G below args s (fun E => (∃ R1, rg G E h R1 ∧ R1 8 = cvp d f n ∧ R1 10 = cvq d f n ∧ ∀ r, r < 8 → R1 r = R r) ∧ (∃ y5 y6 y7 : Int, ro G E h x1 x2 x3 x4 y5 y6 y7 x8) ∧ ∀ q : Nat, (q ≠ h ∧ q ≠ h + 1) → E q = E0 q)) (F0 m 39 ls []) := by
    intro k39
    induction k39 with
    | zero => intro k R1 E6 H locs ls hk9 v8 v9 v10 v11 k1 hO hR1 hfr hk hM hS hl; exact absurd hk (Nat.not_lt_zero _)
    | succ k39 ih39 =>
      intro k R1 E6 H locs ls hk9 v8 v9 v10 v11 k1 hO hR1 hfr hk39 hM hS hl
      refine lv_iload_n C0.1 C0.2.1 dX10_findNear_39 rfl (lv_at hl 3 rfl) ?_
      refine lv_iload_n C0.1 C0.2.1 dX10_findNear_40 rfl (lv_at hl 2 rfl) ?_
      refine z_icmp_ge (tgt := 135) C0.1 C0.2.1 dX10_findNear_41 (by decide) ⟨by omega, by omega⟩ ⟨by omega, by omega⟩ (fun c_41 => ?_) (fun c_41 => ?_)
      · skip
        have hkn : k = n := by omega
        subst hkn
        exact mm_vret C0 hr hlk hM hS dX10_findNear_135 (⟨⟨R1, hR1, v8, v10, k1⟩, ⟨_, _, _, hO⟩, hfr⟩)
      · skip
        obtain ⟨hca1, hca2⟩ := cf_a hrl (k + 1)
        obtain ⟨hce1, hce2, hce3, hce4⟩ := cv_e d f k
        have hnk1 : nl (cv d f (k + 1)).1.1 ≤ 79 := Nat.le_trans (nl_mono (cv_mono hj1 hj3 hj4 (show k + 1 ≤ n by omega))) hb
        have hnk2 : nl (cv d f (k + 1)).2.1 ≤ 79 := Nat.le_trans (nl_mono (cv_old hrl (k + 1)).2.1) hnk1
        have hle1 : (cf d f (k + 1)).2.2 * (cv d f k).1.1 + 0 ≤ (cv d f (k + 1)).1.1 := by rw [hce1]; exact Nat.le_add_right _ _
        have hle2 : (cf d f (k + 1)).2.2 * (cv d f k).2.1 + 0 ≤ (cv d f (k + 1)).2.1 := by rw [hce3]; exact Nat.le_add_right _ _
        refine lv_aload_n C0.1 C0.2.1 dX10_findNear_44 rfl (lv_at hl 0 rfl) ?_
        refine lv_iload_n C0.1 C0.2.1 dX10_findNear_45 rfl (lv_at hl 1 rfl) ?_
        refine mm_callVv (As := [.int (zI (dd))]) C0 vw_X10_goOn tw_1209 (c_X10_goOn l G _ hdd hrl hO) hM (hO) rfl rfl hl.1 rfl (Nat.le_of_ble_eq_true rfl) ⟨rfl, rfl, Nat.le_of_ble_eq_true rfl, Nat.le_of_ble_eq_true rfl, Nat.zero_le _, Nat.zero_le _⟩ dX10_findNear_46 hS (fun E7 H locs hp hM hS => ?_)
        obtain ⟨hO, fr⟩ := hp
        have hR1 := rg.kept hR1 (fr _ (by omega))
        have hfr := (fun q h => (fr q (by omega)).trans (hfr q h) : ∀ q : Nat, (q ≠ h ∧ q ≠ h + 1) → E7 q = E0 q)
        refine lv_aload_n C0.1 C0.2.1 dX10_findNear_49 rfl (lv_at hl 0 rfl) ?_
        refine lv_bipush (v := zI 12) C0.1 C0.2.1 dX10_findNear_50 rfl ?_
        refine lv_bipush (v := zI 8) C0.1 C0.2.1 dX10_findNear_52 rfl ?_
        refine lv_aload_n C0.1 C0.2.1 dX10_findNear_54 rfl (lv_at hl 0 rfl) ?_
        refine mm_get (fs := [.ref (h + 1), .ref (h + 2), .ref (h + 3), .ref (h + 4), .int (zI (x1)), .int (zI (x2)), .long (zL (x3)), .ref (h + 5), .ref (h + 6), .ref (h + 7), .ref (h + 8), .int (zI (x4)), .int (zI (((cf d f (k + 1)).1 : Int))), .int (zI (((cf d f (k + 1)).2.1 : Int))), .int (zI (((cf d f (k + 1)).2.2 : Int))), .int (zI (x8)), .ref (h + 9), .ref (h + 10), .ref (h + 11), .ref (h + 12)]) C0 (C := RX10) (T := TX10) (N := 20) iG_X10 hM (hO) rfl 14 (by decide) tw_930 rfl rfl dX10_findNear_55 ?_
        refine z_i2l C0.1 C0.2.1 dX10_findNear_58 ⟨by omega, by omega⟩ ?_
        refine lv_lconst (v := zL 0) C0.1 C0.2.1 dX10_findNear_59 rfl ?_
        refine mm_callVv (As := [.int (zI (12)), .int (zI (8)), .long (zL (((cf d f (k + 1)).2.2 : Int))), .long (zL (0))]) C0 vw_X10_times tw_1035 (c_X10_times l G _ hO hR1 (t := 12) rfl (by omega) (a := 8) rfl (by omega) v8 (cf d f (k + 1)).2.2 0 rfl rfl (by omega) (by omega) (Nat.le_trans (nl_mono hle1) (by omega))) hM (hO) rfl rfl hl.1 rfl (Nat.le_of_ble_eq_true rfl) ⟨rfl, rfl, Nat.le_of_ble_eq_true rfl, Nat.le_of_ble_eq_true rfl, Nat.zero_le _, Nat.zero_le _⟩ dX10_findNear_60 hS (fun E8 H locs hp hM hS => ?_)
        obtain ⟨⟨R2, hR2, v12, kr2⟩, fr⟩ := hp
        have hO := ro.kept hO (fr _ (by omega))
        have hfr := (fun q h => (fr q (by omega)).trans (hfr q h) : ∀ q : Nat, (q ≠ h ∧ q ≠ h + 1) → E8 q = E0 q)
        refine lv_aload_n C0.1 C0.2.1 dX10_findNear_63 rfl (lv_at hl 0 rfl) ?_
        refine lv_bipush (v := zI 12) C0.1 C0.2.1 dX10_findNear_64 rfl ?_
        refine lv_bipush (v := zI 12) C0.1 C0.2.1 dX10_findNear_66 rfl ?_
        refine lv_bipush (v := zI 9) C0.1 C0.2.1 dX10_findNear_68 rfl ?_
        refine mm_callVv (As := [.int (zI (12)), .int (zI (12)), .int (zI (9))]) C0 vw_X10_add tw_1101 (c_X10_add l G _ hO hR2 (t := 12) rfl (by omega) (a := 12) rfl (by omega) v12 (b := 9) rfl (by omega) ((kr2 9 (by omega)).trans v9) (by rw [← hce1]; omega)) hM (hO) rfl rfl hl.1 rfl (Nat.le_of_ble_eq_true rfl) ⟨rfl, rfl, Nat.le_of_ble_eq_true rfl, Nat.le_of_ble_eq_true rfl, Nat.zero_le _, Nat.zero_le _⟩ dX10_findNear_70 hS (fun E9 H locs hp hM hS => ?_)
        obtain ⟨⟨R3, hR3, v12, kr3⟩, fr⟩ := hp
        have hO := ro.kept hO (fr _ (by omega))
        have hfr := (fun q h => (fr q (by omega)).trans (hfr q h) : ∀ q : Nat, (q ≠ h ∧ q ≠ h + 1) → E9 q = E0 q)
        rw [← hce1] at v12
        have k3 : ∀ r, r ≠ 12 → R3 r = R1 r := fun r q => (kr3 r q).trans (kr2 r q)
        refine lv_aload_n C0.1 C0.2.1 dX10_findNear_73 rfl (lv_at hl 0 rfl) ?_
        refine lv_bipush (v := zI 9) C0.1 C0.2.1 dX10_findNear_74 rfl ?_
        refine lv_bipush (v := zI 8) C0.1 C0.2.1 dX10_findNear_76 rfl ?_
        refine mm_callVv (As := [.int (zI (9)), .int (zI (8))]) C0 vw_X10_copy tw_1047 (c_X10_copy l G _ hO hR3 (t := 9) rfl (by omega) (a := 8) rfl (by omega) ((k3 8 (by omega)).trans v8)) hM (hO) rfl rfl hl.1 rfl (Nat.le_of_ble_eq_true rfl) ⟨rfl, rfl, Nat.le_of_ble_eq_true rfl, Nat.le_of_ble_eq_true rfl, Nat.zero_le _, Nat.zero_le _⟩ dX10_findNear_78 hS (fun E10 H locs hp hM hS => ?_)
        obtain ⟨⟨R4, hR4, v9, kr4⟩, fr⟩ := hp
        have hO := ro.kept hO (fr _ (by omega))
        have hfr := (fun q h => (fr q (by omega)).trans (hfr q h) : ∀ q : Nat, (q ≠ h ∧ q ≠ h + 1) → E10 q = E0 q)
        refine lv_aload_n C0.1 C0.2.1 dX10_findNear_81 rfl (lv_at hl 0 rfl) ?_
        refine lv_bipush (v := zI 8) C0.1 C0.2.1 dX10_findNear_82 rfl ?_
        refine lv_bipush (v := zI 12) C0.1 C0.2.1 dX10_findNear_84 rfl ?_
        refine mm_callVv (As := [.int (zI (8)), .int (zI (12))]) C0 vw_X10_copy tw_1047 (c_X10_copy l G _ hO hR4 (t := 8) rfl (by omega) (a := 12) rfl (by omega) ((kr4 12 (by omega)).trans v12)) hM (hO) rfl rfl hl.1 rfl (Nat.le_of_ble_eq_true rfl) ⟨rfl, rfl, Nat.le_of_ble_eq_true rfl, Nat.le_of_ble_eq_true rfl, Nat.zero_le _, Nat.zero_le _⟩ dX10_findNear_86 hS (fun E11 H locs hp hM hS => ?_)
        obtain ⟨⟨R5, hR5, v8, kr5⟩, fr⟩ := hp
        have hO := ro.kept hO (fr _ (by omega))
        have hfr := (fun q h => (fr q (by omega)).trans (hfr q h) : ∀ q : Nat, (q ≠ h ∧ q ≠ h + 1) → E11 q = E0 q)
        have v510 : R5 10 = (cv d f k).2.1 := (kr5 10 (by omega)).trans ((kr4 10 (by omega)).trans ((k3 10 (by omega)).trans v10))
        have v511 : R5 11 = (cv d f k).2.2 := (kr5 11 (by omega)).trans ((kr4 11 (by omega)).trans ((k3 11 (by omega)).trans v11))
        have v9 : R5 9 = _ := (kr5 9 (by omega)).trans v9
        refine lv_aload_n C0.1 C0.2.1 dX10_findNear_89 rfl (lv_at hl 0 rfl) ?_
        refine lv_bipush (v := zI 12) C0.1 C0.2.1 dX10_findNear_90 rfl ?_
        refine lv_bipush (v := zI 10) C0.1 C0.2.1 dX10_findNear_92 rfl ?_
        refine lv_aload_n C0.1 C0.2.1 dX10_findNear_94 rfl (lv_at hl 0 rfl) ?_
        refine mm_get (fs := [.ref (h + 1), .ref (h + 2), .ref (h + 3), .ref (h + 4), .int (zI (x1)), .int (zI (x2)), .long (zL (x3)), .ref (h + 5), .ref (h + 6), .ref (h + 7), .ref (h + 8), .int (zI (x4)), .int (zI (((cf d f (k + 1)).1 : Int))), .int (zI (((cf d f (k + 1)).2.1 : Int))), .int (zI (((cf d f (k + 1)).2.2 : Int))), .int (zI (x8)), .ref (h + 9), .ref (h + 10), .ref (h + 11), .ref (h + 12)]) C0 (C := RX10) (T := TX10) (N := 20) iG_X10 hM (hO) rfl 14 (by decide) tw_930 rfl rfl dX10_findNear_95 ?_
        refine z_i2l C0.1 C0.2.1 dX10_findNear_98 ⟨by omega, by omega⟩ ?_
        refine lv_lconst (v := zL 0) C0.1 C0.2.1 dX10_findNear_99 rfl ?_
        refine mm_callVv (As := [.int (zI (12)), .int (zI (10)), .long (zL (((cf d f (k + 1)).2.2 : Int))), .long (zL (0))]) C0 vw_X10_times tw_1035 (c_X10_times l G _ hO hR5 (t := 12) rfl (by omega) (a := 10) rfl (by omega) v510 (cf d f (k + 1)).2.2 0 rfl rfl (by omega) (by omega) (Nat.le_trans (nl_mono hle2) (by omega))) hM (hO) rfl rfl hl.1 rfl (Nat.le_of_ble_eq_true rfl) ⟨rfl, rfl, Nat.le_of_ble_eq_true rfl, Nat.le_of_ble_eq_true rfl, Nat.zero_le _, Nat.zero_le _⟩ dX10_findNear_100 hS (fun E12 H locs hp hM hS => ?_)
        obtain ⟨⟨R6, hR6, v12, kr6⟩, fr⟩ := hp
        have hO := ro.kept hO (fr _ (by omega))
        have hfr := (fun q h => (fr q (by omega)).trans (hfr q h) : ∀ q : Nat, (q ≠ h ∧ q ≠ h + 1) → E12 q = E0 q)
        refine lv_aload_n C0.1 C0.2.1 dX10_findNear_103 rfl (lv_at hl 0 rfl) ?_
        refine lv_bipush (v := zI 12) C0.1 C0.2.1 dX10_findNear_104 rfl ?_
        refine lv_bipush (v := zI 12) C0.1 C0.2.1 dX10_findNear_106 rfl ?_
        refine lv_bipush (v := zI 11) C0.1 C0.2.1 dX10_findNear_108 rfl ?_
        refine mm_callVv (As := [.int (zI (12)), .int (zI (12)), .int (zI (11))]) C0 vw_X10_add tw_1101 (c_X10_add l G _ hO hR6 (t := 12) rfl (by omega) (a := 12) rfl (by omega) v12 (b := 11) rfl (by omega) ((kr6 11 (by omega)).trans v511) (by rw [← hce3]; omega)) hM (hO) rfl rfl hl.1 rfl (Nat.le_of_ble_eq_true rfl) ⟨rfl, rfl, Nat.le_of_ble_eq_true rfl, Nat.le_of_ble_eq_true rfl, Nat.zero_le _, Nat.zero_le _⟩ dX10_findNear_110 hS (fun E13 H locs hp hM hS => ?_)
        obtain ⟨⟨R7, hR7, v12, kr7⟩, fr⟩ := hp
        have hO := ro.kept hO (fr _ (by omega))
        have hfr := (fun q h => (fr q (by omega)).trans (hfr q h) : ∀ q : Nat, (q ≠ h ∧ q ≠ h + 1) → E13 q = E0 q)
        rw [← hce3] at v12
        have k7 : ∀ r, r ≠ 12 → R7 r = R5 r := fun r q => (kr7 r q).trans (kr6 r q)
        refine lv_aload_n C0.1 C0.2.1 dX10_findNear_113 rfl (lv_at hl 0 rfl) ?_
        refine lv_bipush (v := zI 11) C0.1 C0.2.1 dX10_findNear_114 rfl ?_
        refine lv_bipush (v := zI 10) C0.1 C0.2.1 dX10_findNear_116 rfl ?_
        refine mm_callVv (As := [.int (zI (11)), .int (zI (10))]) C0 vw_X10_copy tw_1047 (c_X10_copy l G _ hO hR7 (t := 11) rfl (by omega) (a := 10) rfl (by omega) ((k7 10 (by omega)).trans v510)) hM (hO) rfl rfl hl.1 rfl (Nat.le_of_ble_eq_true rfl) ⟨rfl, rfl, Nat.le_of_ble_eq_true rfl, Nat.le_of_ble_eq_true rfl, Nat.zero_le _, Nat.zero_le _⟩ dX10_findNear_118 hS (fun E14 H locs hp hM hS => ?_)
        obtain ⟨⟨R8, hR8, v11, kr8⟩, fr⟩ := hp
        have hO := ro.kept hO (fr _ (by omega))
        have hfr := (fun q h => (fr q (by omega)).trans (hfr q h) : ∀ q : Nat, (q ≠ h ∧ q ≠ h + 1) → E14 q = E0 q)
        refine lv_aload_n C0.1 C0.2.1 dX10_findNear_121 rfl (lv_at hl 0 rfl) ?_
        refine lv_bipush (v := zI 10) C0.1 C0.2.1 dX10_findNear_122 rfl ?_
        refine lv_bipush (v := zI 12) C0.1 C0.2.1 dX10_findNear_124 rfl ?_
        refine mm_callVv (As := [.int (zI (10)), .int (zI (12))]) C0 vw_X10_copy tw_1047 (c_X10_copy l G _ hO hR8 (t := 10) rfl (by omega) (a := 12) rfl (by omega) ((kr8 12 (by omega)).trans v12)) hM (hO) rfl rfl hl.1 rfl (Nat.le_of_ble_eq_true rfl) ⟨rfl, rfl, Nat.le_of_ble_eq_true rfl, Nat.le_of_ble_eq_true rfl, Nat.zero_le _, Nat.zero_le _⟩ dX10_findNear_126 hS (fun E15 H locs hp hM hS => ?_)
        obtain ⟨⟨R9, hR9, v10, kr9⟩, fr⟩ := hp
        have hO := ro.kept hO (fr _ (by omega))
        have hfr := (fun q h => (fr q (by omega)).trans (hfr q h) : ∀ q : Nat, (q ≠ h ∧ q ≠ h + 1) → E15 q = E0 q)
        refine lv_iinc (v := zI (((k + 1 : Nat) : Int))) (lv' := [(3, .int (zI (((k + 1 : Nat) : Int)))), (0, .ref (h)), (1, .int (zI (dd))), (2, .int (zI (ii)))]) C0.1 C0.2.1 dX10_findNear_129 hl (k := 3) rfl (z_inc (a := (k : Int)) (n := 1) (by omega)) (by decide) rfl (fun ls hl => ?_)
        refine lv_goto (tgt := 39) C0.1 C0.2.1 dX10_findNear_132 (by decide) ?_
        exact ih39  (k + 1) R9 E15 _ _ _ (by omega) ((kr9 8 (by omega)).trans ((kr8 8 (by omega)).trans ((k7 8 (by omega)).trans v8))) ((kr9 9 (by omega)).trans ((kr8 9 (by omega)).trans ((k7 9 (by omega)).trans v9))) (v10) ((kr9 11 (by omega)).trans v11) (fun r q => (kr9 r (by omega)).trans ((kr8 r (by omega)).trans ((k7 r (by omega)).trans ((kr5 r (by omega)).trans ((kr4 r (by omega)).trans ((k3 r (by omega)).trans (k1 r q))))))) (hO) (hR9) (hfr) (by omega) hM hS (lv_sub hl [1, 2, 3, 0] rfl)
  exact L39 (_ + 1) 0 R4 E5 _ _ _ (Nat.zero_le _) ((kr4 8 (by omega)).trans v8) ((kr4 9 (by omega)).trans ((kr3 9 (by omega)).trans ((kr2 9 (by omega)).trans v9))) (v10) ((kr4 11 (by omega)).trans ((kr3 11 (by omega)).trans v11)) (fun r q => (kr4 r (by omega)).trans ((kr3 r (by omega)).trans ((kr2 r (by omega)).trans (kr1 r (by omega))))) (hO) (hR4) (hfr) (Nat.lt_succ_self _) hM hS (lv_sub hl [1, 2, 3, 0] rfl)

def rX10_comeTwo : Room := { frames := 3, cells := 0, slots := 0, locals := 68 }
theorem vw_X10_comeTwo : mm_Vw RX10 yX10_comeTwo cX10_comeTwo 3 (some .int) 2 := ⟨tw_1227, tp_50, tw_10, tw_1228, by decide +kernel⟩
set_option maxHeartbeats 4000000 in
set_option maxRecDepth 100000 in
theorem c_X10_comeTwo (l : Launch) (G : mG) (E0 : mE) {h : Nat} {S : mST} {R : Nat → Nat} {x2 x3 x4 x5 x6 x7 : Int} (hX0 : rfx G E0 h S R x2 x3 x4 x5 x6 x7) {a b : Int} {i j A C : Nat} (hpi : a = (i : Int)) (hi_i : i < 8) (hpj : b = (j : Int)) (hi_j : j < 8) (hA : R 8 = A) (hC : R 10 = C) (hCA : C ≤ A) : mm_Ci l yX10_comeTwo (.code yX10_comeTwo cX10_comeTwo 3 (some .int) :: wsG) rX10_comeTwo G [.ref (h), .int (zI (a)), .int (zI (b))] E0 (fun z E => z = (two_ S i j A C).1 ∧ rf G E h (two_ S i j A C).2 ∧ ∀ q : Nat, (q < h ∨ h + 13 ≤ q) → E q = E0 q) := by
  refine mm_of_i (by decide +kernel) (Nat.le_of_ble_eq_true rfl) ?_
  intro p e s m args below meth c ls C0 hr hlk hM hl hS
  have hl : lv_has ls 3 [(0, .ref (h)), (1, .int (zI (a))), (2, .int (zI (b)))] := hl
  have hX := hX0
  obtain ⟨hO, hR, hRp, hA9, hTp, hCl, hKp, hSh, him⟩ := hX
  have hnn := nl_mono hCA
  have hfr : ∀ q : Nat, (q < h ∨ h + 13 ≤ q) → E0 q = E0 q := fun _ _ => rfl
  refine lv_aload_n C0.1 C0.2.1 dX10_comeTwo_0 rfl (lv_at hl 0 rfl) ?_
  refine lv_bipush (v := zI 8) C0.1 C0.2.1 dX10_comeTwo_1 rfl ?_
  refine mm_callVi (As := [.int (zI (8))]) C0 vw_X10_isLong tw_1043 (c_X10_isLong l G _ hO hR (a := 8) rfl (by omega) hA) hM (hO) rfl rfl hl.1 rfl (Nat.le_of_ble_eq_true rfl) ⟨rfl, rfl, Nat.le_of_ble_eq_true rfl, Nat.le_of_ble_eq_true rfl, Nat.zero_le _, Nat.zero_le _⟩ dX10_comeTwo_3 hS (fun z_3 E1 H locs hp hM hS => ?_)
  obtain ⟨hz_3, hEq⟩ := hp
  rw [hEq] at hM
  have hz_3b := if01 hz_3
  refine z_if_ne (tgt := 18) C0.1 C0.2.1 dX10_comeTwo_6 (by decide) ⟨by omega, by omega⟩ (fun c_6 => ?_) (fun c_6 => ?_)
  · skip
    refine lv_bipush (v := zI (-3)) C0.1 C0.2.1 dX10_comeTwo_18 rfl ?_
    exact mm_iret (z := (-3)) C0 hr hlk hM hS dX10_comeTwo_20 (by unfold two_; rw [if_pos (by omega)]; exact ⟨rfl, hX0.rf, hfr⟩)
  · skip
    refine lv_aload_n C0.1 C0.2.1 dX10_comeTwo_9 rfl (lv_at hl 0 rfl) ?_
    refine lv_bipush (v := zI 10) C0.1 C0.2.1 dX10_comeTwo_10 rfl ?_
    refine mm_callVi (As := [.int (zI (10))]) C0 vw_X10_isLong tw_1043 (c_X10_isLong l G _ hO hR (a := 10) rfl (by omega) hC) hM (hO) rfl rfl hl.1 rfl (Nat.le_of_ble_eq_true rfl) ⟨rfl, rfl, Nat.le_of_ble_eq_true rfl, Nat.le_of_ble_eq_true rfl, Nat.zero_le _, Nat.zero_le _⟩ dX10_comeTwo_12 hS (fun z_12 E2 H locs hp hM hS => ?_)
    obtain ⟨hz_12, hEq⟩ := hp
    rw [hEq] at hM
    have hz_12b := if01 hz_12
    refine z_if_eq (tgt := 21) C0.1 C0.2.1 dX10_comeTwo_15 (by decide) ⟨by omega, by omega⟩ (fun c_15 => ?_) (fun c_15 => ?_)
    · skip
      refine lv_aload_n C0.1 C0.2.1 dX10_comeTwo_21 rfl (lv_at hl 0 rfl) ?_
      refine lv_iload_n C0.1 C0.2.1 dX10_comeTwo_22 rfl (lv_at hl 2 rfl) ?_
      refine lv_bipush (v := zI 10) C0.1 C0.2.1 dX10_comeTwo_23 rfl ?_
      refine mm_callVi (As := [.int (zI (b)), .int (zI (10))]) C0 vw_X10_come tw_1039 (c_X10_comeS l G _ hX0 hpj hi_j (a := 10) rfl (by omega) hC) hM (hO) rfl rfl hl.1 rfl (Nat.le_of_ble_eq_true rfl) ⟨rfl, rfl, Nat.le_of_ble_eq_true rfl, Nat.le_of_ble_eq_true rfl, Nat.zero_le _, Nat.zero_le _⟩ dX10_comeTwo_25 hS (fun z8 E3 H locs hp hM hS => ?_)
      obtain ⟨hz8, ⟨R9, hX9, kr9⟩, fr⟩ := hp
      have hfr := (fun q h => (fr q (by omega)).trans (hfr q h) : ∀ q : Nat, (q < h ∨ h + 13 ≤ q) → E3 q = E0 q)
      have hO := hX9.1
      refine lv_pop C0.1 C0.2.1 dX10_comeTwo_28 rfl ?_
      refine lv_aload_n C0.1 C0.2.1 dX10_comeTwo_29 rfl (lv_at hl 0 rfl) ?_
      refine lv_iload_n C0.1 C0.2.1 dX10_comeTwo_30 rfl (lv_at hl 1 rfl) ?_
      refine lv_bipush (v := zI 8) C0.1 C0.2.1 dX10_comeTwo_31 rfl ?_
      refine mm_callVi (As := [.int (zI (a)), .int (zI (8))]) C0 vw_X10_come tw_1039 (c_X10_comeS l G _ hX9 hpi hi_i (a := 8) rfl (by omega) ((kr9 8 (by omega)).trans hA)) hM (hO) rfl rfl hl.1 rfl (Nat.le_of_ble_eq_true rfl) ⟨rfl, rfl, Nat.le_of_ble_eq_true rfl, Nat.le_of_ble_eq_true rfl, Nat.zero_le _, Nat.zero_le _⟩ dX10_comeTwo_33 hS (fun z9 E4 H locs hp hM hS => ?_)
      obtain ⟨hz9, ⟨R8, hX8, kr8⟩, fr⟩ := hp
      have hfr := (fun q h => (fr q (by omega)).trans (hfr q h) : ∀ q : Nat, (q < h ∨ h + 13 ≤ q) → E4 q = E0 q)
      exact mm_iret (z := z9) C0 hr hlk hM hS dX10_comeTwo_36 (by unfold two_; rw [if_neg (by omega)]; exact ⟨hz9, hX8.rf, hfr⟩)
    · skip
      refine lv_bipush (v := zI (-3)) C0.1 C0.2.1 dX10_comeTwo_18 rfl ?_
      exact mm_iret (z := (-3)) C0 hr hlk hM hS dX10_comeTwo_20 (by unfold two_; rw [if_pos (by omega)]; exact ⟨rfl, hX0.rf, hfr⟩)

theorem rfx.wo {G : mG} {E E1 : mE} {h : Nat} {S : mST} {R R1 : Nat → Nat} {x2 x3 x4 x5 x6 x7 y2 y3 y4 y5 y6 y7 : Int} (a : rfx G E h S R x2 x3 x4 x5 x6 x7) (hR : rg G E1 h R1) (hp : ∀ r, r < 8 → R1 r = R r) (hO : ro G E1 h (S.1.2.2 : Int) y2 y3 y4 y5 y6 y7 S.1.1) (fr : ∀ q, (q ≠ h ∧ q ≠ h + 1) → E1 q = E q) : rfx G E1 h S R1 y2 y3 y4 y5 y6 y7 := by
  obtain ⟨a1, a2, a3, a4, a5, a6, a7, a8, a9⟩ := a
  exact ⟨hO, hR, fun i hi => (hp i hi).trans (a3 i hi), a4.kept (fr _ (by omega)) (fr _ (by omega)), (fr _ (by omega)).trans a5, a6.kept (fun q hq => fr q (by omega)), a7.kept (fr _ (by omega)), a8.kept (fun q hq => fr q (by omega)), a9⟩

def rX10_near : Room := { frames := 4, cells := 0, slots := 0, locals := 90 }
theorem vw_X10_near : mm_Vw RX10 yX10_near cX10_near 5 (some .int) 4 := ⟨tw_1218, tw_1219, tw_10, tw_1220, by decide +kernel⟩
set_option maxHeartbeats 4000000 in
set_option maxRecDepth 100000 in
theorem c_X10_near (l : Launch) (G : mG) (E0 : mE) {h : Nat} {S : mST} (hF : rf G E0 h S) (hok : okR S) {d i1 a b : Int} (hr_d : rI d) (hr_i1 : rI i1) (hr_a : rI a) (hr_b : rI b) : mm_Ci l yX10_near (.code yX10_near cX10_near 5 (some .int) :: wsG) rX10_near G [.ref (h), .int (zI (d)), .int (zI (i1)), .int (zI (a)), .int (zI (b))] E0 (fun z E => z = (pf_near S d i1 a b).1 ∧ rf G E h (pf_near S d i1 a b).2 ∧ ∀ q : Nat, (q < h ∨ h + 13 ≤ q) → E q = E0 q) := by
  refine mm_of_i (by decide +kernel) (Nat.le_of_ble_eq_true rfl) ?_
  intro p e s m args below meth c ls C0 hr hlk hM hl hS
  have hl : lv_has ls 5 [(0, .ref (h)), (1, .int (zI (d))), (2, .int (zI (i1))), (3, .int (zI (a))), (4, .int (zI (b)))] := hl
  obtain ⟨hr_d1, hr_d2⟩ := hr_d
  obtain ⟨hr_i11, hr_i12⟩ := hr_i1
  obtain ⟨hr_a1, hr_a2⟩ := hr_a
  obtain ⟨hr_b1, hr_b2⟩ := hr_b
  obtain ⟨R, x2, x3, x4, x5, x6, x7, hX⟩ := hF
  have hX0 := hX
  obtain ⟨hTk, hPk, hKk, hSk⟩ := hok
  obtain ⟨hO, hR, hRp, ⟨fh, fc, hH, hC, hPa⟩, hTp, hCl, hKp, hSh, him⟩ := hX
  have hfr : ∀ q : Nat, (q < h ∨ h + 13 ≤ q) → E0 q = E0 q := fun _ _ => rfl
  refine lv_iload_n C0.1 C0.2.1 dX10_near_0 rfl (lv_at hl 1 rfl) ?_
  refine mm_callSi (As := [.int (zI (d))]) C0 sw_X10_isRoot tw_1189 (c_X10_isRoot l G _ (d := d) ⟨by omega, by omega⟩) hM rfl hl.1 rfl (Nat.le_of_ble_eq_true rfl) ⟨rfl, rfl, Nat.le_of_ble_eq_true rfl, Nat.le_of_ble_eq_true rfl, Nat.zero_le _, Nat.zero_le _⟩ dX10_near_1 hS (fun z_1 E1 H locs hp hM hS => ?_)
  obtain ⟨hz_1, hEq⟩ := hp
  rw [hEq] at hM
  have hz01 : z_1 = 0 ∨ z_1 = 1 := hz_1.elim (fun h => Or.inr h.1) (fun h => Or.inl h.1)
  refine z_if_eq (tgt := 40) C0.1 C0.2.1 dX10_near_4 (by decide) ⟨by omega, by omega⟩ (fun c_4 => ?_) (fun c_4 => ?_)
  · skip
    have hno : ¬ isRt d := hz_1.elim (fun h => by omega) (fun h => h.2)
    refine lv_iconst (v := zI (-1)) C0.1 C0.2.1 dX10_near_40 rfl ?_
    exact mm_iret (z := (-1)) C0 hr hlk hM hS dX10_near_41 (by have he : pf_near S d i1 a b = ((-1), S) := (by unfold pf_near; rw [if_neg (fun q => hno (bq_y q.1))]); rw [he]; exact ⟨rfl, hX0.rf, fun _ _ => rfl⟩)
  · skip
    obtain ⟨hq1, hq2, hq3⟩ := hz_1.elim (fun h => h.2) (fun h => by omega)
    obtain ⟨f, hrl⟩ := rl_ex hq1 hq2 hq3
    obtain ⟨hk9, hk4⟩ := rnL_p hrl
    have hfe := rtL_e hrl
    have hdd : d = (d.toNat : Int) := by omega
    have hyes : bq (isRt d) = true := bq_t ⟨hq1, hq2, hq3⟩
    refine lv_iload_n C0.1 C0.2.1 dX10_near_7 rfl (lv_at hl 2 rfl) ?_
    refine z_i2l C0.1 C0.2.1 dX10_near_8 ⟨by omega, by omega⟩ ?_
    refine lv_lconst (v := zL 0) C0.1 C0.2.1 dX10_near_9 rfl ?_
    refine mm_ldc2 (z := 200) C0 tw_1175 rfl dX10_near_10 ?_
    refine mm_callSi (As := [.long (zL (i1)), .long (zL (0)), .long (zL (200))]) C0 sw_X10_in tw_985 (c_X10_in l G _ (v := i1) (lo := 0) (hi := 200) ⟨by omega, by omega⟩ ⟨by omega, by omega⟩ ⟨by omega, by omega⟩) hM rfl hl.1 rfl (Nat.le_of_ble_eq_true rfl) ⟨rfl, rfl, Nat.le_of_ble_eq_true rfl, Nat.le_of_ble_eq_true rfl, Nat.zero_le _, Nat.zero_le _⟩ dX10_near_13 hS (fun z_13 E2 H locs hp hM hS => ?_)
    obtain ⟨hz_13, hEq⟩ := hp
    rw [hEq] at hM
    have hz_13b := if01 hz_13
    refine z_if_eq (tgt := 40) C0.1 C0.2.1 dX10_near_16 (by decide) ⟨by omega, by omega⟩ (fun c_16 => ?_) (fun c_16 => ?_)
    · skip
      refine lv_iconst (v := zI (-1)) C0.1 C0.2.1 dX10_near_40 rfl ?_
      exact mm_iret (z := (-1)) C0 hr hlk hM hS dX10_near_41 (by have he : pf_near S d i1 a b = ((-1), S) := (by unfold pf_near; rw [if_neg (fun q => by have q1 := q.2; omega)]); rw [he]; exact ⟨rfl, hX0.rf, fun _ _ => rfl⟩)
    · skip
      refine lv_iload_n C0.1 C0.2.1 dX10_near_19 rfl (lv_at hl 3 rfl) ?_
      refine mm_callSi (As := [.int (zI (a))]) C0 sw_X10_isPlace tw_981 (c_X10_isPlace l G _ (i := a) ⟨by omega, by omega⟩) hM rfl hl.1 rfl (Nat.le_of_ble_eq_true rfl) ⟨rfl, rfl, Nat.le_of_ble_eq_true rfl, Nat.le_of_ble_eq_true rfl, Nat.zero_le _, Nat.zero_le _⟩ dX10_near_20 hS (fun z_20 E3 H locs hp hM hS => ?_)
      obtain ⟨hz_20, hEq⟩ := hp
      rw [hEq] at hM
      have hz_20b := if01 hz_20
      refine z_if_eq (tgt := 40) C0.1 C0.2.1 dX10_near_23 (by decide) ⟨by omega, by omega⟩ (fun c_23 => ?_) (fun c_23 => ?_)
      · skip
        refine lv_iconst (v := zI (-1)) C0.1 C0.2.1 dX10_near_40 rfl ?_
        exact mm_iret (z := (-1)) C0 hr hlk hM hS dX10_near_41 (by have he : pf_near S d i1 a b = ((-1), S) := (by unfold pf_near; rw [if_neg (fun q => by have q1 := q.2; omega)]); rw [he]; exact ⟨rfl, hX0.rf, fun _ _ => rfl⟩)
      · skip
        refine lv_iload C0.1 C0.2.1 dX10_near_26 (lv_at hl 4 rfl) ?_
        refine mm_callSi (As := [.int (zI (b))]) C0 sw_X10_isPlace tw_981 (c_X10_isPlace l G _ (i := b) ⟨by omega, by omega⟩) hM rfl hl.1 rfl (Nat.le_of_ble_eq_true rfl) ⟨rfl, rfl, Nat.le_of_ble_eq_true rfl, Nat.le_of_ble_eq_true rfl, Nat.zero_le _, Nat.zero_le _⟩ dX10_near_28 hS (fun z_28 E4 H locs hp hM hS => ?_)
        obtain ⟨hz_28, hEq⟩ := hp
        rw [hEq] at hM
        have hz_28b := if01 hz_28
        refine z_if_eq (tgt := 40) C0.1 C0.2.1 dX10_near_31 (by decide) ⟨by omega, by omega⟩ (fun c_31 => ?_) (fun c_31 => ?_)
        · skip
          refine lv_iconst (v := zI (-1)) C0.1 C0.2.1 dX10_near_40 rfl ?_
          exact mm_iret (z := (-1)) C0 hr hlk hM hS dX10_near_41 (by have he : pf_near S d i1 a b = ((-1), S) := (by unfold pf_near; rw [if_neg (fun q => by have q1 := q.2; omega)]); rw [he]; exact ⟨rfl, hX0.rf, fun _ _ => rfl⟩)
        · skip
          refine lv_iload_n C0.1 C0.2.1 dX10_near_34 rfl (lv_at hl 3 rfl) ?_
          refine lv_iload C0.1 C0.2.1 dX10_near_35 (lv_at hl 4 rfl) ?_
          refine z_icmp_ne (tgt := 42) C0.1 C0.2.1 dX10_near_37 (by decide) ⟨by omega, by omega⟩ ⟨by omega, by omega⟩ (fun c_37 => ?_) (fun c_37 => ?_)
          · skip
            obtain ⟨i, hpi⟩ : ∃ i : Nat, a = (i : Int) := ⟨(a).toNat, by omega⟩
            have hi_i : i < 8 := by omega
            have ht_i : (a).toNat = i := by omega
            obtain ⟨j, hpj⟩ : ∃ j : Nat, b = (j : Int) := ⟨(b).toNat, by omega⟩
            have hi_j : j < 8 := by omega
            have ht_j : (b).toNat = j := by omega
            refine lv_aload_n C0.1 C0.2.1 dX10_near_42 rfl (lv_at hl 0 rfl) ?_
            refine lv_iload_n C0.1 C0.2.1 dX10_near_43 rfl (lv_at hl 1 rfl) ?_
            refine lv_iload_n C0.1 C0.2.1 dX10_near_44 rfl (lv_at hl 2 rfl) ?_
            refine mm_callVv (As := [.int (zI (d)), .int (zI (i1))]) C0 vw_X10_findNear tw_1221 (c_X10_findNear l G _ hO hR hdd hrl (n := i1.toNat) (by omega) (by omega) (near_nl hrl (by omega))) hM (hO) rfl rfl hl.1 rfl (Nat.le_of_ble_eq_true rfl) ⟨rfl, rfl, Nat.le_of_ble_eq_true rfl, Nat.le_of_ble_eq_true rfl, Nat.zero_le _, Nat.zero_le _⟩ dX10_near_45 hS (fun E5 H locs hp hM hS => ?_)
            obtain ⟨⟨R1, hR1, v8, v10, k1⟩, ⟨y5, y6, y7, hO⟩, fr⟩ := hp
            have hfr := (fun q h => (fr q (by omega)).trans (hfr q h) : ∀ q : Nat, (q < h ∨ h + 13 ≤ q) → E5 q = E0 q)
            have hX1 := hX0.wo hR1 k1 hO fr
            refine lv_aload_n C0.1 C0.2.1 dX10_near_48 rfl (lv_at hl 0 rfl) ?_
            refine lv_iload_n C0.1 C0.2.1 dX10_near_49 rfl (lv_at hl 3 rfl) ?_
            refine lv_iload C0.1 C0.2.1 dX10_near_50 (lv_at hl 4 rfl) ?_
            refine mm_callVi (As := [.int (zI (a)), .int (zI (b))]) C0 vw_X10_comeTwo tw_1225 (c_X10_comeTwo l G _ hX1 hpi hi_i hpj hi_j v8 v10 (cv_old hrl _).2.1) hM (hO) rfl rfl hl.1 rfl (Nat.le_of_ble_eq_true rfl) ⟨rfl, rfl, Nat.le_of_ble_eq_true rfl, Nat.le_of_ble_eq_true rfl, Nat.zero_le _, Nat.zero_le _⟩ dX10_near_52 hS (fun z9 E6 H locs hp hM hS => ?_)
            obtain ⟨hz9, hF9, fr⟩ := hp
            have hfr := (fun q h => (fr q (by omega)).trans (hfr q h) : ∀ q : Nat, (q < h ∨ h + 13 ≤ q) → E6 q = E0 q)
            exact mm_iret (z := z9) C0 hr hlk hM hS dX10_near_55 (by have he : pf_near S d i1 a b = two_ S i j (cvp d.toNat f i1.toNat) (cvq d.toNat f i1.toNat) := (by unfold pf_near; rw [if_pos ⟨hyes, by omega, by omega⟩, hfe, ht_i, ht_j]); rw [he]; exact ⟨hz9, hF9, hfr⟩)
          · skip
            refine lv_iconst (v := zI (-1)) C0.1 C0.2.1 dX10_near_40 rfl ?_
            exact mm_iret (z := (-1)) C0 hr hlk hM hS dX10_near_41 (by have he : pf_near S d i1 a b = ((-1), S) := (by unfold pf_near; rw [if_neg (fun q => by have q1 := q.2; omega)]); rw [he]; exact ⟨rfl, hX0.rf, fun _ _ => rfl⟩)

def rX10_one : Room := { frames := 4, cells := 0, slots := 0, locals := 90 }
theorem vw_X10_one : mm_Vw RX10 yX10_one cX10_one 7 (some .int) 4 := ⟨tw_1230, tw_1231, tw_10, tw_1232, by decide +kernel⟩
set_option maxHeartbeats 4000000 in
set_option maxRecDepth 100000 in
theorem c_X10_one (l : Launch) (G : mG) (E0 : mE) {h : Nat} {S : mST} (hF : rf G E0 h S) (hok : okR S) {d n a b : Int} (hr_d : rI d) (hr_n : rI n) (hr_a : rI a) (hr_b : rI b) : mm_Ci l yX10_one (.code yX10_one cX10_one 7 (some .int) :: wsG) rX10_one G [.ref (h), .int (zI (d)), .int (zI (n)), .int (zI (a)), .int (zI (b))] E0 (fun z E => z = (pf_one S d n a b).1 ∧ rf G E h (pf_one S d n a b).2 ∧ ∀ q : Nat, (q < h ∨ h + 13 ≤ q) → E q = E0 q) := by
  refine mm_of_i (by decide +kernel) (Nat.le_of_ble_eq_true rfl) ?_
  intro p e s m args below meth c ls C0 hr hlk hM hl hS
  have hl : lv_has ls 7 [(0, .ref (h)), (1, .int (zI (d))), (2, .int (zI (n))), (3, .int (zI (a))), (4, .int (zI (b)))] := hl
  obtain ⟨hr_d1, hr_d2⟩ := hr_d
  obtain ⟨hr_n1, hr_n2⟩ := hr_n
  obtain ⟨hr_a1, hr_a2⟩ := hr_a
  obtain ⟨hr_b1, hr_b2⟩ := hr_b
  obtain ⟨R, x2, x3, x4, x5, x6, x7, hX⟩ := hF
  have hX0 := hX
  obtain ⟨hTk, hPk, hKk, hSk⟩ := hok
  obtain ⟨hO, hR, hRp, ⟨fh, fc, hH, hC, hPa⟩, hTp, hCl, hKp, hSh, him⟩ := hX
  have hfr : ∀ q : Nat, (q ≠ h ∧ q ≠ h + 1) → E0 q = E0 q := fun _ _ => rfl
  refine lv_iload_n C0.1 C0.2.1 dX10_one_0 rfl (lv_at hl 1 rfl) ?_
  refine mm_callSi (As := [.int (zI (d))]) C0 sw_X10_isRoot tw_1189 (c_X10_isRoot l G _ (d := d) ⟨by omega, by omega⟩) hM rfl hl.1 rfl (Nat.le_of_ble_eq_true rfl) ⟨rfl, rfl, Nat.le_of_ble_eq_true rfl, Nat.le_of_ble_eq_true rfl, Nat.zero_le _, Nat.zero_le _⟩ dX10_one_1 hS (fun z_1 E1 H locs hp hM hS => ?_)
  obtain ⟨hz_1, hEq⟩ := hp
  rw [hEq] at hM
  have hz01 : z_1 = 0 ∨ z_1 = 1 := hz_1.elim (fun h => Or.inr h.1) (fun h => Or.inl h.1)
  refine z_if_eq (tgt := 40) C0.1 C0.2.1 dX10_one_4 (by decide) ⟨by omega, by omega⟩ (fun c_4 => ?_) (fun c_4 => ?_)
  · skip
    have hno : ¬ isRt d := hz_1.elim (fun h => by omega) (fun h => h.2)
    refine lv_iconst (v := zI (-1)) C0.1 C0.2.1 dX10_one_40 rfl ?_
    exact mm_iret (z := (-1)) C0 hr hlk hM hS dX10_one_41 (by have he : pf_one S d n a b = ((-1), S) := (by unfold pf_one; rw [if_neg (fun q => hno (bq_y q.1))]); rw [he]; exact ⟨rfl, hX0.rf, fun _ _ => rfl⟩)
  · skip
    obtain ⟨hq1, hq2, hq3⟩ := hz_1.elim (fun h => h.2) (fun h => by omega)
    obtain ⟨f, hrl⟩ := rl_ex hq1 hq2 hq3
    obtain ⟨hk9, hk4⟩ := rnL_p hrl
    have hfe := rtL_e hrl
    have hdd : d = (d.toNat : Int) := by omega
    have hyes : bq (isRt d) = true := bq_t ⟨hq1, hq2, hq3⟩
    refine lv_iload_n C0.1 C0.2.1 dX10_one_7 rfl (lv_at hl 2 rfl) ?_
    refine z_i2l C0.1 C0.2.1 dX10_one_8 ⟨by omega, by omega⟩ ?_
    refine lv_lconst (v := zL 1) C0.1 C0.2.1 dX10_one_9 rfl ?_
    refine mm_ldc2 (z := 99) C0 tw_1007 rfl dX10_one_10 ?_
    refine mm_callSi (As := [.long (zL (n)), .long (zL (1)), .long (zL (99))]) C0 sw_X10_in tw_985 (c_X10_in l G _ (v := n) (lo := 1) (hi := 99) ⟨by omega, by omega⟩ ⟨by omega, by omega⟩ ⟨by omega, by omega⟩) hM rfl hl.1 rfl (Nat.le_of_ble_eq_true rfl) ⟨rfl, rfl, Nat.le_of_ble_eq_true rfl, Nat.le_of_ble_eq_true rfl, Nat.zero_le _, Nat.zero_le _⟩ dX10_one_13 hS (fun z_13 E2 H locs hp hM hS => ?_)
    obtain ⟨hz_13, hEq⟩ := hp
    rw [hEq] at hM
    have hz_13b := if01 hz_13
    refine z_if_eq (tgt := 40) C0.1 C0.2.1 dX10_one_16 (by decide) ⟨by omega, by omega⟩ (fun c_16 => ?_) (fun c_16 => ?_)
    · skip
      refine lv_iconst (v := zI (-1)) C0.1 C0.2.1 dX10_one_40 rfl ?_
      exact mm_iret (z := (-1)) C0 hr hlk hM hS dX10_one_41 (by have he : pf_one S d n a b = ((-1), S) := (by unfold pf_one; rw [if_neg (fun q => by have q1 := q.2; omega)]); rw [he]; exact ⟨rfl, hX0.rf, fun _ _ => rfl⟩)
    · skip
      refine lv_iload_n C0.1 C0.2.1 dX10_one_19 rfl (lv_at hl 3 rfl) ?_
      refine mm_callSi (As := [.int (zI (a))]) C0 sw_X10_isPlace tw_981 (c_X10_isPlace l G _ (i := a) ⟨by omega, by omega⟩) hM rfl hl.1 rfl (Nat.le_of_ble_eq_true rfl) ⟨rfl, rfl, Nat.le_of_ble_eq_true rfl, Nat.le_of_ble_eq_true rfl, Nat.zero_le _, Nat.zero_le _⟩ dX10_one_20 hS (fun z_20 E3 H locs hp hM hS => ?_)
      obtain ⟨hz_20, hEq⟩ := hp
      rw [hEq] at hM
      have hz_20b := if01 hz_20
      refine z_if_eq (tgt := 40) C0.1 C0.2.1 dX10_one_23 (by decide) ⟨by omega, by omega⟩ (fun c_23 => ?_) (fun c_23 => ?_)
      · skip
        refine lv_iconst (v := zI (-1)) C0.1 C0.2.1 dX10_one_40 rfl ?_
        exact mm_iret (z := (-1)) C0 hr hlk hM hS dX10_one_41 (by have he : pf_one S d n a b = ((-1), S) := (by unfold pf_one; rw [if_neg (fun q => by have q1 := q.2; omega)]); rw [he]; exact ⟨rfl, hX0.rf, fun _ _ => rfl⟩)
      · skip
        refine lv_iload C0.1 C0.2.1 dX10_one_26 (lv_at hl 4 rfl) ?_
        refine mm_callSi (As := [.int (zI (b))]) C0 sw_X10_isPlace tw_981 (c_X10_isPlace l G _ (i := b) ⟨by omega, by omega⟩) hM rfl hl.1 rfl (Nat.le_of_ble_eq_true rfl) ⟨rfl, rfl, Nat.le_of_ble_eq_true rfl, Nat.le_of_ble_eq_true rfl, Nat.zero_le _, Nat.zero_le _⟩ dX10_one_28 hS (fun z_28 E4 H locs hp hM hS => ?_)
        obtain ⟨hz_28, hEq⟩ := hp
        rw [hEq] at hM
        have hz_28b := if01 hz_28
        refine z_if_eq (tgt := 40) C0.1 C0.2.1 dX10_one_31 (by decide) ⟨by omega, by omega⟩ (fun c_31 => ?_) (fun c_31 => ?_)
        · skip
          refine lv_iconst (v := zI (-1)) C0.1 C0.2.1 dX10_one_40 rfl ?_
          exact mm_iret (z := (-1)) C0 hr hlk hM hS dX10_one_41 (by have he : pf_one S d n a b = ((-1), S) := (by unfold pf_one; rw [if_neg (fun q => by have q1 := q.2; omega)]); rw [he]; exact ⟨rfl, hX0.rf, fun _ _ => rfl⟩)
        · skip
          refine lv_iload_n C0.1 C0.2.1 dX10_one_34 rfl (lv_at hl 3 rfl) ?_
          refine lv_iload C0.1 C0.2.1 dX10_one_35 (lv_at hl 4 rfl) ?_
          refine z_icmp_ne (tgt := 42) C0.1 C0.2.1 dX10_one_37 (by decide) ⟨by omega, by omega⟩ ⟨by omega, by omega⟩ (fun c_37 => ?_) (fun c_37 => ?_)
          · skip
            obtain ⟨i, hpi⟩ : ∃ i : Nat, a = (i : Int) := ⟨(a).toNat, by omega⟩
            have hi_i : i < 8 := by omega
            have ht_i : (a).toNat = i := by omega
            obtain ⟨j, hpj⟩ : ∃ j : Nat, b = (j : Int) := ⟨(b).toNat, by omega⟩
            have hi_j : j < 8 := by omega
            have ht_j : (b).toNat = j := by omega
            refine lv_aload_n C0.1 C0.2.1 dX10_one_42 rfl (lv_at hl 0 rfl) ?_
            refine lv_iload_n C0.1 C0.2.1 dX10_one_43 rfl (lv_at hl 1 rfl) ?_
            refine mm_callVi (As := [.int (zI (d))]) C0 vw_X10_roundOf tw_1201 (c_X10_roundOf l G _ hO hdd hrl hk9 hk4) hM (hO) rfl rfl hl.1 rfl (Nat.le_of_ble_eq_true rfl) ⟨rfl, rfl, Nat.le_of_ble_eq_true rfl, Nat.le_of_ble_eq_true rfl, Nat.zero_le _, Nat.zero_le _⟩ dX10_one_44 hS (fun z44 E5 H locs hp hM hS => ?_)
            obtain ⟨hz44, ⟨w5, w6, w7, hO⟩, fr⟩ := hp
            have hR := rg.kept hR (fr _ (by omega))
            have hfr := (fun q h => (fr q (by omega)).trans (hfr q h) : ∀ q : Nat, (q ≠ h ∧ q ≠ h + 1) → E5 q = E0 q)
            have hkp := hk9.1
            refine lv_istore (lv' := [(5, .int (zI (z44))), (0, .ref (h)), (1, .int (zI (d))), (2, .int (zI (n))), (3, .int (zI (a))), (4, .int (zI (b)))]) C0.1 C0.2.1 dX10_one_47 hl (by decide) rfl (fun ls hl => ?_)
            refine lv_aload_n C0.1 C0.2.1 dX10_one_49 rfl (lv_at hl 1 rfl) ?_
            refine lv_iload_n C0.1 C0.2.1 dX10_one_50 rfl (lv_at hl 2 rfl) ?_
            refine lv_iload C0.1 C0.2.1 dX10_one_51 (lv_at hl 0 rfl) ?_
            refine lv_iconst (v := zI 2) C0.1 C0.2.1 dX10_one_53 rfl ?_
            refine z_iremp C0.1 C0.2.1 dX10_one_54 ⟨by omega, by omega⟩ ⟨by omega, by omega⟩ (by omega) (by omega) ?_
            refine z_if_ne (tgt := 65) C0.1 C0.2.1 dX10_one_55 (by decide) ⟨by omega, by omega⟩ (fun c_55 => ?_) (fun c_55 => ?_)
            · skip
              refine lv_iconst (v := zI 2) C0.1 C0.2.1 dX10_one_65 rfl ?_
              refine lv_iload C0.1 C0.2.1 dX10_one_66 (lv_at hl 0 rfl) ?_
              refine z_imul C0.1 C0.2.1 dX10_one_68 ?_
              refine lv_iconst (v := zI 1) C0.1 C0.2.1 dX10_one_69 rfl ?_
              refine z_isub C0.1 C0.2.1 dX10_one_70 ?_
              refine z_asI (a := ((((2) * (z44))) - (1))) (b := ((lenR (rnL d.toNat) - 1 : Nat) : Int)) (by rw [hz44, lenR_2 (by omega)]; omega) ?_
              refine mm_callVv (As := [.int (zI (d)), .int (zI (((lenR (rnL d.toNat) - 1 : Nat) : Int)))]) C0 vw_X10_findNear tw_1221 (c_X10_findNear l G _ hO hR hdd hrl (n := lenR (rnL d.toNat) - 1) rfl (by unfold lenR; split <;> omega) (one_nl hrl hk9 (by unfold lenR; split <;> omega))) hM (hO) rfl rfl hl.1 rfl (Nat.le_of_ble_eq_true rfl) ⟨rfl, rfl, Nat.le_of_ble_eq_true rfl, Nat.le_of_ble_eq_true rfl, Nat.zero_le _, Nat.zero_le _⟩ dX10_one_71 hS (fun E6 H locs hp hM hS => ?_)
              obtain ⟨⟨R1, hR1, v8, v10, k1⟩, ⟨y5, y6, y7, hO⟩, fr⟩ := hp
              have hfr := (fun q h => (fr q (by omega)).trans (hfr q h) : ∀ q : Nat, (q ≠ h ∧ q ≠ h + 1) → E6 q = E0 q)
              obtain ⟨x9, hx9⟩ : ∃ x, x = cvp d.toNat f (lenR (rnL d.toNat) - 1) := ⟨_, rfl⟩
              obtain ⟨y9, hy9⟩ : ∃ y, y = cvq d.toNat f (lenR (rnL d.toNat) - 1) := ⟨_, rfl⟩
              rw [← hx9] at v8
              rw [← hy9] at v10
              have hyx : y9 ≤ x9 := by rw [hx9, hy9]; exact (cv_old hrl _).2.1
              have hx1 : 1 ≤ x9 := by rw [hx9]; exact (cv_le hrl.1 hrl.2.2.1 hrl.2.2.2.1 _).2.2
              have hd1 : 1 ≤ d.toNat := by omega
              refine lv_aload_n C0.1 C0.2.1 dX10_one_74 rfl (lv_at hl 1 rfl) ?_
              refine lv_bipush (v := zI 13) C0.1 C0.2.1 dX10_one_75 rfl ?_
              refine lv_bipush (v := zI 8) C0.1 C0.2.1 dX10_one_77 rfl ?_
              refine mm_callVv (As := [.int (zI (13)), .int (zI (8))]) C0 vw_X10_copy tw_1047 (c_X10_copy l G _ hO hR1 (t := 13) rfl (by omega) (a := 8) rfl (by omega) v8) hM (hO) rfl rfl hl.1 rfl (Nat.le_of_ble_eq_true rfl) ⟨rfl, rfl, Nat.le_of_ble_eq_true rfl, Nat.le_of_ble_eq_true rfl, Nat.zero_le _, Nat.zero_le _⟩ dX10_one_79 hS (fun E7 H locs hp hM hS => ?_)
              obtain ⟨⟨R2, hR2, v13, kr2⟩, fr⟩ := hp
              have hO := ro.kept hO (fr _ (by omega))
              have hfr := (fun q h => (fr q (by omega)).trans (hfr q h) : ∀ q : Nat, (q ≠ h ∧ q ≠ h + 1) → E7 q = E0 q)
              refine lv_aload_n C0.1 C0.2.1 dX10_one_82 rfl (lv_at hl 1 rfl) ?_
              refine lv_bipush (v := zI 14) C0.1 C0.2.1 dX10_one_83 rfl ?_
              refine lv_bipush (v := zI 10) C0.1 C0.2.1 dX10_one_85 rfl ?_
              refine mm_callVv (As := [.int (zI (14)), .int (zI (10))]) C0 vw_X10_copy tw_1047 (c_X10_copy l G _ hO hR2 (t := 14) rfl (by omega) (a := 10) rfl (by omega) ((kr2 10 (by omega)).trans v10)) hM (hO) rfl rfl hl.1 rfl (Nat.le_of_ble_eq_true rfl) ⟨rfl, rfl, Nat.le_of_ble_eq_true rfl, Nat.le_of_ble_eq_true rfl, Nat.zero_le _, Nat.zero_le _⟩ dX10_one_87 hS (fun E8 H locs hp hM hS => ?_)
              obtain ⟨⟨R3, hR3, v14, kr3⟩, fr⟩ := hp
              have hO := ro.kept hO (fr _ (by omega))
              have hfr := (fun q h => (fr q (by omega)).trans (hfr q h) : ∀ q : Nat, (q ≠ h ∧ q ≠ h + 1) → E8 q = E0 q)
              refine lv_iconst (v := zI 1) C0.1 C0.2.1 dX10_one_90 rfl ?_
              refine lv_istore (lv' := [(6, .int (zI (1))), (5, .int (zI (z44))), (0, .ref (h)), (1, .int (zI (d))), (2, .int (zI (n))), (3, .int (zI (a))), (4, .int (zI (b)))]) C0.1 C0.2.1 dX10_one_91 hl (by decide) rfl (fun ls hl => ?_)
              have L93 : ∀ (k93 : Nat) (k : Nat) (R1 : Nat → Nat) (E9 : mE) (H : Heap) (locs : List Loc) (ls : Array Slot), (1 ≤ k) → ((k : Int) ≤ n) → (R1 8 = (pel d.toNat x9 y9 (k - 1)).1) → (R1 10 = (pel d.toNat x9 y9 (k - 1)).2) → (R1 13 = x9) → (R1 14 = y9) → (∀ r, r < 8 → R1 r = R r) → (ro G E9 h ((S.1.2.2 : Nat) : Int) x2 x3 x4 y5 y6 y7 S.1.1) → (rg G E9 h R1) → (∀ q : Nat, (q ≠ h ∧ q ≠ h + 1) → E9 q = E0 q) → n.toNat - k < k93 → mm_M G E9 H → va_S (mm_A G) s.heap H locs → lv_has ls 7 [(0, .ref (h)), (1, .int (zI (d))), (2, .int (zI (n))), (3, .int (zI (a))), (4, .int (zI (b))), (6, .int (zI ((k : Int))))] → W p l e rX10_one s m args below meth c H locs 0 0 (mm_Zi G below args s (fun z E => z = (pf_one S d n a b).1 ∧ rf G E h (pf_one S d n a b).2 ∧ ∀ q : Nat, (q < h ∨ h + 13 ≤ q) → E q = E0 q)) (F0 m 93 ls []) := by
                intro k93
                induction k93 with
                | zero => intro k R1 E9 H locs ls hk1 hkn v8 v10 v13 v14 k1 hO hR1 hfr hk hM hS hl; exact absurd hk (Nat.not_lt_zero _)
                | succ k93 ih93 =>
                  intro k R1 E9 H locs ls hk1 hkn v8 v10 v13 v14 k1 hO hR1 hfr hk93 hM hS hl
                  obtain ⟨hle9, -, -⟩ := pel_le hd1 hyx hx1 (k - 1)
                  have hmo := pel_mono hd1 hyx hx1 (m := 0) (n := k - 1) (Nat.zero_le _)
                  have hmo : x9 ≤ (pel d.toNat x9 y9 (k - 1)).1 := hmo
                  have hmn := nl_mono (pel_mono hd1 hyx hx1 (m := k - 1) (n := n.toNat - 1) (by omega))
                  have hmc := nl_mono hle9
                  have hX1 := hX0.wo hR1 k1 hO hfr
                  refine lv_iload C0.1 C0.2.1 dX10_one_93 (lv_at hl 5 rfl) ?_
                  refine lv_iload_n C0.1 C0.2.1 dX10_one_95 rfl (lv_at hl 2 rfl) ?_
                  refine z_icmp_ge (tgt := 202) C0.1 C0.2.1 dX10_one_96 (by decide) ⟨by omega, by omega⟩ ⟨by omega, by omega⟩ (fun c_96 => ?_) (fun c_96 => ?_)
                  · skip
                    refine lv_aload_n C0.1 C0.2.1 dX10_one_202 rfl (lv_at hl 0 rfl) ?_
                    refine lv_iload_n C0.1 C0.2.1 dX10_one_203 rfl (lv_at hl 3 rfl) ?_
                    refine lv_iload C0.1 C0.2.1 dX10_one_204 (lv_at hl 4 rfl) ?_
                    refine mm_callVi (As := [.int (zI (a)), .int (zI (b))]) C0 vw_X10_comeTwo tw_1225 (c_X10_comeTwo l G _ hX1 hpi hi_i hpj hi_j v8 v10 hle9) hM (hO) rfl rfl hl.1 rfl (Nat.le_of_ble_eq_true rfl) ⟨rfl, rfl, Nat.le_of_ble_eq_true rfl, Nat.le_of_ble_eq_true rfl, Nat.zero_le _, Nat.zero_le _⟩ dX10_one_206 hS (fun z9 E10 H locs hp hM hS => ?_)
                    obtain ⟨hz9, hF9, fr⟩ := hp
                    have hfF : ∀ q : Nat, (q < h ∨ h + 13 ≤ q) → E10 q = E0 q := fun q hq => (fr q hq).trans (hfr q (by omega))
                    exact mm_iret (z := z9) C0 hr hlk hM hS dX10_one_209 (by have he : pf_one S d n a b = two_ S i j (pel d.toNat x9 y9 (k - 1)).1 (pel d.toNat x9 y9 (k - 1)).2 := (by unfold pf_one; rw [if_pos ⟨hyes, by omega, by omega⟩, hfe, ht_i, ht_j]; unfold onA onB; rw [← hx9, ← hy9]; by_cases q : k = n.toNat; (rw [q]); exact two_l (by omega) (by omega)); rw [he]; exact ⟨hz9, hF9, hfF⟩)
                  · skip
                    refine lv_aload_n C0.1 C0.2.1 dX10_one_99 rfl (lv_at hl 0 rfl) ?_
                    refine lv_bipush (v := zI 8) C0.1 C0.2.1 dX10_one_100 rfl ?_
                    refine mm_callVi (As := [.int (zI (8))]) C0 vw_X10_isLong tw_1043 (c_X10_isLong l G _ hO hR1 (a := 8) rfl (by omega) v8) hM (hO) rfl rfl hl.1 rfl (Nat.le_of_ble_eq_true rfl) ⟨rfl, rfl, Nat.le_of_ble_eq_true rfl, Nat.le_of_ble_eq_true rfl, Nat.zero_le _, Nat.zero_le _⟩ dX10_one_102 hS (fun z_102 E11 H locs hp hM hS => ?_)
                    obtain ⟨hz_102, hEq⟩ := hp
                    rw [hEq] at hM
                    have hz_102b := if01 hz_102
                    refine z_if_ne (tgt := 202) C0.1 C0.2.1 dX10_one_105 (by decide) ⟨by omega, by omega⟩ (fun c_105 => ?_) (fun c_105 => ?_)
                    · skip
                      refine lv_aload_n C0.1 C0.2.1 dX10_one_202 rfl (lv_at hl 0 rfl) ?_
                      refine lv_iload_n C0.1 C0.2.1 dX10_one_203 rfl (lv_at hl 3 rfl) ?_
                      refine lv_iload C0.1 C0.2.1 dX10_one_204 (lv_at hl 4 rfl) ?_
                      refine mm_callVi (As := [.int (zI (a)), .int (zI (b))]) C0 vw_X10_comeTwo tw_1225 (c_X10_comeTwo l G _ hX1 hpi hi_i hpj hi_j v8 v10 hle9) hM (hO) rfl rfl hl.1 rfl (Nat.le_of_ble_eq_true rfl) ⟨rfl, rfl, Nat.le_of_ble_eq_true rfl, Nat.le_of_ble_eq_true rfl, Nat.zero_le _, Nat.zero_le _⟩ dX10_one_206 hS (fun z9 E12 H locs hp hM hS => ?_)
                      obtain ⟨hz9, hF9, fr⟩ := hp
                      have hfF : ∀ q : Nat, (q < h ∨ h + 13 ≤ q) → E12 q = E0 q := fun q hq => (fr q hq).trans (hfr q (by omega))
                      exact mm_iret (z := z9) C0 hr hlk hM hS dX10_one_209 (by have he : pf_one S d n a b = two_ S i j (pel d.toNat x9 y9 (k - 1)).1 (pel d.toNat x9 y9 (k - 1)).2 := (by unfold pf_one; rw [if_pos ⟨hyes, by omega, by omega⟩, hfe, ht_i, ht_j]; unfold onA onB; rw [← hx9, ← hy9]; by_cases q : k = n.toNat; (rw [q]); exact two_l (by omega) (by omega)); rw [he]; exact ⟨hz9, hF9, hfF⟩)
                    · skip
                      refine lv_aload_n C0.1 C0.2.1 dX10_one_108 rfl (lv_at hl 0 rfl) ?_
                      refine lv_bipush (v := zI 10) C0.1 C0.2.1 dX10_one_109 rfl ?_
                      refine mm_callVi (As := [.int (zI (10))]) C0 vw_X10_isLong tw_1043 (c_X10_isLong l G _ hO hR1 (a := 10) rfl (by omega) v10) hM (hO) rfl rfl hl.1 rfl (Nat.le_of_ble_eq_true rfl) ⟨rfl, rfl, Nat.le_of_ble_eq_true rfl, Nat.le_of_ble_eq_true rfl, Nat.zero_le _, Nat.zero_le _⟩ dX10_one_111 hS (fun z_111 E13 H locs hp hM hS => ?_)
                      obtain ⟨hz_111, hEq⟩ := hp
                      rw [hEq] at hM
                      have hz_111b := if01 hz_111
                      refine z_if_ne (tgt := 202) C0.1 C0.2.1 dX10_one_114 (by decide) ⟨by omega, by omega⟩ (fun c_114 => ?_) (fun c_114 => ?_)
                      · skip
                        refine lv_aload_n C0.1 C0.2.1 dX10_one_202 rfl (lv_at hl 0 rfl) ?_
                        refine lv_iload_n C0.1 C0.2.1 dX10_one_203 rfl (lv_at hl 3 rfl) ?_
                        refine lv_iload C0.1 C0.2.1 dX10_one_204 (lv_at hl 4 rfl) ?_
                        refine mm_callVi (As := [.int (zI (a)), .int (zI (b))]) C0 vw_X10_comeTwo tw_1225 (c_X10_comeTwo l G _ hX1 hpi hi_i hpj hi_j v8 v10 hle9) hM (hO) rfl rfl hl.1 rfl (Nat.le_of_ble_eq_true rfl) ⟨rfl, rfl, Nat.le_of_ble_eq_true rfl, Nat.le_of_ble_eq_true rfl, Nat.zero_le _, Nat.zero_le _⟩ dX10_one_206 hS (fun z9 E14 H locs hp hM hS => ?_)
                        obtain ⟨hz9, hF9, fr⟩ := hp
                        have hfF : ∀ q : Nat, (q < h ∨ h + 13 ≤ q) → E14 q = E0 q := fun q hq => (fr q hq).trans (hfr q (by omega))
                        exact mm_iret (z := z9) C0 hr hlk hM hS dX10_one_209 (by have he : pf_one S d n a b = two_ S i j (pel d.toNat x9 y9 (k - 1)).1 (pel d.toNat x9 y9 (k - 1)).2 := (by unfold pf_one; rw [if_pos ⟨hyes, by omega, by omega⟩, hfe, ht_i, ht_j]; unfold onA onB; rw [← hx9, ← hy9]; by_cases q : k = n.toNat; (rw [q]); exact two_l (by omega) (by omega)); rw [he]; exact ⟨hz9, hF9, hfF⟩)
                      · skip
                        obtain ⟨hpe1, hpe2⟩ := pel_e (d := d.toNat) (x := x9) (y := y9) (n := k - 1)
                        have hnA : nl (pel d.toNat x9 y9 (k - 1)).1 ≤ 24 := by omega
                        have hnC : nl (pel d.toNat x9 y9 (k - 1)).2 ≤ 24 := by omega
                        have hnx : nl x9 ≤ 24 := Nat.le_trans (nl_mono hmo) hnA
                        have hny : nl y9 ≤ 24 := Nat.le_trans (nl_mono hyx) hnx
                        refine lv_aload_n C0.1 C0.2.1 dX10_one_117 rfl (lv_at hl 0 rfl) ?_
                        refine lv_bipush (v := zI 9) C0.1 C0.2.1 dX10_one_118 rfl ?_
                        refine lv_bipush (v := zI 13) C0.1 C0.2.1 dX10_one_120 rfl ?_
                        refine lv_bipush (v := zI 8) C0.1 C0.2.1 dX10_one_122 rfl ?_
                        refine mm_callVv (As := [.int (zI (9)), .int (zI (13)), .int (zI (8))]) C0 vw_X10_multiply tw_1081 (c_X10_multiply l G _ hO hR1 (t := 9) rfl (by omega) (a := 13) rfl (by omega) v13 (b := 8) rfl (by omega) v8 (by omega) (by omega) (Nat.le_trans (nl_prod hnx hnA) (by decide))) hM (hO) rfl rfl hl.1 rfl (Nat.le_of_ble_eq_true rfl) ⟨rfl, rfl, Nat.le_of_ble_eq_true rfl, Nat.le_of_ble_eq_true rfl, Nat.zero_le _, Nat.zero_le _⟩ dX10_one_124 hS (fun E15 H locs hp hM hS => ?_)
                        obtain ⟨⟨R2, hR2, v9, kr2⟩, fr⟩ := hp
                        have hO := ro.kept hO (fr _ (by omega))
                        have hfr := (fun q h => (fr q (by omega)).trans (hfr q h) : ∀ q : Nat, (q ≠ h ∧ q ≠ h + 1) → E15 q = E0 q)
                        refine lv_aload_n C0.1 C0.2.1 dX10_one_127 rfl (lv_at hl 0 rfl) ?_
                        refine lv_bipush (v := zI 11) C0.1 C0.2.1 dX10_one_128 rfl ?_
                        refine lv_bipush (v := zI 14) C0.1 C0.2.1 dX10_one_130 rfl ?_
                        refine lv_bipush (v := zI 10) C0.1 C0.2.1 dX10_one_132 rfl ?_
                        refine mm_callVv (As := [.int (zI (11)), .int (zI (14)), .int (zI (10))]) C0 vw_X10_multiply tw_1081 (c_X10_multiply l G _ hO hR2 (t := 11) rfl (by omega) (a := 14) rfl (by omega) ((kr2 14 (by omega)).trans v14) (b := 10) rfl (by omega) ((kr2 10 (by omega)).trans v10) (by omega) (by omega) (Nat.le_trans (nl_prod hny hnC) (by decide))) hM (hO) rfl rfl hl.1 rfl (Nat.le_of_ble_eq_true rfl) ⟨rfl, rfl, Nat.le_of_ble_eq_true rfl, Nat.le_of_ble_eq_true rfl, Nat.zero_le _, Nat.zero_le _⟩ dX10_one_134 hS (fun E16 H locs hp hM hS => ?_)
                        obtain ⟨⟨R3, hR3, v11, kr3⟩, fr⟩ := hp
                        have hO := ro.kept hO (fr _ (by omega))
                        have hfr := (fun q h => (fr q (by omega)).trans (hfr q h) : ∀ q : Nat, (q ≠ h ∧ q ≠ h + 1) → E16 q = E0 q)
                        refine lv_aload_n C0.1 C0.2.1 dX10_one_137 rfl (lv_at hl 0 rfl) ?_
                        refine lv_bipush (v := zI 11) C0.1 C0.2.1 dX10_one_138 rfl ?_
                        refine lv_bipush (v := zI 11) C0.1 C0.2.1 dX10_one_140 rfl ?_
                        refine lv_iload_n C0.1 C0.2.1 dX10_one_142 rfl (lv_at hl 1 rfl) ?_
                        refine z_i2l C0.1 C0.2.1 dX10_one_143 ⟨by omega, by omega⟩ ?_
                        refine lv_lconst (v := zL 0) C0.1 C0.2.1 dX10_one_144 rfl ?_
                        refine mm_callVv (As := [.int (zI (11)), .int (zI (11)), .long (zL (d)), .long (zL (0))]) C0 vw_X10_times tw_1035 (c_X10_times l G _ hO hR3 (t := 11) rfl (by omega) (a := 11) rfl (by omega) v11 d.toNat 0 hdd rfl (by omega) (by omega) (by rw [Nat.add_zero, Nat.mul_comm]; exact Nat.le_trans (nl_mul1 (by omega)) (by have := nl_prod hny hnC; omega))) hM (hO) rfl rfl hl.1 rfl (Nat.le_of_ble_eq_true rfl) ⟨rfl, rfl, Nat.le_of_ble_eq_true rfl, Nat.le_of_ble_eq_true rfl, Nat.zero_le _, Nat.zero_le _⟩ dX10_one_145 hS (fun E17 H locs hp hM hS => ?_)
                        obtain ⟨⟨R4, hR4, v11, kr4⟩, fr⟩ := hp
                        have hO := ro.kept hO (fr _ (by omega))
                        have hfr := (fun q h => (fr q (by omega)).trans (hfr q h) : ∀ q : Nat, (q ≠ h ∧ q ≠ h + 1) → E17 q = E0 q)
                        refine lv_aload_n C0.1 C0.2.1 dX10_one_148 rfl (lv_at hl 0 rfl) ?_
                        refine lv_bipush (v := zI 9) C0.1 C0.2.1 dX10_one_149 rfl ?_
                        refine lv_bipush (v := zI 9) C0.1 C0.2.1 dX10_one_151 rfl ?_
                        refine lv_bipush (v := zI 11) C0.1 C0.2.1 dX10_one_153 rfl ?_
                        refine mm_callVv (As := [.int (zI (9)), .int (zI (9)), .int (zI (11))]) C0 vw_X10_add tw_1101 (c_X10_add l G _ hO hR4 (t := 9) rfl (by omega) (a := 9) rfl (by omega) ((kr4 9 (by omega)).trans ((kr3 9 (by omega)).trans v9)) (b := 11) rfl (by omega) v11 (Nat.le_trans (nl_addn (n := 49) (Nat.le_trans (nl_prod hnx hnA) (by decide)) (by rw [Nat.add_zero, Nat.mul_comm]; exact Nat.le_trans (nl_mul1 (by omega)) (by have := nl_prod hny hnC; omega))) (by decide))) hM (hO) rfl rfl hl.1 rfl (Nat.le_of_ble_eq_true rfl) ⟨rfl, rfl, Nat.le_of_ble_eq_true rfl, Nat.le_of_ble_eq_true rfl, Nat.zero_le _, Nat.zero_le _⟩ dX10_one_155 hS (fun E18 H locs hp hM hS => ?_)
                        obtain ⟨⟨R5, hR5, v9, kr5⟩, fr⟩ := hp
                        have hO := ro.kept hO (fr _ (by omega))
                        have hfr := (fun q h => (fr q (by omega)).trans (hfr q h) : ∀ q : Nat, (q ≠ h ∧ q ≠ h + 1) → E18 q = E0 q)
                        rw [← hpe1] at v9
                        have k5 : ∀ r, r ≠ 9 → r ≠ 11 → R5 r = R1 r := fun r q1 q2 => (kr5 r q1).trans ((kr4 r q2).trans ((kr3 r q2).trans (kr2 r q1)))
                        refine lv_aload_n C0.1 C0.2.1 dX10_one_158 rfl (lv_at hl 0 rfl) ?_
                        refine lv_bipush (v := zI 11) C0.1 C0.2.1 dX10_one_159 rfl ?_
                        refine lv_bipush (v := zI 13) C0.1 C0.2.1 dX10_one_161 rfl ?_
                        refine lv_bipush (v := zI 10) C0.1 C0.2.1 dX10_one_163 rfl ?_
                        refine mm_callVv (As := [.int (zI (11)), .int (zI (13)), .int (zI (10))]) C0 vw_X10_multiply tw_1081 (c_X10_multiply l G _ hO hR5 (t := 11) rfl (by omega) (a := 13) rfl (by omega) ((k5 13 (by omega) (by omega)).trans v13) (b := 10) rfl (by omega) ((k5 10 (by omega) (by omega)).trans v10) (by omega) (by omega) (Nat.le_trans (nl_prod hnx hnC) (by decide))) hM (hO) rfl rfl hl.1 rfl (Nat.le_of_ble_eq_true rfl) ⟨rfl, rfl, Nat.le_of_ble_eq_true rfl, Nat.le_of_ble_eq_true rfl, Nat.zero_le _, Nat.zero_le _⟩ dX10_one_165 hS (fun E19 H locs hp hM hS => ?_)
                        obtain ⟨⟨R6, hR6, v11, kr6⟩, fr⟩ := hp
                        have hO := ro.kept hO (fr _ (by omega))
                        have hfr := (fun q h => (fr q (by omega)).trans (hfr q h) : ∀ q : Nat, (q ≠ h ∧ q ≠ h + 1) → E19 q = E0 q)
                        refine lv_aload_n C0.1 C0.2.1 dX10_one_168 rfl (lv_at hl 0 rfl) ?_
                        refine lv_bipush (v := zI 12) C0.1 C0.2.1 dX10_one_169 rfl ?_
                        refine lv_bipush (v := zI 14) C0.1 C0.2.1 dX10_one_171 rfl ?_
                        refine lv_bipush (v := zI 8) C0.1 C0.2.1 dX10_one_173 rfl ?_
                        refine mm_callVv (As := [.int (zI (12)), .int (zI (14)), .int (zI (8))]) C0 vw_X10_multiply tw_1081 (c_X10_multiply l G _ hO hR6 (t := 12) rfl (by omega) (a := 14) rfl (by omega) ((kr6 14 (by omega)).trans ((k5 14 (by omega) (by omega)).trans v14)) (b := 8) rfl (by omega) ((kr6 8 (by omega)).trans ((k5 8 (by omega) (by omega)).trans v8)) (by omega) (by omega) (Nat.le_trans (nl_prod hny hnA) (by decide))) hM (hO) rfl rfl hl.1 rfl (Nat.le_of_ble_eq_true rfl) ⟨rfl, rfl, Nat.le_of_ble_eq_true rfl, Nat.le_of_ble_eq_true rfl, Nat.zero_le _, Nat.zero_le _⟩ dX10_one_175 hS (fun E20 H locs hp hM hS => ?_)
                        obtain ⟨⟨R7, hR7, v12, kr7⟩, fr⟩ := hp
                        have hO := ro.kept hO (fr _ (by omega))
                        have hfr := (fun q h => (fr q (by omega)).trans (hfr q h) : ∀ q : Nat, (q ≠ h ∧ q ≠ h + 1) → E20 q = E0 q)
                        refine lv_aload_n C0.1 C0.2.1 dX10_one_178 rfl (lv_at hl 0 rfl) ?_
                        refine lv_bipush (v := zI 10) C0.1 C0.2.1 dX10_one_179 rfl ?_
                        refine lv_bipush (v := zI 11) C0.1 C0.2.1 dX10_one_181 rfl ?_
                        refine lv_bipush (v := zI 12) C0.1 C0.2.1 dX10_one_183 rfl ?_
                        refine mm_callVv (As := [.int (zI (10)), .int (zI (11)), .int (zI (12))]) C0 vw_X10_add tw_1101 (c_X10_add l G _ hO hR7 (t := 10) rfl (by omega) (a := 11) rfl (by omega) ((kr7 11 (by omega)).trans v11) (b := 12) rfl (by omega) v12 (Nat.le_trans (nl_addn (nl_prod hnx hnC) (nl_prod hny hnA)) (by decide))) hM (hO) rfl rfl hl.1 rfl (Nat.le_of_ble_eq_true rfl) ⟨rfl, rfl, Nat.le_of_ble_eq_true rfl, Nat.le_of_ble_eq_true rfl, Nat.zero_le _, Nat.zero_le _⟩ dX10_one_185 hS (fun E21 H locs hp hM hS => ?_)
                        obtain ⟨⟨R8, hR8, v10, kr8⟩, fr⟩ := hp
                        have hO := ro.kept hO (fr _ (by omega))
                        have hfr := (fun q h => (fr q (by omega)).trans (hfr q h) : ∀ q : Nat, (q ≠ h ∧ q ≠ h + 1) → E21 q = E0 q)
                        rw [← hpe2] at v10
                        have k8 : ∀ r, r ≠ 9 → r ≠ 10 → r ≠ 11 → r ≠ 12 → R8 r = R1 r := fun r q1 q2 q3 q4 => (kr8 r q2).trans ((kr7 r q4).trans ((kr6 r q3).trans (k5 r q1 q3)))
                        have v89 : R8 9 = _ := (kr8 9 (by omega)).trans ((kr7 9 (by omega)).trans ((kr6 9 (by omega)).trans v9))
                        refine lv_aload_n C0.1 C0.2.1 dX10_one_188 rfl (lv_at hl 0 rfl) ?_
                        refine lv_bipush (v := zI 8) C0.1 C0.2.1 dX10_one_189 rfl ?_
                        refine lv_bipush (v := zI 9) C0.1 C0.2.1 dX10_one_191 rfl ?_
                        refine mm_callVv (As := [.int (zI (8)), .int (zI (9))]) C0 vw_X10_copy tw_1047 (c_X10_copy l G _ hO hR8 (t := 8) rfl (by omega) (a := 9) rfl (by omega) v89) hM (hO) rfl rfl hl.1 rfl (Nat.le_of_ble_eq_true rfl) ⟨rfl, rfl, Nat.le_of_ble_eq_true rfl, Nat.le_of_ble_eq_true rfl, Nat.zero_le _, Nat.zero_le _⟩ dX10_one_193 hS (fun E22 H locs hp hM hS => ?_)
                        obtain ⟨⟨R9, hR9, v8, kr9⟩, fr⟩ := hp
                        have hO := ro.kept hO (fr _ (by omega))
                        have hfr := (fun q h => (fr q (by omega)).trans (hfr q h) : ∀ q : Nat, (q ≠ h ∧ q ≠ h + 1) → E22 q = E0 q)
                        refine lv_iinc (v := zI (((k + 1 : Nat) : Int))) (lv' := [(6, .int (zI (((k + 1 : Nat) : Int)))), (0, .ref (h)), (1, .int (zI (d))), (2, .int (zI (n))), (3, .int (zI (a))), (4, .int (zI (b)))]) C0.1 C0.2.1 dX10_one_196 hl (k := 5) rfl (z_inc (a := (k : Int)) (n := 1) (by omega)) (by decide) rfl (fun ls hl => ?_)
                        refine lv_goto (tgt := 93) C0.1 C0.2.1 dX10_one_199 (by decide) ?_
                        exact ih93  (k + 1) R9 E22 _ _ _ (by omega) (by omega) (by rw [v8, show k + 1 - 1 = k - 1 + 1 by omega]) (by rw [kr9 10 (by omega), v10, show k + 1 - 1 = k - 1 + 1 by omega]) ((kr9 13 (by omega)).trans ((k8 13 (by omega) (by omega) (by omega) (by omega)).trans v13)) ((kr9 14 (by omega)).trans ((k8 14 (by omega) (by omega) (by omega) (by omega)).trans v14)) (fun r q => (kr9 r (by omega)).trans ((k8 r (by omega) (by omega) (by omega) (by omega)).trans (k1 r q))) (hO) (hR9) (hfr) (by omega) hM hS (lv_sub hl [1, 2, 3, 4, 5, 0] rfl)
              exact L93 (_ + 1) 1 R3 E8 _ _ _ (Nat.le_refl _) (by omega) ((kr3 8 (by omega)).trans ((kr2 8 (by omega)).trans v8)) ((kr3 10 (by omega)).trans ((kr2 10 (by omega)).trans v10)) ((kr3 13 (by omega)).trans v13) (v14) (fun r q => (kr3 r (by omega)).trans ((kr2 r (by omega)).trans (k1 r q))) (hO) (hR3) (hfr) (Nat.lt_succ_self _) hM hS (lv_sub hl [2, 3, 4, 5, 6, 0] rfl)
            · skip
              refine lv_iload C0.1 C0.2.1 dX10_one_58 (lv_at hl 0 rfl) ?_
              refine lv_iconst (v := zI 1) C0.1 C0.2.1 dX10_one_60 rfl ?_
              refine z_isub C0.1 C0.2.1 dX10_one_61 ?_
              refine lv_goto (tgt := 71) C0.1 C0.2.1 dX10_one_62 (by decide) ?_
              refine z_asI (a := ((z44) - (1))) (b := ((lenR (rnL d.toNat) - 1 : Nat) : Int)) (by rw [hz44, lenR_1 (by omega)]; omega) ?_
              refine mm_callVv (As := [.int (zI (d)), .int (zI (((lenR (rnL d.toNat) - 1 : Nat) : Int)))]) C0 vw_X10_findNear tw_1221 (c_X10_findNear l G _ hO hR hdd hrl (n := lenR (rnL d.toNat) - 1) rfl (by unfold lenR; split <;> omega) (one_nl hrl hk9 (by unfold lenR; split <;> omega))) hM (hO) rfl rfl hl.1 rfl (Nat.le_of_ble_eq_true rfl) ⟨rfl, rfl, Nat.le_of_ble_eq_true rfl, Nat.le_of_ble_eq_true rfl, Nat.zero_le _, Nat.zero_le _⟩ dX10_one_71 hS (fun E23 H locs hp hM hS => ?_)
              obtain ⟨⟨R1, hR1, v8, v10, k1⟩, ⟨y5, y6, y7, hO⟩, fr⟩ := hp
              have hfr := (fun q h => (fr q (by omega)).trans (hfr q h) : ∀ q : Nat, (q ≠ h ∧ q ≠ h + 1) → E23 q = E0 q)
              obtain ⟨x9, hx9⟩ : ∃ x, x = cvp d.toNat f (lenR (rnL d.toNat) - 1) := ⟨_, rfl⟩
              obtain ⟨y9, hy9⟩ : ∃ y, y = cvq d.toNat f (lenR (rnL d.toNat) - 1) := ⟨_, rfl⟩
              rw [← hx9] at v8
              rw [← hy9] at v10
              have hyx : y9 ≤ x9 := by rw [hx9, hy9]; exact (cv_old hrl _).2.1
              have hx1 : 1 ≤ x9 := by rw [hx9]; exact (cv_le hrl.1 hrl.2.2.1 hrl.2.2.2.1 _).2.2
              have hd1 : 1 ≤ d.toNat := by omega
              refine lv_aload_n C0.1 C0.2.1 dX10_one_74 rfl (lv_at hl 1 rfl) ?_
              refine lv_bipush (v := zI 13) C0.1 C0.2.1 dX10_one_75 rfl ?_
              refine lv_bipush (v := zI 8) C0.1 C0.2.1 dX10_one_77 rfl ?_
              refine mm_callVv (As := [.int (zI (13)), .int (zI (8))]) C0 vw_X10_copy tw_1047 (c_X10_copy l G _ hO hR1 (t := 13) rfl (by omega) (a := 8) rfl (by omega) v8) hM (hO) rfl rfl hl.1 rfl (Nat.le_of_ble_eq_true rfl) ⟨rfl, rfl, Nat.le_of_ble_eq_true rfl, Nat.le_of_ble_eq_true rfl, Nat.zero_le _, Nat.zero_le _⟩ dX10_one_79 hS (fun E24 H locs hp hM hS => ?_)
              obtain ⟨⟨R2, hR2, v13, kr2⟩, fr⟩ := hp
              have hO := ro.kept hO (fr _ (by omega))
              have hfr := (fun q h => (fr q (by omega)).trans (hfr q h) : ∀ q : Nat, (q ≠ h ∧ q ≠ h + 1) → E24 q = E0 q)
              refine lv_aload_n C0.1 C0.2.1 dX10_one_82 rfl (lv_at hl 1 rfl) ?_
              refine lv_bipush (v := zI 14) C0.1 C0.2.1 dX10_one_83 rfl ?_
              refine lv_bipush (v := zI 10) C0.1 C0.2.1 dX10_one_85 rfl ?_
              refine mm_callVv (As := [.int (zI (14)), .int (zI (10))]) C0 vw_X10_copy tw_1047 (c_X10_copy l G _ hO hR2 (t := 14) rfl (by omega) (a := 10) rfl (by omega) ((kr2 10 (by omega)).trans v10)) hM (hO) rfl rfl hl.1 rfl (Nat.le_of_ble_eq_true rfl) ⟨rfl, rfl, Nat.le_of_ble_eq_true rfl, Nat.le_of_ble_eq_true rfl, Nat.zero_le _, Nat.zero_le _⟩ dX10_one_87 hS (fun E25 H locs hp hM hS => ?_)
              obtain ⟨⟨R3, hR3, v14, kr3⟩, fr⟩ := hp
              have hO := ro.kept hO (fr _ (by omega))
              have hfr := (fun q h => (fr q (by omega)).trans (hfr q h) : ∀ q : Nat, (q ≠ h ∧ q ≠ h + 1) → E25 q = E0 q)
              refine lv_iconst (v := zI 1) C0.1 C0.2.1 dX10_one_90 rfl ?_
              refine lv_istore (lv' := [(6, .int (zI (1))), (5, .int (zI (z44))), (0, .ref (h)), (1, .int (zI (d))), (2, .int (zI (n))), (3, .int (zI (a))), (4, .int (zI (b)))]) C0.1 C0.2.1 dX10_one_91 hl (by decide) rfl (fun ls hl => ?_)
              have L93 : ∀ (k93 : Nat) (k : Nat) (R1 : Nat → Nat) (E26 : mE) (H : Heap) (locs : List Loc) (ls : Array Slot), (1 ≤ k) → ((k : Int) ≤ n) → (R1 8 = (pel d.toNat x9 y9 (k - 1)).1) → (R1 10 = (pel d.toNat x9 y9 (k - 1)).2) → (R1 13 = x9) → (R1 14 = y9) → (∀ r, r < 8 → R1 r = R r) → (ro G E26 h ((S.1.2.2 : Nat) : Int) x2 x3 x4 y5 y6 y7 S.1.1) → (rg G E26 h R1) → (∀ q : Nat, (q ≠ h ∧ q ≠ h + 1) → E26 q = E0 q) → n.toNat - k < k93 → mm_M G E26 H → va_S (mm_A G) s.heap H locs → lv_has ls 7 [(0, .ref (h)), (1, .int (zI (d))), (2, .int (zI (n))), (3, .int (zI (a))), (4, .int (zI (b))), (6, .int (zI ((k : Int))))] → W p l e rX10_one s m args below meth c H locs 0 0 (mm_Zi G below args s (fun z E => z = (pf_one S d n a b).1 ∧ rf G E h (pf_one S d n a b).2 ∧ ∀ q : Nat, (q < h ∨ h + 13 ≤ q) → E q = E0 q)) (F0 m 93 ls []) := by
                intro k93
                induction k93 with
                | zero => intro k R1 E26 H locs ls hk1 hkn v8 v10 v13 v14 k1 hO hR1 hfr hk hM hS hl; exact absurd hk (Nat.not_lt_zero _)
                | succ k93 ih93 =>
                  intro k R1 E26 H locs ls hk1 hkn v8 v10 v13 v14 k1 hO hR1 hfr hk93 hM hS hl
                  obtain ⟨hle9, -, -⟩ := pel_le hd1 hyx hx1 (k - 1)
                  have hmo := pel_mono hd1 hyx hx1 (m := 0) (n := k - 1) (Nat.zero_le _)
                  have hmo : x9 ≤ (pel d.toNat x9 y9 (k - 1)).1 := hmo
                  have hmn := nl_mono (pel_mono hd1 hyx hx1 (m := k - 1) (n := n.toNat - 1) (by omega))
                  have hmc := nl_mono hle9
                  have hX1 := hX0.wo hR1 k1 hO hfr
                  refine lv_iload C0.1 C0.2.1 dX10_one_93 (lv_at hl 5 rfl) ?_
                  refine lv_iload_n C0.1 C0.2.1 dX10_one_95 rfl (lv_at hl 2 rfl) ?_
                  refine z_icmp_ge (tgt := 202) C0.1 C0.2.1 dX10_one_96 (by decide) ⟨by omega, by omega⟩ ⟨by omega, by omega⟩ (fun c_96 => ?_) (fun c_96 => ?_)
                  · skip
                    refine lv_aload_n C0.1 C0.2.1 dX10_one_202 rfl (lv_at hl 0 rfl) ?_
                    refine lv_iload_n C0.1 C0.2.1 dX10_one_203 rfl (lv_at hl 3 rfl) ?_
                    refine lv_iload C0.1 C0.2.1 dX10_one_204 (lv_at hl 4 rfl) ?_
                    refine mm_callVi (As := [.int (zI (a)), .int (zI (b))]) C0 vw_X10_comeTwo tw_1225 (c_X10_comeTwo l G _ hX1 hpi hi_i hpj hi_j v8 v10 hle9) hM (hO) rfl rfl hl.1 rfl (Nat.le_of_ble_eq_true rfl) ⟨rfl, rfl, Nat.le_of_ble_eq_true rfl, Nat.le_of_ble_eq_true rfl, Nat.zero_le _, Nat.zero_le _⟩ dX10_one_206 hS (fun z9 E27 H locs hp hM hS => ?_)
                    obtain ⟨hz9, hF9, fr⟩ := hp
                    have hfF : ∀ q : Nat, (q < h ∨ h + 13 ≤ q) → E27 q = E0 q := fun q hq => (fr q hq).trans (hfr q (by omega))
                    exact mm_iret (z := z9) C0 hr hlk hM hS dX10_one_209 (by have he : pf_one S d n a b = two_ S i j (pel d.toNat x9 y9 (k - 1)).1 (pel d.toNat x9 y9 (k - 1)).2 := (by unfold pf_one; rw [if_pos ⟨hyes, by omega, by omega⟩, hfe, ht_i, ht_j]; unfold onA onB; rw [← hx9, ← hy9]; by_cases q : k = n.toNat; (rw [q]); exact two_l (by omega) (by omega)); rw [he]; exact ⟨hz9, hF9, hfF⟩)
                  · skip
                    refine lv_aload_n C0.1 C0.2.1 dX10_one_99 rfl (lv_at hl 0 rfl) ?_
                    refine lv_bipush (v := zI 8) C0.1 C0.2.1 dX10_one_100 rfl ?_
                    refine mm_callVi (As := [.int (zI (8))]) C0 vw_X10_isLong tw_1043 (c_X10_isLong l G _ hO hR1 (a := 8) rfl (by omega) v8) hM (hO) rfl rfl hl.1 rfl (Nat.le_of_ble_eq_true rfl) ⟨rfl, rfl, Nat.le_of_ble_eq_true rfl, Nat.le_of_ble_eq_true rfl, Nat.zero_le _, Nat.zero_le _⟩ dX10_one_102 hS (fun z_102 E28 H locs hp hM hS => ?_)
                    obtain ⟨hz_102, hEq⟩ := hp
                    rw [hEq] at hM
                    have hz_102b := if01 hz_102
                    refine z_if_ne (tgt := 202) C0.1 C0.2.1 dX10_one_105 (by decide) ⟨by omega, by omega⟩ (fun c_105 => ?_) (fun c_105 => ?_)
                    · skip
                      refine lv_aload_n C0.1 C0.2.1 dX10_one_202 rfl (lv_at hl 0 rfl) ?_
                      refine lv_iload_n C0.1 C0.2.1 dX10_one_203 rfl (lv_at hl 3 rfl) ?_
                      refine lv_iload C0.1 C0.2.1 dX10_one_204 (lv_at hl 4 rfl) ?_
                      refine mm_callVi (As := [.int (zI (a)), .int (zI (b))]) C0 vw_X10_comeTwo tw_1225 (c_X10_comeTwo l G _ hX1 hpi hi_i hpj hi_j v8 v10 hle9) hM (hO) rfl rfl hl.1 rfl (Nat.le_of_ble_eq_true rfl) ⟨rfl, rfl, Nat.le_of_ble_eq_true rfl, Nat.le_of_ble_eq_true rfl, Nat.zero_le _, Nat.zero_le _⟩ dX10_one_206 hS (fun z9 E29 H locs hp hM hS => ?_)
                      obtain ⟨hz9, hF9, fr⟩ := hp
                      have hfF : ∀ q : Nat, (q < h ∨ h + 13 ≤ q) → E29 q = E0 q := fun q hq => (fr q hq).trans (hfr q (by omega))
                      exact mm_iret (z := z9) C0 hr hlk hM hS dX10_one_209 (by have he : pf_one S d n a b = two_ S i j (pel d.toNat x9 y9 (k - 1)).1 (pel d.toNat x9 y9 (k - 1)).2 := (by unfold pf_one; rw [if_pos ⟨hyes, by omega, by omega⟩, hfe, ht_i, ht_j]; unfold onA onB; rw [← hx9, ← hy9]; by_cases q : k = n.toNat; (rw [q]); exact two_l (by omega) (by omega)); rw [he]; exact ⟨hz9, hF9, hfF⟩)
                    · skip
                      refine lv_aload_n C0.1 C0.2.1 dX10_one_108 rfl (lv_at hl 0 rfl) ?_
                      refine lv_bipush (v := zI 10) C0.1 C0.2.1 dX10_one_109 rfl ?_
                      refine mm_callVi (As := [.int (zI (10))]) C0 vw_X10_isLong tw_1043 (c_X10_isLong l G _ hO hR1 (a := 10) rfl (by omega) v10) hM (hO) rfl rfl hl.1 rfl (Nat.le_of_ble_eq_true rfl) ⟨rfl, rfl, Nat.le_of_ble_eq_true rfl, Nat.le_of_ble_eq_true rfl, Nat.zero_le _, Nat.zero_le _⟩ dX10_one_111 hS (fun z_111 E30 H locs hp hM hS => ?_)
                      obtain ⟨hz_111, hEq⟩ := hp
                      rw [hEq] at hM
                      have hz_111b := if01 hz_111
                      refine z_if_ne (tgt := 202) C0.1 C0.2.1 dX10_one_114 (by decide) ⟨by omega, by omega⟩ (fun c_114 => ?_) (fun c_114 => ?_)
                      · skip
                        refine lv_aload_n C0.1 C0.2.1 dX10_one_202 rfl (lv_at hl 0 rfl) ?_
                        refine lv_iload_n C0.1 C0.2.1 dX10_one_203 rfl (lv_at hl 3 rfl) ?_
                        refine lv_iload C0.1 C0.2.1 dX10_one_204 (lv_at hl 4 rfl) ?_
                        refine mm_callVi (As := [.int (zI (a)), .int (zI (b))]) C0 vw_X10_comeTwo tw_1225 (c_X10_comeTwo l G _ hX1 hpi hi_i hpj hi_j v8 v10 hle9) hM (hO) rfl rfl hl.1 rfl (Nat.le_of_ble_eq_true rfl) ⟨rfl, rfl, Nat.le_of_ble_eq_true rfl, Nat.le_of_ble_eq_true rfl, Nat.zero_le _, Nat.zero_le _⟩ dX10_one_206 hS (fun z9 E31 H locs hp hM hS => ?_)
                        obtain ⟨hz9, hF9, fr⟩ := hp
                        have hfF : ∀ q : Nat, (q < h ∨ h + 13 ≤ q) → E31 q = E0 q := fun q hq => (fr q hq).trans (hfr q (by omega))
                        exact mm_iret (z := z9) C0 hr hlk hM hS dX10_one_209 (by have he : pf_one S d n a b = two_ S i j (pel d.toNat x9 y9 (k - 1)).1 (pel d.toNat x9 y9 (k - 1)).2 := (by unfold pf_one; rw [if_pos ⟨hyes, by omega, by omega⟩, hfe, ht_i, ht_j]; unfold onA onB; rw [← hx9, ← hy9]; by_cases q : k = n.toNat; (rw [q]); exact two_l (by omega) (by omega)); rw [he]; exact ⟨hz9, hF9, hfF⟩)
                      · skip
                        obtain ⟨hpe1, hpe2⟩ := pel_e (d := d.toNat) (x := x9) (y := y9) (n := k - 1)
                        have hnA : nl (pel d.toNat x9 y9 (k - 1)).1 ≤ 24 := by omega
                        have hnC : nl (pel d.toNat x9 y9 (k - 1)).2 ≤ 24 := by omega
                        have hnx : nl x9 ≤ 24 := Nat.le_trans (nl_mono hmo) hnA
                        have hny : nl y9 ≤ 24 := Nat.le_trans (nl_mono hyx) hnx
                        refine lv_aload_n C0.1 C0.2.1 dX10_one_117 rfl (lv_at hl 0 rfl) ?_
                        refine lv_bipush (v := zI 9) C0.1 C0.2.1 dX10_one_118 rfl ?_
                        refine lv_bipush (v := zI 13) C0.1 C0.2.1 dX10_one_120 rfl ?_
                        refine lv_bipush (v := zI 8) C0.1 C0.2.1 dX10_one_122 rfl ?_
                        refine mm_callVv (As := [.int (zI (9)), .int (zI (13)), .int (zI (8))]) C0 vw_X10_multiply tw_1081 (c_X10_multiply l G _ hO hR1 (t := 9) rfl (by omega) (a := 13) rfl (by omega) v13 (b := 8) rfl (by omega) v8 (by omega) (by omega) (Nat.le_trans (nl_prod hnx hnA) (by decide))) hM (hO) rfl rfl hl.1 rfl (Nat.le_of_ble_eq_true rfl) ⟨rfl, rfl, Nat.le_of_ble_eq_true rfl, Nat.le_of_ble_eq_true rfl, Nat.zero_le _, Nat.zero_le _⟩ dX10_one_124 hS (fun E32 H locs hp hM hS => ?_)
                        obtain ⟨⟨R2, hR2, v9, kr2⟩, fr⟩ := hp
                        have hO := ro.kept hO (fr _ (by omega))
                        have hfr := (fun q h => (fr q (by omega)).trans (hfr q h) : ∀ q : Nat, (q ≠ h ∧ q ≠ h + 1) → E32 q = E0 q)
                        refine lv_aload_n C0.1 C0.2.1 dX10_one_127 rfl (lv_at hl 0 rfl) ?_
                        refine lv_bipush (v := zI 11) C0.1 C0.2.1 dX10_one_128 rfl ?_
                        refine lv_bipush (v := zI 14) C0.1 C0.2.1 dX10_one_130 rfl ?_
                        refine lv_bipush (v := zI 10) C0.1 C0.2.1 dX10_one_132 rfl ?_
                        refine mm_callVv (As := [.int (zI (11)), .int (zI (14)), .int (zI (10))]) C0 vw_X10_multiply tw_1081 (c_X10_multiply l G _ hO hR2 (t := 11) rfl (by omega) (a := 14) rfl (by omega) ((kr2 14 (by omega)).trans v14) (b := 10) rfl (by omega) ((kr2 10 (by omega)).trans v10) (by omega) (by omega) (Nat.le_trans (nl_prod hny hnC) (by decide))) hM (hO) rfl rfl hl.1 rfl (Nat.le_of_ble_eq_true rfl) ⟨rfl, rfl, Nat.le_of_ble_eq_true rfl, Nat.le_of_ble_eq_true rfl, Nat.zero_le _, Nat.zero_le _⟩ dX10_one_134 hS (fun E33 H locs hp hM hS => ?_)
                        obtain ⟨⟨R3, hR3, v11, kr3⟩, fr⟩ := hp
                        have hO := ro.kept hO (fr _ (by omega))
                        have hfr := (fun q h => (fr q (by omega)).trans (hfr q h) : ∀ q : Nat, (q ≠ h ∧ q ≠ h + 1) → E33 q = E0 q)
                        refine lv_aload_n C0.1 C0.2.1 dX10_one_137 rfl (lv_at hl 0 rfl) ?_
                        refine lv_bipush (v := zI 11) C0.1 C0.2.1 dX10_one_138 rfl ?_
                        refine lv_bipush (v := zI 11) C0.1 C0.2.1 dX10_one_140 rfl ?_
                        refine lv_iload_n C0.1 C0.2.1 dX10_one_142 rfl (lv_at hl 1 rfl) ?_
                        refine z_i2l C0.1 C0.2.1 dX10_one_143 ⟨by omega, by omega⟩ ?_
                        refine lv_lconst (v := zL 0) C0.1 C0.2.1 dX10_one_144 rfl ?_
                        refine mm_callVv (As := [.int (zI (11)), .int (zI (11)), .long (zL (d)), .long (zL (0))]) C0 vw_X10_times tw_1035 (c_X10_times l G _ hO hR3 (t := 11) rfl (by omega) (a := 11) rfl (by omega) v11 d.toNat 0 hdd rfl (by omega) (by omega) (by rw [Nat.add_zero, Nat.mul_comm]; exact Nat.le_trans (nl_mul1 (by omega)) (by have := nl_prod hny hnC; omega))) hM (hO) rfl rfl hl.1 rfl (Nat.le_of_ble_eq_true rfl) ⟨rfl, rfl, Nat.le_of_ble_eq_true rfl, Nat.le_of_ble_eq_true rfl, Nat.zero_le _, Nat.zero_le _⟩ dX10_one_145 hS (fun E34 H locs hp hM hS => ?_)
                        obtain ⟨⟨R4, hR4, v11, kr4⟩, fr⟩ := hp
                        have hO := ro.kept hO (fr _ (by omega))
                        have hfr := (fun q h => (fr q (by omega)).trans (hfr q h) : ∀ q : Nat, (q ≠ h ∧ q ≠ h + 1) → E34 q = E0 q)
                        refine lv_aload_n C0.1 C0.2.1 dX10_one_148 rfl (lv_at hl 0 rfl) ?_
                        refine lv_bipush (v := zI 9) C0.1 C0.2.1 dX10_one_149 rfl ?_
                        refine lv_bipush (v := zI 9) C0.1 C0.2.1 dX10_one_151 rfl ?_
                        refine lv_bipush (v := zI 11) C0.1 C0.2.1 dX10_one_153 rfl ?_
                        refine mm_callVv (As := [.int (zI (9)), .int (zI (9)), .int (zI (11))]) C0 vw_X10_add tw_1101 (c_X10_add l G _ hO hR4 (t := 9) rfl (by omega) (a := 9) rfl (by omega) ((kr4 9 (by omega)).trans ((kr3 9 (by omega)).trans v9)) (b := 11) rfl (by omega) v11 (Nat.le_trans (nl_addn (n := 49) (Nat.le_trans (nl_prod hnx hnA) (by decide)) (by rw [Nat.add_zero, Nat.mul_comm]; exact Nat.le_trans (nl_mul1 (by omega)) (by have := nl_prod hny hnC; omega))) (by decide))) hM (hO) rfl rfl hl.1 rfl (Nat.le_of_ble_eq_true rfl) ⟨rfl, rfl, Nat.le_of_ble_eq_true rfl, Nat.le_of_ble_eq_true rfl, Nat.zero_le _, Nat.zero_le _⟩ dX10_one_155 hS (fun E35 H locs hp hM hS => ?_)
                        obtain ⟨⟨R5, hR5, v9, kr5⟩, fr⟩ := hp
                        have hO := ro.kept hO (fr _ (by omega))
                        have hfr := (fun q h => (fr q (by omega)).trans (hfr q h) : ∀ q : Nat, (q ≠ h ∧ q ≠ h + 1) → E35 q = E0 q)
                        rw [← hpe1] at v9
                        have k5 : ∀ r, r ≠ 9 → r ≠ 11 → R5 r = R1 r := fun r q1 q2 => (kr5 r q1).trans ((kr4 r q2).trans ((kr3 r q2).trans (kr2 r q1)))
                        refine lv_aload_n C0.1 C0.2.1 dX10_one_158 rfl (lv_at hl 0 rfl) ?_
                        refine lv_bipush (v := zI 11) C0.1 C0.2.1 dX10_one_159 rfl ?_
                        refine lv_bipush (v := zI 13) C0.1 C0.2.1 dX10_one_161 rfl ?_
                        refine lv_bipush (v := zI 10) C0.1 C0.2.1 dX10_one_163 rfl ?_
                        refine mm_callVv (As := [.int (zI (11)), .int (zI (13)), .int (zI (10))]) C0 vw_X10_multiply tw_1081 (c_X10_multiply l G _ hO hR5 (t := 11) rfl (by omega) (a := 13) rfl (by omega) ((k5 13 (by omega) (by omega)).trans v13) (b := 10) rfl (by omega) ((k5 10 (by omega) (by omega)).trans v10) (by omega) (by omega) (Nat.le_trans (nl_prod hnx hnC) (by decide))) hM (hO) rfl rfl hl.1 rfl (Nat.le_of_ble_eq_true rfl) ⟨rfl, rfl, Nat.le_of_ble_eq_true rfl, Nat.le_of_ble_eq_true rfl, Nat.zero_le _, Nat.zero_le _⟩ dX10_one_165 hS (fun E36 H locs hp hM hS => ?_)
                        obtain ⟨⟨R6, hR6, v11, kr6⟩, fr⟩ := hp
                        have hO := ro.kept hO (fr _ (by omega))
                        have hfr := (fun q h => (fr q (by omega)).trans (hfr q h) : ∀ q : Nat, (q ≠ h ∧ q ≠ h + 1) → E36 q = E0 q)
                        refine lv_aload_n C0.1 C0.2.1 dX10_one_168 rfl (lv_at hl 0 rfl) ?_
                        refine lv_bipush (v := zI 12) C0.1 C0.2.1 dX10_one_169 rfl ?_
                        refine lv_bipush (v := zI 14) C0.1 C0.2.1 dX10_one_171 rfl ?_
                        refine lv_bipush (v := zI 8) C0.1 C0.2.1 dX10_one_173 rfl ?_
                        refine mm_callVv (As := [.int (zI (12)), .int (zI (14)), .int (zI (8))]) C0 vw_X10_multiply tw_1081 (c_X10_multiply l G _ hO hR6 (t := 12) rfl (by omega) (a := 14) rfl (by omega) ((kr6 14 (by omega)).trans ((k5 14 (by omega) (by omega)).trans v14)) (b := 8) rfl (by omega) ((kr6 8 (by omega)).trans ((k5 8 (by omega) (by omega)).trans v8)) (by omega) (by omega) (Nat.le_trans (nl_prod hny hnA) (by decide))) hM (hO) rfl rfl hl.1 rfl (Nat.le_of_ble_eq_true rfl) ⟨rfl, rfl, Nat.le_of_ble_eq_true rfl, Nat.le_of_ble_eq_true rfl, Nat.zero_le _, Nat.zero_le _⟩ dX10_one_175 hS (fun E37 H locs hp hM hS => ?_)
                        obtain ⟨⟨R7, hR7, v12, kr7⟩, fr⟩ := hp
                        have hO := ro.kept hO (fr _ (by omega))
                        have hfr := (fun q h => (fr q (by omega)).trans (hfr q h) : ∀ q : Nat, (q ≠ h ∧ q ≠ h + 1) → E37 q = E0 q)
                        refine lv_aload_n C0.1 C0.2.1 dX10_one_178 rfl (lv_at hl 0 rfl) ?_
                        refine lv_bipush (v := zI 10) C0.1 C0.2.1 dX10_one_179 rfl ?_
                        refine lv_bipush (v := zI 11) C0.1 C0.2.1 dX10_one_181 rfl ?_
                        refine lv_bipush (v := zI 12) C0.1 C0.2.1 dX10_one_183 rfl ?_
                        refine mm_callVv (As := [.int (zI (10)), .int (zI (11)), .int (zI (12))]) C0 vw_X10_add tw_1101 (c_X10_add l G _ hO hR7 (t := 10) rfl (by omega) (a := 11) rfl (by omega) ((kr7 11 (by omega)).trans v11) (b := 12) rfl (by omega) v12 (Nat.le_trans (nl_addn (nl_prod hnx hnC) (nl_prod hny hnA)) (by decide))) hM (hO) rfl rfl hl.1 rfl (Nat.le_of_ble_eq_true rfl) ⟨rfl, rfl, Nat.le_of_ble_eq_true rfl, Nat.le_of_ble_eq_true rfl, Nat.zero_le _, Nat.zero_le _⟩ dX10_one_185 hS (fun E38 H locs hp hM hS => ?_)
                        obtain ⟨⟨R8, hR8, v10, kr8⟩, fr⟩ := hp
                        have hO := ro.kept hO (fr _ (by omega))
                        have hfr := (fun q h => (fr q (by omega)).trans (hfr q h) : ∀ q : Nat, (q ≠ h ∧ q ≠ h + 1) → E38 q = E0 q)
                        rw [← hpe2] at v10
                        have k8 : ∀ r, r ≠ 9 → r ≠ 10 → r ≠ 11 → r ≠ 12 → R8 r = R1 r := fun r q1 q2 q3 q4 => (kr8 r q2).trans ((kr7 r q4).trans ((kr6 r q3).trans (k5 r q1 q3)))
                        have v89 : R8 9 = _ := (kr8 9 (by omega)).trans ((kr7 9 (by omega)).trans ((kr6 9 (by omega)).trans v9))
                        refine lv_aload_n C0.1 C0.2.1 dX10_one_188 rfl (lv_at hl 0 rfl) ?_
                        refine lv_bipush (v := zI 8) C0.1 C0.2.1 dX10_one_189 rfl ?_
                        refine lv_bipush (v := zI 9) C0.1 C0.2.1 dX10_one_191 rfl ?_
                        refine mm_callVv (As := [.int (zI (8)), .int (zI (9))]) C0 vw_X10_copy tw_1047 (c_X10_copy l G _ hO hR8 (t := 8) rfl (by omega) (a := 9) rfl (by omega) v89) hM (hO) rfl rfl hl.1 rfl (Nat.le_of_ble_eq_true rfl) ⟨rfl, rfl, Nat.le_of_ble_eq_true rfl, Nat.le_of_ble_eq_true rfl, Nat.zero_le _, Nat.zero_le _⟩ dX10_one_193 hS (fun E39 H locs hp hM hS => ?_)
                        obtain ⟨⟨R9, hR9, v8, kr9⟩, fr⟩ := hp
                        have hO := ro.kept hO (fr _ (by omega))
                        have hfr := (fun q h => (fr q (by omega)).trans (hfr q h) : ∀ q : Nat, (q ≠ h ∧ q ≠ h + 1) → E39 q = E0 q)
                        refine lv_iinc (v := zI (((k + 1 : Nat) : Int))) (lv' := [(6, .int (zI (((k + 1 : Nat) : Int)))), (0, .ref (h)), (1, .int (zI (d))), (2, .int (zI (n))), (3, .int (zI (a))), (4, .int (zI (b)))]) C0.1 C0.2.1 dX10_one_196 hl (k := 5) rfl (z_inc (a := (k : Int)) (n := 1) (by omega)) (by decide) rfl (fun ls hl => ?_)
                        refine lv_goto (tgt := 93) C0.1 C0.2.1 dX10_one_199 (by decide) ?_
                        exact ih93  (k + 1) R9 E39 _ _ _ (by omega) (by omega) (by rw [v8, show k + 1 - 1 = k - 1 + 1 by omega]) (by rw [kr9 10 (by omega), v10, show k + 1 - 1 = k - 1 + 1 by omega]) ((kr9 13 (by omega)).trans ((k8 13 (by omega) (by omega) (by omega) (by omega)).trans v13)) ((kr9 14 (by omega)).trans ((k8 14 (by omega) (by omega) (by omega) (by omega)).trans v14)) (fun r q => (kr9 r (by omega)).trans ((k8 r (by omega) (by omega) (by omega) (by omega)).trans (k1 r q))) (hO) (hR9) (hfr) (by omega) hM hS (lv_sub hl [1, 2, 3, 4, 5, 0] rfl)
              exact L93 (_ + 1) 1 R3 E25 _ _ _ (Nat.le_refl _) (by omega) ((kr3 8 (by omega)).trans ((kr2 8 (by omega)).trans v8)) ((kr3 10 (by omega)).trans ((kr2 10 (by omega)).trans v10)) ((kr3 13 (by omega)).trans v13) (v14) (fun r q => (kr3 r (by omega)).trans ((kr2 r (by omega)).trans (k1 r q))) (hO) (hR3) (hfr) (Nat.lt_succ_self _) hM hS (lv_sub hl [2, 3, 4, 5, 6, 0] rfl)
          · skip
            refine lv_iconst (v := zI (-1)) C0.1 C0.2.1 dX10_one_40 rfl ?_
            exact mm_iret (z := (-1)) C0 hr hlk hM hS dX10_one_41 (by have he : pf_one S d n a b = ((-1), S) := (by unfold pf_one; rw [if_neg (fun q => by have q1 := q.2; omega)]); rw [he]; exact ⟨rfl, hX0.rf, fun _ _ => rfl⟩)
