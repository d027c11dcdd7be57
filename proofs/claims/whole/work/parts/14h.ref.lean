def rX10_heapTimesSix : Room := { frames := 2, cells := 0, slots := 0, locals := 51 }
theorem vw_X10_heapTimesSix : mm_Vw RX10 yX10_heapTimesSix cX10_heapTimesSix 3 none 2 := ⟨tw_1087, tp_32, tw_10, tw_1088, by decide +kernel⟩
set_option maxHeartbeats 4000000 in
set_option maxRecDepth 100000 in
theorem c_X10_heapTimesSix (l : Launch) (G : mG) (E0 : mE) {h : Nat} {x1 x2 x3 x4 x5 x6 x7 x8 : Int} (hO : ro G E0 h x1 x2 x3 x4 x5 x6 x7 x8) {R : Nat → Nat} (hR : rg G E0 h R) {jj : Int} {b N : Nat} (hjj : jj = (b : Int)) (hb : b < 9) (hN : R b = N) {kk : Int} {k : Nat} (hkk : kk = (k : Int)) (hk9 : k ≤ 99) (hk3 : 3 ≤ k) (hn : nl N ≤ 25) : mm_Cv l yX10_heapTimesSix (.code yX10_heapTimesSix cX10_heapTimesSix 3 none :: wsG) rX10_heapTimesSix G [.ref (h), .int (zI (kk)), .int (zI (jj))] E0 (fun E => (∃ R1, rg G E h R1 ∧ R1 9 = shp 4 k N * 6 ∧ ∀ r, r ≠ 9 → r ≠ 10 → r ≠ 11 → R1 r = R r) ∧ ∀ q : Nat, (q ≠ h + 1) → E q = E0 q) := by
  refine mm_of_v (by decide +kernel) (Nat.le_of_ble_eq_true rfl) ?_
  intro p e s m args below meth c ls C0 hr hlk hM hl hS
  have hl : lv_has ls 3 [(0, .ref (h)), (1, .int (zI (kk))), (2, .int (zI (jj)))] := hl
  have hfr : ∀ q : Nat, (q ≠ h + 1) → E0 q = E0 q := fun _ _ => rfl
  have hz0 := nl_eq0 (N := N)
  refine lv_aload_n C0.1 C0.2.1 dX10_heapTimesSix_0 rfl (lv_at hl 0 rfl) ?_
  refine lv_iload_n C0.1 C0.2.1 dX10_heapTimesSix_1 rfl (lv_at hl 2 rfl) ?_
  refine mm_callVi (As := [.int (zI (jj))]) C0 vw_X10_sizeOf tw_997 (c_X10_sizeOf l G _ hO hR hjj (by omega) hN) hM (hO) rfl rfl hl.1 rfl (Nat.le_of_ble_eq_true rfl) ⟨rfl, rfl, Nat.le_of_ble_eq_true rfl, Nat.le_of_ble_eq_true rfl, Nat.zero_le _, Nat.zero_le _⟩ dX10_heapTimesSix_2 hS (fun z_2 E1 H locs hp hM hS => ?_)
  obtain ⟨hz_2, hEq⟩ := hp
  rw [hEq] at hM
  refine z_asI (b := (nl N : Int)) (hz_2) ?_
  refine z_if_ne (tgt := 16) C0.1 C0.2.1 dX10_heapTimesSix_5 (by decide) ⟨by omega, by omega⟩ (fun c_5 => ?_) (fun c_5 => ?_)
  · skip
    have hN0 : N ≠ 0 := fun q => by rw [q, nl_0] at c_5; exact c_5 rfl
    have hn1 : nl (N + 1) ≤ 80 := Nat.le_trans (nl_addn (a := N) (b := 1) (n := 25) hn (nl_mono (show 1 ≤ N by omega) |> fun q => Nat.le_trans q hn)) (by decide)
    have hn1b : nl (N + 1) ≤ 26 := nl_addn (a := N) (b := 1) (n := 25) hn (nl_mono (show 1 ≤ N by omega) |> fun q => Nat.le_trans q hn)
    have hn2 : nl (N * (1 * N + 1)) ≤ 51 := by rw [Nat.one_mul]; exact nl_prod hn hn1b
    have hn2b : nl (N * (N + 1)) ≤ 51 := nl_prod hn hn1b
    have hn3 : nl (facN N (k - 2) ((k : Int) - 5)) ≤ 27 := Nat.le_trans (nl_fac (by omega) (by omega) (by omega) (by omega)) (by omega)
    refine lv_aload_n C0.1 C0.2.1 dX10_heapTimesSix_16 rfl (lv_at hl 0 rfl) ?_
    refine lv_bipush (v := zI 10) C0.1 C0.2.1 dX10_heapTimesSix_17 rfl ?_
    refine lv_iload_n C0.1 C0.2.1 dX10_heapTimesSix_19 rfl (lv_at hl 2 rfl) ?_
    refine lv_lconst (v := zL 1) C0.1 C0.2.1 dX10_heapTimesSix_20 rfl ?_
    refine lv_lconst (v := zL 1) C0.1 C0.2.1 dX10_heapTimesSix_21 rfl ?_
    refine mm_callVv (As := [.int (zI (10)), .int (zI (jj)), .long (zL (1)), .long (zL (1))]) C0 vw_X10_times tw_1035 (c_X10_times l G _ hO hR (t := 10) rfl (by omega) hjj (by omega) hN 1 1 rfl rfl (by omega) (by omega) (by rw [Nat.one_mul]; exact hn1)) hM (hO) rfl rfl hl.1 rfl (Nat.le_of_ble_eq_true rfl) ⟨rfl, rfl, Nat.le_of_ble_eq_true rfl, Nat.le_of_ble_eq_true rfl, Nat.zero_le _, Nat.zero_le _⟩ dX10_heapTimesSix_22 hS (fun E2 H locs hp hM hS => ?_)
    obtain ⟨⟨R1, hR1, v10, kr1⟩, fr⟩ := hp
    have hO := ro.kept hO (fr _ (by omega))
    have hfr := (fun q h => (fr q (by omega)).trans (hfr q h) : ∀ q : Nat, (q ≠ h + 1) → E2 q = E0 q)
    refine lv_aload_n C0.1 C0.2.1 dX10_heapTimesSix_25 rfl (lv_at hl 0 rfl) ?_
    refine lv_bipush (v := zI 11) C0.1 C0.2.1 dX10_heapTimesSix_26 rfl ?_
    refine lv_iload_n C0.1 C0.2.1 dX10_heapTimesSix_28 rfl (lv_at hl 2 rfl) ?_
    refine lv_bipush (v := zI 10) C0.1 C0.2.1 dX10_heapTimesSix_29 rfl ?_
    refine mm_callVv (As := [.int (zI (11)), .int (zI (jj)), .int (zI (10))]) C0 vw_X10_multiply tw_1081 (c_X10_multiply l G _ hO hR1 (t := 11) rfl (by omega) hjj (by omega) ((kr1 b (by omega)).trans hN) (b := 10) rfl (by omega) v10 (by omega) (by omega) (by rw [Nat.one_mul]; omega)) hM (hO) rfl rfl hl.1 rfl (Nat.le_of_ble_eq_true rfl) ⟨rfl, rfl, Nat.le_of_ble_eq_true rfl, Nat.le_of_ble_eq_true rfl, Nat.zero_le _, Nat.zero_le _⟩ dX10_heapTimesSix_31 hS (fun E3 H locs hp hM hS => ?_)
    obtain ⟨⟨R2, hR2, v11, kr2⟩, fr⟩ := hp
    have hO := ro.kept hO (fr _ (by omega))
    have hfr := (fun q h => (fr q (by omega)).trans (hfr q h) : ∀ q : Nat, (q ≠ h + 1) → E3 q = E0 q)
    have h2N : R2 b = N := (kr2 b (by omega)).trans ((kr1 b (by omega)).trans hN)
    refine lv_iload_n C0.1 C0.2.1 dX10_heapTimesSix_34 rfl (lv_at hl 1 rfl) ?_
    refine lv_iconst (v := zI 5) C0.1 C0.2.1 dX10_heapTimesSix_35 rfl ?_
    refine z_icmp_ge (tgt := 61) C0.1 C0.2.1 dX10_heapTimesSix_36 (by decide) ⟨by omega, by omega⟩ ⟨by omega, by omega⟩ (fun c_36 => ?_) (fun c_36 => ?_)
    · skip
      refine lv_aload_n C0.1 C0.2.1 dX10_heapTimesSix_61 rfl (lv_at hl 0 rfl) ?_
      refine lv_bipush (v := zI 9) C0.1 C0.2.1 dX10_heapTimesSix_62 rfl ?_
      refine lv_iload_n C0.1 C0.2.1 dX10_heapTimesSix_64 rfl (lv_at hl 1 rfl) ?_
      refine z_i2l C0.1 C0.2.1 dX10_heapTimesSix_65 ⟨by omega, by omega⟩ ?_
      refine mm_ldc2 (z := 5) C0 tw_1090 rfl dX10_heapTimesSix_66 ?_
      refine z_lsub C0.1 C0.2.1 dX10_heapTimesSix_69 ?_
      refine mm_callVv (As := [.int (zI (9)), .long (zL (((kk) - (5))))]) C0 vw_X10_set tw_988 (c_X10_set l G _ hO hR2 (t := 9) rfl (by omega) (k - 5) (by omega) (by omega)) hM (hO) rfl rfl hl.1 rfl (Nat.le_of_ble_eq_true rfl) ⟨rfl, rfl, Nat.le_of_ble_eq_true rfl, Nat.le_of_ble_eq_true rfl, Nat.zero_le _, Nat.zero_le _⟩ dX10_heapTimesSix_70 hS (fun E4 H locs hp hM hS => ?_)
      obtain ⟨⟨R5, hR5, v9, kr5⟩, fr⟩ := hp
      have hO := ro.kept hO (fr _ (by omega))
      have hfr := (fun q h => (fr q (by omega)).trans (hfr q h) : ∀ q : Nat, (q ≠ h + 1) → E4 q = E0 q)
      refine lv_aload_n C0.1 C0.2.1 dX10_heapTimesSix_73 rfl (lv_at hl 0 rfl) ?_
      refine lv_bipush (v := zI 10) C0.1 C0.2.1 dX10_heapTimesSix_74 rfl ?_
      refine lv_iload_n C0.1 C0.2.1 dX10_heapTimesSix_76 rfl (lv_at hl 2 rfl) ?_
      refine lv_iload_n C0.1 C0.2.1 dX10_heapTimesSix_77 rfl (lv_at hl 1 rfl) ?_
      refine z_i2l C0.1 C0.2.1 dX10_heapTimesSix_78 ⟨by omega, by omega⟩ ?_
      refine mm_ldc2 (z := 2) C0 tw_1089 rfl dX10_heapTimesSix_79 ?_
      refine z_lsub C0.1 C0.2.1 dX10_heapTimesSix_82 ?_
      refine lv_lconst (v := zL 0) C0.1 C0.2.1 dX10_heapTimesSix_83 rfl ?_
      refine mm_callVv (As := [.int (zI (10)), .int (zI (jj)), .long (zL (((kk) - (2)))), .long (zL (0))]) C0 vw_X10_times tw_1035 (c_X10_times l G _ hO hR5 (t := 10) rfl (by omega) hjj (by omega) ((kr5 b (by omega)).trans h2N) (k - 2) 0 (by omega) rfl (by omega) (by omega) (by rw [Nat.add_zero, Nat.mul_comm]; exact Nat.le_trans (nl_mul1 (by omega)) (by omega))) hM (hO) rfl rfl hl.1 rfl (Nat.le_of_ble_eq_true rfl) ⟨rfl, rfl, Nat.le_of_ble_eq_true rfl, Nat.le_of_ble_eq_true rfl, Nat.zero_le _, Nat.zero_le _⟩ dX10_heapTimesSix_84 hS (fun E5 H locs hp hM hS => ?_)
      obtain ⟨⟨R6, hR6, v10, kr6⟩, fr⟩ := hp
      have hO := ro.kept hO (fr _ (by omega))
      have hfr := (fun q h => (fr q (by omega)).trans (hfr q h) : ∀ q : Nat, (q ≠ h + 1) → E5 q = E0 q)
      refine lv_aload_n C0.1 C0.2.1 dX10_heapTimesSix_87 rfl (lv_at hl 0 rfl) ?_
      refine lv_bipush (v := zI 10) C0.1 C0.2.1 dX10_heapTimesSix_88 rfl ?_
      refine lv_bipush (v := zI 10) C0.1 C0.2.1 dX10_heapTimesSix_90 rfl ?_
      refine lv_bipush (v := zI 9) C0.1 C0.2.1 dX10_heapTimesSix_92 rfl ?_
      refine mm_callVv (As := [.int (zI (10)), .int (zI (10)), .int (zI (9))]) C0 vw_X10_subtract tw_1091 (c_X10_subtract l G _ hO hR6 (t := 10) rfl (by omega) (a := 10) rfl (by omega) v10 (b := 9) rfl (by omega) ((kr6 9 (by omega)).trans v9) (by rw [Nat.add_zero]; exact (fac_hi (N := N) (k := k) (by omega) (by omega)).2)) hM (hO) rfl rfl hl.1 rfl (Nat.le_of_ble_eq_true rfl) ⟨rfl, rfl, Nat.le_of_ble_eq_true rfl, Nat.le_of_ble_eq_true rfl, Nat.zero_le _, Nat.zero_le _⟩ dX10_heapTimesSix_94 hS (fun E6 H locs hp hM hS => ?_)
      obtain ⟨⟨R3, hR3, v10, kr3⟩, fr⟩ := hp
      have hO := ro.kept hO (fr _ (by omega))
      have hfr := (fun q h => (fr q (by omega)).trans (hfr q h) : ∀ q : Nat, (q ≠ h + 1) → E6 q = E0 q)
      rw [Nat.add_zero, ← (fac_hi (N := N) (k := k) (by omega) (by omega)).1] at v10
      have v11 : R3 11 = N * (1 * N + 1) := (kr3 11 (by omega)).trans ((kr6 11 (by omega)).trans ((kr5 11 (by omega)).trans v11))
      have k3 : ∀ r, r ≠ 9 → r ≠ 10 → r ≠ 11 → R3 r = R r := fun r q1 q2 q3 => (kr3 r q2).trans ((kr6 r q2).trans ((kr5 r q1).trans ((kr2 r q3).trans (kr1 r q2))))
      refine lv_aload_n C0.1 C0.2.1 dX10_heapTimesSix_97 rfl (lv_at hl 0 rfl) ?_
      refine lv_bipush (v := zI 9) C0.1 C0.2.1 dX10_heapTimesSix_98 rfl ?_
      refine lv_bipush (v := zI 11) C0.1 C0.2.1 dX10_heapTimesSix_100 rfl ?_
      refine lv_bipush (v := zI 10) C0.1 C0.2.1 dX10_heapTimesSix_102 rfl ?_
      refine mm_callVv (As := [.int (zI (9)), .int (zI (11)), .int (zI (10))]) C0 vw_X10_multiply tw_1081 (c_X10_multiply l G _ hO hR3 (t := 9) rfl (by omega) (a := 11) rfl (by omega) v11 (b := 10) rfl (by omega) v10 (by omega) (by omega) (Nat.le_trans (nl_prod hn2 hn3) (by decide))) hM (hO) rfl rfl hl.1 rfl (Nat.le_of_ble_eq_true rfl) ⟨rfl, rfl, Nat.le_of_ble_eq_true rfl, Nat.le_of_ble_eq_true rfl, Nat.zero_le _, Nat.zero_le _⟩ dX10_heapTimesSix_104 hS (fun E7 H locs hp hM hS => ?_)
      obtain ⟨⟨R4, hR4, v9, kr4⟩, fr⟩ := hp
      have hO := ro.kept hO (fr _ (by omega))
      have hfr := (fun q h => (fr q (by omega)).trans (hfr q h) : ∀ q : Nat, (q ≠ h + 1) → E7 q = E0 q)
      exact mm_vret C0 hr hlk hM hS dX10_heapTimesSix_107 (⟨⟨R4, hR4, by rw [v9, Nat.one_mul, shp4_6 hk3 hN0], fun r q1 q2 q3 => (kr4 r q1).trans (k3 r q1 q2 q3)⟩, hfr⟩)
    · skip
      refine lv_aload_n C0.1 C0.2.1 dX10_heapTimesSix_39 rfl (lv_at hl 0 rfl) ?_
      refine lv_bipush (v := zI 10) C0.1 C0.2.1 dX10_heapTimesSix_40 rfl ?_
      refine lv_iload_n C0.1 C0.2.1 dX10_heapTimesSix_42 rfl (lv_at hl 2 rfl) ?_
      refine lv_iload_n C0.1 C0.2.1 dX10_heapTimesSix_43 rfl (lv_at hl 1 rfl) ?_
      refine z_i2l C0.1 C0.2.1 dX10_heapTimesSix_44 ⟨by omega, by omega⟩ ?_
      refine mm_ldc2 (z := 2) C0 tw_1089 rfl dX10_heapTimesSix_45 ?_
      refine z_lsub C0.1 C0.2.1 dX10_heapTimesSix_48 ?_
      refine mm_ldc2 (z := 5) C0 tw_1090 rfl dX10_heapTimesSix_49 ?_
      refine lv_iload_n C0.1 C0.2.1 dX10_heapTimesSix_52 rfl (lv_at hl 1 rfl) ?_
      refine z_i2l C0.1 C0.2.1 dX10_heapTimesSix_53 ⟨by omega, by omega⟩ ?_
      refine z_lsub C0.1 C0.2.1 dX10_heapTimesSix_54 ?_
      refine mm_callVv (As := [.int (zI (10)), .int (zI (jj)), .long (zL (((kk) - (2)))), .long (zL (((5) - (kk))))]) C0 vw_X10_times tw_1035 (c_X10_times l G _ hO hR2 (t := 10) rfl (by omega) hjj (by omega) h2N (k - 2) (5 - k) (by omega) (by omega) (by omega) (by omega) (by rw [← fac_lo hk3 (by omega)]; omega)) hM (hO) rfl rfl hl.1 rfl (Nat.le_of_ble_eq_true rfl) ⟨rfl, rfl, Nat.le_of_ble_eq_true rfl, Nat.le_of_ble_eq_true rfl, Nat.zero_le _, Nat.zero_le _⟩ dX10_heapTimesSix_55 hS (fun E8 H locs hp hM hS => ?_)
      obtain ⟨⟨R3, hR3, v10, kr3⟩, fr⟩ := hp
      have hO := ro.kept hO (fr _ (by omega))
      have hfr := (fun q h => (fr q (by omega)).trans (hfr q h) : ∀ q : Nat, (q ≠ h + 1) → E8 q = E0 q)
      rw [← fac_lo hk3 (by omega)] at v10
      have v11 : R3 11 = N * (1 * N + 1) := (kr3 11 (by omega)).trans v11
      have k3 : ∀ r, r ≠ 9 → r ≠ 10 → r ≠ 11 → R3 r = R r := fun r q1 q2 q3 => (kr3 r q2).trans ((kr2 r q3).trans (kr1 r q2))
      refine lv_goto (tgt := 97) C0.1 C0.2.1 dX10_heapTimesSix_58 (by decide) ?_
      refine lv_aload_n C0.1 C0.2.1 dX10_heapTimesSix_97 rfl (lv_at hl 0 rfl) ?_
      refine lv_bipush (v := zI 9) C0.1 C0.2.1 dX10_heapTimesSix_98 rfl ?_
      refine lv_bipush (v := zI 11) C0.1 C0.2.1 dX10_heapTimesSix_100 rfl ?_
      refine lv_bipush (v := zI 10) C0.1 C0.2.1 dX10_heapTimesSix_102 rfl ?_
      refine mm_callVv (As := [.int (zI (9)), .int (zI (11)), .int (zI (10))]) C0 vw_X10_multiply tw_1081 (c_X10_multiply l G _ hO hR3 (t := 9) rfl (by omega) (a := 11) rfl (by omega) v11 (b := 10) rfl (by omega) v10 (by omega) (by omega) (Nat.le_trans (nl_prod hn2 hn3) (by decide))) hM (hO) rfl rfl hl.1 rfl (Nat.le_of_ble_eq_true rfl) ⟨rfl, rfl, Nat.le_of_ble_eq_true rfl, Nat.le_of_ble_eq_true rfl, Nat.zero_le _, Nat.zero_le _⟩ dX10_heapTimesSix_104 hS (fun E9 H locs hp hM hS => ?_)
      obtain ⟨⟨R4, hR4, v9, kr4⟩, fr⟩ := hp
      have hO := ro.kept hO (fr _ (by omega))
      have hfr := (fun q h => (fr q (by omega)).trans (hfr q h) : ∀ q : Nat, (q ≠ h + 1) → E9 q = E0 q)
      exact mm_vret C0 hr hlk hM hS dX10_heapTimesSix_107 (⟨⟨R4, hR4, by rw [v9, Nat.one_mul, shp4_6 hk3 hN0], fun r q1 q2 q3 => (kr4 r q1).trans (k3 r q1 q2 q3)⟩, hfr⟩)
  · skip
    have hN0 : N = 0 := hz0.mp (by omega)
    refine lv_aload_n C0.1 C0.2.1 dX10_heapTimesSix_8 rfl (lv_at hl 0 rfl) ?_
    refine lv_bipush (v := zI 9) C0.1 C0.2.1 dX10_heapTimesSix_9 rfl ?_
    refine lv_lconst (v := zL 0) C0.1 C0.2.1 dX10_heapTimesSix_11 rfl ?_
    refine mm_callVv (As := [.int (zI (9)), .long (zL (0))]) C0 vw_X10_set tw_988 (c_X10_set l G _ hO hR (t := 9) rfl (by omega) 0 rfl (by omega)) hM (hO) rfl rfl hl.1 rfl (Nat.le_of_ble_eq_true rfl) ⟨rfl, rfl, Nat.le_of_ble_eq_true rfl, Nat.le_of_ble_eq_true rfl, Nat.zero_le _, Nat.zero_le _⟩ dX10_heapTimesSix_12 hS (fun E10 H locs hp hM hS => ?_)
    obtain ⟨⟨R1, hR1, v9, kr⟩, fr⟩ := hp
    have hO := ro.kept hO (fr _ (by omega))
    have hfr := (fun q h => (fr q (by omega)).trans (hfr q h) : ∀ q : Nat, (q ≠ h + 1) → E10 q = E0 q)
    exact mm_vret C0 hr hlk hM hS dX10_heapTimesSix_15 (⟨⟨R1, hR1, by rw [v9, hN0, shp4_0], fun r q1 q2 q3 => kr r q1⟩, hfr⟩)

def rX10_findNth : Room := { frames := 3, cells := 0, slots := 0, locals := 73 }
theorem vw_X10_findNth : mm_Vw RX10 yX10_findNth cX10_findNth 4 none 3 := ⟨tw_1079, tp_30, tw_10, tw_1080, by decide +kernel⟩
set_option maxHeartbeats 4000000 in
set_option maxRecDepth 100000 in
theorem c_X10_findNth (l : Launch) (G : mG) (E0 : mE) {h : Nat} {x1 x2 x3 x4 x5 x6 x7 x8 : Int} (hO : ro G E0 h x1 x2 x3 x4 x5 x6 x7 x8) {R : Nat → Nat} (hR : rg G E0 h R) {jj : Int} {b N : Nat} (hjj : jj = (b : Int)) (hb : b < 9) (hN : R b = N) {kk : Int} {k : Nat} (hkk : kk = (k : Int)) (hk9 : k ≤ 99) {kn : Int} {kd : Nat} (hkn : kn = (kd : Int)) (hkd : kd ≤ 4) (hk3 : 3 ≤ kd → 3 ≤ k) (hn : nl N ≤ 25) : mm_Cv l yX10_findNth (.code yX10_findNth cX10_findNth 4 none :: wsG) rX10_findNth G [.ref (h), .int (zI (kn)), .int (zI (kk)), .int (zI (jj))] E0 (fun E => (∃ R1, rg G E h R1 ∧ R1 9 = shp kd k N ∧ ∀ r, r ≠ 9 → r ≠ 10 → r ≠ 11 → R1 r = R r) ∧ ∀ q : Nat, (q ≠ h + 1) → E q = E0 q) := by
  refine mm_of_v (by decide +kernel) (Nat.le_of_ble_eq_true rfl) ?_
  intro p e s m args below meth c ls C0 hr hlk hM hl hS
  have hl : lv_has ls 4 [(0, .ref (h)), (1, .int (zI (kn))), (2, .int (zI (kk))), (3, .int (zI (jj)))] := hl
  have hfr : ∀ q : Nat, (q ≠ h + 1) → E0 q = E0 q := fun _ _ => rfl
  have hnn := nl_prod hn hn
  have hnN : nl (N + 1) ≤ 26 := nl_addn hn (Nat.le_trans (nlL (N := 1) (by omega)) (by omega))
  have hnM := nl_prod hn hnN
  refine lv_iload_n C0.1 C0.2.1 dX10_findNth_0 rfl (lv_at hl 1 rfl) ?_
  refine z_if_ne (tgt := 15) C0.1 C0.2.1 dX10_findNth_1 (by decide) ⟨by omega, by omega⟩ (fun c_1 => ?_) (fun c_1 => ?_)
  · skip
    refine lv_iload_n C0.1 C0.2.1 dX10_findNth_15 rfl (lv_at hl 1 rfl) ?_
    refine lv_iconst (v := zI 4) C0.1 C0.2.1 dX10_findNth_16 rfl ?_
    refine z_icmp_ne (tgt := 41) C0.1 C0.2.1 dX10_findNth_17 (by decide) ⟨by omega, by omega⟩ ⟨by omega, by omega⟩ (fun c_17 => ?_) (fun c_17 => ?_)
    · skip
      refine lv_iload_n C0.1 C0.2.1 dX10_findNth_41 rfl (lv_at hl 1 rfl) ?_
      refine lv_iconst (v := zI 3) C0.1 C0.2.1 dX10_findNth_42 rfl ?_
      refine z_icmp_ne (tgt := 102) C0.1 C0.2.1 dX10_findNth_43 (by decide) ⟨by omega, by omega⟩ ⟨by omega, by omega⟩ (fun c_43 => ?_) (fun c_43 => ?_)
      · skip
        refine lv_aload_n C0.1 C0.2.1 dX10_findNth_102 rfl (lv_at hl 0 rfl) ?_
        refine lv_bipush (v := zI 10) C0.1 C0.2.1 dX10_findNth_103 rfl ?_
        refine lv_iload_n C0.1 C0.2.1 dX10_findNth_105 rfl (lv_at hl 3 rfl) ?_
        refine lv_lconst (v := zL 1) C0.1 C0.2.1 dX10_findNth_106 rfl ?_
        refine lv_lconst (v := zL 1) C0.1 C0.2.1 dX10_findNth_107 rfl ?_
        refine mm_callVv (As := [.int (zI (10)), .int (zI (jj)), .long (zL (1)), .long (zL (1))]) C0 vw_X10_times tw_1035 (c_X10_times l G _ hO hR (t := 10) rfl (by omega) hjj (by omega) hN 1 1 rfl rfl (by omega) (by omega) (by rw [Nat.one_mul]; omega)) hM (hO) rfl rfl hl.1 rfl (Nat.le_of_ble_eq_true rfl) ⟨rfl, rfl, Nat.le_of_ble_eq_true rfl, Nat.le_of_ble_eq_true rfl, Nat.zero_le _, Nat.zero_le _⟩ dX10_findNth_108 hS (fun E1 H locs hp hM hS => ?_)
        obtain ⟨⟨R2, hR2, v10, kr2⟩, fr⟩ := hp
        have hO := ro.kept hO (fr _ (by omega))
        have hfr := (fun q h => (fr q (by omega)).trans (hfr q h) : ∀ q : Nat, (q ≠ h + 1) → E1 q = E0 q)
        refine lv_aload_n C0.1 C0.2.1 dX10_findNth_111 rfl (lv_at hl 0 rfl) ?_
        refine lv_bipush (v := zI 9) C0.1 C0.2.1 dX10_findNth_112 rfl ?_
        refine lv_iload_n C0.1 C0.2.1 dX10_findNth_114 rfl (lv_at hl 3 rfl) ?_
        refine lv_bipush (v := zI 10) C0.1 C0.2.1 dX10_findNth_115 rfl ?_
        refine mm_callVv (As := [.int (zI (9)), .int (zI (jj)), .int (zI (10))]) C0 vw_X10_multiply tw_1081 (c_X10_multiply l G _ hO hR2 (t := 9) rfl (by omega) hjj (by omega) ((kr2 b (by omega)).trans hN) (b := 10) rfl (by omega) v10 (by omega) (by omega) (by rw [Nat.one_mul]; omega)) hM (hO) rfl rfl hl.1 rfl (Nat.le_of_ble_eq_true rfl) ⟨rfl, rfl, Nat.le_of_ble_eq_true rfl, Nat.le_of_ble_eq_true rfl, Nat.zero_le _, Nat.zero_le _⟩ dX10_findNth_117 hS (fun E2 H locs hp hM hS => ?_)
        obtain ⟨⟨R3, hR3, v9, kr3⟩, fr⟩ := hp
        have hO := ro.kept hO (fr _ (by omega))
        have hfr := (fun q h => (fr q (by omega)).trans (hfr q h) : ∀ q : Nat, (q ≠ h + 1) → E2 q = E0 q)
        rw [Nat.one_mul] at v9
        refine lv_iload_n C0.1 C0.2.1 dX10_findNth_120 rfl (lv_at hl 1 rfl) ?_
        refine lv_iconst (v := zI 1) C0.1 C0.2.1 dX10_findNth_121 rfl ?_
        refine z_icmp_ne (tgt := 137) C0.1 C0.2.1 dX10_findNth_122 (by decide) ⟨by omega, by omega⟩ ⟨by omega, by omega⟩ (fun c_122 => ?_) (fun c_122 => ?_)
        · skip
          have vE : R3 9 = shp kd k N := by rw [v9, show kd = 2 by omega, shp_k2]
          have kE : ∀ r, r ≠ 9 → r ≠ 10 → r ≠ 11 → R3 r = R r := fun r q1 q2 q3 => (kr3 r q1).trans (kr2 r q2)
          have hR1 := hR3
          exact mm_vret C0 hr hlk hM hS dX10_findNth_137 (⟨⟨_, hR1, vE, kE⟩, hfr⟩)
        · skip
          refine lv_aload_n C0.1 C0.2.1 dX10_findNth_125 rfl (lv_at hl 0 rfl) ?_
          refine lv_bipush (v := zI 9) C0.1 C0.2.1 dX10_findNth_126 rfl ?_
          refine lv_bipush (v := zI 9) C0.1 C0.2.1 dX10_findNth_128 rfl ?_
          refine mm_ldc2 (z := 2) C0 tw_1089 rfl dX10_findNth_130 ?_
          refine mm_callVl (As := [.int (zI (9)), .int (zI (9)), .long (zL (2))]) C0 vw_X10_divide tw_1097 (c_X10_divide l G _ hO hR3 (t := 9) rfl (by omega) (a := 9) rfl (by omega) v9 2 rfl (by omega) (by omega)) hM (hO) rfl rfl hl.1 rfl (Nat.le_of_ble_eq_true rfl) ⟨rfl, rfl, Nat.le_of_ble_eq_true rfl, Nat.le_of_ble_eq_true rfl, Nat.zero_le _, Nat.zero_le _⟩ dX10_findNth_133 hS (fun z133 E3 H locs hp hM hS => ?_)
          obtain ⟨hzq, ⟨R1, hR1, v9, kr1⟩, fr⟩ := hp
          have hO := ro.kept hO (fr _ (by omega))
          have hfr := (fun q h => (fr q (by omega)).trans (hfr q h) : ∀ q : Nat, (q ≠ h + 1) → E3 q = E0 q)
          have vE : R1 9 = shp kd k N := by rw [v9, show kd = 1 by omega, shp_k1]
          have kE : ∀ r, r ≠ 9 → r ≠ 10 → r ≠ 11 → R1 r = R r := fun r q1 q2 q3 => (kr1 r q1).trans ((kr3 r q1).trans (kr2 r q2))
          refine lv_pop2_2 C0.1 C0.2.1 dX10_findNth_136 rfl ?_
          exact mm_vret C0 hr hlk hM hS dX10_findNth_137 (⟨⟨_, hR1, vE, kE⟩, hfr⟩)
      · skip
        have hNN : N ≤ N * N := by rcases Nat.eq_zero_or_pos N with q | q; omega; exact Nat.le_mul_of_pos_left N q
        have hnh : nl ((N * N - N) / 2) ≤ 50 := Nat.le_trans (nl_mono (Nat.le_trans (Nat.div_le_self _ _) (Nat.sub_le _ _))) hnn
        refine lv_aload_n C0.1 C0.2.1 dX10_findNth_46 rfl (lv_at hl 0 rfl) ?_
        refine lv_bipush (v := zI 9) C0.1 C0.2.1 dX10_findNth_47 rfl ?_
        refine lv_iload_n C0.1 C0.2.1 dX10_findNth_49 rfl (lv_at hl 3 rfl) ?_
        refine lv_iload_n C0.1 C0.2.1 dX10_findNth_50 rfl (lv_at hl 3 rfl) ?_
        refine mm_callVv (As := [.int (zI (9)), .int (zI (jj)), .int (zI (jj))]) C0 vw_X10_multiply tw_1081 (c_X10_multiply l G _ hO hR (t := 9) rfl (by omega) hjj (by omega) hN hjj (by omega) hN (by omega) (by omega) (by omega)) hM (hO) rfl rfl hl.1 rfl (Nat.le_of_ble_eq_true rfl) ⟨rfl, rfl, Nat.le_of_ble_eq_true rfl, Nat.le_of_ble_eq_true rfl, Nat.zero_le _, Nat.zero_le _⟩ dX10_findNth_51 hS (fun E4 H locs hp hM hS => ?_)
        obtain ⟨⟨R2, hR2, v9, kr2⟩, fr⟩ := hp
        have hO := ro.kept hO (fr _ (by omega))
        have hfr := (fun q h => (fr q (by omega)).trans (hfr q h) : ∀ q : Nat, (q ≠ h + 1) → E4 q = E0 q)
        refine lv_aload_n C0.1 C0.2.1 dX10_findNth_54 rfl (lv_at hl 0 rfl) ?_
        refine lv_bipush (v := zI 9) C0.1 C0.2.1 dX10_findNth_55 rfl ?_
        refine lv_bipush (v := zI 9) C0.1 C0.2.1 dX10_findNth_57 rfl ?_
        refine lv_iload_n C0.1 C0.2.1 dX10_findNth_59 rfl (lv_at hl 3 rfl) ?_
        refine mm_callVv (As := [.int (zI (9)), .int (zI (9)), .int (zI (jj))]) C0 vw_X10_subtract tw_1091 (c_X10_subtract l G _ hO hR2 (t := 9) rfl (by omega) (a := 9) rfl (by omega) v9 hjj (by omega) ((kr2 b (by omega)).trans hN) hNN) hM (hO) rfl rfl hl.1 rfl (Nat.le_of_ble_eq_true rfl) ⟨rfl, rfl, Nat.le_of_ble_eq_true rfl, Nat.le_of_ble_eq_true rfl, Nat.zero_le _, Nat.zero_le _⟩ dX10_findNth_60 hS (fun E5 H locs hp hM hS => ?_)
        obtain ⟨⟨R3, hR3, v9, kr3⟩, fr⟩ := hp
        have hO := ro.kept hO (fr _ (by omega))
        have hfr := (fun q h => (fr q (by omega)).trans (hfr q h) : ∀ q : Nat, (q ≠ h + 1) → E5 q = E0 q)
        refine lv_aload_n C0.1 C0.2.1 dX10_findNth_63 rfl (lv_at hl 0 rfl) ?_
        refine lv_bipush (v := zI 9) C0.1 C0.2.1 dX10_findNth_64 rfl ?_
        refine lv_bipush (v := zI 9) C0.1 C0.2.1 dX10_findNth_66 rfl ?_
        refine mm_ldc2 (z := 2) C0 tw_1089 rfl dX10_findNth_68 ?_
        refine mm_callVl (As := [.int (zI (9)), .int (zI (9)), .long (zL (2))]) C0 vw_X10_divide tw_1097 (c_X10_divide l G _ hO hR3 (t := 9) rfl (by omega) (a := 9) rfl (by omega) v9 2 rfl (by omega) (by omega)) hM (hO) rfl rfl hl.1 rfl (Nat.le_of_ble_eq_true rfl) ⟨rfl, rfl, Nat.le_of_ble_eq_true rfl, Nat.le_of_ble_eq_true rfl, Nat.zero_le _, Nat.zero_le _⟩ dX10_findNth_71 hS (fun z71 E6 H locs hp hM hS => ?_)
        obtain ⟨hzq, ⟨R4, hR4, v9, kr4⟩, fr⟩ := hp
        have hO := ro.kept hO (fr _ (by omega))
        have hfr := (fun q h => (fr q (by omega)).trans (hfr q h) : ∀ q : Nat, (q ≠ h + 1) → E6 q = E0 q)
        refine lv_pop2_2 C0.1 C0.2.1 dX10_findNth_74 rfl ?_
        refine lv_aload_n C0.1 C0.2.1 dX10_findNth_75 rfl (lv_at hl 0 rfl) ?_
        refine lv_bipush (v := zI 9) C0.1 C0.2.1 dX10_findNth_76 rfl ?_
        refine lv_bipush (v := zI 9) C0.1 C0.2.1 dX10_findNth_78 rfl ?_
        refine lv_iload_n C0.1 C0.2.1 dX10_findNth_80 rfl (lv_at hl 2 rfl) ?_
        refine z_i2l C0.1 C0.2.1 dX10_findNth_81 ⟨by omega, by omega⟩ ?_
        refine mm_ldc2 (z := 2) C0 tw_1089 rfl dX10_findNth_82 ?_
        refine z_lsub C0.1 C0.2.1 dX10_findNth_85 ?_
        refine lv_lconst (v := zL 0) C0.1 C0.2.1 dX10_findNth_86 rfl ?_
        refine mm_callVv (As := [.int (zI (9)), .int (zI (9)), .long (zL (((kk) - (2)))), .long (zL (0))]) C0 vw_X10_times tw_1035 (c_X10_times l G _ hO hR4 (t := 9) rfl (by omega) (a := 9) rfl (by omega) v9 (k - 2) 0 (by have := hk3 (by omega); omega) rfl (by omega) (by omega) (by rw [Nat.add_zero, Nat.mul_comm]; exact Nat.le_trans (nl_mul1 (by omega)) (by omega))) hM (hO) rfl rfl hl.1 rfl (Nat.le_of_ble_eq_true rfl) ⟨rfl, rfl, Nat.le_of_ble_eq_true rfl, Nat.le_of_ble_eq_true rfl, Nat.zero_le _, Nat.zero_le _⟩ dX10_findNth_87 hS (fun E7 H locs hp hM hS => ?_)
        obtain ⟨⟨R5, hR5, v9, kr5⟩, fr⟩ := hp
        have hO := ro.kept hO (fr _ (by omega))
        have hfr := (fun q h => (fr q (by omega)).trans (hfr q h) : ∀ q : Nat, (q ≠ h + 1) → E7 q = E0 q)
        refine lv_aload_n C0.1 C0.2.1 dX10_findNth_90 rfl (lv_at hl 0 rfl) ?_
        refine lv_bipush (v := zI 9) C0.1 C0.2.1 dX10_findNth_91 rfl ?_
        refine lv_bipush (v := zI 9) C0.1 C0.2.1 dX10_findNth_93 rfl ?_
        refine lv_iload_n C0.1 C0.2.1 dX10_findNth_95 rfl (lv_at hl 3 rfl) ?_
        refine mm_callVv (As := [.int (zI (9)), .int (zI (9)), .int (zI (jj))]) C0 vw_X10_add tw_1101 (c_X10_add l G _ hO hR5 (t := 9) rfl (by omega) (a := 9) rfl (by omega) v9 hjj (by omega) ((kr5 b (by omega)).trans ((kr4 b (by omega)).trans ((kr3 b (by omega)).trans ((kr2 b (by omega)).trans hN)))) (by rw [Nat.add_zero]; exact Nat.le_trans (nl_addn (n := 60) (by rw [Nat.mul_comm]; exact Nat.le_trans (nl_mul1 (by omega)) (by omega)) (by omega)) (by decide))) hM (hO) rfl rfl hl.1 rfl (Nat.le_of_ble_eq_true rfl) ⟨rfl, rfl, Nat.le_of_ble_eq_true rfl, Nat.le_of_ble_eq_true rfl, Nat.zero_le _, Nat.zero_le _⟩ dX10_findNth_96 hS (fun E8 H locs hp hM hS => ?_)
        obtain ⟨⟨R1, hR1, v9, kr1⟩, fr⟩ := hp
        have hO := ro.kept hO (fr _ (by omega))
        have hfr := (fun q h => (fr q (by omega)).trans (hfr q h) : ∀ q : Nat, (q ≠ h + 1) → E8 q = E0 q)
        have vE : R1 9 = shp kd k N := by rw [v9, show kd = 3 by omega, shp3_r (hk3 (by omega))]
        have kE : ∀ r, r ≠ 9 → r ≠ 10 → r ≠ 11 → R1 r = R r := fun r q1 q2 q3 => (kr1 r q1).trans ((kr5 r q1).trans ((kr4 r q1).trans ((kr3 r q1).trans (kr2 r q1))))
        refine lv_goto (tgt := 137) C0.1 C0.2.1 dX10_findNth_99 (by decide) ?_
        exact mm_vret C0 hr hlk hM hS dX10_findNth_137 (⟨⟨_, hR1, vE, kE⟩, hfr⟩)
    · skip
      refine lv_aload_n C0.1 C0.2.1 dX10_findNth_20 rfl (lv_at hl 0 rfl) ?_
      refine lv_iload_n C0.1 C0.2.1 dX10_findNth_21 rfl (lv_at hl 2 rfl) ?_
      refine lv_iload_n C0.1 C0.2.1 dX10_findNth_22 rfl (lv_at hl 3 rfl) ?_
      refine mm_callVv (As := [.int (zI (kk)), .int (zI (jj))]) C0 vw_X10_heapTimesSix tw_1085 (c_X10_heapTimesSix l G _ hO hR hjj hb hN hkk hk9 (hk3 (by omega)) hn) hM (hO) rfl rfl hl.1 rfl (Nat.le_of_ble_eq_true rfl) ⟨rfl, rfl, Nat.le_of_ble_eq_true rfl, Nat.le_of_ble_eq_true rfl, Nat.zero_le _, Nat.zero_le _⟩ dX10_findNth_23 hS (fun E9 H locs hp hM hS => ?_)
      obtain ⟨⟨R2, hR2, v9, kr2⟩, fr⟩ := hp
      have hO := ro.kept hO (fr _ (by omega))
      have hfr := (fun q h => (fr q (by omega)).trans (hfr q h) : ∀ q : Nat, (q ≠ h + 1) → E9 q = E0 q)
      refine lv_aload_n C0.1 C0.2.1 dX10_findNth_26 rfl (lv_at hl 0 rfl) ?_
      refine lv_bipush (v := zI 9) C0.1 C0.2.1 dX10_findNth_27 rfl ?_
      refine lv_bipush (v := zI 9) C0.1 C0.2.1 dX10_findNth_29 rfl ?_
      refine mm_ldc2 (z := 6) C0 tw_1096 rfl dX10_findNth_31 ?_
      refine mm_callVl (As := [.int (zI (9)), .int (zI (9)), .long (zL (6))]) C0 vw_X10_divide tw_1097 (c_X10_divide l G _ hO hR2 (t := 9) rfl (by omega) (a := 9) rfl (by omega) v9 6 rfl (by omega) (by omega)) hM (hO) rfl rfl hl.1 rfl (Nat.le_of_ble_eq_true rfl) ⟨rfl, rfl, Nat.le_of_ble_eq_true rfl, Nat.le_of_ble_eq_true rfl, Nat.zero_le _, Nat.zero_le _⟩ dX10_findNth_34 hS (fun z34 E10 H locs hp hM hS => ?_)
      obtain ⟨hzq, ⟨R1, hR1, v9, kr1⟩, fr⟩ := hp
      have hO := ro.kept hO (fr _ (by omega))
      have hfr := (fun q h => (fr q (by omega)).trans (hfr q h) : ∀ q : Nat, (q ≠ h + 1) → E10 q = E0 q)
      have vE : R1 9 = shp kd k N := by rw [v9, show kd = 4 by omega, Nat.mul_div_cancel _ (by omega)]
      have kE : ∀ r, r ≠ 9 → r ≠ 10 → r ≠ 11 → R1 r = R r := fun r q1 q2 q3 => (kr1 r q1).trans (kr2 r q1 q2 q3)
      refine lv_pop2_2 C0.1 C0.2.1 dX10_findNth_37 rfl ?_
      refine lv_goto (tgt := 137) C0.1 C0.2.1 dX10_findNth_38 (by decide) ?_
      exact mm_vret C0 hr hlk hM hS dX10_findNth_137 (⟨⟨_, hR1, vE, kE⟩, hfr⟩)
  · skip
    refine lv_aload_n C0.1 C0.2.1 dX10_findNth_4 rfl (lv_at hl 0 rfl) ?_
    refine lv_bipush (v := zI 9) C0.1 C0.2.1 dX10_findNth_5 rfl ?_
    refine lv_iload_n C0.1 C0.2.1 dX10_findNth_7 rfl (lv_at hl 3 rfl) ?_
    refine lv_iload_n C0.1 C0.2.1 dX10_findNth_8 rfl (lv_at hl 3 rfl) ?_
    refine mm_callVv (As := [.int (zI (9)), .int (zI (jj)), .int (zI (jj))]) C0 vw_X10_multiply tw_1081 (c_X10_multiply l G _ hO hR (t := 9) rfl (by omega) hjj (by omega) hN hjj (by omega) hN (by omega) (by omega) (by omega)) hM (hO) rfl rfl hl.1 rfl (Nat.le_of_ble_eq_true rfl) ⟨rfl, rfl, Nat.le_of_ble_eq_true rfl, Nat.le_of_ble_eq_true rfl, Nat.zero_le _, Nat.zero_le _⟩ dX10_findNth_9 hS (fun E11 H locs hp hM hS => ?_)
    obtain ⟨⟨R1, hR1, v9, kr1⟩, fr⟩ := hp
    have hO := ro.kept hO (fr _ (by omega))
    have hfr := (fun q h => (fr q (by omega)).trans (hfr q h) : ∀ q : Nat, (q ≠ h + 1) → E11 q = E0 q)
    have vE : R1 9 = shp kd k N := by rw [v9, show kd = 0 by omega, shp_k0]
    have kE : ∀ r, r ≠ 9 → r ≠ 10 → r ≠ 11 → R1 r = R r := fun r q1 q2 q3 => kr1 r q1
    refine lv_goto (tgt := 137) C0.1 C0.2.1 dX10_findNth_12 (by decide) ?_
    exact mm_vret C0 hr hlk hM hS dX10_findNth_137 (⟨⟨_, hR1, vE, kE⟩, hfr⟩)

def rX10_nth : Room := { frames := 4, cells := 0, slots := 0, locals := 96 }
theorem vw_X10_nth : mm_Vw RX10 yX10_nth cX10_nth 5 (some .int) 3 := ⟨tw_1152, tw_1153, tw_10, tw_1154, by decide +kernel⟩
set_option maxHeartbeats 4000000 in
set_option maxRecDepth 100000 in
theorem c_X10_nth (l : Launch) (G : mG) (E0 : mE) {h : Nat} {S : mST} (hF : rf G E0 h S) (hok : okR S) {a b t : Int} (hr_a : rI a) (hr_b : rI b) (hr_t : rI t) : mm_Ci l yX10_nth (.code yX10_nth cX10_nth 5 (some .int) :: wsG) rX10_nth G [.ref (h), .int (zI (a)), .int (zI (b)), .int (zI (t))] E0 (fun z E => z = (pf_nth S a b t).1 ∧ rf G E h (pf_nth S a b t).2 ∧ ∀ q : Nat, (q < h ∨ h + 13 ≤ q) → E q = E0 q) := by
  refine mm_of_i (by decide +kernel) (Nat.le_of_ble_eq_true rfl) ?_
  intro p e s m args below meth c ls C0 hr hlk hM hl hS
  have hl : lv_has ls 5 [(0, .ref (h)), (1, .int (zI (a))), (2, .int (zI (b))), (3, .int (zI (t)))] := hl
  obtain ⟨hr_a1, hr_a2⟩ := hr_a
  obtain ⟨hr_b1, hr_b2⟩ := hr_b
  obtain ⟨hr_t1, hr_t2⟩ := hr_t
  obtain ⟨R, x2, x3, x4, x5, x6, x7, hX⟩ := hF
  have hX0 := hX
  obtain ⟨hTk, hPk, hKk, hSk⟩ := hok
  obtain ⟨hO, hR, hRp, ⟨fh, fc, hH, hC, hPa⟩, hTp, hCl, hKp, hSh, him⟩ := hX
  have hfr : ∀ q : Nat, (q < h ∨ h + 13 ≤ q) → E0 q = E0 q := fun _ _ => rfl
  refine lv_iload_n C0.1 C0.2.1 dX10_nth_0 rfl (lv_at hl 1 rfl) ?_
  refine mm_callSi (As := [.int (zI (a))]) C0 sw_X10_isPlace tw_981 (c_X10_isPlace l G _ (i := a) ⟨by omega, by omega⟩) hM rfl hl.1 rfl (Nat.le_of_ble_eq_true rfl) ⟨rfl, rfl, Nat.le_of_ble_eq_true rfl, Nat.le_of_ble_eq_true rfl, Nat.zero_le _, Nat.zero_le _⟩ dX10_nth_1 hS (fun z_1 E1 H locs hp hM hS => ?_)
  obtain ⟨hz_1, hEq⟩ := hp
  rw [hEq] at hM
  have hz_1b := if01 hz_1
  refine z_if_eq (tgt := 21) C0.1 C0.2.1 dX10_nth_4 (by decide) ⟨by omega, by omega⟩ (fun c_4 => ?_) (fun c_4 => ?_)
  · skip
    refine lv_iconst (v := zI (-1)) C0.1 C0.2.1 dX10_nth_21 rfl ?_
    exact mm_iret (z := (-1)) C0 hr hlk hM hS dX10_nth_22 (by have he : pf_nth S a b t = ((-1), S) := (by unfold pf_nth; rw [if_neg (by omega)]); rw [he]; exact ⟨rfl, hX0.rf, fun _ _ => rfl⟩)
  · skip
    refine lv_iload_n C0.1 C0.2.1 dX10_nth_7 rfl (lv_at hl 2 rfl) ?_
    refine mm_callSi (As := [.int (zI (b))]) C0 sw_X10_isPlace tw_981 (c_X10_isPlace l G _ (i := b) ⟨by omega, by omega⟩) hM rfl hl.1 rfl (Nat.le_of_ble_eq_true rfl) ⟨rfl, rfl, Nat.le_of_ble_eq_true rfl, Nat.le_of_ble_eq_true rfl, Nat.zero_le _, Nat.zero_le _⟩ dX10_nth_8 hS (fun z_8 E2 H locs hp hM hS => ?_)
    obtain ⟨hz_8, hEq⟩ := hp
    rw [hEq] at hM
    have hz_8b := if01 hz_8
    refine z_if_eq (tgt := 21) C0.1 C0.2.1 dX10_nth_11 (by decide) ⟨by omega, by omega⟩ (fun c_11 => ?_) (fun c_11 => ?_)
    · skip
      refine lv_iconst (v := zI (-1)) C0.1 C0.2.1 dX10_nth_21 rfl ?_
      exact mm_iret (z := (-1)) C0 hr hlk hM hS dX10_nth_22 (by have he : pf_nth S a b t = ((-1), S) := (by unfold pf_nth; rw [if_neg (by omega)]); rw [he]; exact ⟨rfl, hX0.rf, fun _ _ => rfl⟩)
    · skip
      refine lv_iload_n C0.1 C0.2.1 dX10_nth_14 rfl (lv_at hl 3 rfl) ?_
      refine mm_callSi (As := [.int (zI (t))]) C0 sw_X10_isPlace tw_981 (c_X10_isPlace l G _ (i := t) ⟨by omega, by omega⟩) hM rfl hl.1 rfl (Nat.le_of_ble_eq_true rfl) ⟨rfl, rfl, Nat.le_of_ble_eq_true rfl, Nat.le_of_ble_eq_true rfl, Nat.zero_le _, Nat.zero_le _⟩ dX10_nth_15 hS (fun z_15 E3 H locs hp hM hS => ?_)
      obtain ⟨hz_15, hEq⟩ := hp
      rw [hEq] at hM
      have hz_15b := if01 hz_15
      refine z_if_ne (tgt := 23) C0.1 C0.2.1 dX10_nth_18 (by decide) ⟨by omega, by omega⟩ (fun c_18 => ?_) (fun c_18 => ?_)
      · skip
        obtain ⟨i, hpi⟩ : ∃ i : Nat, a = (i : Int) := ⟨(a).toNat, by omega⟩
        have hi_i : i < 8 := by omega
        have ht_i : (a).toNat = i := by omega
        obtain ⟨ho_i1, ho_i2, ho_i3, ho_i4⟩ := hPk i hi_i
        obtain ⟨hh_i, hc_i⟩ := hPa i hi_i
        have hv_i := hRp i hi_i
        obtain ⟨j, hpj⟩ : ∃ j : Nat, b = (j : Int) := ⟨(b).toNat, by omega⟩
        have hi_j : j < 8 := by omega
        have ht_j : (b).toNat = j := by omega
        obtain ⟨ho_j1, ho_j2, ho_j3, ho_j4⟩ := hPk j hi_j
        obtain ⟨hh_j, hc_j⟩ := hPa j hi_j
        have hv_j := hRp j hi_j
        obtain ⟨u, hpu⟩ : ∃ u : Nat, t = (u : Int) := ⟨(t).toNat, by omega⟩
        have hi_u : u < 8 := by omega
        have ht_u : (t).toNat = u := by omega
        refine lv_aload_n C0.1 C0.2.1 dX10_nth_23 rfl (lv_at hl 0 rfl) ?_
        refine lv_iload_n C0.1 C0.2.1 dX10_nth_24 rfl (lv_at hl 1 rfl) ?_
        refine lv_iconst (v := zI 1) C0.1 C0.2.1 dX10_nth_25 rfl ?_
        refine mm_callVi (As := [.int (zI (a)), .int (zI (1))]) C0 vw_X10_lacks tw_1113 (c_X10_lacks l G _ hO hH hpi (by omega) (v := 1) (w := S.2.1.1 i) (by omega) hh_i ho_i1) hM (hO) rfl rfl hl.1 rfl (Nat.le_of_ble_eq_true rfl) ⟨rfl, rfl, Nat.le_of_ble_eq_true rfl, Nat.le_of_ble_eq_true rfl, Nat.zero_le _, Nat.zero_le _⟩ dX10_nth_26 hS (fun z_26 E4 H locs hp hM hS => ?_)
        obtain ⟨hz_26, hEq⟩ := hp
        rw [hEq] at hM
        refine z_asI (b := (sFau (S.2.1.1 i))) (hz_26.trans (if_neg (by omega))) ?_
        obtain ⟨hnb_i1, hnb_i2⟩ := sFau_b (S.2.1.1 i)
        refine lv_istore (lv' := [(4, .int (zI ((sFau (S.2.1.1 i))))), (0, .ref (h)), (1, .int (zI (a))), (2, .int (zI (b))), (3, .int (zI (t)))]) C0.1 C0.2.1 dX10_nth_29 hl (by decide) rfl (fun ls hl => ?_)
        refine lv_iload C0.1 C0.2.1 dX10_nth_31 (lv_at hl 0 rfl) ?_
        refine z_if_ge (tgt := 41) C0.1 C0.2.1 dX10_nth_33 (by decide) ⟨by omega, by omega⟩ (fun c_33 => ?_) (fun c_33 => ?_)
        · skip
          refine lv_aload_n C0.1 C0.2.1 dX10_nth_41 rfl (lv_at hl 1 rfl) ?_
          refine lv_iload_n C0.1 C0.2.1 dX10_nth_42 rfl (lv_at hl 3 rfl) ?_
          refine lv_iconst (v := zI 0) C0.1 C0.2.1 dX10_nth_43 rfl ?_
          refine mm_callVi (As := [.int (zI (b)), .int (zI (0))]) C0 vw_X10_lacks tw_1113 (c_X10_lacks l G _ hO hH hpj (by omega) (v := 0) (w := S.2.1.1 j) (by omega) hh_j ho_j1) hM (hO) rfl rfl hl.1 rfl (Nat.le_of_ble_eq_true rfl) ⟨rfl, rfl, Nat.le_of_ble_eq_true rfl, Nat.le_of_ble_eq_true rfl, Nat.zero_le _, Nat.zero_le _⟩ dX10_nth_44 hS (fun z_44 E5 H locs hp hM hS => ?_)
          obtain ⟨hz_44, hEq⟩ := hp
          rw [hEq] at hM
          refine z_asI (b := (nFau (S.2.1.1 j))) (hz_44.trans (if_pos rfl)) ?_
          obtain ⟨hnb_j1, hnb_j2⟩ := nFau_b (S.2.1.1 j)
          refine lv_istore (lv' := [(4, .int (zI ((nFau (S.2.1.1 j))))), (0, .ref (h)), (1, .int (zI (a))), (2, .int (zI (b))), (3, .int (zI (t)))]) C0.1 C0.2.1 dX10_nth_47 hl (by decide) rfl (fun ls hl => ?_)
          refine lv_iload C0.1 C0.2.1 dX10_nth_49 (lv_at hl 0 rfl) ?_
          refine z_if_ge (tgt := 57) C0.1 C0.2.1 dX10_nth_51 (by decide) ⟨by omega, by omega⟩ (fun c_51 => ?_) (fun c_51 => ?_)
          · skip
            have hwi := sFau_0 (w := S.2.1.1 i) (by omega)
            have hwj := nFau_0 (w := S.2.1.1 j) (by omega)
            refine lv_aload_n C0.1 C0.2.1 dX10_nth_57 rfl (lv_at hl 1 rfl) ?_
            refine lv_aload_n C0.1 C0.2.1 dX10_nth_58 rfl (lv_at hl 1 rfl) ?_
            refine mm_get (fs := [.ref (h + 1), .ref (h + 2), .ref (h + 3), .ref (h + 4), .int (zI (((S.1.2.2 : Nat) : Int))), .int (zI (x2)), .long (zL (x3)), .ref (h + 5), .ref (h + 6), .ref (h + 7), .ref (h + 8), .int (zI (x4)), .int (zI (x5)), .int (zI (x6)), .int (zI (x7)), .int (zI (S.1.1)), .ref (h + 9), .ref (h + 10), .ref (h + 11), .ref (h + 12)]) C0 (C := RX10) (T := TX10) (N := 20) iG_X10 hM (hO) rfl 1 (by decide) tw_917 rfl rfl dX10_nth_59 ?_
            refine lv_iload_n C0.1 C0.2.1 dX10_nth_62 rfl (lv_at hl 2 rfl) ?_
            refine mm_iald C0 hM (g := fh) (hH) (i) (i := a) (by omega) (by omega) (by decide) dX10_nth_63 ?_
            refine z_asI (b := (S.2.1.1 i : Int)) (hh_i) ?_
            refine lv_iconst (v := zI 2) C0.1 C0.2.1 dX10_nth_64 rfl ?_
            refine z_isub C0.1 C0.2.1 dX10_nth_65 ?_
            refine z_asI (a := (((S.2.1.1 i : Int)) - (2))) (b := ((S.2.1.1 i - 2 : Nat) : Int)) (by omega) ?_
            refine lv_aload_n C0.1 C0.2.1 dX10_nth_66 rfl (lv_at hl 1 rfl) ?_
            refine mm_get (fs := [.ref (h + 1), .ref (h + 2), .ref (h + 3), .ref (h + 4), .int (zI (((S.1.2.2 : Nat) : Int))), .int (zI (x2)), .long (zL (x3)), .ref (h + 5), .ref (h + 6), .ref (h + 7), .ref (h + 8), .int (zI (x4)), .int (zI (x5)), .int (zI (x6)), .int (zI (x7)), .int (zI (S.1.1)), .ref (h + 9), .ref (h + 10), .ref (h + 11), .ref (h + 12)]) C0 (C := RX10) (T := TX10) (N := 20) iG_X10 hM (hO) rfl 2 (by decide) tw_918 rfl rfl dX10_nth_67 ?_
            refine lv_iload_n C0.1 C0.2.1 dX10_nth_70 rfl (lv_at hl 2 rfl) ?_
            refine mm_iald C0 hM (g := fc) (hC) (i) (i := a) (by omega) (by omega) (by decide) dX10_nth_71 ?_
            refine z_asI (b := (S.2.1.2.1 i : Int)) (hc_i) ?_
            refine lv_iload_n C0.1 C0.2.1 dX10_nth_72 rfl (lv_at hl 3 rfl) ?_
            refine mm_callVv (As := [.int (zI (((S.2.1.1 i - 2 : Nat) : Int))), .int (zI ((S.2.1.2.1 i : Int))), .int (zI (b))]) C0 vw_X10_findNth tw_1077 (c_X10_findNth l G _ hO hR hpj (by omega) hv_j rfl ho_i2 rfl (by omega) (by omega) (by omega)) hM (hO) rfl rfl hl.1 rfl (Nat.le_of_ble_eq_true rfl) ⟨rfl, rfl, Nat.le_of_ble_eq_true rfl, Nat.le_of_ble_eq_true rfl, Nat.zero_le _, Nat.zero_le _⟩ dX10_nth_73 hS (fun E6 H locs hp hM hS => ?_)
            obtain ⟨⟨R1, hR1, v9, kr⟩, fr⟩ := hp
            have hO := ro.kept hO (fr _ (by omega))
            have hfr := (fun q h => (fr q (by omega)).trans (hfr q h) : ∀ q : Nat, (q < h ∨ h + 13 ≤ q) → E6 q = E0 q)
            have hX1 := hX0.w hR1 (fun r hr => kr r (by omega) (by omega) (by omega)) fr
            refine lv_aload_n C0.1 C0.2.1 dX10_nth_76 rfl (lv_at hl 1 rfl) ?_
            refine lv_iload_n C0.1 C0.2.1 dX10_nth_77 rfl (lv_at hl 4 rfl) ?_
            refine lv_bipush (v := zI 9) C0.1 C0.2.1 dX10_nth_78 rfl ?_
            refine mm_callVi (As := [.int (zI (t)), .int (zI (9))]) C0 vw_X10_come tw_1039 (c_X10_comeS l G _ hX1 hpu hi_u (a := 9) rfl (by omega) v9) hM (hO) rfl rfl hl.1 rfl (Nat.le_of_ble_eq_true rfl) ⟨rfl, rfl, Nat.le_of_ble_eq_true rfl, Nat.le_of_ble_eq_true rfl, Nat.zero_le _, Nat.zero_le _⟩ dX10_nth_80 hS (fun z9 E7 H locs hp hM hS => ?_)
            obtain ⟨hz9, ⟨R9, hX9, kr9⟩, fr⟩ := hp
            have hO := ro.kept hO (fr _ (by omega))
            have hfr := (fun q h => (fr q (by omega)).trans (hfr q h) : ∀ q : Nat, (q < h ∨ h + 13 ≤ q) → E7 q = E0 q)
            exact mm_iret (z := z9) C0 hr hlk hM hS dX10_nth_83 (by have he : pf_nth S a b t = (lanZ (shp (S.2.1.1 i - 2) (S.2.1.2.1 i) (S.2.1.2.2 j)), lanS S u (shp (S.2.1.1 i - 2) (S.2.1.2.1 i) (S.2.1.2.2 j))) := (by unfold pf_nth; rw [if_pos (by omega), ht_i, ht_j, ht_u, if_neg (by unfold fau2; split <;> omega)]); rw [he]; exact ⟨hz9, hX9.rf, hfr⟩)
          · skip
            refine lv_iload C0.1 C0.2.1 dX10_nth_54 (lv_at hl 0 rfl) ?_
            exact mm_iret (z := (nFau (S.2.1.1 j))) C0 hr hlk hM hS dX10_nth_56 (by have he : pf_nth S a b t = ((nFau (S.2.1.1 j)), S) := (by unfold pf_nth; rw [if_pos (by omega), ht_i, ht_j, show fau2 (sFau (S.2.1.1 i)) (nFau (S.2.1.1 j)) = (nFau (S.2.1.1 j)) from (by unfold fau2; rw [if_pos (by omega)]), if_pos (by omega)]); rw [he]; exact ⟨rfl, hX0.rf, fun _ _ => rfl⟩)
        · skip
          refine lv_iload C0.1 C0.2.1 dX10_nth_36 (lv_at hl 0 rfl) ?_
          refine lv_goto (tgt := 47) C0.1 C0.2.1 dX10_nth_38 (by decide) ?_
          refine lv_istore (lv' := [(4, .int (zI ((sFau (S.2.1.1 i))))), (0, .ref (h)), (1, .int (zI (a))), (2, .int (zI (b))), (3, .int (zI (t)))]) C0.1 C0.2.1 dX10_nth_47 hl (by decide) rfl (fun ls hl => ?_)
          refine lv_iload C0.1 C0.2.1 dX10_nth_49 (lv_at hl 0 rfl) ?_
          refine z_if_ge (tgt := 57) C0.1 C0.2.1 dX10_nth_51 (by decide) ⟨by omega, by omega⟩ (fun c_51 => ?_) (fun c_51 => ?_)
          · skip
            have hwi := sFau_0 (w := S.2.1.1 i) (by omega)
            have hwj := nFau_0 (w := S.2.1.1 j) (by omega)
            refine lv_aload_n C0.1 C0.2.1 dX10_nth_57 rfl (lv_at hl 1 rfl) ?_
            refine lv_aload_n C0.1 C0.2.1 dX10_nth_58 rfl (lv_at hl 1 rfl) ?_
            refine mm_get (fs := [.ref (h + 1), .ref (h + 2), .ref (h + 3), .ref (h + 4), .int (zI (((S.1.2.2 : Nat) : Int))), .int (zI (x2)), .long (zL (x3)), .ref (h + 5), .ref (h + 6), .ref (h + 7), .ref (h + 8), .int (zI (x4)), .int (zI (x5)), .int (zI (x6)), .int (zI (x7)), .int (zI (S.1.1)), .ref (h + 9), .ref (h + 10), .ref (h + 11), .ref (h + 12)]) C0 (C := RX10) (T := TX10) (N := 20) iG_X10 hM (hO) rfl 1 (by decide) tw_917 rfl rfl dX10_nth_59 ?_
            refine lv_iload_n C0.1 C0.2.1 dX10_nth_62 rfl (lv_at hl 2 rfl) ?_
            refine mm_iald C0 hM (g := fh) (hH) (i) (i := a) (by omega) (by omega) (by decide) dX10_nth_63 ?_
            refine z_asI (b := (S.2.1.1 i : Int)) (hh_i) ?_
            refine lv_iconst (v := zI 2) C0.1 C0.2.1 dX10_nth_64 rfl ?_
            refine z_isub C0.1 C0.2.1 dX10_nth_65 ?_
            refine z_asI (a := (((S.2.1.1 i : Int)) - (2))) (b := ((S.2.1.1 i - 2 : Nat) : Int)) (by omega) ?_
            refine lv_aload_n C0.1 C0.2.1 dX10_nth_66 rfl (lv_at hl 1 rfl) ?_
            refine mm_get (fs := [.ref (h + 1), .ref (h + 2), .ref (h + 3), .ref (h + 4), .int (zI (((S.1.2.2 : Nat) : Int))), .int (zI (x2)), .long (zL (x3)), .ref (h + 5), .ref (h + 6), .ref (h + 7), .ref (h + 8), .int (zI (x4)), .int (zI (x5)), .int (zI (x6)), .int (zI (x7)), .int (zI (S.1.1)), .ref (h + 9), .ref (h + 10), .ref (h + 11), .ref (h + 12)]) C0 (C := RX10) (T := TX10) (N := 20) iG_X10 hM (hO) rfl 2 (by decide) tw_918 rfl rfl dX10_nth_67 ?_
            refine lv_iload_n C0.1 C0.2.1 dX10_nth_70 rfl (lv_at hl 2 rfl) ?_
            refine mm_iald C0 hM (g := fc) (hC) (i) (i := a) (by omega) (by omega) (by decide) dX10_nth_71 ?_
            refine z_asI (b := (S.2.1.2.1 i : Int)) (hc_i) ?_
            refine lv_iload_n C0.1 C0.2.1 dX10_nth_72 rfl (lv_at hl 3 rfl) ?_
            refine mm_callVv (As := [.int (zI (((S.2.1.1 i - 2 : Nat) : Int))), .int (zI ((S.2.1.2.1 i : Int))), .int (zI (b))]) C0 vw_X10_findNth tw_1077 (c_X10_findNth l G _ hO hR hpj (by omega) hv_j rfl ho_i2 rfl (by omega) (by omega) (by omega)) hM (hO) rfl rfl hl.1 rfl (Nat.le_of_ble_eq_true rfl) ⟨rfl, rfl, Nat.le_of_ble_eq_true rfl, Nat.le_of_ble_eq_true rfl, Nat.zero_le _, Nat.zero_le _⟩ dX10_nth_73 hS (fun E8 H locs hp hM hS => ?_)
            obtain ⟨⟨R1, hR1, v9, kr⟩, fr⟩ := hp
            have hO := ro.kept hO (fr _ (by omega))
            have hfr := (fun q h => (fr q (by omega)).trans (hfr q h) : ∀ q : Nat, (q < h ∨ h + 13 ≤ q) → E8 q = E0 q)
            have hX1 := hX0.w hR1 (fun r hr => kr r (by omega) (by omega) (by omega)) fr
            refine lv_aload_n C0.1 C0.2.1 dX10_nth_76 rfl (lv_at hl 1 rfl) ?_
            refine lv_iload_n C0.1 C0.2.1 dX10_nth_77 rfl (lv_at hl 4 rfl) ?_
            refine lv_bipush (v := zI 9) C0.1 C0.2.1 dX10_nth_78 rfl ?_
            refine mm_callVi (As := [.int (zI (t)), .int (zI (9))]) C0 vw_X10_come tw_1039 (c_X10_comeS l G _ hX1 hpu hi_u (a := 9) rfl (by omega) v9) hM (hO) rfl rfl hl.1 rfl (Nat.le_of_ble_eq_true rfl) ⟨rfl, rfl, Nat.le_of_ble_eq_true rfl, Nat.le_of_ble_eq_true rfl, Nat.zero_le _, Nat.zero_le _⟩ dX10_nth_80 hS (fun z9 E9 H locs hp hM hS => ?_)
            obtain ⟨hz9, ⟨R9, hX9, kr9⟩, fr⟩ := hp
            have hO := ro.kept hO (fr _ (by omega))
            have hfr := (fun q h => (fr q (by omega)).trans (hfr q h) : ∀ q : Nat, (q < h ∨ h + 13 ≤ q) → E9 q = E0 q)
            exact mm_iret (z := z9) C0 hr hlk hM hS dX10_nth_83 (by have he : pf_nth S a b t = (lanZ (shp (S.2.1.1 i - 2) (S.2.1.2.1 i) (S.2.1.2.2 j)), lanS S u (shp (S.2.1.1 i - 2) (S.2.1.2.1 i) (S.2.1.2.2 j))) := (by unfold pf_nth; rw [if_pos (by omega), ht_i, ht_j, ht_u, if_neg (by unfold fau2; split <;> omega)]); rw [he]; exact ⟨hz9, hX9.rf, hfr⟩)
          · skip
            refine lv_iload C0.1 C0.2.1 dX10_nth_54 (lv_at hl 0 rfl) ?_
            exact mm_iret (z := (sFau (S.2.1.1 i))) C0 hr hlk hM hS dX10_nth_56 (by have he : pf_nth S a b t = ((sFau (S.2.1.1 i)), S) := (by unfold pf_nth; rw [if_pos (by omega), ht_i, ht_j, show fau2 (sFau (S.2.1.1 i)) (nFau (S.2.1.1 j)) = (sFau (S.2.1.1 i)) from (by unfold fau2; rw [if_neg (by omega)]), if_pos (by omega)]); rw [he]; exact ⟨rfl, hX0.rf, fun _ _ => rfl⟩)
      · skip
        refine lv_iconst (v := zI (-1)) C0.1 C0.2.1 dX10_nth_21 rfl ?_
        exact mm_iret (z := (-1)) C0 hr hlk hM hS dX10_nth_22 (by have he : pf_nth S a b t = ((-1), S) := (by unfold pf_nth; rw [if_neg (by omega)]); rw [he]; exact ⟨rfl, hX0.rf, fun _ _ => rfl⟩)

theorem nat_e {U k q : Nat} (h : U = 2 * (k - 2) * q) : (U : Int) = 2 * ((k - 2 : Nat) : Int) * (q : Int) := by rw [h, Int.natCast_mul, Int.natCast_mul]; rfl
theorem shp_self {kd k : Nat} (hkd : kd ≤ 4) (hk : 3 ≤ kd → 3 ≤ k) : ∀ x, x ≤ shp kd k x
  | 0 => Nat.zero_le _
  | x + 1 => by
    have := shp_self hkd hk x
    have := shp_lt (kd := kd) (k := k) hkd hk (show x < x + 1 by omega)
    omega

def rX10_whichCorners : Room := { frames := 3, cells := 0, slots := 0, locals := 77 }
theorem vw_X10_whichCorners : mm_Vw RX10 yX10_whichCorners cX10_whichCorners 3 (some .boolean) 2 := ⟨tw_1169, tp_44, tw_10, tw_1170, by decide +kernel⟩
set_option maxHeartbeats 4000000 in
set_option maxRecDepth 100000 in
theorem c_X10_whichCorners (l : Launch) (G : mG) (E0 : mE) {h : Nat} {x1 x2 x3 x4 x5 x6 x7 x8 : Int} (hO : ro G E0 h x1 x2 x3 x4 x5 x6 x7 x8) {R : Nat → Nat} (hR : rg G E0 h R) {jj : Int} {b A : Nat} (hjj : jj = (b : Int)) (hb : b < 8) (hA : R b = A) (hA0 : A ≠ 0) (hn : nl A ≤ 24) {kk : Int} {k : Nat} (hkk : kk = (k : Int)) (hk9 : k ≤ 99) (hk3 : 3 ≤ k) : mm_Ci l yX10_whichCorners (.code yX10_whichCorners cX10_whichCorners 3 (some .boolean) :: wsG) rX10_whichCorners G [.ref (h), .int (zI (kk)), .int (zI (jj))] E0 (fun z E => ((z = 1 ∧ ∃ R1 x, rg G E h R1 ∧ R1 8 = x ∧ shp 3 k x = A ∧ nl x ≤ 24 ∧ ∀ r, r < 8 → R1 r = R r) ∨ (z = 0 ∧ (∀ x, shp 3 k x ≠ A) ∧ ∃ R1, rg G E h R1 ∧ ∀ r, r < 8 → R1 r = R r)) ∧ ∀ q : Nat, (q ≠ h + 1) → E q = E0 q) := by
  refine mm_of_i (by decide +kernel) (Nat.le_of_ble_eq_true rfl) ?_
  intro p e s m args below meth c ls C0 hr hlk hM hl hS
  have hl : lv_has ls 3 [(0, .ref (h)), (1, .int (zI (kk))), (2, .int (zI (jj)))] := hl
  have hfr : ∀ q : Nat, (q ≠ h + 1) → E0 q = E0 q := fun _ _ => rfl
  obtain ⟨c9, hc9⟩ : ∃ c, c = (if 4 ≤ k then (k - 4) * (k - 4) else (4 - k) * (4 - k)) := ⟨_, rfl⟩
  have hcz : (c9 : Int) = ((k : Int) - 4) * ((k : Int) - 4) ∧ c9 ≤ 9025 := by
    rw [hc9]
    by_cases q : 4 ≤ k
    · rw [if_pos q, Int.natCast_mul, show ((k - 4 : Nat) : Int) = (k : Int) - 4 by omega]; exact ⟨rfl, Nat.mul_le_mul (show k - 4 ≤ 95 by omega) (show k - 4 ≤ 95 by omega)⟩
    · rw [if_neg q, Int.natCast_mul, show ((4 - k : Nat) : Int) = -((k : Int) - 4) by omega, Int.neg_mul_neg]; exact ⟨rfl, Nat.mul_le_mul (show 4 - k ≤ 95 by omega) (show 4 - k ≤ 95 by omega)⟩
  obtain ⟨hcz1, hcz2⟩ := hcz
  have hnC : nl (8 * (k - 2) * A + c9) ≤ 26 := nl_addn (by rw [Nat.mul_comm]; exact Nat.le_trans (nl_mul1 (by omega)) (by omega)) (Nat.le_trans (nlL (N := c9) (by omega)) (by omega))
  obtain ⟨X, hX⟩ := rt_ex (k := 2) (by omega) (8 * (k - 2) * A + c9)
  refine lv_aload_n C0.1 C0.2.1 dX10_whichCorners_0 rfl (lv_at hl 0 rfl) ?_
  refine lv_bipush (v := zI 10) C0.1 C0.2.1 dX10_whichCorners_1 rfl ?_
  refine lv_iload_n C0.1 C0.2.1 dX10_whichCorners_3 rfl (lv_at hl 2 rfl) ?_
  refine mm_ldc2 (z := 8) C0 tw_1020 rfl dX10_whichCorners_4 ?_
  refine lv_iload_n C0.1 C0.2.1 dX10_whichCorners_7 rfl (lv_at hl 1 rfl) ?_
  refine lv_iconst (v := zI 2) C0.1 C0.2.1 dX10_whichCorners_8 rfl ?_
  refine z_isub C0.1 C0.2.1 dX10_whichCorners_9 ?_
  refine z_i2l C0.1 C0.2.1 dX10_whichCorners_10 ⟨by omega, by omega⟩ ?_
  refine z_lmul C0.1 C0.2.1 dX10_whichCorners_11 ?_
  refine lv_iload_n C0.1 C0.2.1 dX10_whichCorners_12 rfl (lv_at hl 1 rfl) ?_
  refine z_i2l C0.1 C0.2.1 dX10_whichCorners_13 ⟨by omega, by omega⟩ ?_
  refine mm_ldc2 (z := 4) C0 tw_1005 rfl dX10_whichCorners_14 ?_
  refine z_lsub C0.1 C0.2.1 dX10_whichCorners_17 ?_
  refine lv_iload_n C0.1 C0.2.1 dX10_whichCorners_18 rfl (lv_at hl 1 rfl) ?_
  refine z_i2l C0.1 C0.2.1 dX10_whichCorners_19 ⟨by omega, by omega⟩ ?_
  refine mm_ldc2 (z := 4) C0 tw_1005 rfl dX10_whichCorners_20 ?_
  refine z_lsub C0.1 C0.2.1 dX10_whichCorners_23 ?_
  refine z_lmul C0.1 C0.2.1 dX10_whichCorners_24 ?_
  refine mm_callVv (As := [.int (zI (10)), .int (zI (jj)), .long (zL (((8) * (((kk) - (2)))))), .long (zL (((((kk) - (4))) * (((kk) - (4))))))]) C0 vw_X10_times tw_1035 (c_X10_times l G _ hO hR (t := 10) rfl (by omega) hjj (by omega) hA (8 * (k - 2)) c9 (by omega) (by rw [hkk]; exact hcz1.symm) (by omega) (by omega) (by omega)) hM (hO) rfl rfl hl.1 rfl (Nat.le_of_ble_eq_true rfl) ⟨rfl, rfl, Nat.le_of_ble_eq_true rfl, Nat.le_of_ble_eq_true rfl, Nat.zero_le _, Nat.zero_le _⟩ dX10_whichCorners_25 hS (fun E1 H locs hp hM hS => ?_)
  obtain ⟨⟨R1, hR1, v10, kr1⟩, fr⟩ := hp
  have hO := ro.kept hO (fr _ (by omega))
  have hfr := (fun q h => (fr q (by omega)).trans (hfr q h) : ∀ q : Nat, (q ≠ h + 1) → E1 q = E0 q)
  refine lv_aload_n C0.1 C0.2.1 dX10_whichCorners_28 rfl (lv_at hl 0 rfl) ?_
  refine lv_bipush (v := zI 8) C0.1 C0.2.1 dX10_whichCorners_29 rfl ?_
  refine lv_bipush (v := zI 10) C0.1 C0.2.1 dX10_whichCorners_31 rfl ?_
  refine mm_callVi (As := [.int (zI (8)), .int (zI (10))]) C0 vw_X10_rootOf tw_1143 (c_X10_rootOf l G _ hO hR1 (t := 8) rfl (by omega) (a := 10) rfl (by omega) v10 (by omega) (by omega) hX) hM (hO) rfl rfl hl.1 rfl (Nat.le_of_ble_eq_true rfl) ⟨rfl, rfl, Nat.le_of_ble_eq_true rfl, Nat.le_of_ble_eq_true rfl, Nat.zero_le _, Nat.zero_le _⟩ dX10_whichCorners_33 hS (fun z33 E2 H locs hp hM hS => ?_)
  obtain ⟨hz33, ⟨R2, hR2, v8, kr2⟩, fr⟩ := hp
  have hO := ro.kept hO (fr _ (by omega))
  have hfr := (fun q h => (fr q (by omega)).trans (hfr q h) : ∀ q : Nat, (q ≠ h + 1) → E2 q = E0 q)
  have hz33b := if01 hz33
  have k2 : ∀ r, r < 8 → R2 r = R r := fun r q => (kr2 r (by omega) (by omega)).trans (kr1 r (by omega))
  have hXn := rt_half hX
  refine z_if_ne (tgt := 41) C0.1 C0.2.1 dX10_whichCorners_36 (by decide) ⟨by omega, by omega⟩ (fun c_36 => ?_) (fun c_36 => ?_)
  · skip
    have hsq : X * X = 8 * (k - 2) * A + c9 := by omega
    have hXp : X ≠ 0 := fun q => by rw [q, Nat.mul_zero] at hsq; have := Nat.mul_le_mul (show 8 ≤ 8 * (k - 2) by omega) (show 1 ≤ A by omega); omega
    have hX1 : 4 - k ≤ X := by omega
    have hX2 : nl (1 * X + (k - 4)) ≤ 80 := by rw [Nat.one_mul]; exact Nat.le_trans (nl_addn (n := 25) (by omega) (Nat.le_trans (nlL (N := k - 4) (by omega)) (by omega))) (by decide)
    refine lv_iload_n C0.1 C0.2.1 dX10_whichCorners_41 rfl (lv_at hl 1 rfl) ?_
    refine lv_iconst (v := zI 4) C0.1 C0.2.1 dX10_whichCorners_42 rfl ?_
    refine z_icmp_ge (tgt := 71) C0.1 C0.2.1 dX10_whichCorners_43 (by decide) ⟨by omega, by omega⟩ ⟨by omega, by omega⟩ (fun c_43 => ?_) (fun c_43 => ?_)
    · skip
      refine lv_aload_n C0.1 C0.2.1 dX10_whichCorners_71 rfl (lv_at hl 0 rfl) ?_
      refine lv_bipush (v := zI 8) C0.1 C0.2.1 dX10_whichCorners_72 rfl ?_
      refine lv_bipush (v := zI 8) C0.1 C0.2.1 dX10_whichCorners_74 rfl ?_
      refine lv_lconst (v := zL 1) C0.1 C0.2.1 dX10_whichCorners_76 rfl ?_
      refine lv_iload_n C0.1 C0.2.1 dX10_whichCorners_77 rfl (lv_at hl 1 rfl) ?_
      refine z_i2l C0.1 C0.2.1 dX10_whichCorners_78 ⟨by omega, by omega⟩ ?_
      refine mm_ldc2 (z := 4) C0 tw_1005 rfl dX10_whichCorners_79 ?_
      refine z_lsub C0.1 C0.2.1 dX10_whichCorners_82 ?_
      refine mm_callVv (As := [.int (zI (8)), .int (zI (8)), .long (zL (1)), .long (zL (((kk) - (4))))]) C0 vw_X10_times tw_1035 (c_X10_times l G _ hO hR2 (t := 8) rfl (by omega) (a := 8) rfl (by omega) v8 1 (k - 4) rfl (by omega) (by omega) (by omega) hX2) hM (hO) rfl rfl hl.1 rfl (Nat.le_of_ble_eq_true rfl) ⟨rfl, rfl, Nat.le_of_ble_eq_true rfl, Nat.le_of_ble_eq_true rfl, Nat.zero_le _, Nat.zero_le _⟩ dX10_whichCorners_83 hS (fun E3 H locs hp hM hS => ?_)
      obtain ⟨⟨R4, hR4, v8, kr4⟩, fr⟩ := hp
      have hO := ro.kept hO (fr _ (by omega))
      have hfr := (fun q h => (fr q (by omega)).trans (hfr q h) : ∀ q : Nat, (q ≠ h + 1) → E3 q = E0 q)
      have k4 : ∀ r, r < 8 → R4 r = R r := fun r q => (kr4 r (by omega)).trans (k2 r q)
      obtain ⟨U, hU8, hUz⟩ : ∃ U : Nat, R4 8 = U ∧ (U : Int) = (X : Int) + (k : Int) - 4 := ⟨_, v8, by omega⟩
      have hUn : nl U ≤ 26 := by rw [show U = X + (k - 4) by omega]; exact nl_addn (n := 25) (by omega) (Nat.le_trans (nlL (N := k - 4) (by omega)) (by omega))
      refine lv_aload_n C0.1 C0.2.1 dX10_whichCorners_86 rfl (lv_at hl 0 rfl) ?_
      refine lv_bipush (v := zI 8) C0.1 C0.2.1 dX10_whichCorners_87 rfl ?_
      refine lv_bipush (v := zI 8) C0.1 C0.2.1 dX10_whichCorners_89 rfl ?_
      refine mm_ldc2 (z := 2) C0 tw_1089 rfl dX10_whichCorners_91 ?_
      refine lv_iload_n C0.1 C0.2.1 dX10_whichCorners_94 rfl (lv_at hl 1 rfl) ?_
      refine lv_iconst (v := zI 2) C0.1 C0.2.1 dX10_whichCorners_95 rfl ?_
      refine z_isub C0.1 C0.2.1 dX10_whichCorners_96 ?_
      refine z_i2l C0.1 C0.2.1 dX10_whichCorners_97 ⟨by omega, by omega⟩ ?_
      refine z_lmul C0.1 C0.2.1 dX10_whichCorners_98 ?_
      refine mm_callVl (As := [.int (zI (8)), .int (zI (8)), .long (zL (((2) * (((kk) - (2))))))]) C0 vw_X10_divide tw_1097 (c_X10_divide l G _ hO hR4 (t := 8) rfl (by omega) (a := 8) rfl (by omega) hU8 (2 * (k - 2)) (by omega) (by omega) (by omega)) hM (hO) rfl rfl hl.1 rfl (Nat.le_of_ble_eq_true rfl) ⟨rfl, rfl, Nat.le_of_ble_eq_true rfl, Nat.le_of_ble_eq_true rfl, Nat.zero_le _, Nat.zero_le _⟩ dX10_whichCorners_99 hS (fun z99 E4 H locs hp hM hS => ?_)
      obtain ⟨hz99, ⟨R5, hR5, v8, kr5⟩, fr⟩ := hp
      have hO := ro.kept hO (fr _ (by omega))
      have hfr := (fun q h => (fr q (by omega)).trans (hfr q h) : ∀ q : Nat, (q ≠ h + 1) → E4 q = E0 q)
      have k5 : ∀ r, r < 8 → R5 r = R r := fun r q => (kr5 r (by omega)).trans (k4 r q)
      have hmb := Nat.mod_lt U (show 0 < 2 * (k - 2) by omega)
      obtain ⟨U2, hU2⟩ : ∃ x, x = U % (2 * (k - 2)) := ⟨_, rfl⟩
      rw [← hU2] at hz99 hmb
      refine lv_lconst (v := zL 0) C0.1 C0.2.1 dX10_whichCorners_102 rfl ?_
      refine z_lcmp_ne (tgt := 111) C0.1 C0.2.1 dX10_whichCorners_103 dX10_whichCorners_104 (by decide) ⟨by omega, by omega⟩ ⟨by omega, by omega⟩ (fun c_103 => ?_) (fun c_103 => ?_)
      · skip
        have hfin : ∀ x, shp 3 k x ≠ A := fun x q => by
          have hx0 : 0 < x := Nat.pos_of_ne_zero fun q2 => by rw [q2, shp_0] at q; exact hA0 q.symm
          obtain ⟨Y, hY1, hY2⟩ := wc_1 hk3 hx0 q
          have hXY := rt_ex2 hX (by rw [hY1, hc9])
          subst hXY
          have e : U = 2 * (k - 2) * x := by apply Int.natCast_inj.mp; rw [Int.natCast_mul, Int.natCast_mul]; show _ = 2 * ((k - 2 : Nat) : Int) * (x : Int); omega
          rw [e, Nat.mul_mod_right] at hU2
          omega
        refine lv_iconst (v := zI 0) C0.1 C0.2.1 dX10_whichCorners_111 rfl ?_
        exact mm_zret (z := 0) C0 hr hlk hM hS (by omega) dX10_whichCorners_112 (⟨Or.inr ⟨rfl, hfin, R5, hR5, k5⟩, hfr⟩)
      · skip
        have hdv : U = 2 * (k - 2) * (U / (2 * (k - 2))) := by have := Nat.div_add_mod U (2 * (k - 2)); rw [← hU2] at this; omega
        have hfin : shp 3 k (U / (2 * (k - 2))) = A := wc_2 hk3 hA0 (by rw [hsq, hc9]) (by rw [← nat_e hdv]; omega)
        have hxn : nl (U / (2 * (k - 2))) ≤ 24 := Nat.le_trans (nl_mono (show _ ≤ A from by rw [← hfin]; exact shp_self (by omega) (fun _ => hk3) _)) hn
        refine lv_iconst (v := zI 1) C0.1 C0.2.1 dX10_whichCorners_107 rfl ?_
        refine lv_goto (tgt := 112) C0.1 C0.2.1 dX10_whichCorners_108 (by decide) ?_
        exact mm_zret (z := 1) C0 hr hlk hM hS (by omega) dX10_whichCorners_112 (⟨Or.inl ⟨rfl, R5, _, hR5, v8, hfin, hxn, k5⟩, hfr⟩)
    · skip
      refine lv_aload_n C0.1 C0.2.1 dX10_whichCorners_46 rfl (lv_at hl 0 rfl) ?_
      refine lv_bipush (v := zI 9) C0.1 C0.2.1 dX10_whichCorners_47 rfl ?_
      refine mm_ldc2 (z := 4) C0 tw_1005 rfl dX10_whichCorners_49 ?_
      refine lv_iload_n C0.1 C0.2.1 dX10_whichCorners_52 rfl (lv_at hl 1 rfl) ?_
      refine z_i2l C0.1 C0.2.1 dX10_whichCorners_53 ⟨by omega, by omega⟩ ?_
      refine z_lsub C0.1 C0.2.1 dX10_whichCorners_54 ?_
      refine mm_callVv (As := [.int (zI (9)), .long (zL (((4) - (kk))))]) C0 vw_X10_set tw_988 (c_X10_set l G _ hO hR2 (t := 9) rfl (by omega) (4 - k) (by omega) (by omega)) hM (hO) rfl rfl hl.1 rfl (Nat.le_of_ble_eq_true rfl) ⟨rfl, rfl, Nat.le_of_ble_eq_true rfl, Nat.le_of_ble_eq_true rfl, Nat.zero_le _, Nat.zero_le _⟩ dX10_whichCorners_55 hS (fun E5 H locs hp hM hS => ?_)
      obtain ⟨⟨R3, hR3, v9, kr3⟩, fr⟩ := hp
      have hO := ro.kept hO (fr _ (by omega))
      have hfr := (fun q h => (fr q (by omega)).trans (hfr q h) : ∀ q : Nat, (q ≠ h + 1) → E5 q = E0 q)
      refine lv_aload_n C0.1 C0.2.1 dX10_whichCorners_58 rfl (lv_at hl 0 rfl) ?_
      refine lv_bipush (v := zI 8) C0.1 C0.2.1 dX10_whichCorners_59 rfl ?_
      refine lv_bipush (v := zI 8) C0.1 C0.2.1 dX10_whichCorners_61 rfl ?_
      refine lv_bipush (v := zI 9) C0.1 C0.2.1 dX10_whichCorners_63 rfl ?_
      refine mm_callVv (As := [.int (zI (8)), .int (zI (8)), .int (zI (9))]) C0 vw_X10_subtract tw_1091 (c_X10_subtract l G _ hO hR3 (t := 8) rfl (by omega) (a := 8) rfl (by omega) ((kr3 8 (by omega)).trans v8) (b := 9) rfl (by omega) v9 hX1) hM (hO) rfl rfl hl.1 rfl (Nat.le_of_ble_eq_true rfl) ⟨rfl, rfl, Nat.le_of_ble_eq_true rfl, Nat.le_of_ble_eq_true rfl, Nat.zero_le _, Nat.zero_le _⟩ dX10_whichCorners_65 hS (fun E6 H locs hp hM hS => ?_)
      obtain ⟨⟨R4, hR4, v8, kr4⟩, fr⟩ := hp
      have hO := ro.kept hO (fr _ (by omega))
      have hfr := (fun q h => (fr q (by omega)).trans (hfr q h) : ∀ q : Nat, (q ≠ h + 1) → E6 q = E0 q)
      have k4 : ∀ r, r < 8 → R4 r = R r := fun r q => (kr4 r (by omega)).trans ((kr3 r (by omega)).trans (k2 r q))
      obtain ⟨U, hU8, hUz⟩ : ∃ U : Nat, R4 8 = U ∧ (U : Int) = (X : Int) + (k : Int) - 4 := ⟨_, v8, by omega⟩
      have hUn : nl U ≤ 26 := nl_mono (show U ≤ X by omega) |> fun q => Nat.le_trans q (by omega)
      refine lv_goto (tgt := 86) C0.1 C0.2.1 dX10_whichCorners_68 (by decide) ?_
      refine lv_aload_n C0.1 C0.2.1 dX10_whichCorners_86 rfl (lv_at hl 0 rfl) ?_
      refine lv_bipush (v := zI 8) C0.1 C0.2.1 dX10_whichCorners_87 rfl ?_
      refine lv_bipush (v := zI 8) C0.1 C0.2.1 dX10_whichCorners_89 rfl ?_
      refine mm_ldc2 (z := 2) C0 tw_1089 rfl dX10_whichCorners_91 ?_
      refine lv_iload_n C0.1 C0.2.1 dX10_whichCorners_94 rfl (lv_at hl 1 rfl) ?_
      refine lv_iconst (v := zI 2) C0.1 C0.2.1 dX10_whichCorners_95 rfl ?_
      refine z_isub C0.1 C0.2.1 dX10_whichCorners_96 ?_
      refine z_i2l C0.1 C0.2.1 dX10_whichCorners_97 ⟨by omega, by omega⟩ ?_
      refine z_lmul C0.1 C0.2.1 dX10_whichCorners_98 ?_
      refine mm_callVl (As := [.int (zI (8)), .int (zI (8)), .long (zL (((2) * (((kk) - (2))))))]) C0 vw_X10_divide tw_1097 (c_X10_divide l G _ hO hR4 (t := 8) rfl (by omega) (a := 8) rfl (by omega) hU8 (2 * (k - 2)) (by omega) (by omega) (by omega)) hM (hO) rfl rfl hl.1 rfl (Nat.le_of_ble_eq_true rfl) ⟨rfl, rfl, Nat.le_of_ble_eq_true rfl, Nat.le_of_ble_eq_true rfl, Nat.zero_le _, Nat.zero_le _⟩ dX10_whichCorners_99 hS (fun z99 E7 H locs hp hM hS => ?_)
      obtain ⟨hz99, ⟨R5, hR5, v8, kr5⟩, fr⟩ := hp
      have hO := ro.kept hO (fr _ (by omega))
      have hfr := (fun q h => (fr q (by omega)).trans (hfr q h) : ∀ q : Nat, (q ≠ h + 1) → E7 q = E0 q)
      have k5 : ∀ r, r < 8 → R5 r = R r := fun r q => (kr5 r (by omega)).trans (k4 r q)
      have hmb := Nat.mod_lt U (show 0 < 2 * (k - 2) by omega)
      obtain ⟨U2, hU2⟩ : ∃ x, x = U % (2 * (k - 2)) := ⟨_, rfl⟩
      rw [← hU2] at hz99 hmb
      refine lv_lconst (v := zL 0) C0.1 C0.2.1 dX10_whichCorners_102 rfl ?_
      refine z_lcmp_ne (tgt := 111) C0.1 C0.2.1 dX10_whichCorners_103 dX10_whichCorners_104 (by decide) ⟨by omega, by omega⟩ ⟨by omega, by omega⟩ (fun c_103 => ?_) (fun c_103 => ?_)
      · skip
        have hfin : ∀ x, shp 3 k x ≠ A := fun x q => by
          have hx0 : 0 < x := Nat.pos_of_ne_zero fun q2 => by rw [q2, shp_0] at q; exact hA0 q.symm
          obtain ⟨Y, hY1, hY2⟩ := wc_1 hk3 hx0 q
          have hXY := rt_ex2 hX (by rw [hY1, hc9])
          subst hXY
          have e : U = 2 * (k - 2) * x := by apply Int.natCast_inj.mp; rw [Int.natCast_mul, Int.natCast_mul]; show _ = 2 * ((k - 2 : Nat) : Int) * (x : Int); omega
          rw [e, Nat.mul_mod_right] at hU2
          omega
        refine lv_iconst (v := zI 0) C0.1 C0.2.1 dX10_whichCorners_111 rfl ?_
        exact mm_zret (z := 0) C0 hr hlk hM hS (by omega) dX10_whichCorners_112 (⟨Or.inr ⟨rfl, hfin, R5, hR5, k5⟩, hfr⟩)
      · skip
        have hdv : U = 2 * (k - 2) * (U / (2 * (k - 2))) := by have := Nat.div_add_mod U (2 * (k - 2)); rw [← hU2] at this; omega
        have hfin : shp 3 k (U / (2 * (k - 2))) = A := wc_2 hk3 hA0 (by rw [hsq, hc9]) (by rw [← nat_e hdv]; omega)
        have hxn : nl (U / (2 * (k - 2))) ≤ 24 := Nat.le_trans (nl_mono (show _ ≤ A from by rw [← hfin]; exact shp_self (by omega) (fun _ => hk3) _)) hn
        refine lv_iconst (v := zI 1) C0.1 C0.2.1 dX10_whichCorners_107 rfl ?_
        refine lv_goto (tgt := 112) C0.1 C0.2.1 dX10_whichCorners_108 (by decide) ?_
        exact mm_zret (z := 1) C0 hr hlk hM hS (by omega) dX10_whichCorners_112 (⟨Or.inl ⟨rfl, R5, _, hR5, v8, hfin, hxn, k5⟩, hfr⟩)
  · skip
    have hfin : ∀ x, shp 3 k x ≠ A := fun x q => by
      have hx0 : 0 < x := Nat.pos_of_ne_zero fun q2 => by rw [q2, shp_0] at q; exact hA0 q.symm
      obtain ⟨Y, hY1, hY2⟩ := wc_1 hk3 hx0 q
      have hXY := rt_ex2 hX (by rw [hY1, hc9])
      subst hXY
      rw [← hc9] at hY1
      omega
    refine lv_iconst (v := zI 0) C0.1 C0.2.1 dX10_whichCorners_39 rfl ?_
    exact mm_zret (z := 0) C0 hr hlk hM hS (by omega) dX10_whichCorners_40 (⟨Or.inr ⟨rfl, hfin, R2, hR2, k2⟩, hfr⟩)

def rX10_whichHeap : Room := { frames := 3, cells := 0, slots := 0, locals := 73 }
theorem vw_X10_whichHeap : mm_Vw RX10 yX10_whichHeap cX10_whichHeap 7 (some .boolean) 2 := ⟨tw_1165, tp_43, tw_10, tw_1166, by decide +kernel⟩
set_option maxHeartbeats 4000000 in
set_option maxRecDepth 100000 in
theorem c_X10_whichHeap (l : Launch) (G : mG) (E0 : mE) {h : Nat} {x1 x2 x3 x4 x5 x6 x7 x8 : Int} (hO : ro G E0 h x1 x2 x3 x4 x5 x6 x7 x8) {R : Nat → Nat} (hR : rg G E0 h R) {jj : Int} {b A : Nat} (hjj : jj = (b : Int)) (hb : b < 8) (hA : R b = A) (hA0 : A ≠ 0) (hn : nl A ≤ 24) {kk : Int} {k : Nat} (hkk : kk = (k : Int)) (hk9 : k ≤ 99) (hk3 : 3 ≤ k) : mm_Ci l yX10_whichHeap (.code yX10_whichHeap cX10_whichHeap 7 (some .boolean) :: wsG) rX10_whichHeap G [.ref (h), .int (zI (kk)), .int (zI (jj))] E0 (fun z E => ((z = 1 ∧ ∃ R1 x, rg G E h R1 ∧ R1 8 = x ∧ shp 4 k x = A ∧ nl x ≤ 24 ∧ ∀ r, r < 8 → R1 r = R r) ∨ (z = 0 ∧ (∀ x, shp 4 k x ≠ A) ∧ ∃ R1, rg G E h R1 ∧ ∀ r, r < 8 → R1 r = R r)) ∧ ∀ q : Nat, (q ≠ h + 1) → E q = E0 q) := by
  refine mm_of_i (by decide +kernel) (Nat.le_of_ble_eq_true rfl) ?_
  intro p e s m args below meth c ls C0 hr hlk hM hl hS
  have hl : lv_has ls 7 [(0, .ref (h)), (1, .int (zI (kk))), (2, .int (zI (jj)))] := hl
  have hfr : ∀ q : Nat, (q ≠ h + 1) → E0 q = E0 q := fun _ _ => rfl
  obtain ⟨X, hX⟩ := wh_ex (k := k) (A := A) hk3
  have hXA : shp 4 k X * 6 ≤ A * 6 := (hX X).mpr (Nat.le_refl _)
  have hXn := wh_nl (Nat.le_trans (shp4_cube (x := X) hk3) hXA) (Nat.le_refl (nl A))
  have hn6 : nl (6 * A + 0) ≤ 25 := by rw [Nat.add_zero, Nat.mul_comm]; exact Nat.le_trans (nl_mul1 (by omega)) (by omega)
  refine lv_aload_n C0.1 C0.2.1 dX10_whichHeap_0 rfl (lv_at hl 0 rfl) ?_
  refine lv_bipush (v := zI 12) C0.1 C0.2.1 dX10_whichHeap_1 rfl ?_
  refine lv_iload_n C0.1 C0.2.1 dX10_whichHeap_3 rfl (lv_at hl 2 rfl) ?_
  refine mm_ldc2 (z := 6) C0 tw_1096 rfl dX10_whichHeap_4 ?_
  refine lv_lconst (v := zL 0) C0.1 C0.2.1 dX10_whichHeap_7 rfl ?_
  refine mm_callVv (As := [.int (zI (12)), .int (zI (jj)), .long (zL (6)), .long (zL (0))]) C0 vw_X10_times tw_1035 (c_X10_times l G _ hO hR (t := 12) rfl (by omega) hjj (by omega) hA 6 0 rfl rfl (by omega) (by omega) (by omega)) hM (hO) rfl rfl hl.1 rfl (Nat.le_of_ble_eq_true rfl) ⟨rfl, rfl, Nat.le_of_ble_eq_true rfl, Nat.le_of_ble_eq_true rfl, Nat.zero_le _, Nat.zero_le _⟩ dX10_whichHeap_8 hS (fun E1 H locs hp hM hS => ?_)
  obtain ⟨⟨R0, hR0, v12, kr0⟩, fr⟩ := hp
  have hO := ro.kept hO (fr _ (by omega))
  have hfr := (fun q h => (fr q (by omega)).trans (hfr q h) : ∀ q : Nat, (q ≠ h + 1) → E1 q = E0 q)
  rw [Nat.add_zero, Nat.mul_comm] at v12
  refine lv_aload_n C0.1 C0.2.1 dX10_whichHeap_11 rfl (lv_at hl 0 rfl) ?_
  refine lv_bipush (v := zI 8) C0.1 C0.2.1 dX10_whichHeap_12 rfl ?_
  refine lv_lconst (v := zL 0) C0.1 C0.2.1 dX10_whichHeap_14 rfl ?_
  refine mm_callVv (As := [.int (zI (8)), .long (zL (0))]) C0 vw_X10_set tw_988 (c_X10_set l G _ hO hR0 (t := 8) rfl (by omega) 0 rfl (by omega)) hM (hO) rfl rfl hl.1 rfl (Nat.le_of_ble_eq_true rfl) ⟨rfl, rfl, Nat.le_of_ble_eq_true rfl, Nat.le_of_ble_eq_true rfl, Nat.zero_le _, Nat.zero_le _⟩ dX10_whichHeap_15 hS (fun E2 H locs hp hM hS => ?_)
  obtain ⟨⟨R1, hR1, v8, kr1⟩, fr⟩ := hp
  have hO := ro.kept hO (fr _ (by omega))
  have hfr := (fun q h => (fr q (by omega)).trans (hfr q h) : ∀ q : Nat, (q ≠ h + 1) → E2 q = E0 q)
  have v12 : R1 12 = A * 6 := (kr1 12 (by omega)).trans v12
  have k1 : ∀ r, r < 8 → R1 r = R r := fun r q => (kr1 r (by omega)).trans (kr0 r (by omega))
  refine lv_aload_n C0.1 C0.2.1 dX10_whichHeap_18 rfl (lv_at hl 0 rfl) ?_
  refine lv_iload_n C0.1 C0.2.1 dX10_whichHeap_19 rfl (lv_at hl 2 rfl) ?_
  refine mm_callVi (As := [.int (zI (jj))]) C0 vw_X10_sizeOf tw_997 (c_X10_sizeOf l G _ hO hR1 hjj (by omega) ((k1 b (by omega)).trans hA)) hM (hO) rfl rfl hl.1 rfl (Nat.le_of_ble_eq_true rfl) ⟨rfl, rfl, Nat.le_of_ble_eq_true rfl, Nat.le_of_ble_eq_true rfl, Nat.zero_le _, Nat.zero_le _⟩ dX10_whichHeap_20 hS (fun z_20 E3 H locs hp hM hS => ?_)
  obtain ⟨hz_20, hEq⟩ := hp
  rw [hEq] at hM
  refine z_asI (b := (nl A : Int)) (hz_20) ?_
  refine lv_iconst (v := zI 3) C0.1 C0.2.1 dX10_whichHeap_23 rfl ?_
  refine z_idivp C0.1 C0.2.1 dX10_whichHeap_24 ⟨by omega, by omega⟩ ⟨by omega, by omega⟩ (by omega) (by omega) ?_
  refine lv_iconst (v := zI 1) C0.1 C0.2.1 dX10_whichHeap_25 rfl ?_
  refine z_iadd C0.1 C0.2.1 dX10_whichHeap_26 ?_
  refine z_asI (a := (((((nl A : Int)) / (3))) + (1))) (b := (((nl A / 3 + 2 : Nat) : Int) - 1)) (by omega) ?_
  refine lv_istore_n (lv' := [(3, .int (zI ((((nl A / 3 + 2 : Nat) : Int) - 1)))), (0, .ref (h)), (1, .int (zI (kk))), (2, .int (zI (jj)))]) C0.1 C0.2.1 dX10_whichHeap_27 rfl hl (by decide) rfl (fun ls hl => ?_)
  have L28 : ∀ (k28 : Nat) (u : Nat) (R1 : Nat → Nat) (E4 : mE) (H : Heap) (locs : List Loc) (ls : Array Slot), (u ≤ nl A / 3 + 2) → (R1 8 = hiP X u) → (R1 12 = A * 6) → (∀ r, r < 8 → R1 r = R r) → (ro G E4 h x1 x2 x3 x4 x5 x6 x7 x8) → (rg G E4 h R1) → (∀ q : Nat, (q ≠ h + 1) → E4 q = E0 q) → u < k28 → mm_M G E4 H → va_S (mm_A G) s.heap H locs → lv_has ls 7 [(0, .ref (h)), (1, .int (zI (kk))), (2, .int (zI (jj))), (3, .int (zI ((u : Int) - 1)))] → W p l e rX10_whichHeap s m args below meth c H locs 0 0 (mm_Zi G below args s (fun z E => ((z = 1 ∧ ∃ R1 x, rg G E h R1 ∧ R1 8 = x ∧ shp 4 k x = A ∧ nl x ≤ 24 ∧ ∀ r, r < 8 → R1 r = R r) ∨ (z = 0 ∧ (∀ x, shp 4 k x ≠ A) ∧ ∃ R1, rg G E h R1 ∧ ∀ r, r < 8 → R1 r = R r)) ∧ ∀ q : Nat, (q ≠ h + 1) → E q = E0 q)) (F0 m 28 ls []) := by
    intro k28
    induction k28 with
    | zero => intro u R1 E4 H locs ls hu v8 v12 k1 hO hR1 hfr hk hM hS hl; exact absurd hk (Nat.not_lt_zero _)
    | succ k28 ih28 =>
      intro u R1 E4 H locs ls hu v8 v12 k1 hO hR1 hfr hk28 hM hS hl
      refine lv_iload_n C0.1 C0.2.1 dX10_whichHeap_28 rfl (lv_at hl 3 rfl) ?_
      refine z_if_lt (tgt := 124) C0.1 C0.2.1 dX10_whichHeap_29 (by decide) ⟨by omega, by omega⟩ (fun c_29 => ?_) (fun c_29 => ?_)
      · skip
        have hu0 : u = 0 := by omega
        subst hu0
        rw [hiP_0] at v8
        refine lv_aload_n C0.1 C0.2.1 dX10_whichHeap_124 rfl (lv_at hl 0 rfl) ?_
        refine lv_iload_n C0.1 C0.2.1 dX10_whichHeap_125 rfl (lv_at hl 1 rfl) ?_
        refine lv_bipush (v := zI 8) C0.1 C0.2.1 dX10_whichHeap_126 rfl ?_
        refine mm_callVv (As := [.int (zI (kk)), .int (zI (8))]) C0 vw_X10_heapTimesSix tw_1085 (c_X10_heapTimesSix l G _ hO hR1 (b := 8) rfl (by omega) v8 hkk hk9 hk3 (by omega)) hM (hO) rfl rfl hl.1 rfl (Nat.le_of_ble_eq_true rfl) ⟨rfl, rfl, Nat.le_of_ble_eq_true rfl, Nat.le_of_ble_eq_true rfl, Nat.zero_le _, Nat.zero_le _⟩ dX10_whichHeap_128 hS (fun E5 H locs hp hM hS => ?_)
        obtain ⟨⟨R5, hR5, v95, kr5⟩, fr⟩ := hp
        have hO := ro.kept hO (fr _ (by omega))
        have hfr := (fun q h => (fr q (by omega)).trans (hfr q h) : ∀ q : Nat, (q ≠ h + 1) → E5 q = E0 q)
        refine lv_aload_n C0.1 C0.2.1 dX10_whichHeap_131 rfl (lv_at hl 0 rfl) ?_
        refine lv_bipush (v := zI 9) C0.1 C0.2.1 dX10_whichHeap_132 rfl ?_
        refine lv_bipush (v := zI 12) C0.1 C0.2.1 dX10_whichHeap_134 rfl ?_
        refine mm_callVi (As := [.int (zI (9)), .int (zI (12))]) C0 vw_X10_compare tw_1105 (c_X10_compare l G _ hO hR5 (a := 9) rfl (by omega) v95 (b := 12) rfl (by omega) ((kr5 12 (by omega) (by omega) (by omega)).trans v12)) hM (hO) rfl rfl hl.1 rfl (Nat.le_of_ble_eq_true rfl) ⟨rfl, rfl, Nat.le_of_ble_eq_true rfl, Nat.le_of_ble_eq_true rfl, Nat.zero_le _, Nat.zero_le _⟩ dX10_whichHeap_136 hS (fun z_136 E6 H locs hp hM hS => ?_)
        obtain ⟨hz_136, hEq⟩ := hp
        rw [hEq] at hM
        have hcz : -1 ≤ z_136 ∧ z_136 ≤ 1 := hz_136 ▸ cmpZ_b _ _
        have hc0 : z_136 = 0 ↔ shp 4 k X = A := by rw [hz_136, cmpZ_0]; omega
        clear hz_136
        obtain ⟨hcz1, hcz2⟩ := hcz
        have k5 : ∀ r, r < 8 → R5 r = R r := fun r h1 => (kr5 r (by omega) (by omega) (by omega)).trans (k1 r h1)
        have v85 : R5 8 = X := (kr5 8 (by omega) (by omega) (by omega)).trans v8
        refine z_if_ne (tgt := 146) C0.1 C0.2.1 dX10_whichHeap_139 (by decide) ⟨by omega, by omega⟩ (fun c_139 => ?_) (fun c_139 => ?_)
        · skip
          refine lv_iconst (v := zI 0) C0.1 C0.2.1 dX10_whichHeap_146 rfl ?_
          exact mm_zret (z := 0) C0 hr hlk hM hS (by omega) dX10_whichHeap_147 (⟨Or.inr ⟨rfl, fun x q => by have q1 := (hX x).mp (by omega); rcases Nat.lt_or_ge x X with q2 | q2; (have := shp_lt (kd := 4) (k := k) (by omega) (fun _ => hk3) q2; omega); (rw [show x = X by omega] at q; exact absurd (hc0.mpr q) (by omega)), R5, hR5, k5⟩, hfr⟩)
        · skip
          refine lv_iconst (v := zI 1) C0.1 C0.2.1 dX10_whichHeap_142 rfl ?_
          refine lv_goto (tgt := 147) C0.1 C0.2.1 dX10_whichHeap_143 (by decide) ?_
          exact mm_zret (z := 1) C0 hr hlk hM hS (by omega) dX10_whichHeap_147 (⟨Or.inl ⟨rfl, R5, X, hR5, v85, hc0.mp (by omega), by omega, k5⟩, hfr⟩)
      · skip
        obtain ⟨q9, hq9⟩ : ∃ q, q = dg X (u - 1) := ⟨_, rfl⟩
        have hq9b : q9 < 1000000000 := hq9 ▸ dg_lt _ _
        refine lv_iconst (v := zI 0) C0.1 C0.2.1 dX10_whichHeap_32 rfl ?_
        refine lv_istore (lv' := [(4, .int (zI (0))), (0, .ref (h)), (1, .int (zI (kk))), (2, .int (zI (jj))), (3, .int (zI ((u : Int) - 1)))]) C0.1 C0.2.1 dX10_whichHeap_33 hl (by decide) rfl (fun ls hl => ?_)
        refine mm_ldc (z := 999999999) C0 tw_1138 rfl dX10_whichHeap_35 ?_
        refine lv_istore (lv' := [(5, .int (zI (999999999))), (4, .int (zI (0))), (0, .ref (h)), (1, .int (zI (kk))), (2, .int (zI (jj))), (3, .int (zI ((u : Int) - 1)))]) C0.1 C0.2.1 dX10_whichHeap_37 hl (by decide) rfl (fun ls hl => ?_)
        have L39 : ∀ (k39 : Nat) (lo hi9 v9 : Nat) (R3 : Nat → Nat) (E7 : mE) (H : Heap) (locs : List Loc) (ls : Array Slot), (lo ≤ q9) → (q9 ≤ hi9) → (hi9 ≤ 999999999) → (v9 < 1000000000) → (R3 8 = hiV X (u - 1) v9) → (R3 12 = A * 6) → (∀ r, r < 8 → R3 r = R r) → (ro G E7 h x1 x2 x3 x4 x5 x6 x7 x8) → (rg G E7 h R3) → (∀ q : Nat, (q ≠ h + 1) → E7 q = E0 q) → hi9 - lo < k39 → mm_M G E7 H → va_S (mm_A G) s.heap H locs → lv_has ls 7 [(0, .ref (h)), (1, .int (zI (kk))), (2, .int (zI (jj))), (3, .int (zI ((u : Int) - 1))), (4, .int (zI ((lo : Int)))), (5, .int (zI ((hi9 : Int))))] → W p l e rX10_whichHeap s m args below meth c H locs 0 0 (mm_Zi G below args s (fun z E => ((z = 1 ∧ ∃ R1 x, rg G E h R1 ∧ R1 8 = x ∧ shp 4 k x = A ∧ nl x ≤ 24 ∧ ∀ r, r < 8 → R1 r = R r) ∨ (z = 0 ∧ (∀ x, shp 4 k x ≠ A) ∧ ∃ R1, rg G E h R1 ∧ ∀ r, r < 8 → R1 r = R r)) ∧ ∀ q : Nat, (q ≠ h + 1) → E q = E0 q)) (F0 m 39 ls []) := by
          intro k39
          induction k39 with
          | zero => intro lo hi9 v9 R3 E7 H locs ls hl1 hl2 hh9 hv9 v3 v312 k3 hO hR3 hfr hk hM hS hl; exact absurd hk (Nat.not_lt_zero _)
          | succ k39 ih39 =>
            intro lo hi9 v9 R3 E7 H locs ls hl1 hl2 hh9 hv9 v3 v312 k3 hO hR3 hfr hk39 hM hS hl
            obtain ⟨hB9, g, hg, hP9⟩ := hR3.F 8
            rw [v3] at hP9
            have hn9 : ∀ x, x < 1000000000 → nl (hiV X (u - 1) x) ≤ 10 := fun x hx => hiV_nl (by omega) (by omega) hx
            refine lv_iload C0.1 C0.2.1 dX10_whichHeap_39 (lv_at hl 4 rfl) ?_
            refine lv_iload C0.1 C0.2.1 dX10_whichHeap_41 (lv_at hl 5 rfl) ?_
            refine z_icmp_ge (tgt := 106) C0.1 C0.2.1 dX10_whichHeap_43 (by decide) ⟨by omega, by omega⟩ ⟨by omega, by omega⟩ (fun c_43 => ?_) (fun c_43 => ?_)
            · skip
              have hle9 : lo = q9 := by omega
              refine lv_aload_n C0.1 C0.2.1 dX10_whichHeap_106 rfl (lv_at hl 0 rfl) ?_
              refine mm_get (fs := [.ref (h + 1), .ref (h + 2), .ref (h + 3), .ref (h + 4), .int (zI (x1)), .int (zI (x2)), .long (zL (x3)), .ref (h + 5), .ref (h + 6), .ref (h + 7), .ref (h + 8), .int (zI (x4)), .int (zI (x5)), .int (zI (x6)), .int (zI (x7)), .int (zI (x8)), .ref (h + 9), .ref (h + 10), .ref (h + 11), .ref (h + 12)]) C0 (C := RX10) (T := TX10) (N := 20) iG_X10 hM (hO) rfl 0 (by decide) tw_916 rfl rfl dX10_whichHeap_107 ?_
              refine lv_sipush (v := zI 640) C0.1 C0.2.1 dX10_whichHeap_110 rfl ?_
              refine lv_iload_n C0.1 C0.2.1 dX10_whichHeap_113 rfl (lv_at hl 3 rfl) ?_
              refine z_iadd C0.1 C0.2.1 dX10_whichHeap_114 ?_
              refine lv_iload C0.1 C0.2.1 dX10_whichHeap_115 (lv_at hl 4 rfl) ?_
              refine mm_iast C0 hM hS (g := g) (hg) (80 * 8 + (u - 1)) (i := ((640) + ((u : Int) - 1))) (x := (lo : Int)) (by omega) (by omega) (by decide) dX10_whichHeap_117 (fun H locs hM hS hsz => ?_)
              obtain ⟨E8, hE8⟩ : ∃ X : mE, X = mm_up E7 (h + 1) (mm_I G 1280 (zup (g) (80 * 8 + (u - 1)) ((lo : Int)))) := ⟨_, rfl⟩
              replace hM : mm_M G E8 H := by rw [hE8]; exact hM
              have frs : ∀ q : Nat, q ≠ h + 1 → E8 q = E7 q := fun q h => by rw [hE8]; exact mm_up_n _ _ h
              have hat : E8 (h + 1) = some (mm_I G 1280 (zup (g) (80 * 8 + (u - 1)) ((lo : Int)))) := by rw [hE8]; exact mm_up_s _ _ _
              have hU : rgF G E8 h R3 8 (nup (dg (hiV X (u - 1) v9)) (u - 1) lo) := ⟨hB9, _, hat, fP.st (by rw [← v3] at hP9 ⊢; exact hP9) (by omega)⟩
              obtain ⟨R6, hR6, v6, kr6⟩ := rgF.done (X := hiV X (u - 1) lo) hU (Nat.le_trans (hn9 lo (by omega)) (by omega)) (fun x _ => hiV_dg hv9 (by omega) x)
              rw [hle9, hq9, hiV_d] at v6
              have v612 : R6 12 = A * 6 := (kr6 12 (by omega)).trans v312
              have k6 : ∀ r, r < 8 → R6 r = R r := fun r h1 => (kr6 r (by omega)).trans (k3 r h1)
              have hO := ro.kept hO (frs _ (by omega))
              have hfr := (fun q h => (frs q (by omega)).trans (hfr q h) : ∀ q : Nat, (q ≠ h + 1) → E8 q = E0 q)
              refine lv_iinc (v := zI (((u - 1 : Nat) : Int) - 1)) (lv' := [(3, .int (zI (((u - 1 : Nat) : Int) - 1))), (0, .ref (h)), (1, .int (zI (kk))), (2, .int (zI (jj))), (4, .int (zI ((lo : Int)))), (5, .int (zI ((hi9 : Int))))]) C0.1 C0.2.1 dX10_whichHeap_118 hl (k := 3) rfl (z_inc (a := (u : Int) - 1) (n := (-1)) (by omega)) (by decide) rfl (fun ls hl => ?_)
              refine lv_goto (tgt := 28) C0.1 C0.2.1 dX10_whichHeap_121 (by decide) ?_
              exact ih28  (u - 1) R6 E8 _ _ _ (by omega) (v6) (v612) (k6) (hO) (hR6) (hfr) (by omega) hM hS (lv_sub hl [1, 2, 3, 0] rfl)
            · skip
              obtain ⟨md, hmd1, hmd2, hmd3⟩ : ∃ md, lo < md ∧ md ≤ hi9 ∧ md = lo + (hi9 - lo + 1) / 2 := ⟨_, by omega, by omega, rfl⟩
              have hn8 := hn9 md
              refine lv_iload C0.1 C0.2.1 dX10_whichHeap_46 (lv_at hl 4 rfl) ?_
              refine lv_iload C0.1 C0.2.1 dX10_whichHeap_48 (lv_at hl 5 rfl) ?_
              refine lv_iload C0.1 C0.2.1 dX10_whichHeap_50 (lv_at hl 4 rfl) ?_
              refine z_isub C0.1 C0.2.1 dX10_whichHeap_52 ?_
              refine lv_iconst (v := zI 1) C0.1 C0.2.1 dX10_whichHeap_53 rfl ?_
              refine z_iadd C0.1 C0.2.1 dX10_whichHeap_54 ?_
              refine lv_iconst (v := zI 2) C0.1 C0.2.1 dX10_whichHeap_55 rfl ?_
              refine z_idivp C0.1 C0.2.1 dX10_whichHeap_56 ⟨by omega, by omega⟩ ⟨by omega, by omega⟩ (by omega) (by omega) ?_
              refine z_iadd C0.1 C0.2.1 dX10_whichHeap_57 ?_
              refine z_asI (a := (((lo : Int)) + ((((((((hi9 : Int)) - ((lo : Int)))) + (1))) / (2))))) (b := (md : Int)) (by omega) ?_
              refine lv_istore (lv' := [(6, .int (zI ((md : Int)))), (0, .ref (h)), (1, .int (zI (kk))), (2, .int (zI (jj))), (3, .int (zI ((u : Int) - 1))), (4, .int (zI ((lo : Int)))), (5, .int (zI ((hi9 : Int))))]) C0.1 C0.2.1 dX10_whichHeap_58 hl (by decide) rfl (fun ls hl => ?_)
              refine lv_aload_n C0.1 C0.2.1 dX10_whichHeap_60 rfl (lv_at hl 1 rfl) ?_
              refine mm_get (fs := [.ref (h + 1), .ref (h + 2), .ref (h + 3), .ref (h + 4), .int (zI (x1)), .int (zI (x2)), .long (zL (x3)), .ref (h + 5), .ref (h + 6), .ref (h + 7), .ref (h + 8), .int (zI (x4)), .int (zI (x5)), .int (zI (x6)), .int (zI (x7)), .int (zI (x8)), .ref (h + 9), .ref (h + 10), .ref (h + 11), .ref (h + 12)]) C0 (C := RX10) (T := TX10) (N := 20) iG_X10 hM (hO) rfl 0 (by decide) tw_916 rfl rfl dX10_whichHeap_61 ?_
              refine lv_sipush (v := zI 640) C0.1 C0.2.1 dX10_whichHeap_64 rfl ?_
              refine lv_iload_n C0.1 C0.2.1 dX10_whichHeap_67 rfl (lv_at hl 4 rfl) ?_
              refine z_iadd C0.1 C0.2.1 dX10_whichHeap_68 ?_
              refine lv_iload C0.1 C0.2.1 dX10_whichHeap_69 (lv_at hl 0 rfl) ?_
              refine mm_iast C0 hM hS (g := g) (hg) (80 * 8 + (u - 1)) (i := ((640) + ((u : Int) - 1))) (x := (md : Int)) (by omega) (by omega) (by decide) dX10_whichHeap_71 (fun H locs hM hS hsz => ?_)
              obtain ⟨E9, hE9⟩ : ∃ X : mE, X = mm_up E7 (h + 1) (mm_I G 1280 (zup (g) (80 * 8 + (u - 1)) ((md : Int)))) := ⟨_, rfl⟩
              replace hM : mm_M G E9 H := by rw [hE9]; exact hM
              have frs : ∀ q : Nat, q ≠ h + 1 → E9 q = E7 q := fun q h => by rw [hE9]; exact mm_up_n _ _ h
              have hat : E9 (h + 1) = some (mm_I G 1280 (zup (g) (80 * 8 + (u - 1)) ((md : Int)))) := by rw [hE9]; exact mm_up_s _ _ _
              have hU : rgF G E9 h R3 8 (nup (dg (hiV X (u - 1) v9)) (u - 1) md) := ⟨hB9, _, hat, fP.st (by rw [← v3] at hP9 ⊢; exact hP9) (by omega)⟩
              obtain ⟨R4, hR4, v4, kr4⟩ := rgF.done (X := hiV X (u - 1) md) hU (Nat.le_trans (hn8 (by omega)) (by omega)) (fun x _ => hiV_dg hv9 (by omega) x)
              have hO := ro.kept hO (frs _ (by omega))
              have hfr := (fun q h => (frs q (by omega)).trans (hfr q h) : ∀ q : Nat, (q ≠ h + 1) → E9 q = E0 q)
              refine lv_aload_n C0.1 C0.2.1 dX10_whichHeap_72 rfl (lv_at hl 1 rfl) ?_
              refine lv_iload_n C0.1 C0.2.1 dX10_whichHeap_73 rfl (lv_at hl 2 rfl) ?_
              refine lv_bipush (v := zI 8) C0.1 C0.2.1 dX10_whichHeap_74 rfl ?_
              refine mm_callVv (As := [.int (zI (kk)), .int (zI (8))]) C0 vw_X10_heapTimesSix tw_1085 (c_X10_heapTimesSix l G _ hO hR4 (b := 8) rfl (by omega) v4 hkk hk9 hk3 (Nat.le_trans (hn8 (by omega)) (by decide))) hM (hO) rfl rfl hl.1 rfl (Nat.le_of_ble_eq_true rfl) ⟨rfl, rfl, Nat.le_of_ble_eq_true rfl, Nat.le_of_ble_eq_true rfl, Nat.zero_le _, Nat.zero_le _⟩ dX10_whichHeap_76 hS (fun E10 H locs hp hM hS => ?_)
              obtain ⟨⟨R5, hR5, v95, kr5⟩, fr⟩ := hp
              have hO := ro.kept hO (fr _ (by omega))
              have hfr := (fun q h => (fr q (by omega)).trans (hfr q h) : ∀ q : Nat, (q ≠ h + 1) → E10 q = E0 q)
              refine lv_aload_n C0.1 C0.2.1 dX10_whichHeap_79 rfl (lv_at hl 1 rfl) ?_
              refine lv_bipush (v := zI 9) C0.1 C0.2.1 dX10_whichHeap_80 rfl ?_
              refine lv_bipush (v := zI 12) C0.1 C0.2.1 dX10_whichHeap_82 rfl ?_
              refine mm_callVi (As := [.int (zI (9)), .int (zI (12))]) C0 vw_X10_compare tw_1105 (c_X10_compare l G _ hO hR5 (a := 9) rfl (by omega) v95 (b := 12) rfl (by omega) ((kr5 12 (by omega) (by omega) (by omega)).trans ((kr4 12 (by omega)).trans v312))) hM (hO) rfl rfl hl.1 rfl (Nat.le_of_ble_eq_true rfl) ⟨rfl, rfl, Nat.le_of_ble_eq_true rfl, Nat.le_of_ble_eq_true rfl, Nat.zero_le _, Nat.zero_le _⟩ dX10_whichHeap_84 hS (fun z_84 E11 H locs hp hM hS => ?_)
              obtain ⟨hz_84, hEq⟩ := hp
              rw [hEq] at hM
              have hcz : -1 ≤ z_84 ∧ z_84 ≤ 1 := hz_84 ▸ cmpZ_b _ _
              have hcl : z_84 ≤ 0 ↔ md ≤ q9 := by rw [hz_84, cmpZ_le, hX, hiV_le, hq9]
              clear hz_84
              obtain ⟨hcz1, hcz2⟩ := hcz
              have v5 : R5 8 = hiV X (u - 1) md := (kr5 8 (by omega) (by omega) (by omega)).trans v4
              have v512 : R5 12 = A * 6 := (kr5 12 (by omega) (by omega) (by omega)).trans ((kr4 12 (by omega)).trans v312)
              have k5 : ∀ r, r < 8 → R5 r = R r := fun r h1 => (kr5 r (by omega) (by omega) (by omega)).trans ((kr4 r (by omega)).trans (k3 r h1))
              refine z_if_gt (tgt := 97) C0.1 C0.2.1 dX10_whichHeap_87 (by decide) ⟨by omega, by omega⟩ (fun c_87 => ?_) (fun c_87 => ?_)
              · skip
                have hcm : ¬ md ≤ q9 := fun q => absurd (hcl.mpr q) (Int.not_le.mpr c_87)
                refine lv_iload C0.1 C0.2.1 dX10_whichHeap_97 (lv_at hl 0 rfl) ?_
                refine lv_iconst (v := zI 1) C0.1 C0.2.1 dX10_whichHeap_99 rfl ?_
                refine z_isub C0.1 C0.2.1 dX10_whichHeap_100 ?_
                refine z_asI (a := (((md : Int)) - (1))) (b := ((md - 1 : Nat) : Int)) (by omega) ?_
                refine lv_istore (lv' := [(5, .int (zI (((md - 1 : Nat) : Int)))), (6, .int (zI ((md : Int)))), (0, .ref (h)), (1, .int (zI (kk))), (2, .int (zI (jj))), (3, .int (zI ((u : Int) - 1))), (4, .int (zI ((lo : Int))))]) C0.1 C0.2.1 dX10_whichHeap_101 hl (by decide) rfl (fun ls hl => ?_)
                refine lv_goto (tgt := 39) C0.1 C0.2.1 dX10_whichHeap_103 (by decide) ?_
                exact ih39  lo (md - 1) md R5 E10 _ _ _ (by omega) (by omega) (by omega) (by omega) (v5) (v512) (k5) (hO) (hR5) (hfr) (by omega) hM hS (lv_sub hl [2, 3, 4, 5, 6, 0] rfl)
              · skip
                have hcm : md ≤ q9 := hcl.mp c_87
                refine lv_iload C0.1 C0.2.1 dX10_whichHeap_90 (lv_at hl 0 rfl) ?_
                refine lv_istore (lv' := [(4, .int (zI ((md : Int)))), (6, .int (zI ((md : Int)))), (0, .ref (h)), (1, .int (zI (kk))), (2, .int (zI (jj))), (3, .int (zI ((u : Int) - 1))), (5, .int (zI ((hi9 : Int))))]) C0.1 C0.2.1 dX10_whichHeap_92 hl (by decide) rfl (fun ls hl => ?_)
                refine lv_goto (tgt := 103) C0.1 C0.2.1 dX10_whichHeap_94 (by decide) ?_
                refine lv_goto (tgt := 39) C0.1 C0.2.1 dX10_whichHeap_103 (by decide) ?_
                exact ih39  md hi9 md R5 E10 _ _ _ (by omega) (by omega) (by omega) (by omega) (v5) (v512) (k5) (hO) (hR5) (hfr) (by omega) hM hS (lv_sub hl [2, 3, 4, 5, 0, 6] rfl)
        exact L39 (_ + 1) 0 999999999 0 R1 E4 _ _ _ (Nat.zero_le _) (by omega) (Nat.le_refl _) (by omega) (by rw [hiV_0, v8, show u - 1 + 1 = u by omega]) (v12) (k1) (hO) (hR1) (hfr) (Nat.lt_succ_self _) hM hS (lv_sub hl [2, 3, 4, 5, 1, 0] rfl)
  exact L28 (_ + 1) (nl A / 3 + 2) R1 E2 _ _ _ (Nat.le_refl _) (by rw [v8, hiP_z hXn]) (v12) (k1) (hO) (hR1) (hfr) (Nat.lt_succ_self _) hM hS (lv_sub hl [1, 2, 3, 0] rfl)

def rX10_whichOf : Room := { frames := 4, cells := 0, slots := 0, locals := 99 }
theorem vw_X10_whichOf : mm_Vw RX10 yX10_whichOf cX10_whichOf 5 (some .boolean) 3 := ⟨tw_1161, tp_42, tw_10, tw_1162, by decide +kernel⟩
set_option maxHeartbeats 4000000 in
set_option maxRecDepth 100000 in
theorem c_X10_whichOf (l : Launch) (G : mG) (E0 : mE) {h : Nat} {x1 x2 x3 x4 x5 x6 x7 x8 : Int} (hO : ro G E0 h x1 x2 x3 x4 x5 x6 x7 x8) {R : Nat → Nat} (hR : rg G E0 h R) {jj : Int} {b A : Nat} (hjj : jj = (b : Int)) (hb : b < 8) (hA : R b = A) (hn : nl A ≤ 24) {kk : Int} {k : Nat} (hkk : kk = (k : Int)) (hk9 : k ≤ 99) {kn : Int} {kd : Nat} (hkn : kn = (kd : Int)) (hkd : kd ≤ 4) (hk3 : 3 ≤ kd → 3 ≤ k) : mm_Ci l yX10_whichOf (.code yX10_whichOf cX10_whichOf 5 (some .boolean) :: wsG) rX10_whichOf G [.ref (h), .int (zI (kn)), .int (zI (kk)), .int (zI (jj))] E0 (fun z E => ((z = 1 ∧ ∃ R1 x, rg G E h R1 ∧ R1 8 = x ∧ shp kd k x = A ∧ nl x ≤ 24 ∧ ∀ r, r < 8 → R1 r = R r) ∨ (z = 0 ∧ (∀ x, shp kd k x ≠ A) ∧ ∃ R1, rg G E h R1 ∧ ∀ r, r < 8 → R1 r = R r)) ∧ ∀ q : Nat, (q ≠ h + 1) → E q = E0 q) := by
  refine mm_of_i (by decide +kernel) (Nat.le_of_ble_eq_true rfl) ?_
  intro p e s m args below meth c ls C0 hr hlk hM hl hS
  have hl : lv_has ls 5 [(0, .ref (h)), (1, .int (zI (kn))), (2, .int (zI (kk))), (3, .int (zI (jj)))] := hl
  have hfr : ∀ q : Nat, (q ≠ h + 1) → E0 q = E0 q := fun _ _ => rfl
  have hz0 := nl_eq0 (N := A)
  have hnm : ∀ m, m < 1000000000 → nl (m * A + 1) ≤ 26 := fun m hm => nl_addn (by rw [Nat.mul_comm]; exact Nat.le_trans (nl_mul1 hm) (by omega)) (Nat.le_trans (nlL (N := 1) (by omega)) (by omega))
  refine lv_aload_n C0.1 C0.2.1 dX10_whichOf_0 rfl (lv_at hl 0 rfl) ?_
  refine lv_iload_n C0.1 C0.2.1 dX10_whichOf_1 rfl (lv_at hl 3 rfl) ?_
  refine mm_callVi (As := [.int (zI (jj))]) C0 vw_X10_sizeOf tw_997 (c_X10_sizeOf l G _ hO hR hjj (by omega) hA) hM (hO) rfl rfl hl.1 rfl (Nat.le_of_ble_eq_true rfl) ⟨rfl, rfl, Nat.le_of_ble_eq_true rfl, Nat.le_of_ble_eq_true rfl, Nat.zero_le _, Nat.zero_le _⟩ dX10_whichOf_2 hS (fun z_2 E1 H locs hp hM hS => ?_)
  obtain ⟨hz_2, hEq⟩ := hp
  rw [hEq] at hM
  refine z_asI (b := (nl A : Int)) (hz_2) ?_
  refine z_if_ne (tgt := 17) C0.1 C0.2.1 dX10_whichOf_5 (by decide) ⟨by omega, by omega⟩ (fun c_5 => ?_) (fun c_5 => ?_)
  · skip
    refine lv_iload_n C0.1 C0.2.1 dX10_whichOf_17 rfl (lv_at hl 1 rfl) ?_
    refine z_if_ne (tgt := 29) C0.1 C0.2.1 dX10_whichOf_18 (by decide) ⟨by omega, by omega⟩ (fun c_18 => ?_) (fun c_18 => ?_)
    · skip
      refine lv_iload_n C0.1 C0.2.1 dX10_whichOf_29 rfl (lv_at hl 1 rfl) ?_
      refine lv_iconst (v := zI 4) C0.1 C0.2.1 dX10_whichOf_30 rfl ?_
      refine z_icmp_ne (tgt := 41) C0.1 C0.2.1 dX10_whichOf_31 (by decide) ⟨by omega, by omega⟩ ⟨by omega, by omega⟩ (fun c_31 => ?_) (fun c_31 => ?_)
      · skip
        refine lv_iload_n C0.1 C0.2.1 dX10_whichOf_41 rfl (lv_at hl 1 rfl) ?_
        refine lv_iconst (v := zI 3) C0.1 C0.2.1 dX10_whichOf_42 rfl ?_
        refine z_icmp_ne (tgt := 53) C0.1 C0.2.1 dX10_whichOf_43 (by decide) ⟨by omega, by omega⟩ ⟨by omega, by omega⟩ (fun c_43 => ?_) (fun c_43 => ?_)
        · skip
          refine lv_aload_n C0.1 C0.2.1 dX10_whichOf_53 rfl (lv_at hl 0 rfl) ?_
          refine lv_bipush (v := zI 10) C0.1 C0.2.1 dX10_whichOf_54 rfl ?_
          refine lv_iload_n C0.1 C0.2.1 dX10_whichOf_56 rfl (lv_at hl 3 rfl) ?_
          refine lv_iload_n C0.1 C0.2.1 dX10_whichOf_57 rfl (lv_at hl 1 rfl) ?_
          refine lv_iconst (v := zI 1) C0.1 C0.2.1 dX10_whichOf_58 rfl ?_
          refine z_icmp_ne (tgt := 68) C0.1 C0.2.1 dX10_whichOf_59 (by decide) ⟨by omega, by omega⟩ ⟨by omega, by omega⟩ (fun c_59 => ?_) (fun c_59 => ?_)
          · skip
            refine mm_ldc2 (z := 4) C0 tw_1005 rfl dX10_whichOf_68 ?_
            refine lv_lconst (v := zL 1) C0.1 C0.2.1 dX10_whichOf_71 rfl ?_
            refine mm_callVv (As := [.int (zI (10)), .int (zI (jj)), .long (zL (4)), .long (zL (1))]) C0 vw_X10_times tw_1035 (c_X10_times l G _ hO hR (t := 10) rfl (by omega) hjj (by omega) hA 4 1 rfl rfl (by omega) (by omega) (Nat.le_trans (hnm _ (by omega)) (by decide))) hM (hO) rfl rfl hl.1 rfl (Nat.le_of_ble_eq_true rfl) ⟨rfl, rfl, Nat.le_of_ble_eq_true rfl, Nat.le_of_ble_eq_true rfl, Nat.zero_le _, Nat.zero_le _⟩ dX10_whichOf_72 hS (fun E2 H locs hp hM hS => ?_)
            obtain ⟨⟨R1, hR1, v10, kr1⟩, fr⟩ := hp
            have hO := ro.kept hO (fr _ (by omega))
            have hfr := (fun q h => (fr q (by omega)).trans (hfr q h) : ∀ q : Nat, (q ≠ h + 1) → E2 q = E0 q)
            refine lv_aload_n C0.1 C0.2.1 dX10_whichOf_75 rfl (lv_at hl 0 rfl) ?_
            refine lv_bipush (v := zI 8) C0.1 C0.2.1 dX10_whichOf_76 rfl ?_
            refine lv_bipush (v := zI 10) C0.1 C0.2.1 dX10_whichOf_78 rfl ?_
            refine mm_callVi (As := [.int (zI (8)), .int (zI (10))]) C0 vw_X10_rootOf tw_1143 (c_X10_rootOf l G _ hO hR1 (t := 8) rfl (by omega) (a := 10) rfl (by omega) v10 (by omega) (Nat.le_trans (hnm _ (by omega)) (by decide)) (rtF_p _)) hM (hO) rfl rfl hl.1 rfl (Nat.le_of_ble_eq_true rfl) ⟨rfl, rfl, Nat.le_of_ble_eq_true rfl, Nat.le_of_ble_eq_true rfl, Nat.zero_le _, Nat.zero_le _⟩ dX10_whichOf_80 hS (fun z80 E3 H locs hp hM hS => ?_)
            obtain ⟨hz80, ⟨R2, hR2, v8, kr2⟩, fr⟩ := hp
            have hO := ro.kept hO (fr _ (by omega))
            have hfr := (fun q h => (fr q (by omega)).trans (hfr q h) : ∀ q : Nat, (q ≠ h + 1) → E3 q = E0 q)
            have hz80b := if01 hz80
            have hz01 : z80 = 0 ∨ z80 = 1 := by omega
            refine lv_istore (lv' := [(4, .int (zI (z80))), (0, .ref (h)), (1, .int (zI (kn))), (2, .int (zI (kk))), (3, .int (zI (jj)))]) C0.1 C0.2.1 dX10_whichOf_83 hl (by decide) rfl (fun ls hl => ?_)
            refine lv_aload_n C0.1 C0.2.1 dX10_whichOf_85 rfl (lv_at hl 1 rfl) ?_
            refine lv_bipush (v := zI 8) C0.1 C0.2.1 dX10_whichOf_86 rfl ?_
            refine lv_bipush (v := zI 8) C0.1 C0.2.1 dX10_whichOf_88 rfl ?_
            refine mm_ldc2 (z := 2) C0 tw_1089 rfl dX10_whichOf_90 ?_
            refine mm_callVl (As := [.int (zI (8)), .int (zI (8)), .long (zL (2))]) C0 vw_X10_divide tw_1097 (c_X10_divide l G _ hO hR2 (t := 8) rfl (by omega) (a := 8) rfl (by omega) v8 2 rfl (by omega) (by omega)) hM (hO) rfl rfl hl.1 rfl (Nat.le_of_ble_eq_true rfl) ⟨rfl, rfl, Nat.le_of_ble_eq_true rfl, Nat.le_of_ble_eq_true rfl, Nat.zero_le _, Nat.zero_le _⟩ dX10_whichOf_93 hS (fun z93 E4 H locs hp hM hS => ?_)
            obtain ⟨hzq, ⟨R3, hR3, v8, kr3⟩, fr⟩ := hp
            have hO := ro.kept hO (fr _ (by omega))
            have hfr := (fun q h => (fr q (by omega)).trans (hfr q h) : ∀ q : Nat, (q ≠ h + 1) → E4 q = E0 q)
            have k3 : ∀ r, r < 8 → R3 r = R r := fun r q => (kr3 r (by omega)).trans ((kr2 r (by omega) (by omega)).trans (kr1 r (by omega)))
            refine lv_pop2_2 C0.1 C0.2.1 dX10_whichOf_96 rfl ?_
            refine lv_iload C0.1 C0.2.1 dX10_whichOf_97 (lv_at hl 0 rfl) ?_
            exact mm_zret (z := z80) C0 hr hlk hM hS (by omega) dX10_whichOf_99 (⟨hz80b.elim (fun q => Or.inl ⟨q.1, R3, _, hR3, v8, by have q2 := wo_2 q.2; rw [show kd = 2 by omega, shp_kk (k2 := 0) (by omega)]; exact q2, Nat.le_trans (nl_mono (Nat.le_trans (shp_self (kd := 2) (k := 0) (by omega) (by omega) _) (Nat.le_of_eq (wo_2 q.2)))) hn, k3⟩) (fun q => Or.inr ⟨q.1, fun x q2 => q.2 (by rw [show kd = 2 by omega, shp_kk (k2 := 0) (by omega)] at q2; have q3 := wo_1 q2; rw [rt_ex2 (rtF_p _) q3]; exact q3), R3, hR3, k3⟩), hfr⟩)
          · skip
            refine mm_ldc2 (z := 8) C0 tw_1020 rfl dX10_whichOf_62 ?_
            refine lv_goto (tgt := 71) C0.1 C0.2.1 dX10_whichOf_65 (by decide) ?_
            refine lv_lconst (v := zL 1) C0.1 C0.2.1 dX10_whichOf_71 rfl ?_
            refine mm_callVv (As := [.int (zI (10)), .int (zI (jj)), .long (zL (8)), .long (zL (1))]) C0 vw_X10_times tw_1035 (c_X10_times l G _ hO hR (t := 10) rfl (by omega) hjj (by omega) hA 8 1 rfl rfl (by omega) (by omega) (Nat.le_trans (hnm _ (by omega)) (by decide))) hM (hO) rfl rfl hl.1 rfl (Nat.le_of_ble_eq_true rfl) ⟨rfl, rfl, Nat.le_of_ble_eq_true rfl, Nat.le_of_ble_eq_true rfl, Nat.zero_le _, Nat.zero_le _⟩ dX10_whichOf_72 hS (fun E5 H locs hp hM hS => ?_)
            obtain ⟨⟨R1, hR1, v10, kr1⟩, fr⟩ := hp
            have hO := ro.kept hO (fr _ (by omega))
            have hfr := (fun q h => (fr q (by omega)).trans (hfr q h) : ∀ q : Nat, (q ≠ h + 1) → E5 q = E0 q)
            refine lv_aload_n C0.1 C0.2.1 dX10_whichOf_75 rfl (lv_at hl 0 rfl) ?_
            refine lv_bipush (v := zI 8) C0.1 C0.2.1 dX10_whichOf_76 rfl ?_
            refine lv_bipush (v := zI 10) C0.1 C0.2.1 dX10_whichOf_78 rfl ?_
            refine mm_callVi (As := [.int (zI (8)), .int (zI (10))]) C0 vw_X10_rootOf tw_1143 (c_X10_rootOf l G _ hO hR1 (t := 8) rfl (by omega) (a := 10) rfl (by omega) v10 (by omega) (Nat.le_trans (hnm _ (by omega)) (by decide)) (rtF_p _)) hM (hO) rfl rfl hl.1 rfl (Nat.le_of_ble_eq_true rfl) ⟨rfl, rfl, Nat.le_of_ble_eq_true rfl, Nat.le_of_ble_eq_true rfl, Nat.zero_le _, Nat.zero_le _⟩ dX10_whichOf_80 hS (fun z80 E6 H locs hp hM hS => ?_)
            obtain ⟨hz80, ⟨R2, hR2, v8, kr2⟩, fr⟩ := hp
            have hO := ro.kept hO (fr _ (by omega))
            have hfr := (fun q h => (fr q (by omega)).trans (hfr q h) : ∀ q : Nat, (q ≠ h + 1) → E6 q = E0 q)
            have hz80b := if01 hz80
            have hz01 : z80 = 0 ∨ z80 = 1 := by omega
            refine lv_istore (lv' := [(4, .int (zI (z80))), (0, .ref (h)), (1, .int (zI (kn))), (2, .int (zI (kk))), (3, .int (zI (jj)))]) C0.1 C0.2.1 dX10_whichOf_83 hl (by decide) rfl (fun ls hl => ?_)
            refine lv_aload_n C0.1 C0.2.1 dX10_whichOf_85 rfl (lv_at hl 1 rfl) ?_
            refine lv_bipush (v := zI 8) C0.1 C0.2.1 dX10_whichOf_86 rfl ?_
            refine lv_bipush (v := zI 8) C0.1 C0.2.1 dX10_whichOf_88 rfl ?_
            refine mm_ldc2 (z := 2) C0 tw_1089 rfl dX10_whichOf_90 ?_
            refine mm_callVl (As := [.int (zI (8)), .int (zI (8)), .long (zL (2))]) C0 vw_X10_divide tw_1097 (c_X10_divide l G _ hO hR2 (t := 8) rfl (by omega) (a := 8) rfl (by omega) v8 2 rfl (by omega) (by omega)) hM (hO) rfl rfl hl.1 rfl (Nat.le_of_ble_eq_true rfl) ⟨rfl, rfl, Nat.le_of_ble_eq_true rfl, Nat.le_of_ble_eq_true rfl, Nat.zero_le _, Nat.zero_le _⟩ dX10_whichOf_93 hS (fun z93 E7 H locs hp hM hS => ?_)
            obtain ⟨hzq, ⟨R3, hR3, v8, kr3⟩, fr⟩ := hp
            have hO := ro.kept hO (fr _ (by omega))
            have hfr := (fun q h => (fr q (by omega)).trans (hfr q h) : ∀ q : Nat, (q ≠ h + 1) → E7 q = E0 q)
            have k3 : ∀ r, r < 8 → R3 r = R r := fun r q => (kr3 r (by omega)).trans ((kr2 r (by omega) (by omega)).trans (kr1 r (by omega)))
            refine lv_pop2_2 C0.1 C0.2.1 dX10_whichOf_96 rfl ?_
            refine lv_iload C0.1 C0.2.1 dX10_whichOf_97 (lv_at hl 0 rfl) ?_
            exact mm_zret (z := z80) C0 hr hlk hM hS (by omega) dX10_whichOf_99 (⟨hz80b.elim (fun q => Or.inl ⟨q.1, R3, _, hR3, v8, by have q2 := wt_2 q.2; rw [show kd = 1 by omega, shp_kk (k2 := 0) (by omega)]; exact q2, Nat.le_trans (nl_mono (Nat.le_trans (shp_self (kd := 1) (k := 0) (by omega) (by omega) _) (Nat.le_of_eq (wt_2 q.2)))) hn, k3⟩) (fun q => Or.inr ⟨q.1, fun x q2 => q.2 (by rw [show kd = 1 by omega, shp_kk (k2 := 0) (by omega)] at q2; have q3 := wt_1 q2; rw [rt_ex2 (rtF_p _) q3]; exact q3), R3, hR3, k3⟩), hfr⟩)
        · skip
          refine lv_aload_n C0.1 C0.2.1 dX10_whichOf_46 rfl (lv_at hl 0 rfl) ?_
          refine lv_iload_n C0.1 C0.2.1 dX10_whichOf_47 rfl (lv_at hl 2 rfl) ?_
          refine lv_iload_n C0.1 C0.2.1 dX10_whichOf_48 rfl (lv_at hl 3 rfl) ?_
          refine mm_callVi (As := [.int (zI (kk)), .int (zI (jj))]) C0 vw_X10_whichCorners tw_1167 (c_X10_whichCorners l G _ hO hR hjj hb hA (by omega) hn hkk hk9 (hk3 (by omega))) hM (hO) rfl rfl hl.1 rfl (Nat.le_of_ble_eq_true rfl) ⟨rfl, rfl, Nat.le_of_ble_eq_true rfl, Nat.le_of_ble_eq_true rfl, Nat.zero_le _, Nat.zero_le _⟩ dX10_whichOf_49 hS (fun z49 E8 H locs hp hM hS => ?_)
          obtain ⟨hz49, fr⟩ := hp
          have hO := ro.kept hO (fr _ (by omega))
          have hfr := (fun q h => (fr q (by omega)).trans (hfr q h) : ∀ q : Nat, (q ≠ h + 1) → E8 q = E0 q)
          exact mm_zret (z := z49) C0 hr hlk hM hS (by rcases hz49 with ⟨h, -⟩ | ⟨h, -⟩ <;> omega) dX10_whichOf_52 (⟨by rw [show kd = 3 by omega]; exact hz49, hfr⟩)
      · skip
        refine lv_aload_n C0.1 C0.2.1 dX10_whichOf_34 rfl (lv_at hl 0 rfl) ?_
        refine lv_iload_n C0.1 C0.2.1 dX10_whichOf_35 rfl (lv_at hl 2 rfl) ?_
        refine lv_iload_n C0.1 C0.2.1 dX10_whichOf_36 rfl (lv_at hl 3 rfl) ?_
        refine mm_callVi (As := [.int (zI (kk)), .int (zI (jj))]) C0 vw_X10_whichHeap tw_1163 (c_X10_whichHeap l G _ hO hR hjj hb hA (by omega) hn hkk hk9 (hk3 (by omega))) hM (hO) rfl rfl hl.1 rfl (Nat.le_of_ble_eq_true rfl) ⟨rfl, rfl, Nat.le_of_ble_eq_true rfl, Nat.le_of_ble_eq_true rfl, Nat.zero_le _, Nat.zero_le _⟩ dX10_whichOf_37 hS (fun z37 E9 H locs hp hM hS => ?_)
        obtain ⟨hz37, fr⟩ := hp
        have hO := ro.kept hO (fr _ (by omega))
        have hfr := (fun q h => (fr q (by omega)).trans (hfr q h) : ∀ q : Nat, (q ≠ h + 1) → E9 q = E0 q)
        exact mm_zret (z := z37) C0 hr hlk hM hS (by rcases hz37 with ⟨h, -⟩ | ⟨h, -⟩ <;> omega) dX10_whichOf_40 (⟨by rw [show kd = 4 by omega]; exact hz37, hfr⟩)
    · skip
      refine lv_aload_n C0.1 C0.2.1 dX10_whichOf_21 rfl (lv_at hl 0 rfl) ?_
      refine lv_bipush (v := zI 8) C0.1 C0.2.1 dX10_whichOf_22 rfl ?_
      refine lv_iload_n C0.1 C0.2.1 dX10_whichOf_24 rfl (lv_at hl 3 rfl) ?_
      refine mm_callVi (As := [.int (zI (8)), .int (zI (jj))]) C0 vw_X10_rootOf tw_1143 (c_X10_rootOf l G _ hO hR (t := 8) rfl (by omega) hjj (by omega) hA (by omega) (by omega) (rtF_p A)) hM (hO) rfl rfl hl.1 rfl (Nat.le_of_ble_eq_true rfl) ⟨rfl, rfl, Nat.le_of_ble_eq_true rfl, Nat.le_of_ble_eq_true rfl, Nat.zero_le _, Nat.zero_le _⟩ dX10_whichOf_25 hS (fun z25 E10 H locs hp hM hS => ?_)
      obtain ⟨hz25, ⟨R1, hR1, v8, kr1⟩, fr⟩ := hp
      have hO := ro.kept hO (fr _ (by omega))
      have hfr := (fun q h => (fr q (by omega)).trans (hfr q h) : ∀ q : Nat, (q ≠ h + 1) → E10 q = E0 q)
      have hz25b := if01 hz25
      exact mm_zret (z := z25) C0 hr hlk hM hS (by omega) dX10_whichOf_28 (⟨hz25b.elim (fun q => Or.inl ⟨q.1, R1, _, hR1, v8, by rw [show kd = 0 by omega, shp_k0]; exact q.2, Nat.le_trans (rt_nl2 (rtF_p A)) hn, fun r q2 => kr1 r (by omega) (by omega)⟩) (fun q => Or.inr ⟨q.1, fun x q2 => q.2 (by rw [show kd = 0 by omega, shp_k0] at q2; rw [rt_ex2 (rtF_p A) q2]; exact q2), R1, hR1, fun r q2 => kr1 r (by omega) (by omega)⟩), hfr⟩)
  · skip
    have hA0 : A = 0 := hz0.mp (by omega)
    refine lv_aload_n C0.1 C0.2.1 dX10_whichOf_8 rfl (lv_at hl 0 rfl) ?_
    refine lv_bipush (v := zI 8) C0.1 C0.2.1 dX10_whichOf_9 rfl ?_
    refine lv_lconst (v := zL 0) C0.1 C0.2.1 dX10_whichOf_11 rfl ?_
    refine mm_callVv (As := [.int (zI (8)), .long (zL (0))]) C0 vw_X10_set tw_988 (c_X10_set l G _ hO hR (t := 8) rfl (by omega) 0 rfl (by omega)) hM (hO) rfl rfl hl.1 rfl (Nat.le_of_ble_eq_true rfl) ⟨rfl, rfl, Nat.le_of_ble_eq_true rfl, Nat.le_of_ble_eq_true rfl, Nat.zero_le _, Nat.zero_le _⟩ dX10_whichOf_12 hS (fun E11 H locs hp hM hS => ?_)
    obtain ⟨⟨R1, hR1, v8, kr1⟩, fr⟩ := hp
    have hO := ro.kept hO (fr _ (by omega))
    have hfr := (fun q h => (fr q (by omega)).trans (hfr q h) : ∀ q : Nat, (q ≠ h + 1) → E11 q = E0 q)
    refine lv_iconst (v := zI 1) C0.1 C0.2.1 dX10_whichOf_15 rfl ?_
    exact mm_zret (z := 1) C0 hr hlk hM hS (by omega) dX10_whichOf_16 (⟨Or.inl ⟨rfl, R1, 0, hR1, v8, by rw [shp_0, hA0], by rw [nl_0]; omega, fun r q => kr1 r (by omega)⟩, hfr⟩)

def rX10_which : Room := { frames := 5, cells := 0, slots := 0, locals := 123 }
theorem vw_X10_which : mm_Vw RX10 yX10_which cX10_which 6 (some .int) 3 := ⟨tw_1156, tw_1157, tw_10, tw_1158, by decide +kernel⟩
set_option maxHeartbeats 4000000 in
set_option maxRecDepth 100000 in
theorem c_X10_which (l : Launch) (G : mG) (E0 : mE) {h : Nat} {S : mST} (hF : rf G E0 h S) (hok : okR S) {a b t : Int} (hr_a : rI a) (hr_b : rI b) (hr_t : rI t) : mm_Ci l yX10_which (.code yX10_which cX10_which 6 (some .int) :: wsG) rX10_which G [.ref (h), .int (zI (a)), .int (zI (b)), .int (zI (t))] E0 (fun z E => z = (pf_which S a b t).1 ∧ rf G E h (pf_which S a b t).2 ∧ ∀ q : Nat, (q < h ∨ h + 13 ≤ q) → E q = E0 q) := by
  refine mm_of_i (by decide +kernel) (Nat.le_of_ble_eq_true rfl) ?_
  intro p e s m args below meth c ls C0 hr hlk hM hl hS
  have hl : lv_has ls 6 [(0, .ref (h)), (1, .int (zI (a))), (2, .int (zI (b))), (3, .int (zI (t)))] := hl
  obtain ⟨hr_a1, hr_a2⟩ := hr_a
  obtain ⟨hr_b1, hr_b2⟩ := hr_b
  obtain ⟨hr_t1, hr_t2⟩ := hr_t
  obtain ⟨R, x2, x3, x4, x5, x6, x7, hX⟩ := hF
  have hX0 := hX
  obtain ⟨hTk, hPk, hKk, hSk⟩ := hok
  obtain ⟨hO, hR, hRp, ⟨fh, fc, hH, hC, hPa⟩, hTp, hCl, hKp, hSh, him⟩ := hX
  have hfr : ∀ q : Nat, (q < h ∨ h + 13 ≤ q) → E0 q = E0 q := fun _ _ => rfl
  refine lv_iload_n C0.1 C0.2.1 dX10_which_0 rfl (lv_at hl 1 rfl) ?_
  refine mm_callSi (As := [.int (zI (a))]) C0 sw_X10_isPlace tw_981 (c_X10_isPlace l G _ (i := a) ⟨by omega, by omega⟩) hM rfl hl.1 rfl (Nat.le_of_ble_eq_true rfl) ⟨rfl, rfl, Nat.le_of_ble_eq_true rfl, Nat.le_of_ble_eq_true rfl, Nat.zero_le _, Nat.zero_le _⟩ dX10_which_1 hS (fun z_1 E1 H locs hp hM hS => ?_)
  obtain ⟨hz_1, hEq⟩ := hp
  rw [hEq] at hM
  have hz_1b := if01 hz_1
  refine z_if_eq (tgt := 21) C0.1 C0.2.1 dX10_which_4 (by decide) ⟨by omega, by omega⟩ (fun c_4 => ?_) (fun c_4 => ?_)
  · skip
    refine lv_iconst (v := zI (-1)) C0.1 C0.2.1 dX10_which_21 rfl ?_
    exact mm_iret (z := (-1)) C0 hr hlk hM hS dX10_which_22 (by have he : pf_which S a b t = ((-1), S) := (by unfold pf_which; rw [if_neg (by omega)]); rw [he]; exact ⟨rfl, hX0.rf, fun _ _ => rfl⟩)
  · skip
    refine lv_iload_n C0.1 C0.2.1 dX10_which_7 rfl (lv_at hl 2 rfl) ?_
    refine mm_callSi (As := [.int (zI (b))]) C0 sw_X10_isPlace tw_981 (c_X10_isPlace l G _ (i := b) ⟨by omega, by omega⟩) hM rfl hl.1 rfl (Nat.le_of_ble_eq_true rfl) ⟨rfl, rfl, Nat.le_of_ble_eq_true rfl, Nat.le_of_ble_eq_true rfl, Nat.zero_le _, Nat.zero_le _⟩ dX10_which_8 hS (fun z_8 E2 H locs hp hM hS => ?_)
    obtain ⟨hz_8, hEq⟩ := hp
    rw [hEq] at hM
    have hz_8b := if01 hz_8
    refine z_if_eq (tgt := 21) C0.1 C0.2.1 dX10_which_11 (by decide) ⟨by omega, by omega⟩ (fun c_11 => ?_) (fun c_11 => ?_)
    · skip
      refine lv_iconst (v := zI (-1)) C0.1 C0.2.1 dX10_which_21 rfl ?_
      exact mm_iret (z := (-1)) C0 hr hlk hM hS dX10_which_22 (by have he : pf_which S a b t = ((-1), S) := (by unfold pf_which; rw [if_neg (by omega)]); rw [he]; exact ⟨rfl, hX0.rf, fun _ _ => rfl⟩)
    · skip
      refine lv_iload_n C0.1 C0.2.1 dX10_which_14 rfl (lv_at hl 3 rfl) ?_
      refine mm_callSi (As := [.int (zI (t))]) C0 sw_X10_isPlace tw_981 (c_X10_isPlace l G _ (i := t) ⟨by omega, by omega⟩) hM rfl hl.1 rfl (Nat.le_of_ble_eq_true rfl) ⟨rfl, rfl, Nat.le_of_ble_eq_true rfl, Nat.le_of_ble_eq_true rfl, Nat.zero_le _, Nat.zero_le _⟩ dX10_which_15 hS (fun z_15 E3 H locs hp hM hS => ?_)
      obtain ⟨hz_15, hEq⟩ := hp
      rw [hEq] at hM
      have hz_15b := if01 hz_15
      refine z_if_ne (tgt := 23) C0.1 C0.2.1 dX10_which_18 (by decide) ⟨by omega, by omega⟩ (fun c_18 => ?_) (fun c_18 => ?_)
      · skip
        obtain ⟨i, hpi⟩ : ∃ i : Nat, a = (i : Int) := ⟨(a).toNat, by omega⟩
        have hi_i : i < 8 := by omega
        have ht_i : (a).toNat = i := by omega
        obtain ⟨ho_i1, ho_i2, ho_i3, ho_i4⟩ := hPk i hi_i
        obtain ⟨hh_i, hc_i⟩ := hPa i hi_i
        have hv_i := hRp i hi_i
        obtain ⟨j, hpj⟩ : ∃ j : Nat, b = (j : Int) := ⟨(b).toNat, by omega⟩
        have hi_j : j < 8 := by omega
        have ht_j : (b).toNat = j := by omega
        obtain ⟨ho_j1, ho_j2, ho_j3, ho_j4⟩ := hPk j hi_j
        obtain ⟨hh_j, hc_j⟩ := hPa j hi_j
        have hv_j := hRp j hi_j
        obtain ⟨u, hpu⟩ : ∃ u : Nat, t = (u : Int) := ⟨(t).toNat, by omega⟩
        have hi_u : u < 8 := by omega
        have ht_u : (t).toNat = u := by omega
        refine lv_aload_n C0.1 C0.2.1 dX10_which_23 rfl (lv_at hl 0 rfl) ?_
        refine lv_iload_n C0.1 C0.2.1 dX10_which_24 rfl (lv_at hl 1 rfl) ?_
        refine lv_iconst (v := zI 1) C0.1 C0.2.1 dX10_which_25 rfl ?_
        refine mm_callVi (As := [.int (zI (a)), .int (zI (1))]) C0 vw_X10_lacks tw_1113 (c_X10_lacks l G _ hO hH hpi (by omega) (v := 1) (w := S.2.1.1 i) (by omega) hh_i ho_i1) hM (hO) rfl rfl hl.1 rfl (Nat.le_of_ble_eq_true rfl) ⟨rfl, rfl, Nat.le_of_ble_eq_true rfl, Nat.le_of_ble_eq_true rfl, Nat.zero_le _, Nat.zero_le _⟩ dX10_which_26 hS (fun z_26 E4 H locs hp hM hS => ?_)
        obtain ⟨hz_26, hEq⟩ := hp
        rw [hEq] at hM
        refine z_asI (b := (sFau (S.2.1.1 i))) (hz_26.trans (if_neg (by omega))) ?_
        obtain ⟨hnb_i1, hnb_i2⟩ := sFau_b (S.2.1.1 i)
        refine lv_istore (lv' := [(4, .int (zI ((sFau (S.2.1.1 i))))), (0, .ref (h)), (1, .int (zI (a))), (2, .int (zI (b))), (3, .int (zI (t)))]) C0.1 C0.2.1 dX10_which_29 hl (by decide) rfl (fun ls hl => ?_)
        refine lv_iload C0.1 C0.2.1 dX10_which_31 (lv_at hl 0 rfl) ?_
        refine z_if_ge (tgt := 41) C0.1 C0.2.1 dX10_which_33 (by decide) ⟨by omega, by omega⟩ (fun c_33 => ?_) (fun c_33 => ?_)
        · skip
          refine lv_aload_n C0.1 C0.2.1 dX10_which_41 rfl (lv_at hl 1 rfl) ?_
          refine lv_iload_n C0.1 C0.2.1 dX10_which_42 rfl (lv_at hl 3 rfl) ?_
          refine lv_iconst (v := zI 0) C0.1 C0.2.1 dX10_which_43 rfl ?_
          refine mm_callVi (As := [.int (zI (b)), .int (zI (0))]) C0 vw_X10_lacks tw_1113 (c_X10_lacks l G _ hO hH hpj (by omega) (v := 0) (w := S.2.1.1 j) (by omega) hh_j ho_j1) hM (hO) rfl rfl hl.1 rfl (Nat.le_of_ble_eq_true rfl) ⟨rfl, rfl, Nat.le_of_ble_eq_true rfl, Nat.le_of_ble_eq_true rfl, Nat.zero_le _, Nat.zero_le _⟩ dX10_which_44 hS (fun z_44 E5 H locs hp hM hS => ?_)
          obtain ⟨hz_44, hEq⟩ := hp
          rw [hEq] at hM
          refine z_asI (b := (nFau (S.2.1.1 j))) (hz_44.trans (if_pos rfl)) ?_
          obtain ⟨hnb_j1, hnb_j2⟩ := nFau_b (S.2.1.1 j)
          refine lv_istore (lv' := [(4, .int (zI ((nFau (S.2.1.1 j))))), (0, .ref (h)), (1, .int (zI (a))), (2, .int (zI (b))), (3, .int (zI (t)))]) C0.1 C0.2.1 dX10_which_47 hl (by decide) rfl (fun ls hl => ?_)
          refine lv_iload C0.1 C0.2.1 dX10_which_49 (lv_at hl 0 rfl) ?_
          refine z_if_ge (tgt := 57) C0.1 C0.2.1 dX10_which_51 (by decide) ⟨by omega, by omega⟩ (fun c_51 => ?_) (fun c_51 => ?_)
          · skip
            have hwi := sFau_0 (w := S.2.1.1 i) (by omega)
            have hwj := nFau_0 (w := S.2.1.1 j) (by omega)
            refine lv_aload_n C0.1 C0.2.1 dX10_which_57 rfl (lv_at hl 1 rfl) ?_
            refine lv_aload_n C0.1 C0.2.1 dX10_which_58 rfl (lv_at hl 1 rfl) ?_
            refine mm_get (fs := [.ref (h + 1), .ref (h + 2), .ref (h + 3), .ref (h + 4), .int (zI (((S.1.2.2 : Nat) : Int))), .int (zI (x2)), .long (zL (x3)), .ref (h + 5), .ref (h + 6), .ref (h + 7), .ref (h + 8), .int (zI (x4)), .int (zI (x5)), .int (zI (x6)), .int (zI (x7)), .int (zI (S.1.1)), .ref (h + 9), .ref (h + 10), .ref (h + 11), .ref (h + 12)]) C0 (C := RX10) (T := TX10) (N := 20) iG_X10 hM (hO) rfl 1 (by decide) tw_917 rfl rfl dX10_which_59 ?_
            refine lv_iload_n C0.1 C0.2.1 dX10_which_62 rfl (lv_at hl 2 rfl) ?_
            refine mm_iald C0 hM (g := fh) (hH) (i) (i := a) (by omega) (by omega) (by decide) dX10_which_63 ?_
            refine z_asI (b := (S.2.1.1 i : Int)) (hh_i) ?_
            refine lv_iconst (v := zI 2) C0.1 C0.2.1 dX10_which_64 rfl ?_
            refine z_isub C0.1 C0.2.1 dX10_which_65 ?_
            refine z_asI (a := (((S.2.1.1 i : Int)) - (2))) (b := ((S.2.1.1 i - 2 : Nat) : Int)) (by omega) ?_
            refine lv_aload_n C0.1 C0.2.1 dX10_which_66 rfl (lv_at hl 1 rfl) ?_
            refine mm_get (fs := [.ref (h + 1), .ref (h + 2), .ref (h + 3), .ref (h + 4), .int (zI (((S.1.2.2 : Nat) : Int))), .int (zI (x2)), .long (zL (x3)), .ref (h + 5), .ref (h + 6), .ref (h + 7), .ref (h + 8), .int (zI (x4)), .int (zI (x5)), .int (zI (x6)), .int (zI (x7)), .int (zI (S.1.1)), .ref (h + 9), .ref (h + 10), .ref (h + 11), .ref (h + 12)]) C0 (C := RX10) (T := TX10) (N := 20) iG_X10 hM (hO) rfl 2 (by decide) tw_918 rfl rfl dX10_which_67 ?_
            refine lv_iload_n C0.1 C0.2.1 dX10_which_70 rfl (lv_at hl 2 rfl) ?_
            refine mm_iald C0 hM (g := fc) (hC) (i) (i := a) (by omega) (by omega) (by decide) dX10_which_71 ?_
            refine z_asI (b := (S.2.1.2.1 i : Int)) (hc_i) ?_
            refine lv_iload_n C0.1 C0.2.1 dX10_which_72 rfl (lv_at hl 3 rfl) ?_
            refine mm_callVi (As := [.int (zI (((S.2.1.1 i - 2 : Nat) : Int))), .int (zI ((S.2.1.2.1 i : Int))), .int (zI (b))]) C0 vw_X10_whichOf tw_1159 (c_X10_whichOf l G _ hO hR hpj (by omega) hv_j ho_j4 rfl ho_i2 rfl (by omega) (by omega)) hM (hO) rfl rfl hl.1 rfl (Nat.le_of_ble_eq_true rfl) ⟨rfl, rfl, Nat.le_of_ble_eq_true rfl, Nat.le_of_ble_eq_true rfl, Nat.zero_le _, Nat.zero_le _⟩ dX10_which_73 hS (fun z73 E6 H locs hp hM hS => ?_)
            obtain ⟨hz73, fr⟩ := hp
            have hO := ro.kept hO (fr _ (by omega))
            have hfr := (fun q h => (fr q (by omega)).trans (hfr q h) : ∀ q : Nat, (q < h ∨ h + 13 ≤ q) → E6 q = E0 q)
            have hz01 : z73 = 0 ∨ z73 = 1 := by rcases hz73 with ⟨h, -⟩ | ⟨h, -⟩ <;> omega
            have hg := fr
            refine lv_istore (lv' := [(5, .int (zI (z73))), (4, .int (zI ((nFau (S.2.1.1 j))))), (0, .ref (h)), (1, .int (zI (a))), (2, .int (zI (b))), (3, .int (zI (t)))]) C0.1 C0.2.1 dX10_which_76 hl (by decide) rfl (fun ls hl => ?_)
            refine lv_iload C0.1 C0.2.1 dX10_which_78 (lv_at hl 0 rfl) ?_
            refine z_if_eq (tgt := 91) C0.1 C0.2.1 dX10_which_80 (by decide) ⟨by omega, by omega⟩ (fun c_80 => ?_) (fun c_80 => ?_)
            · skip
              obtain ⟨hno, R1, hR1, k1⟩ := hz73.elim (fun h => by omega) (fun h => h.2)
              have hX1 := hX0.w hR1 k1 hg
              refine lv_iload C0.1 C0.2.1 dX10_which_91 (lv_at hl 0 rfl) ?_
              refine z_if_eq (tgt := 100) C0.1 C0.2.1 dX10_which_93 (by decide) ⟨by omega, by omega⟩ (fun c_93 => ?_) (fun c_93 => ?_)
              · skip
                refine lv_iconst (v := zI 0) C0.1 C0.2.1 dX10_which_100 rfl ?_
                exact mm_iret (z := 0) C0 hr hlk hM hS dX10_which_101 (by have he : pf_which S a b t = (0, S) := (by rw [which_n (by omega) (by rw [ht_i, ht_j]; unfold fau2; split <;> omega) (by rw [ht_i, ht_j]; exact hno)]); rw [he]; exact ⟨rfl, hX1.rf, hfr⟩)
              · skip
                omega
            · skip
              obtain ⟨R1, x, hR1, v8, hsx, hxn, k1⟩ := hz73.elim (fun h => h.2) (fun h => by omega)
              have hX1 := hX0.w hR1 k1 hg
              refine lv_aload_n C0.1 C0.2.1 dX10_which_83 rfl (lv_at hl 2 rfl) ?_
              refine lv_iload_n C0.1 C0.2.1 dX10_which_84 rfl (lv_at hl 5 rfl) ?_
              refine lv_bipush (v := zI 8) C0.1 C0.2.1 dX10_which_85 rfl ?_
              refine mm_callVi (As := [.int (zI (t)), .int (zI (8))]) C0 vw_X10_come tw_1039 (c_X10_comeS l G _ hX1 hpu hi_u (a := 8) rfl (by omega) v8) hM (hO) rfl rfl hl.1 rfl (Nat.le_of_ble_eq_true rfl) ⟨rfl, rfl, Nat.le_of_ble_eq_true rfl, Nat.le_of_ble_eq_true rfl, Nat.zero_le _, Nat.zero_le _⟩ dX10_which_87 hS (fun z9 E7 H locs hp hM hS => ?_)
              obtain ⟨hz9, ⟨R9, hX9, kr9⟩, fr⟩ := hp
              have hO := ro.kept hO (fr _ (by omega))
              have hfr := (fun q h => (fr q (by omega)).trans (hfr q h) : ∀ q : Nat, (q < h ∨ h + 13 ≤ q) → E7 q = E0 q)
              refine lv_pop C0.1 C0.2.1 dX10_which_90 rfl ?_
              refine lv_iload C0.1 C0.2.1 dX10_which_91 (lv_at hl 0 rfl) ?_
              refine z_if_eq (tgt := 100) C0.1 C0.2.1 dX10_which_93 (by decide) ⟨by omega, by omega⟩ (fun c_93 => ?_) (fun c_93 => ?_)
              · skip
                omega
              · skip
                refine lv_iconst (v := zI 1) C0.1 C0.2.1 dX10_which_96 rfl ?_
                refine lv_goto (tgt := 101) C0.1 C0.2.1 dX10_which_97 (by decide) ?_
                exact mm_iret (z := 1) C0 hr hlk hM hS dX10_which_101 (by have he : pf_which S a b t = (1, lanS S u x) := (by rw [which_y (x := x) (by omega) (by rw [ht_i, ht_j]; unfold fau2; split <;> omega) (by rw [ht_i]; omega) (by rw [ht_i]; omega) (by rw [ht_i, ht_j]; exact hsx), ht_u]); rw [he]; exact ⟨rfl, hX9.rf, hfr⟩)
          · skip
            refine lv_iload C0.1 C0.2.1 dX10_which_54 (lv_at hl 0 rfl) ?_
            exact mm_iret (z := (nFau (S.2.1.1 j))) C0 hr hlk hM hS dX10_which_56 (by have he : pf_which S a b t = ((nFau (S.2.1.1 j)), S) := (by unfold pf_which; rw [if_pos (by omega), ht_i, ht_j, show fau2 (sFau (S.2.1.1 i)) (nFau (S.2.1.1 j)) = (nFau (S.2.1.1 j)) from (by unfold fau2; rw [if_pos (by omega)]), if_pos (by omega)]); rw [he]; exact ⟨rfl, hX0.rf, fun _ _ => rfl⟩)
        · skip
          refine lv_iload C0.1 C0.2.1 dX10_which_36 (lv_at hl 0 rfl) ?_
          refine lv_goto (tgt := 47) C0.1 C0.2.1 dX10_which_38 (by decide) ?_
          refine lv_istore (lv' := [(4, .int (zI ((sFau (S.2.1.1 i))))), (0, .ref (h)), (1, .int (zI (a))), (2, .int (zI (b))), (3, .int (zI (t)))]) C0.1 C0.2.1 dX10_which_47 hl (by decide) rfl (fun ls hl => ?_)
          refine lv_iload C0.1 C0.2.1 dX10_which_49 (lv_at hl 0 rfl) ?_
          refine z_if_ge (tgt := 57) C0.1 C0.2.1 dX10_which_51 (by decide) ⟨by omega, by omega⟩ (fun c_51 => ?_) (fun c_51 => ?_)
          · skip
            have hwi := sFau_0 (w := S.2.1.1 i) (by omega)
            have hwj := nFau_0 (w := S.2.1.1 j) (by omega)
            refine lv_aload_n C0.1 C0.2.1 dX10_which_57 rfl (lv_at hl 1 rfl) ?_
            refine lv_aload_n C0.1 C0.2.1 dX10_which_58 rfl (lv_at hl 1 rfl) ?_
            refine mm_get (fs := [.ref (h + 1), .ref (h + 2), .ref (h + 3), .ref (h + 4), .int (zI (((S.1.2.2 : Nat) : Int))), .int (zI (x2)), .long (zL (x3)), .ref (h + 5), .ref (h + 6), .ref (h + 7), .ref (h + 8), .int (zI (x4)), .int (zI (x5)), .int (zI (x6)), .int (zI (x7)), .int (zI (S.1.1)), .ref (h + 9), .ref (h + 10), .ref (h + 11), .ref (h + 12)]) C0 (C := RX10) (T := TX10) (N := 20) iG_X10 hM (hO) rfl 1 (by decide) tw_917 rfl rfl dX10_which_59 ?_
            refine lv_iload_n C0.1 C0.2.1 dX10_which_62 rfl (lv_at hl 2 rfl) ?_
            refine mm_iald C0 hM (g := fh) (hH) (i) (i := a) (by omega) (by omega) (by decide) dX10_which_63 ?_
            refine z_asI (b := (S.2.1.1 i : Int)) (hh_i) ?_
            refine lv_iconst (v := zI 2) C0.1 C0.2.1 dX10_which_64 rfl ?_
            refine z_isub C0.1 C0.2.1 dX10_which_65 ?_
            refine z_asI (a := (((S.2.1.1 i : Int)) - (2))) (b := ((S.2.1.1 i - 2 : Nat) : Int)) (by omega) ?_
            refine lv_aload_n C0.1 C0.2.1 dX10_which_66 rfl (lv_at hl 1 rfl) ?_
            refine mm_get (fs := [.ref (h + 1), .ref (h + 2), .ref (h + 3), .ref (h + 4), .int (zI (((S.1.2.2 : Nat) : Int))), .int (zI (x2)), .long (zL (x3)), .ref (h + 5), .ref (h + 6), .ref (h + 7), .ref (h + 8), .int (zI (x4)), .int (zI (x5)), .int (zI (x6)), .int (zI (x7)), .int (zI (S.1.1)), .ref (h + 9), .ref (h + 10), .ref (h + 11), .ref (h + 12)]) C0 (C := RX10) (T := TX10) (N := 20) iG_X10 hM (hO) rfl 2 (by decide) tw_918 rfl rfl dX10_which_67 ?_
            refine lv_iload_n C0.1 C0.2.1 dX10_which_70 rfl (lv_at hl 2 rfl) ?_
            refine mm_iald C0 hM (g := fc) (hC) (i) (i := a) (by omega) (by omega) (by decide) dX10_which_71 ?_
            refine z_asI (b := (S.2.1.2.1 i : Int)) (hc_i) ?_
            refine lv_iload_n C0.1 C0.2.1 dX10_which_72 rfl (lv_at hl 3 rfl) ?_
            refine mm_callVi (As := [.int (zI (((S.2.1.1 i - 2 : Nat) : Int))), .int (zI ((S.2.1.2.1 i : Int))), .int (zI (b))]) C0 vw_X10_whichOf tw_1159 (c_X10_whichOf l G _ hO hR hpj (by omega) hv_j ho_j4 rfl ho_i2 rfl (by omega) (by omega)) hM (hO) rfl rfl hl.1 rfl (Nat.le_of_ble_eq_true rfl) ⟨rfl, rfl, Nat.le_of_ble_eq_true rfl, Nat.le_of_ble_eq_true rfl, Nat.zero_le _, Nat.zero_le _⟩ dX10_which_73 hS (fun z73 E8 H locs hp hM hS => ?_)
            obtain ⟨hz73, fr⟩ := hp
            have hO := ro.kept hO (fr _ (by omega))
            have hfr := (fun q h => (fr q (by omega)).trans (hfr q h) : ∀ q : Nat, (q < h ∨ h + 13 ≤ q) → E8 q = E0 q)
            have hz01 : z73 = 0 ∨ z73 = 1 := by rcases hz73 with ⟨h, -⟩ | ⟨h, -⟩ <;> omega
            have hg := fr
            refine lv_istore (lv' := [(5, .int (zI (z73))), (4, .int (zI ((sFau (S.2.1.1 i))))), (0, .ref (h)), (1, .int (zI (a))), (2, .int (zI (b))), (3, .int (zI (t)))]) C0.1 C0.2.1 dX10_which_76 hl (by decide) rfl (fun ls hl => ?_)
            refine lv_iload C0.1 C0.2.1 dX10_which_78 (lv_at hl 0 rfl) ?_
            refine z_if_eq (tgt := 91) C0.1 C0.2.1 dX10_which_80 (by decide) ⟨by omega, by omega⟩ (fun c_80 => ?_) (fun c_80 => ?_)
            · skip
              obtain ⟨hno, R1, hR1, k1⟩ := hz73.elim (fun h => by omega) (fun h => h.2)
              have hX1 := hX0.w hR1 k1 hg
              refine lv_iload C0.1 C0.2.1 dX10_which_91 (lv_at hl 0 rfl) ?_
              refine z_if_eq (tgt := 100) C0.1 C0.2.1 dX10_which_93 (by decide) ⟨by omega, by omega⟩ (fun c_93 => ?_) (fun c_93 => ?_)
              · skip
                refine lv_iconst (v := zI 0) C0.1 C0.2.1 dX10_which_100 rfl ?_
                exact mm_iret (z := 0) C0 hr hlk hM hS dX10_which_101 (by have he : pf_which S a b t = (0, S) := (by rw [which_n (by omega) (by rw [ht_i, ht_j]; unfold fau2; split <;> omega) (by rw [ht_i, ht_j]; exact hno)]); rw [he]; exact ⟨rfl, hX1.rf, hfr⟩)
              · skip
                omega
            · skip
              obtain ⟨R1, x, hR1, v8, hsx, hxn, k1⟩ := hz73.elim (fun h => h.2) (fun h => by omega)
              have hX1 := hX0.w hR1 k1 hg
              refine lv_aload_n C0.1 C0.2.1 dX10_which_83 rfl (lv_at hl 2 rfl) ?_
              refine lv_iload_n C0.1 C0.2.1 dX10_which_84 rfl (lv_at hl 5 rfl) ?_
              refine lv_bipush (v := zI 8) C0.1 C0.2.1 dX10_which_85 rfl ?_
              refine mm_callVi (As := [.int (zI (t)), .int (zI (8))]) C0 vw_X10_come tw_1039 (c_X10_comeS l G _ hX1 hpu hi_u (a := 8) rfl (by omega) v8) hM (hO) rfl rfl hl.1 rfl (Nat.le_of_ble_eq_true rfl) ⟨rfl, rfl, Nat.le_of_ble_eq_true rfl, Nat.le_of_ble_eq_true rfl, Nat.zero_le _, Nat.zero_le _⟩ dX10_which_87 hS (fun z9 E9 H locs hp hM hS => ?_)
              obtain ⟨hz9, ⟨R9, hX9, kr9⟩, fr⟩ := hp
              have hO := ro.kept hO (fr _ (by omega))
              have hfr := (fun q h => (fr q (by omega)).trans (hfr q h) : ∀ q : Nat, (q < h ∨ h + 13 ≤ q) → E9 q = E0 q)
              refine lv_pop C0.1 C0.2.1 dX10_which_90 rfl ?_
              refine lv_iload C0.1 C0.2.1 dX10_which_91 (lv_at hl 0 rfl) ?_
              refine z_if_eq (tgt := 100) C0.1 C0.2.1 dX10_which_93 (by decide) ⟨by omega, by omega⟩ (fun c_93 => ?_) (fun c_93 => ?_)
              · skip
                omega
              · skip
                refine lv_iconst (v := zI 1) C0.1 C0.2.1 dX10_which_96 rfl ?_
                refine lv_goto (tgt := 101) C0.1 C0.2.1 dX10_which_97 (by decide) ?_
                exact mm_iret (z := 1) C0 hr hlk hM hS dX10_which_101 (by have he : pf_which S a b t = (1, lanS S u x) := (by rw [which_y (x := x) (by omega) (by rw [ht_i, ht_j]; unfold fau2; split <;> omega) (by rw [ht_i]; omega) (by rw [ht_i]; omega) (by rw [ht_i, ht_j]; exact hsx), ht_u]); rw [he]; exact ⟨rfl, hX9.rf, hfr⟩)
          · skip
            refine lv_iload C0.1 C0.2.1 dX10_which_54 (lv_at hl 0 rfl) ?_
            exact mm_iret (z := (sFau (S.2.1.1 i))) C0 hr hlk hM hS dX10_which_56 (by have he : pf_which S a b t = ((sFau (S.2.1.1 i)), S) := (by unfold pf_which; rw [if_pos (by omega), ht_i, ht_j, show fau2 (sFau (S.2.1.1 i)) (nFau (S.2.1.1 j)) = (sFau (S.2.1.1 i)) from (by unfold fau2; rw [if_neg (by omega)]), if_pos (by omega)]); rw [he]; exact ⟨rfl, hX0.rf, fun _ _ => rfl⟩)
      · skip
        refine lv_iconst (v := zI (-1)) C0.1 C0.2.1 dX10_which_21 rfl ?_
        exact mm_iret (z := (-1)) C0 hr hlk hM hS dX10_which_22 (by have he : pf_which S a b t = ((-1), S) := (by unfold pf_which; rw [if_neg (by omega)]); rw [he]; exact ⟨rfl, hX0.rf, fun _ _ => rfl⟩)
