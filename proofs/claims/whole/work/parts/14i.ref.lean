def rX10_stepRow : Room := { frames := 1, cells := 0, slots := 0, locals := 29 }
theorem vw_X10_stepRow : mm_Vw RX10 yX10_stepRow cX10_stepRow 7 none 3 := ⟨tw_1179, tp_45, tw_10, tw_1180, by decide +kernel⟩
set_option maxHeartbeats 4000000 in
set_option maxRecDepth 100000 in
theorem c_X10_stepRow (l : Launch) (G : mG) (E0 : mE) {h : Nat} {x1 x2 x3 x4 x5 x6 x7 x8 : Int} (hO : ro G E0 h x1 x2 x3 x4 x5 x6 x7 x8) {R : Nat → Nat} (hR : rg G E0 h R) {ni vm vt : Int} (nn mu tt : Nat) (hni : ni = (nn : Int)) (hvm : vm = (mu : Int)) (hvt : vt = (tt : Int)) (hm2 : 2 ≤ mu) (hmt : mu + tt ≤ 36) (hn2 : nn ≤ 200) : mm_Cv l yX10_stepRow (.code yX10_stepRow cX10_stepRow 7 none :: wsG) rX10_stepRow G [.ref (h), .int (zI (ni)), .long (zL (vm)), .long (zL (vt))] E0 (fun E => (∃ R1, rg G E h R1 ∧ R1 8 = (row mu tt nn).1 ∧ ∀ r, r < 8 → R1 r = R r) ∧ ∀ q : Nat, (q ≠ h + 1) → E q = E0 q) := by
  refine mm_of_v (by decide +kernel) (Nat.le_of_ble_eq_true rfl) ?_
  intro p e s m args below meth c ls C0 hr hlk hM hl hS
  have hl : lv_has ls 7 [(0, .ref (h)), (1, .int (zI (ni))), (2, .long (zL (vm))), (4, .long (zL (vt)))] := hl
  have hfr : ∀ q : Nat, (q ≠ h + 1) → E0 q = E0 q := fun _ _ => rfl
  refine lv_aload_n C0.1 C0.2.1 dX10_stepRow_0 rfl (lv_at hl 0 rfl) ?_
  refine lv_bipush (v := zI 8) C0.1 C0.2.1 dX10_stepRow_1 rfl ?_
  refine lv_lconst (v := zL 0) C0.1 C0.2.1 dX10_stepRow_3 rfl ?_
  refine mm_callVv (As := [.int (zI (8)), .long (zL (0))]) C0 vw_X10_set tw_988 (c_X10_set l G _ hO hR (t := 8) rfl (by omega) 0 rfl (by omega)) hM (hO) rfl rfl hl.1 rfl (Nat.le_of_ble_eq_true rfl) ⟨rfl, rfl, Nat.le_of_ble_eq_true rfl, Nat.le_of_ble_eq_true rfl, Nat.zero_le _, Nat.zero_le _⟩ dX10_stepRow_4 hS (fun E1 H locs hp hM hS => ?_)
  obtain ⟨⟨R0, hR0, v8, kr0⟩, fr⟩ := hp
  have hO := ro.kept hO (fr _ (by omega))
  have hfr := (fun q h => (fr q (by omega)).trans (hfr q h) : ∀ q : Nat, (q ≠ h + 1) → E1 q = E0 q)
  refine lv_aload_n C0.1 C0.2.1 dX10_stepRow_7 rfl (lv_at hl 0 rfl) ?_
  refine lv_bipush (v := zI 9) C0.1 C0.2.1 dX10_stepRow_8 rfl ?_
  refine lv_lconst (v := zL 1) C0.1 C0.2.1 dX10_stepRow_10 rfl ?_
  refine mm_callVv (As := [.int (zI (9)), .long (zL (1))]) C0 vw_X10_set tw_988 (c_X10_set l G _ hO hR0 (t := 9) rfl (by omega) 1 rfl (by omega)) hM (hO) rfl rfl hl.1 rfl (Nat.le_of_ble_eq_true rfl) ⟨rfl, rfl, Nat.le_of_ble_eq_true rfl, Nat.le_of_ble_eq_true rfl, Nat.zero_le _, Nat.zero_le _⟩ dX10_stepRow_11 hS (fun E2 H locs hp hM hS => ?_)
  obtain ⟨⟨R1, hR1, v9, kr1⟩, fr⟩ := hp
  have hO := ro.kept hO (fr _ (by omega))
  have hfr := (fun q h => (fr q (by omega)).trans (hfr q h) : ∀ q : Nat, (q ≠ h + 1) → E2 q = E0 q)
  refine lv_iconst (v := zI 0) C0.1 C0.2.1 dX10_stepRow_14 rfl ?_
  refine lv_istore (lv' := [(6, .int (zI (0))), (0, .ref (h)), (1, .int (zI (ni))), (2, .long (zL (vm))), (4, .long (zL (vt)))]) C0.1 C0.2.1 dX10_stepRow_15 hl (by decide) rfl (fun ls hl => ?_)
  have L17 : ∀ (k17 : Nat) (k : Nat) (R1 : Nat → Nat) (E3 : mE) (H : Heap) (locs : List Loc) (ls : Array Slot), (k ≤ nn) → (R1 8 = (row mu tt k).1) → (R1 9 = (row mu tt k).2) → (∀ r, r < 8 → R1 r = R r) → (ro G E3 h x1 x2 x3 x4 x5 x6 x7 x8) → (rg G E3 h R1) → (∀ q : Nat, (q ≠ h + 1) → E3 q = E0 q) → nn - k < k17 → mm_M G E3 H → va_S (mm_A G) s.heap H locs → lv_has ls 7 [(0, .ref (h)), (1, .int (zI (ni))), (2, .long (zL (vm))), (4, .long (zL (vt))), (6, .int (zI ((k : Int))))] → W p l e rX10_stepRow s m args below meth c H locs 0 0 (mm_Zv G below args s (fun E => (∃ R1, rg G E h R1 ∧ R1 8 = (row mu tt nn).1 ∧ ∀ r, r < 8 → R1 r = R r) ∧ ∀ q : Nat, (q ≠ h + 1) → E q = E0 q)) (F0 m 17 ls []) := by
    intro k17
    induction k17 with
    | zero => intro k R1 E3 H locs ls hk9 v8 v9 k1 hO hR1 hfr hk hM hS hl; exact absurd hk (Nat.not_lt_zero _)
    | succ k17 ih17 =>
      intro k R1 E3 H locs ls hk9 v8 v9 k1 hO hR1 hfr hk17 hM hS hl
      refine lv_iload C0.1 C0.2.1 dX10_stepRow_17 (lv_at hl 4 rfl) ?_
      refine lv_iload_n C0.1 C0.2.1 dX10_stepRow_19 rfl (lv_at hl 1 rfl) ?_
      refine z_icmp_ge (tgt := 66) C0.1 C0.2.1 dX10_stepRow_20 (by decide) ⟨by omega, by omega⟩ ⟨by omega, by omega⟩ (fun c_20 => ?_) (fun c_20 => ?_)
      · skip
        have hkn : k = nn := by omega
        subst hkn
        exact mm_vret C0 hr hlk hM hS dX10_stepRow_66 (⟨⟨R1, hR1, v8, k1⟩, hfr⟩)
      · skip
        obtain ⟨hro1, hro2, -⟩ := row_ok (m := mu) (t := tt) hm2 hmt k
        obtain ⟨hrn1, hrn2⟩ := row_nl (m := mu) (t := tt) (n := k) hm2 hmt (by omega)
        have hle8 : (row mu tt k).1 ≤ mu * (row mu tt k).2 + tt := by have := Nat.mul_le_mul_right (row mu tt k).2 hm2; omega
        have hnq : nl (mu * (row mu tt k).2 + tt) ≤ 80 := Nat.le_trans (nl_addn (n := 41) (by rw [Nat.mul_comm]; exact Nat.le_trans (nl_mul1 (by omega)) (by omega)) (Nat.le_trans (nlL (N := tt) (by omega)) (by omega))) (by decide)
        refine lv_aload_n C0.1 C0.2.1 dX10_stepRow_23 rfl (lv_at hl 0 rfl) ?_
        refine lv_bipush (v := zI 10) C0.1 C0.2.1 dX10_stepRow_24 rfl ?_
        refine lv_bipush (v := zI 9) C0.1 C0.2.1 dX10_stepRow_26 rfl ?_
        refine lv_lload_n C0.1 C0.2.1 dX10_stepRow_28 rfl (lv_at hl 2 rfl) ?_
        refine lv_lload C0.1 C0.2.1 dX10_stepRow_29 (lv_at hl 3 rfl) ?_
        refine mm_callVv (As := [.int (zI (10)), .int (zI (9)), .long (zL (vm)), .long (zL (vt))]) C0 vw_X10_times tw_1035 (c_X10_times l G _ hO hR1 (t := 10) rfl (by omega) (a := 9) rfl (by omega) v9 mu tt hvm hvt (by omega) (by omega) hnq) hM (hO) rfl rfl hl.1 rfl (Nat.le_of_ble_eq_true rfl) ⟨rfl, rfl, Nat.le_of_ble_eq_true rfl, Nat.le_of_ble_eq_true rfl, Nat.zero_le _, Nat.zero_le _⟩ dX10_stepRow_31 hS (fun E4 H locs hp hM hS => ?_)
        obtain ⟨⟨R2, hR2, v10, kr2⟩, fr⟩ := hp
        have hO := ro.kept hO (fr _ (by omega))
        have hfr := (fun q h => (fr q (by omega)).trans (hfr q h) : ∀ q : Nat, (q ≠ h + 1) → E4 q = E0 q)
        refine lv_aload_n C0.1 C0.2.1 dX10_stepRow_34 rfl (lv_at hl 0 rfl) ?_
        refine lv_bipush (v := zI 10) C0.1 C0.2.1 dX10_stepRow_35 rfl ?_
        refine lv_bipush (v := zI 10) C0.1 C0.2.1 dX10_stepRow_37 rfl ?_
        refine lv_bipush (v := zI 8) C0.1 C0.2.1 dX10_stepRow_39 rfl ?_
        refine mm_callVv (As := [.int (zI (10)), .int (zI (10)), .int (zI (8))]) C0 vw_X10_subtract tw_1091 (c_X10_subtract l G _ hO hR2 (t := 10) rfl (by omega) (a := 10) rfl (by omega) v10 (b := 8) rfl (by omega) ((kr2 8 (by omega)).trans v8) hle8) hM (hO) rfl rfl hl.1 rfl (Nat.le_of_ble_eq_true rfl) ⟨rfl, rfl, Nat.le_of_ble_eq_true rfl, Nat.le_of_ble_eq_true rfl, Nat.zero_le _, Nat.zero_le _⟩ dX10_stepRow_41 hS (fun E5 H locs hp hM hS => ?_)
        obtain ⟨⟨R3, hR3, v10, kr3⟩, fr⟩ := hp
        have hO := ro.kept hO (fr _ (by omega))
        have hfr := (fun q h => (fr q (by omega)).trans (hfr q h) : ∀ q : Nat, (q ≠ h + 1) → E5 q = E0 q)
        have h39 : R3 9 = (row mu tt k).2 := (kr3 9 (by omega)).trans ((kr2 9 (by omega)).trans v9)
        refine lv_aload_n C0.1 C0.2.1 dX10_stepRow_44 rfl (lv_at hl 0 rfl) ?_
        refine lv_bipush (v := zI 8) C0.1 C0.2.1 dX10_stepRow_45 rfl ?_
        refine lv_bipush (v := zI 9) C0.1 C0.2.1 dX10_stepRow_47 rfl ?_
        refine mm_callVv (As := [.int (zI (8)), .int (zI (9))]) C0 vw_X10_copy tw_1047 (c_X10_copy l G _ hO hR3 (t := 8) rfl (by omega) (a := 9) rfl (by omega) h39) hM (hO) rfl rfl hl.1 rfl (Nat.le_of_ble_eq_true rfl) ⟨rfl, rfl, Nat.le_of_ble_eq_true rfl, Nat.le_of_ble_eq_true rfl, Nat.zero_le _, Nat.zero_le _⟩ dX10_stepRow_49 hS (fun E6 H locs hp hM hS => ?_)
        obtain ⟨⟨R4, hR4, v8, kr4⟩, fr⟩ := hp
        have hO := ro.kept hO (fr _ (by omega))
        have hfr := (fun q h => (fr q (by omega)).trans (hfr q h) : ∀ q : Nat, (q ≠ h + 1) → E6 q = E0 q)
        refine lv_aload_n C0.1 C0.2.1 dX10_stepRow_52 rfl (lv_at hl 0 rfl) ?_
        refine lv_bipush (v := zI 9) C0.1 C0.2.1 dX10_stepRow_53 rfl ?_
        refine lv_bipush (v := zI 10) C0.1 C0.2.1 dX10_stepRow_55 rfl ?_
        refine mm_callVv (As := [.int (zI (9)), .int (zI (10))]) C0 vw_X10_copy tw_1047 (c_X10_copy l G _ hO hR4 (t := 9) rfl (by omega) (a := 10) rfl (by omega) ((kr4 10 (by omega)).trans v10)) hM (hO) rfl rfl hl.1 rfl (Nat.le_of_ble_eq_true rfl) ⟨rfl, rfl, Nat.le_of_ble_eq_true rfl, Nat.le_of_ble_eq_true rfl, Nat.zero_le _, Nat.zero_le _⟩ dX10_stepRow_57 hS (fun E7 H locs hp hM hS => ?_)
        obtain ⟨⟨R5, hR5, v9, kr5⟩, fr⟩ := hp
        have hO := ro.kept hO (fr _ (by omega))
        have hfr := (fun q h => (fr q (by omega)).trans (hfr q h) : ∀ q : Nat, (q ≠ h + 1) → E7 q = E0 q)
        refine lv_iinc (v := zI (((k + 1 : Nat) : Int))) (lv' := [(6, .int (zI (((k + 1 : Nat) : Int)))), (0, .ref (h)), (1, .int (zI (ni))), (2, .long (zL (vm))), (4, .long (zL (vt)))]) C0.1 C0.2.1 dX10_stepRow_60 hl (k := 4) rfl (z_inc (a := (k : Int)) (n := 1) (by omega)) (by decide) rfl (fun ls hl => ?_)
        refine lv_goto (tgt := 17) C0.1 C0.2.1 dX10_stepRow_63 (by decide) ?_
        exact ih17  (k + 1) R5 E7 _ _ _ (by omega) ((kr5 8 (by omega)).trans v8) (by rw [v9, Nat.mul_comm mu]; rfl) (fun r q => (kr5 r (by omega)).trans ((kr4 r (by omega)).trans ((kr3 r (by omega)).trans ((kr2 r (by omega)).trans (k1 r q))))) (hO) (hR5) (hfr) (by omega) hM hS (lv_sub hl [1, 2, 3, 4, 0] rfl)
  exact L17 (_ + 1) 0 R1 E2 _ _ _ (Nat.zero_le _) ((kr1 8 (by omega)).trans v8) (v9) (fun r q => (kr1 r (by omega)).trans (kr0 r (by omega))) (hO) (hR1) (hfr) (Nat.lt_succ_self _) hM hS (lv_sub hl [1, 2, 3, 4, 0] rfl)

def rX10_both : Room := { frames := 3, cells := 0, slots := 0, locals := 68 }
theorem vw_X10_both : mm_Vw RX10 yX10_both cX10_both 3 (some .int) 2 := ⟨tw_1172, tw_1173, tw_10, tw_1174, by decide +kernel⟩
set_option maxHeartbeats 4000000 in
set_option maxRecDepth 100000 in
theorem c_X10_both (l : Launch) (G : mG) (E0 : mE) {h : Nat} {S : mST} (hF : rf G E0 h S) (hok : okR S) {i t : Int} (hr_i : rI i) (hr_t : rI t) : mm_Ci l yX10_both (.code yX10_both cX10_both 3 (some .int) :: wsG) rX10_both G [.ref (h), .int (zI (i)), .int (zI (t))] E0 (fun z E => z = (pf_both S i t).1 ∧ rf G E h (pf_both S i t).2 ∧ ∀ q : Nat, (q < h ∨ h + 13 ≤ q) → E q = E0 q) := by
  refine mm_of_i (by decide +kernel) (Nat.le_of_ble_eq_true rfl) ?_
  intro p e s m args below meth c ls C0 hr hlk hM hl hS
  have hl : lv_has ls 3 [(0, .ref (h)), (1, .int (zI (i))), (2, .int (zI (t)))] := hl
  obtain ⟨hr_i1, hr_i2⟩ := hr_i
  obtain ⟨hr_t1, hr_t2⟩ := hr_t
  obtain ⟨R, x2, x3, x4, x5, x6, x7, hX⟩ := hF
  have hX0 := hX
  obtain ⟨hTk, hPk, hKk, hSk⟩ := hok
  obtain ⟨hO, hR, hRp, ⟨fh, fc, hH, hC, hPa⟩, hTp, hCl, hKp, hSh, him⟩ := hX
  have hfr : ∀ q : Nat, (q < h ∨ h + 13 ≤ q) → E0 q = E0 q := fun _ _ => rfl
  refine lv_iload_n C0.1 C0.2.1 dX10_both_0 rfl (lv_at hl 1 rfl) ?_
  refine z_i2l C0.1 C0.2.1 dX10_both_1 ⟨by omega, by omega⟩ ?_
  refine lv_lconst (v := zL 0) C0.1 C0.2.1 dX10_both_2 rfl ?_
  refine mm_ldc2 (z := 200) C0 tw_1175 rfl dX10_both_3 ?_
  refine mm_callSi (As := [.long (zL (i)), .long (zL (0)), .long (zL (200))]) C0 sw_X10_in tw_985 (c_X10_in l G _ (v := i) (lo := 0) (hi := 200) ⟨by omega, by omega⟩ ⟨by omega, by omega⟩ ⟨by omega, by omega⟩) hM rfl hl.1 rfl (Nat.le_of_ble_eq_true rfl) ⟨rfl, rfl, Nat.le_of_ble_eq_true rfl, Nat.le_of_ble_eq_true rfl, Nat.zero_le _, Nat.zero_le _⟩ dX10_both_6 hS (fun z_6 E1 H locs hp hM hS => ?_)
  obtain ⟨hz_6, hEq⟩ := hp
  rw [hEq] at hM
  have hz_6b := if01 hz_6
  refine z_if_eq (tgt := 19) C0.1 C0.2.1 dX10_both_9 (by decide) ⟨by omega, by omega⟩ (fun c_9 => ?_) (fun c_9 => ?_)
  · skip
    refine lv_iconst (v := zI (-1)) C0.1 C0.2.1 dX10_both_19 rfl ?_
    exact mm_iret (z := (-1)) C0 hr hlk hM hS dX10_both_20 (by have he : pf_both S i t = ((-1), S) := (by unfold pf_both; rw [if_neg (by omega)]); rw [he]; exact ⟨rfl, hX0.rf, fun _ _ => rfl⟩)
  · skip
    refine lv_iload_n C0.1 C0.2.1 dX10_both_12 rfl (lv_at hl 2 rfl) ?_
    refine mm_callSi (As := [.int (zI (t))]) C0 sw_X10_isPlace tw_981 (c_X10_isPlace l G _ (i := t) ⟨by omega, by omega⟩) hM rfl hl.1 rfl (Nat.le_of_ble_eq_true rfl) ⟨rfl, rfl, Nat.le_of_ble_eq_true rfl, Nat.le_of_ble_eq_true rfl, Nat.zero_le _, Nat.zero_le _⟩ dX10_both_13 hS (fun z_13 E2 H locs hp hM hS => ?_)
    obtain ⟨hz_13, hEq⟩ := hp
    rw [hEq] at hM
    have hz_13b := if01 hz_13
    refine z_if_ne (tgt := 21) C0.1 C0.2.1 dX10_both_16 (by decide) ⟨by omega, by omega⟩ (fun c_16 => ?_) (fun c_16 => ?_)
    · skip
      obtain ⟨u, hpu⟩ : ∃ u : Nat, t = (u : Int) := ⟨(t).toNat, by omega⟩
      have hi_u : u < 8 := by omega
      have ht_u : (t).toNat = u := by omega
      refine lv_aload_n C0.1 C0.2.1 dX10_both_21 rfl (lv_at hl 0 rfl) ?_
      refine lv_iload_n C0.1 C0.2.1 dX10_both_22 rfl (lv_at hl 1 rfl) ?_
      refine mm_ldc2 (z := 34) C0 tw_1176 rfl dX10_both_23 ?_
      refine mm_ldc2 (z := 2) C0 tw_1089 rfl dX10_both_26 ?_
      refine mm_callVv (As := [.int (zI (i)), .long (zL (34)), .long (zL (2))]) C0 vw_X10_stepRow tw_1177 (c_X10_stepRow l G _ hO hR i.toNat 34 2 (by omega) rfl rfl (by omega) (by omega) (by omega)) hM (hO) rfl rfl hl.1 rfl (Nat.le_of_ble_eq_true rfl) ⟨rfl, rfl, Nat.le_of_ble_eq_true rfl, Nat.le_of_ble_eq_true rfl, Nat.zero_le _, Nat.zero_le _⟩ dX10_both_29 hS (fun E3 H locs hp hM hS => ?_)
      obtain ⟨⟨R1, hR1, v8, kr⟩, fr⟩ := hp
      have hO := ro.kept hO (fr _ (by omega))
      have hfr := (fun q h => (fr q (by omega)).trans (hfr q h) : ∀ q : Nat, (q < h ∨ h + 13 ≤ q) → E3 q = E0 q)
      rw [(row_sq _).1] at v8
      have hX1 := hX0.w hR1 kr fr
      refine lv_aload_n C0.1 C0.2.1 dX10_both_32 rfl (lv_at hl 0 rfl) ?_
      refine lv_iload_n C0.1 C0.2.1 dX10_both_33 rfl (lv_at hl 2 rfl) ?_
      refine lv_bipush (v := zI 8) C0.1 C0.2.1 dX10_both_34 rfl ?_
      refine mm_callVi (As := [.int (zI (t)), .int (zI (8))]) C0 vw_X10_come tw_1039 (c_X10_comeS l G _ hX1 hpu hi_u (a := 8) rfl (by omega) v8) hM (hO) rfl rfl hl.1 rfl (Nat.le_of_ble_eq_true rfl) ⟨rfl, rfl, Nat.le_of_ble_eq_true rfl, Nat.le_of_ble_eq_true rfl, Nat.zero_le _, Nat.zero_le _⟩ dX10_both_36 hS (fun z9 E4 H locs hp hM hS => ?_)
      obtain ⟨hz9, ⟨R9, hX9, kr9⟩, fr⟩ := hp
      have hO := ro.kept hO (fr _ (by omega))
      have hfr := (fun q h => (fr q (by omega)).trans (hfr q h) : ∀ q : Nat, (q < h ∨ h + 13 ≤ q) → E4 q = E0 q)
      exact mm_iret (z := z9) C0 hr hlk hM hS dX10_both_39 (by have he : pf_both S i t = (lanZ ((lad 0 i.toNat).1 * (lad 0 i.toNat).1), lanS S u ((lad 0 i.toNat).1 * (lad 0 i.toNat).1)) := (by unfold pf_both; rw [if_pos (by omega), ht_u]); rw [he]; exact ⟨hz9, hX9.rf, hfr⟩)
    · skip
      refine lv_iconst (v := zI (-1)) C0.1 C0.2.1 dX10_both_19 rfl ?_
      exact mm_iret (z := (-1)) C0 hr hlk hM hS dX10_both_20 (by have he : pf_both S i t = ((-1), S) := (by unfold pf_both; rw [if_neg (by omega)]); rw [he]; exact ⟨rfl, hX0.rf, fun _ _ => rfl⟩)

def rX10_side : Room := { frames := 3, cells := 0, slots := 0, locals := 68 }
theorem vw_X10_side : mm_Vw RX10 yX10_side cX10_side 4 (some .int) 3 := ⟨tw_1182, tw_1183, tw_10, tw_1184, by decide +kernel⟩
set_option maxHeartbeats 4000000 in
set_option maxRecDepth 100000 in
theorem c_X10_side (l : Launch) (G : mG) (E0 : mE) {h : Nat} {S : mST} (hF : rf G E0 h S) (hok : okR S) {i w t : Int} (hr_i : rI i) (hr_w : rI w) (hr_t : rI t) : mm_Ci l yX10_side (.code yX10_side cX10_side 4 (some .int) :: wsG) rX10_side G [.ref (h), .int (zI (i)), .int (zI (w)), .int (zI (t))] E0 (fun z E => z = (pf_side S i w t).1 ∧ rf G E h (pf_side S i w t).2 ∧ ∀ q : Nat, (q < h ∨ h + 13 ≤ q) → E q = E0 q) := by
  refine mm_of_i (by decide +kernel) (Nat.le_of_ble_eq_true rfl) ?_
  intro p e s m args below meth c ls C0 hr hlk hM hl hS
  have hl : lv_has ls 4 [(0, .ref (h)), (1, .int (zI (i))), (2, .int (zI (w))), (3, .int (zI (t)))] := hl
  obtain ⟨hr_i1, hr_i2⟩ := hr_i
  obtain ⟨hr_w1, hr_w2⟩ := hr_w
  obtain ⟨hr_t1, hr_t2⟩ := hr_t
  obtain ⟨R, x2, x3, x4, x5, x6, x7, hX⟩ := hF
  have hX0 := hX
  obtain ⟨hTk, hPk, hKk, hSk⟩ := hok
  obtain ⟨hO, hR, hRp, ⟨fh, fc, hH, hC, hPa⟩, hTp, hCl, hKp, hSh, him⟩ := hX
  have hfr : ∀ q : Nat, (q < h ∨ h + 13 ≤ q) → E0 q = E0 q := fun _ _ => rfl
  refine lv_iload_n C0.1 C0.2.1 dX10_side_0 rfl (lv_at hl 1 rfl) ?_
  refine z_i2l C0.1 C0.2.1 dX10_side_1 ⟨by omega, by omega⟩ ?_
  refine lv_lconst (v := zL 0) C0.1 C0.2.1 dX10_side_2 rfl ?_
  refine mm_ldc2 (z := 200) C0 tw_1175 rfl dX10_side_3 ?_
  refine mm_callSi (As := [.long (zL (i)), .long (zL (0)), .long (zL (200))]) C0 sw_X10_in tw_985 (c_X10_in l G _ (v := i) (lo := 0) (hi := 200) ⟨by omega, by omega⟩ ⟨by omega, by omega⟩ ⟨by omega, by omega⟩) hM rfl hl.1 rfl (Nat.le_of_ble_eq_true rfl) ⟨rfl, rfl, Nat.le_of_ble_eq_true rfl, Nat.le_of_ble_eq_true rfl, Nat.zero_le _, Nat.zero_le _⟩ dX10_side_6 hS (fun z_6 E1 H locs hp hM hS => ?_)
  obtain ⟨hz_6, hEq⟩ := hp
  rw [hEq] at hM
  have hz_6b := if01 hz_6
  refine z_if_eq (tgt := 29) C0.1 C0.2.1 dX10_side_9 (by decide) ⟨by omega, by omega⟩ (fun c_9 => ?_) (fun c_9 => ?_)
  · skip
    refine lv_iconst (v := zI (-1)) C0.1 C0.2.1 dX10_side_29 rfl ?_
    exact mm_iret (z := (-1)) C0 hr hlk hM hS dX10_side_30 (by have he : pf_side S i w t = ((-1), S) := (by unfold pf_side; rw [if_neg (by omega)]); rw [he]; exact ⟨rfl, hX0.rf, fun _ _ => rfl⟩)
  · skip
    refine lv_iload_n C0.1 C0.2.1 dX10_side_12 rfl (lv_at hl 2 rfl) ?_
    refine z_i2l C0.1 C0.2.1 dX10_side_13 ⟨by omega, by omega⟩ ?_
    refine lv_lconst (v := zL 0) C0.1 C0.2.1 dX10_side_14 rfl ?_
    refine lv_lconst (v := zL 1) C0.1 C0.2.1 dX10_side_15 rfl ?_
    refine mm_callSi (As := [.long (zL (w)), .long (zL (0)), .long (zL (1))]) C0 sw_X10_in tw_985 (c_X10_in l G _ (v := w) (lo := 0) (hi := 1) ⟨by omega, by omega⟩ ⟨by omega, by omega⟩ ⟨by omega, by omega⟩) hM rfl hl.1 rfl (Nat.le_of_ble_eq_true rfl) ⟨rfl, rfl, Nat.le_of_ble_eq_true rfl, Nat.le_of_ble_eq_true rfl, Nat.zero_le _, Nat.zero_le _⟩ dX10_side_16 hS (fun z_16 E2 H locs hp hM hS => ?_)
    obtain ⟨hz_16, hEq⟩ := hp
    rw [hEq] at hM
    have hz_16b := if01 hz_16
    refine z_if_eq (tgt := 29) C0.1 C0.2.1 dX10_side_19 (by decide) ⟨by omega, by omega⟩ (fun c_19 => ?_) (fun c_19 => ?_)
    · skip
      refine lv_iconst (v := zI (-1)) C0.1 C0.2.1 dX10_side_29 rfl ?_
      exact mm_iret (z := (-1)) C0 hr hlk hM hS dX10_side_30 (by have he : pf_side S i w t = ((-1), S) := (by unfold pf_side; rw [if_neg (by omega)]); rw [he]; exact ⟨rfl, hX0.rf, fun _ _ => rfl⟩)
    · skip
      refine lv_iload_n C0.1 C0.2.1 dX10_side_22 rfl (lv_at hl 3 rfl) ?_
      refine mm_callSi (As := [.int (zI (t))]) C0 sw_X10_isPlace tw_981 (c_X10_isPlace l G _ (i := t) ⟨by omega, by omega⟩) hM rfl hl.1 rfl (Nat.le_of_ble_eq_true rfl) ⟨rfl, rfl, Nat.le_of_ble_eq_true rfl, Nat.le_of_ble_eq_true rfl, Nat.zero_le _, Nat.zero_le _⟩ dX10_side_23 hS (fun z_23 E3 H locs hp hM hS => ?_)
      obtain ⟨hz_23, hEq⟩ := hp
      rw [hEq] at hM
      have hz_23b := if01 hz_23
      refine z_if_ne (tgt := 31) C0.1 C0.2.1 dX10_side_26 (by decide) ⟨by omega, by omega⟩ (fun c_26 => ?_) (fun c_26 => ?_)
      · skip
        obtain ⟨u, hpu⟩ : ∃ u : Nat, t = (u : Int) := ⟨(t).toNat, by omega⟩
        have hi_u : u < 8 := by omega
        have ht_u : (t).toNat = u := by omega
        refine lv_aload_n C0.1 C0.2.1 dX10_side_31 rfl (lv_at hl 0 rfl) ?_
        refine lv_iload_n C0.1 C0.2.1 dX10_side_32 rfl (lv_at hl 1 rfl) ?_
        refine mm_ldc2 (z := 6) C0 tw_1096 rfl dX10_side_33 ?_
        refine mm_ldc2 (z := 2) C0 tw_1089 rfl dX10_side_36 ?_
        refine lv_iload_n C0.1 C0.2.1 dX10_side_39 rfl (lv_at hl 2 rfl) ?_
        refine z_i2l C0.1 C0.2.1 dX10_side_40 ⟨by omega, by omega⟩ ?_
        refine z_lmul C0.1 C0.2.1 dX10_side_41 ?_
        refine mm_callVv (As := [.int (zI (i)), .long (zL (6)), .long (zL (((2) * (w))))]) C0 vw_X10_stepRow tw_1177 (c_X10_stepRow l G _ hO hR i.toNat 6 (2 * w.toNat) (by omega) rfl (by omega) (by omega) (by omega) (by omega)) hM (hO) rfl rfl hl.1 rfl (Nat.le_of_ble_eq_true rfl) ⟨rfl, rfl, Nat.le_of_ble_eq_true rfl, Nat.le_of_ble_eq_true rfl, Nat.zero_le _, Nat.zero_le _⟩ dX10_side_42 hS (fun E4 H locs hp hM hS => ?_)
        obtain ⟨⟨R1, hR1, v8, kr⟩, fr⟩ := hp
        have hO := ro.kept hO (fr _ (by omega))
        have hfr := (fun q h => (fr q (by omega)).trans (hfr q h) : ∀ q : Nat, (q < h ∨ h + 13 ≤ q) → E4 q = E0 q)
        rw [row_lad] at v8
        have hX1 := hX0.w hR1 kr fr
        refine lv_aload_n C0.1 C0.2.1 dX10_side_45 rfl (lv_at hl 0 rfl) ?_
        refine lv_iload_n C0.1 C0.2.1 dX10_side_46 rfl (lv_at hl 3 rfl) ?_
        refine lv_bipush (v := zI 8) C0.1 C0.2.1 dX10_side_47 rfl ?_
        refine mm_callVi (As := [.int (zI (t)), .int (zI (8))]) C0 vw_X10_come tw_1039 (c_X10_comeS l G _ hX1 hpu hi_u (a := 8) rfl (by omega) v8) hM (hO) rfl rfl hl.1 rfl (Nat.le_of_ble_eq_true rfl) ⟨rfl, rfl, Nat.le_of_ble_eq_true rfl, Nat.le_of_ble_eq_true rfl, Nat.zero_le _, Nat.zero_le _⟩ dX10_side_49 hS (fun z9 E5 H locs hp hM hS => ?_)
        obtain ⟨hz9, ⟨R9, hX9, kr9⟩, fr⟩ := hp
        have hO := ro.kept hO (fr _ (by omega))
        have hfr := (fun q h => (fr q (by omega)).trans (hfr q h) : ∀ q : Nat, (q < h ∨ h + 13 ≤ q) → E5 q = E0 q)
        exact mm_iret (z := z9) C0 hr hlk hM hS dX10_side_52 (by have he : pf_side S i w t = (lanZ (lad (2 * w.toNat) i.toNat).1, lanS S u (lad (2 * w.toNat) i.toNat).1) := (by unfold pf_side; rw [if_pos (by omega), ht_u]); rw [he]; exact ⟨hz9, hX9.rf, hfr⟩)
      · skip
        refine lv_iconst (v := zI (-1)) C0.1 C0.2.1 dX10_side_29 rfl ?_
        exact mm_iret (z := (-1)) C0 hr hlk hM hS dX10_side_30 (by have he : pf_side S i w t = ((-1), S) := (by unfold pf_side; rw [if_neg (by omega)]); rw [he]; exact ⟨rfl, hX0.rf, fun _ _ => rfl⟩)

theorem fe_s1 {B : Nat → Int} {L s_ j : Nat} (h : fe B L (s_ + j) = fe B L s_) (h1 : s_ + j < L) (h2 : fig (B (s_ + j))) : fe B L (s_ + (j + 1)) = fe B L s_ := by rw [← h, fe_s h1 h2]; rfl
theorem rv_ub {B : Nat → Int} {s_ j : Nat} (h : ∀ i, i < j → fig (B (s_ + i))) : 0 ≤ rv B s_ j ∧ rv B s_ j ≤ 999999999999999999 := by have := rv_b h; omega
theorem rv_19 {B : Nat → Int} {s_ : Nat} : ∀ j, 18 ≤ j → rv B s_ j = rv B s_ 18
  | 0, h => by omega
  | j + 1, h => by
    by_cases q : j < 18
    · rw [show j + 1 = 18 by omega]
    · rw [rv_e q]; exact rv_19 j (by omega)

def rX10_readNumber : Room := { frames := 1, cells := 0, slots := 0, locals := 25 }
theorem vw_X10_readNumber : mm_Vw RX10 yX10_readNumber cX10_readNumber 7 (some .boolean) 3 := ⟨tw_1066, tp_27, tw_10, tw_1067, by decide +kernel⟩
set_option maxHeartbeats 4000000 in
set_option maxRecDepth 100000 in
theorem c_X10_readNumber (l : Launch) (G : mG) (E0 : mE) {h : Nat} {B : Nat → Int} {L a : Nat} {x3 x4 x5 x6 x7 x8 : Int} (hO : ro G E0 h (L : Int) (a : Int) x3 x4 x5 x6 x7 x8) (hT : E0 (h + 4) = some (mm_I G 100 B)) (hk : okT B L) (ha : a ≤ L) {lo hi : Int} (hlo9 : rL lo) (hhi9 : rL hi) : mm_Ci l yX10_readNumber (.code yX10_readNumber cX10_readNumber 7 (some .boolean) :: wsG) rX10_readNumber G [.ref (h), .int (zI (18)), .long (zL (lo)), .long (zL (hi))] E0 (fun z E => ((z = 1 ∧ ¬ rnX B L a lo hi ∧ ro G E h (L : Int) ((rnE B L a : Nat) : Int) (rnV B L a) x4 x5 x6 x7 x8 ∧ rnE B L a ≤ L) ∨ (z = 0 ∧ rnX B L a lo hi ∧ ∃ y3, ro G E h (L : Int) ((skp B L a : Nat) : Int) y3 x4 x5 x6 x7 x8)) ∧ ∀ q : Nat, q ≠ h → E q = E0 q) := by
  refine mm_of_i (by decide +kernel) (Nat.le_of_ble_eq_true rfl) ?_
  intro p e s m args below meth c ls C0 hr hlk hM hl hS
  have hl : lv_has ls 7 [(0, .ref (h)), (1, .int (zI (18))), (2, .long (zL (lo))), (4, .long (zL (hi)))] := hl
  have hfr : ∀ q : Nat, q ≠ h → E0 q = E0 q := fun _ _ => rfl
  have hL := hk.1
  obtain ⟨hlo1, hlo2⟩ := hlo9
  obtain ⟨hhi1, hhi2⟩ := hhi9
  obtain ⟨s1, hs1⟩ : ∃ s1, s1 = skp B L a := ⟨_, rfl⟩
  have hsb := skp_b (B := B) ha
  rw [← hs1] at hsb
  refine lv_aload_n C0.1 C0.2.1 dX10_readNumber_0 rfl (lv_at hl 0 rfl) ?_
  refine mm_callVi (As := []) C0 vw_X10_nextByte tw_1028 (c_X10_nextByte l G _ hO hT hk ha) hM (hO) rfl rfl hl.1 rfl (Nat.le_of_ble_eq_true rfl) ⟨rfl, rfl, Nat.le_of_ble_eq_true rfl, Nat.le_of_ble_eq_true rfl, Nat.zero_le _, Nat.zero_le _⟩ dX10_readNumber_1 hS (fun z1 E1 H locs hp hM hS => ?_)
  obtain ⟨hz1, hO, fr⟩ := hp
  have hT := (fr _ (by omega)).trans hT
  have hfr := (fun q h => (fr q (by omega)).trans (hfr q h) : ∀ q : Nat, q ≠ h → E1 q = E0 q)
  rw [← hs1] at hO
  refine lv_pop C0.1 C0.2.1 dX10_readNumber_4 rfl ?_
  refine lv_aload_n C0.1 C0.2.1 dX10_readNumber_5 rfl (lv_at hl 0 rfl) ?_
  refine mm_get (fs := [.ref (h + 1), .ref (h + 2), .ref (h + 3), .ref (h + 4), .int (zI ((L : Int))), .int (zI ((s1 : Int))), .long (zL (x3)), .ref (h + 5), .ref (h + 6), .ref (h + 7), .ref (h + 8), .int (zI (x4)), .int (zI (x5)), .int (zI (x6)), .int (zI (x7)), .int (zI (x8)), .ref (h + 9), .ref (h + 10), .ref (h + 11), .ref (h + 12)]) C0 (C := RX10) (T := TX10) (N := 20) iG_X10 hM (hO) rfl 5 (by decide) tw_921 rfl rfl dX10_readNumber_6 ?_
  refine lv_istore (lv' := [(6, .int (zI ((s1 : Int)))), (0, .ref (h)), (1, .int (zI (18))), (2, .long (zL (lo))), (4, .long (zL (hi)))]) C0.1 C0.2.1 dX10_readNumber_9 hl (by decide) rfl (fun ls hl => ?_)
  refine lv_aload_n C0.1 C0.2.1 dX10_readNumber_11 rfl (lv_at hl 1 rfl) ?_
  refine lv_lconst (v := zL 0) C0.1 C0.2.1 dX10_readNumber_12 rfl ?_
  refine mm_put (v := .long (zL (0))) (fs := [.ref (h + 1), .ref (h + 2), .ref (h + 3), .ref (h + 4), .int (zI ((L : Int))), .int (zI ((s1 : Int))), .long (zL (x3)), .ref (h + 5), .ref (h + 6), .ref (h + 7), .ref (h + 8), .int (zI (x4)), .int (zI (x5)), .int (zI (x6)), .int (zI (x7)), .int (zI (x8)), .ref (h + 9), .ref (h + 10), .ref (h + 11), .ref (h + 12)]) C0 (C := RX10) (T := TX10) (N := 20) iG_X10 tyX10 tyX10_ok nmX10 hM hS (hO) rfl 6 (by decide) tw_922 rfl rfl (ty := tyX10 6) (tyX10_ok 6 (by decide)) rfl rfl (Nat.le_of_ble_eq_true rfl) dX10_readNumber_13 (fun H locs hM hS hsz => ?_)
  obtain ⟨E2, hE2⟩ : ∃ X : mE, X = mm_up E1 (h) (.inr (9, [.ref (h + 1), .ref (h + 2), .ref (h + 3), .ref (h + 4), .int (zI ((L : Int))), .int (zI ((s1 : Int))), .long (zL (0)), .ref (h + 5), .ref (h + 6), .ref (h + 7), .ref (h + 8), .int (zI (x4)), .int (zI (x5)), .int (zI (x6)), .int (zI (x7)), .int (zI (x8)), .ref (h + 9), .ref (h + 10), .ref (h + 11), .ref (h + 12)])) := ⟨_, rfl⟩
  replace hM : mm_M G E2 H := by rw [hE2]; exact hM
  have frs : ∀ q : Nat, q ≠ h → E2 q = E1 q := fun q h => by rw [hE2]; exact mm_up_n _ _ h
  have hat : E2 (h) = some (.inr (9, [.ref (h + 1), .ref (h + 2), .ref (h + 3), .ref (h + 4), .int (zI ((L : Int))), .int (zI ((s1 : Int))), .long (zL (0)), .ref (h + 5), .ref (h + 6), .ref (h + 7), .ref (h + 8), .int (zI (x4)), .int (zI (x5)), .int (zI (x6)), .int (zI (x7)), .int (zI (x8)), .ref (h + 9), .ref (h + 10), .ref (h + 11), .ref (h + 12)])) := by rw [hE2]; exact mm_up_s _ _ _
  have hO : ro G E2 h (L : Int) (s1 : Int) 0 x4 x5 x6 x7 x8 := hat
  have hT := (frs _ (by omega)).trans hT
  have hfr := (fun q h => (frs q (by omega)).trans (hfr q h) : ∀ q : Nat, q ≠ h → E2 q = E0 q)
  have L16 : ∀ (k16 : Nat) (j : Nat) (E3 : mE) (H : Heap) (locs : List Loc) (ls : Array Slot), (s1 + j ≤ L) → (j ≤ 19) → (∀ i, i < j → fig (B (s1 + i))) → (fe B L (s1 + j) = fe B L s1) → (ro G E3 h (L : Int) ((s1 + j : Nat) : Int) (rv B s1 j) x4 x5 x6 x7 x8) → (E3 (h + 4) = some (mm_I G 100 B)) → (∀ q : Nat, q ≠ h → E3 q = E0 q) → L - (s1 + j) < k16 → mm_M G E3 H → va_S (mm_A G) s.heap H locs → lv_has ls 7 [(0, .ref (h)), (1, .int (zI (18))), (2, .long (zL (lo))), (4, .long (zL (hi))), (6, .int (zI ((s1 : Int))))] → W p l e rX10_readNumber s m args below meth c H locs 0 0 (mm_Zi G below args s (fun z E => ((z = 1 ∧ ¬ rnX B L a lo hi ∧ ro G E h (L : Int) ((rnE B L a : Nat) : Int) (rnV B L a) x4 x5 x6 x7 x8 ∧ rnE B L a ≤ L) ∨ (z = 0 ∧ rnX B L a lo hi ∧ ∃ y3, ro G E h (L : Int) ((skp B L a : Nat) : Int) y3 x4 x5 x6 x7 x8)) ∧ ∀ q : Nat, q ≠ h → E q = E0 q)) (F0 m 16 ls []) := by
    intro k16
    induction k16 with
    | zero => intro j E3 H locs ls hj hj19 hfg hfe hO hT hfr hk hM hS hl; exact absurd hk (Nat.not_lt_zero _)
    | succ k16 ih16 =>
      intro j E3 H locs ls hj hj19 hfg hfe hO hT hfr hk16 hM hS hl
      obtain ⟨hrv1, hrv2⟩ := rv_ub hfg
      obtain ⟨ed, hed⟩ : ∃ e, e = fe B L s1 := ⟨_, rfl⟩
      rw [← hed] at hfe
      have hEb : s1 ≤ fe B L s1 ∧ fe B L s1 ≤ L := ⟨(fe_le _ _ (Nat.le_refl _) hsb.1).2, (fe_le _ _ (Nat.le_refl _) hsb.1).1⟩
      rw [← hed] at hEb
      have hrE : rnE B L a = ed := by unfold rnE; rw [← hs1, hed]
      have hrV : rnV B L a = rv B s1 (ed - s1) := by unfold rnV; rw [hrE, ← hs1]
      have hEj := (fe_le (B := B) _ (s1 + j) (Nat.le_refl _) hj)
      rw [hfe] at hEj
      refine lv_aload_n C0.1 C0.2.1 dX10_readNumber_16 rfl (lv_at hl 0 rfl) ?_
      refine mm_get (fs := [.ref (h + 1), .ref (h + 2), .ref (h + 3), .ref (h + 4), .int (zI ((L : Int))), .int (zI (((s1 + j : Nat) : Int))), .long (zL ((rv B s1 j))), .ref (h + 5), .ref (h + 6), .ref (h + 7), .ref (h + 8), .int (zI (x4)), .int (zI (x5)), .int (zI (x6)), .int (zI (x7)), .int (zI (x8)), .ref (h + 9), .ref (h + 10), .ref (h + 11), .ref (h + 12)]) C0 (C := RX10) (T := TX10) (N := 20) iG_X10 hM (hO) rfl 5 (by decide) tw_921 rfl rfl dX10_readNumber_17 ?_
      refine lv_aload_n C0.1 C0.2.1 dX10_readNumber_20 rfl (lv_at hl 0 rfl) ?_
      refine mm_get (fs := [.ref (h + 1), .ref (h + 2), .ref (h + 3), .ref (h + 4), .int (zI ((L : Int))), .int (zI (((s1 + j : Nat) : Int))), .long (zL ((rv B s1 j))), .ref (h + 5), .ref (h + 6), .ref (h + 7), .ref (h + 8), .int (zI (x4)), .int (zI (x5)), .int (zI (x6)), .int (zI (x7)), .int (zI (x8)), .ref (h + 9), .ref (h + 10), .ref (h + 11), .ref (h + 12)]) C0 (C := RX10) (T := TX10) (N := 20) iG_X10 hM (hO) rfl 4 (by decide) tw_920 rfl rfl dX10_readNumber_21 ?_
      refine z_icmp_ge (tgt := 118) C0.1 C0.2.1 dX10_readNumber_24 (by decide) ⟨by omega, by omega⟩ ⟨by omega, by omega⟩ (fun c_24 => ?_) (fun c_24 => ?_)
      · skip
        have hend : ed = s1 + j := by omega
        refine lv_aload_n C0.1 C0.2.1 dX10_readNumber_118 rfl (lv_at hl 0 rfl) ?_
        refine mm_get (fs := [.ref (h + 1), .ref (h + 2), .ref (h + 3), .ref (h + 4), .int (zI ((L : Int))), .int (zI (((s1 + j : Nat) : Int))), .long (zL ((rv B s1 j))), .ref (h + 5), .ref (h + 6), .ref (h + 7), .ref (h + 8), .int (zI (x4)), .int (zI (x5)), .int (zI (x6)), .int (zI (x7)), .int (zI (x8)), .ref (h + 9), .ref (h + 10), .ref (h + 11), .ref (h + 12)]) C0 (C := RX10) (T := TX10) (N := 20) iG_X10 hM (hO) rfl 5 (by decide) tw_921 rfl rfl dX10_readNumber_119 ?_
        refine lv_iload C0.1 C0.2.1 dX10_readNumber_122 (lv_at hl 4 rfl) ?_
        refine z_icmp_ne (tgt := 129) C0.1 C0.2.1 dX10_readNumber_124 (by decide) ⟨by omega, by omega⟩ ⟨by omega, by omega⟩ (fun c_124 => ?_) (fun c_124 => ?_)
        · skip
          refine lv_aload_n C0.1 C0.2.1 dX10_readNumber_129 rfl (lv_at hl 0 rfl) ?_
          refine mm_get (fs := [.ref (h + 1), .ref (h + 2), .ref (h + 3), .ref (h + 4), .int (zI ((L : Int))), .int (zI (((s1 + j : Nat) : Int))), .long (zL ((rv B s1 j))), .ref (h + 5), .ref (h + 6), .ref (h + 7), .ref (h + 8), .int (zI (x4)), .int (zI (x5)), .int (zI (x6)), .int (zI (x7)), .int (zI (x8)), .ref (h + 9), .ref (h + 10), .ref (h + 11), .ref (h + 12)]) C0 (C := RX10) (T := TX10) (N := 20) iG_X10 hM (hO) rfl 5 (by decide) tw_921 rfl rfl dX10_readNumber_130 ?_
          refine lv_iload C0.1 C0.2.1 dX10_readNumber_133 (lv_at hl 4 rfl) ?_
          refine z_isub C0.1 C0.2.1 dX10_readNumber_135 ?_
          refine lv_iload_n C0.1 C0.2.1 dX10_readNumber_136 rfl (lv_at hl 1 rfl) ?_
          refine z_icmp_gt (tgt := 153) C0.1 C0.2.1 dX10_readNumber_137 (by decide) ⟨by omega, by omega⟩ ⟨by omega, by omega⟩ (fun c_137 => ?_) (fun c_137 => ?_)
          · skip
            refine lv_aload_n C0.1 C0.2.1 dX10_readNumber_153 rfl (lv_at hl 0 rfl) ?_
            refine lv_iload C0.1 C0.2.1 dX10_readNumber_154 (lv_at hl 4 rfl) ?_
            refine mm_put (v := .int (zI ((s1 : Int)))) (fs := [.ref (h + 1), .ref (h + 2), .ref (h + 3), .ref (h + 4), .int (zI ((L : Int))), .int (zI (((s1 + j : Nat) : Int))), .long (zL ((rv B s1 j))), .ref (h + 5), .ref (h + 6), .ref (h + 7), .ref (h + 8), .int (zI (x4)), .int (zI (x5)), .int (zI (x6)), .int (zI (x7)), .int (zI (x8)), .ref (h + 9), .ref (h + 10), .ref (h + 11), .ref (h + 12)]) C0 (C := RX10) (T := TX10) (N := 20) iG_X10 tyX10 tyX10_ok nmX10 hM hS (hO) rfl 5 (by decide) tw_921 rfl rfl (ty := tyX10 5) (tyX10_ok 5 (by decide)) rfl rfl (Nat.le_of_ble_eq_true rfl) dX10_readNumber_156 (fun H locs hM hS hsz => ?_)
            obtain ⟨E4, hE4⟩ : ∃ X : mE, X = mm_up E3 (h) (.inr (9, [.ref (h + 1), .ref (h + 2), .ref (h + 3), .ref (h + 4), .int (zI ((L : Int))), .int (zI ((s1 : Int))), .long (zL ((rv B s1 j))), .ref (h + 5), .ref (h + 6), .ref (h + 7), .ref (h + 8), .int (zI (x4)), .int (zI (x5)), .int (zI (x6)), .int (zI (x7)), .int (zI (x8)), .ref (h + 9), .ref (h + 10), .ref (h + 11), .ref (h + 12)])) := ⟨_, rfl⟩
            replace hM : mm_M G E4 H := by rw [hE4]; exact hM
            have frs : ∀ q : Nat, q ≠ h → E4 q = E3 q := fun q h => by rw [hE4]; exact mm_up_n _ _ h
            have hat : E4 (h) = some (.inr (9, [.ref (h + 1), .ref (h + 2), .ref (h + 3), .ref (h + 4), .int (zI ((L : Int))), .int (zI ((s1 : Int))), .long (zL ((rv B s1 j))), .ref (h + 5), .ref (h + 6), .ref (h + 7), .ref (h + 8), .int (zI (x4)), .int (zI (x5)), .int (zI (x6)), .int (zI (x7)), .int (zI (x8)), .ref (h + 9), .ref (h + 10), .ref (h + 11), .ref (h + 12)])) := by rw [hE4]; exact mm_up_s _ _ _
            have hO : ro G E4 h (L : Int) (s1 : Int) (rv B s1 j) x4 x5 x6 x7 x8 := hat
            have hT := (frs _ (by omega)).trans hT
            have hfr := (fun q h => (frs q (by omega)).trans (hfr q h) : ∀ q : Nat, q ≠ h → E4 q = E0 q)
            refine lv_iconst (v := zI 0) C0.1 C0.2.1 dX10_readNumber_159 rfl ?_
            exact mm_zret (z := 0) C0 hr hlk hM hS (by omega) dX10_readNumber_160 (⟨Or.inr ⟨rfl, Or.inr (Or.inl (by rw [hrE, ← hs1]; omega)), rv B s1 j, by rw [← hs1]; exact hO⟩, hfr⟩)
          · skip
            refine lv_aload_n C0.1 C0.2.1 dX10_readNumber_140 rfl (lv_at hl 0 rfl) ?_
            refine mm_get (fs := [.ref (h + 1), .ref (h + 2), .ref (h + 3), .ref (h + 4), .int (zI ((L : Int))), .int (zI (((s1 + j : Nat) : Int))), .long (zL ((rv B s1 j))), .ref (h + 5), .ref (h + 6), .ref (h + 7), .ref (h + 8), .int (zI (x4)), .int (zI (x5)), .int (zI (x6)), .int (zI (x7)), .int (zI (x8)), .ref (h + 9), .ref (h + 10), .ref (h + 11), .ref (h + 12)]) C0 (C := RX10) (T := TX10) (N := 20) iG_X10 hM (hO) rfl 6 (by decide) tw_922 rfl rfl dX10_readNumber_141 ?_
            refine lv_lload_n C0.1 C0.2.1 dX10_readNumber_144 rfl (lv_at hl 2 rfl) ?_
            refine lv_lload C0.1 C0.2.1 dX10_readNumber_145 (lv_at hl 3 rfl) ?_
            refine mm_callSi (As := [.long (zL ((rv B s1 j))), .long (zL (lo)), .long (zL (hi))]) C0 sw_X10_in tw_985 (c_X10_in l G _ (v := rv B s1 j) (lo := lo) (hi := hi) ⟨by omega, by omega⟩ ⟨by omega, by omega⟩ ⟨by omega, by omega⟩) hM rfl hl.1 rfl (Nat.le_of_ble_eq_true rfl) ⟨rfl, rfl, Nat.le_of_ble_eq_true rfl, Nat.le_of_ble_eq_true rfl, Nat.zero_le _, Nat.zero_le _⟩ dX10_readNumber_147 hS (fun z_147 E5 H locs hp hM hS => ?_)
            obtain ⟨hz_147, hEq⟩ := hp
            rw [hEq] at hM
            have hz_147b := if01 hz_147
            refine z_if_ne (tgt := 161) C0.1 C0.2.1 dX10_readNumber_150 (by decide) ⟨by omega, by omega⟩ (fun c_150 => ?_) (fun c_150 => ?_)
            · skip
              refine lv_iconst (v := zI 1) C0.1 C0.2.1 dX10_readNumber_161 rfl ?_
              exact mm_zret (z := 1) C0 hr hlk hM hS (by omega) dX10_readNumber_162 (⟨Or.inl ⟨rfl, fun q => by have q : _ ∨ _ ∨ _ ∨ _ := q; rw [hrV, hrE, ← hs1, show ed - s1 = j by omega] at q; omega, by rw [hrE, hrV, show ed - s1 = j by omega, show ed = s1 + j by omega]; exact hO, by omega⟩, hfr⟩)
            · skip
              refine lv_aload_n C0.1 C0.2.1 dX10_readNumber_153 rfl (lv_at hl 0 rfl) ?_
              refine lv_iload C0.1 C0.2.1 dX10_readNumber_154 (lv_at hl 4 rfl) ?_
              refine mm_put (v := .int (zI ((s1 : Int)))) (fs := [.ref (h + 1), .ref (h + 2), .ref (h + 3), .ref (h + 4), .int (zI ((L : Int))), .int (zI (((s1 + j : Nat) : Int))), .long (zL ((rv B s1 j))), .ref (h + 5), .ref (h + 6), .ref (h + 7), .ref (h + 8), .int (zI (x4)), .int (zI (x5)), .int (zI (x6)), .int (zI (x7)), .int (zI (x8)), .ref (h + 9), .ref (h + 10), .ref (h + 11), .ref (h + 12)]) C0 (C := RX10) (T := TX10) (N := 20) iG_X10 tyX10 tyX10_ok nmX10 hM hS (hO) rfl 5 (by decide) tw_921 rfl rfl (ty := tyX10 5) (tyX10_ok 5 (by decide)) rfl rfl (Nat.le_of_ble_eq_true rfl) dX10_readNumber_156 (fun H locs hM hS hsz => ?_)
              obtain ⟨E6, hE6⟩ : ∃ X : mE, X = mm_up E3 (h) (.inr (9, [.ref (h + 1), .ref (h + 2), .ref (h + 3), .ref (h + 4), .int (zI ((L : Int))), .int (zI ((s1 : Int))), .long (zL ((rv B s1 j))), .ref (h + 5), .ref (h + 6), .ref (h + 7), .ref (h + 8), .int (zI (x4)), .int (zI (x5)), .int (zI (x6)), .int (zI (x7)), .int (zI (x8)), .ref (h + 9), .ref (h + 10), .ref (h + 11), .ref (h + 12)])) := ⟨_, rfl⟩
              replace hM : mm_M G E6 H := by rw [hE6]; exact hM
              have frs : ∀ q : Nat, q ≠ h → E6 q = E3 q := fun q h => by rw [hE6]; exact mm_up_n _ _ h
              have hat : E6 (h) = some (.inr (9, [.ref (h + 1), .ref (h + 2), .ref (h + 3), .ref (h + 4), .int (zI ((L : Int))), .int (zI ((s1 : Int))), .long (zL ((rv B s1 j))), .ref (h + 5), .ref (h + 6), .ref (h + 7), .ref (h + 8), .int (zI (x4)), .int (zI (x5)), .int (zI (x6)), .int (zI (x7)), .int (zI (x8)), .ref (h + 9), .ref (h + 10), .ref (h + 11), .ref (h + 12)])) := by rw [hE6]; exact mm_up_s _ _ _
              have hO : ro G E6 h (L : Int) (s1 : Int) (rv B s1 j) x4 x5 x6 x7 x8 := hat
              have hT := (frs _ (by omega)).trans hT
              have hfr := (fun q h => (frs q (by omega)).trans (hfr q h) : ∀ q : Nat, q ≠ h → E6 q = E0 q)
              refine lv_iconst (v := zI 0) C0.1 C0.2.1 dX10_readNumber_159 rfl ?_
              exact mm_zret (z := 0) C0 hr hlk hM hS (by omega) dX10_readNumber_160 (⟨Or.inr ⟨rfl, Or.inr (Or.inr (by rw [hrV, show ed - s1 = j by omega]; omega)), rv B s1 j, by rw [← hs1]; exact hO⟩, hfr⟩)
        · skip
          refine lv_iconst (v := zI 0) C0.1 C0.2.1 dX10_readNumber_127 rfl ?_
          exact mm_zret (z := 0) C0 hr hlk hM hS (by omega) dX10_readNumber_128 (⟨Or.inr ⟨rfl, Or.inl (by rw [hrE]; omega), rv B s1 j, by rw [← hs1, show ((s1 : Nat) : Int) = ((s1 + j : Nat) : Int) by omega]; exact hO⟩, hfr⟩)
      · skip
        refine lv_aload_n C0.1 C0.2.1 dX10_readNumber_27 rfl (lv_at hl 0 rfl) ?_
        refine mm_get (fs := [.ref (h + 1), .ref (h + 2), .ref (h + 3), .ref (h + 4), .int (zI ((L : Int))), .int (zI (((s1 + j : Nat) : Int))), .long (zL ((rv B s1 j))), .ref (h + 5), .ref (h + 6), .ref (h + 7), .ref (h + 8), .int (zI (x4)), .int (zI (x5)), .int (zI (x6)), .int (zI (x7)), .int (zI (x8)), .ref (h + 9), .ref (h + 10), .ref (h + 11), .ref (h + 12)]) C0 (C := RX10) (T := TX10) (N := 20) iG_X10 hM (hO) rfl 3 (by decide) tw_919 rfl rfl dX10_readNumber_28 ?_
        refine lv_aload_n C0.1 C0.2.1 dX10_readNumber_31 rfl (lv_at hl 0 rfl) ?_
        refine mm_get (fs := [.ref (h + 1), .ref (h + 2), .ref (h + 3), .ref (h + 4), .int (zI ((L : Int))), .int (zI (((s1 + j : Nat) : Int))), .long (zL ((rv B s1 j))), .ref (h + 5), .ref (h + 6), .ref (h + 7), .ref (h + 8), .int (zI (x4)), .int (zI (x5)), .int (zI (x6)), .int (zI (x7)), .int (zI (x8)), .ref (h + 9), .ref (h + 10), .ref (h + 11), .ref (h + 12)]) C0 (C := RX10) (T := TX10) (N := 20) iG_X10 hM (hO) rfl 5 (by decide) tw_921 rfl rfl dX10_readNumber_32 ?_
        refine mm_iald C0 hM (g := B) (hT) (s1 + j) (i := ((s1 + j : Nat) : Int)) (by omega) (by omega) (by decide) dX10_readNumber_35 ?_
        have hbi := hk.2 (s1 + j) (by omega)
        obtain ⟨hbi1, hbi2⟩ := hbi
        refine z_i2l C0.1 C0.2.1 dX10_readNumber_36 ⟨by omega, by omega⟩ ?_
        refine mm_ldc2 (z := 48) C0 tw_1032 rfl dX10_readNumber_37 ?_
        refine mm_ldc2 (z := 57) C0 tw_1033 rfl dX10_readNumber_40 ?_
        refine mm_callSi (As := [.long (zL ((B) (s1 + j))), .long (zL (48)), .long (zL (57))]) C0 sw_X10_in tw_985 (c_X10_in l G _ (v := B (s1 + j)) (lo := 48) (hi := 57) ⟨by omega, by omega⟩ ⟨by omega, by omega⟩ ⟨by omega, by omega⟩) hM rfl hl.1 rfl (Nat.le_of_ble_eq_true rfl) ⟨rfl, rfl, Nat.le_of_ble_eq_true rfl, Nat.le_of_ble_eq_true rfl, Nat.zero_le _, Nat.zero_le _⟩ dX10_readNumber_43 hS (fun z_43 E7 H locs hp hM hS => ?_)
        obtain ⟨hz_43, hEq⟩ := hp
        rw [hEq] at hM
        have hz_43b := if01 hz_43
        refine z_if_eq (tgt := 118) C0.1 C0.2.1 dX10_readNumber_46 (by decide) ⟨by omega, by omega⟩ (fun c_46 => ?_) (fun c_46 => ?_)
        · skip
          have hend : ed = s1 + j := by rw [← hfe]; exact fe_e (fun q => by have q1 := q.2; unfold fig at q1; omega)
          refine lv_aload_n C0.1 C0.2.1 dX10_readNumber_118 rfl (lv_at hl 0 rfl) ?_
          refine mm_get (fs := [.ref (h + 1), .ref (h + 2), .ref (h + 3), .ref (h + 4), .int (zI ((L : Int))), .int (zI (((s1 + j : Nat) : Int))), .long (zL ((rv B s1 j))), .ref (h + 5), .ref (h + 6), .ref (h + 7), .ref (h + 8), .int (zI (x4)), .int (zI (x5)), .int (zI (x6)), .int (zI (x7)), .int (zI (x8)), .ref (h + 9), .ref (h + 10), .ref (h + 11), .ref (h + 12)]) C0 (C := RX10) (T := TX10) (N := 20) iG_X10 hM (hO) rfl 5 (by decide) tw_921 rfl rfl dX10_readNumber_119 ?_
          refine lv_iload C0.1 C0.2.1 dX10_readNumber_122 (lv_at hl 4 rfl) ?_
          refine z_icmp_ne (tgt := 129) C0.1 C0.2.1 dX10_readNumber_124 (by decide) ⟨by omega, by omega⟩ ⟨by omega, by omega⟩ (fun c_124 => ?_) (fun c_124 => ?_)
          · skip
            refine lv_aload_n C0.1 C0.2.1 dX10_readNumber_129 rfl (lv_at hl 0 rfl) ?_
            refine mm_get (fs := [.ref (h + 1), .ref (h + 2), .ref (h + 3), .ref (h + 4), .int (zI ((L : Int))), .int (zI (((s1 + j : Nat) : Int))), .long (zL ((rv B s1 j))), .ref (h + 5), .ref (h + 6), .ref (h + 7), .ref (h + 8), .int (zI (x4)), .int (zI (x5)), .int (zI (x6)), .int (zI (x7)), .int (zI (x8)), .ref (h + 9), .ref (h + 10), .ref (h + 11), .ref (h + 12)]) C0 (C := RX10) (T := TX10) (N := 20) iG_X10 hM (hO) rfl 5 (by decide) tw_921 rfl rfl dX10_readNumber_130 ?_
            refine lv_iload C0.1 C0.2.1 dX10_readNumber_133 (lv_at hl 4 rfl) ?_
            refine z_isub C0.1 C0.2.1 dX10_readNumber_135 ?_
            refine lv_iload_n C0.1 C0.2.1 dX10_readNumber_136 rfl (lv_at hl 1 rfl) ?_
            refine z_icmp_gt (tgt := 153) C0.1 C0.2.1 dX10_readNumber_137 (by decide) ⟨by omega, by omega⟩ ⟨by omega, by omega⟩ (fun c_137 => ?_) (fun c_137 => ?_)
            · skip
              refine lv_aload_n C0.1 C0.2.1 dX10_readNumber_153 rfl (lv_at hl 0 rfl) ?_
              refine lv_iload C0.1 C0.2.1 dX10_readNumber_154 (lv_at hl 4 rfl) ?_
              refine mm_put (v := .int (zI ((s1 : Int)))) (fs := [.ref (h + 1), .ref (h + 2), .ref (h + 3), .ref (h + 4), .int (zI ((L : Int))), .int (zI (((s1 + j : Nat) : Int))), .long (zL ((rv B s1 j))), .ref (h + 5), .ref (h + 6), .ref (h + 7), .ref (h + 8), .int (zI (x4)), .int (zI (x5)), .int (zI (x6)), .int (zI (x7)), .int (zI (x8)), .ref (h + 9), .ref (h + 10), .ref (h + 11), .ref (h + 12)]) C0 (C := RX10) (T := TX10) (N := 20) iG_X10 tyX10 tyX10_ok nmX10 hM hS (hO) rfl 5 (by decide) tw_921 rfl rfl (ty := tyX10 5) (tyX10_ok 5 (by decide)) rfl rfl (Nat.le_of_ble_eq_true rfl) dX10_readNumber_156 (fun H locs hM hS hsz => ?_)
              obtain ⟨E8, hE8⟩ : ∃ X : mE, X = mm_up E3 (h) (.inr (9, [.ref (h + 1), .ref (h + 2), .ref (h + 3), .ref (h + 4), .int (zI ((L : Int))), .int (zI ((s1 : Int))), .long (zL ((rv B s1 j))), .ref (h + 5), .ref (h + 6), .ref (h + 7), .ref (h + 8), .int (zI (x4)), .int (zI (x5)), .int (zI (x6)), .int (zI (x7)), .int (zI (x8)), .ref (h + 9), .ref (h + 10), .ref (h + 11), .ref (h + 12)])) := ⟨_, rfl⟩
              replace hM : mm_M G E8 H := by rw [hE8]; exact hM
              have frs : ∀ q : Nat, q ≠ h → E8 q = E3 q := fun q h => by rw [hE8]; exact mm_up_n _ _ h
              have hat : E8 (h) = some (.inr (9, [.ref (h + 1), .ref (h + 2), .ref (h + 3), .ref (h + 4), .int (zI ((L : Int))), .int (zI ((s1 : Int))), .long (zL ((rv B s1 j))), .ref (h + 5), .ref (h + 6), .ref (h + 7), .ref (h + 8), .int (zI (x4)), .int (zI (x5)), .int (zI (x6)), .int (zI (x7)), .int (zI (x8)), .ref (h + 9), .ref (h + 10), .ref (h + 11), .ref (h + 12)])) := by rw [hE8]; exact mm_up_s _ _ _
              have hO : ro G E8 h (L : Int) (s1 : Int) (rv B s1 j) x4 x5 x6 x7 x8 := hat
              have hT := (frs _ (by omega)).trans hT
              have hfr := (fun q h => (frs q (by omega)).trans (hfr q h) : ∀ q : Nat, q ≠ h → E8 q = E0 q)
              refine lv_iconst (v := zI 0) C0.1 C0.2.1 dX10_readNumber_159 rfl ?_
              exact mm_zret (z := 0) C0 hr hlk hM hS (by omega) dX10_readNumber_160 (⟨Or.inr ⟨rfl, Or.inr (Or.inl (by rw [hrE, ← hs1]; omega)), rv B s1 j, by rw [← hs1]; exact hO⟩, hfr⟩)
            · skip
              refine lv_aload_n C0.1 C0.2.1 dX10_readNumber_140 rfl (lv_at hl 0 rfl) ?_
              refine mm_get (fs := [.ref (h + 1), .ref (h + 2), .ref (h + 3), .ref (h + 4), .int (zI ((L : Int))), .int (zI (((s1 + j : Nat) : Int))), .long (zL ((rv B s1 j))), .ref (h + 5), .ref (h + 6), .ref (h + 7), .ref (h + 8), .int (zI (x4)), .int (zI (x5)), .int (zI (x6)), .int (zI (x7)), .int (zI (x8)), .ref (h + 9), .ref (h + 10), .ref (h + 11), .ref (h + 12)]) C0 (C := RX10) (T := TX10) (N := 20) iG_X10 hM (hO) rfl 6 (by decide) tw_922 rfl rfl dX10_readNumber_141 ?_
              refine lv_lload_n C0.1 C0.2.1 dX10_readNumber_144 rfl (lv_at hl 2 rfl) ?_
              refine lv_lload C0.1 C0.2.1 dX10_readNumber_145 (lv_at hl 3 rfl) ?_
              refine mm_callSi (As := [.long (zL ((rv B s1 j))), .long (zL (lo)), .long (zL (hi))]) C0 sw_X10_in tw_985 (c_X10_in l G _ (v := rv B s1 j) (lo := lo) (hi := hi) ⟨by omega, by omega⟩ ⟨by omega, by omega⟩ ⟨by omega, by omega⟩) hM rfl hl.1 rfl (Nat.le_of_ble_eq_true rfl) ⟨rfl, rfl, Nat.le_of_ble_eq_true rfl, Nat.le_of_ble_eq_true rfl, Nat.zero_le _, Nat.zero_le _⟩ dX10_readNumber_147 hS (fun z_147 E9 H locs hp hM hS => ?_)
              obtain ⟨hz_147, hEq⟩ := hp
              rw [hEq] at hM
              have hz_147b := if01 hz_147
              refine z_if_ne (tgt := 161) C0.1 C0.2.1 dX10_readNumber_150 (by decide) ⟨by omega, by omega⟩ (fun c_150 => ?_) (fun c_150 => ?_)
              · skip
                refine lv_iconst (v := zI 1) C0.1 C0.2.1 dX10_readNumber_161 rfl ?_
                exact mm_zret (z := 1) C0 hr hlk hM hS (by omega) dX10_readNumber_162 (⟨Or.inl ⟨rfl, fun q => by have q : _ ∨ _ ∨ _ ∨ _ := q; rw [hrV, hrE, ← hs1, show ed - s1 = j by omega] at q; omega, by rw [hrE, hrV, show ed - s1 = j by omega, show ed = s1 + j by omega]; exact hO, by omega⟩, hfr⟩)
              · skip
                refine lv_aload_n C0.1 C0.2.1 dX10_readNumber_153 rfl (lv_at hl 0 rfl) ?_
                refine lv_iload C0.1 C0.2.1 dX10_readNumber_154 (lv_at hl 4 rfl) ?_
                refine mm_put (v := .int (zI ((s1 : Int)))) (fs := [.ref (h + 1), .ref (h + 2), .ref (h + 3), .ref (h + 4), .int (zI ((L : Int))), .int (zI (((s1 + j : Nat) : Int))), .long (zL ((rv B s1 j))), .ref (h + 5), .ref (h + 6), .ref (h + 7), .ref (h + 8), .int (zI (x4)), .int (zI (x5)), .int (zI (x6)), .int (zI (x7)), .int (zI (x8)), .ref (h + 9), .ref (h + 10), .ref (h + 11), .ref (h + 12)]) C0 (C := RX10) (T := TX10) (N := 20) iG_X10 tyX10 tyX10_ok nmX10 hM hS (hO) rfl 5 (by decide) tw_921 rfl rfl (ty := tyX10 5) (tyX10_ok 5 (by decide)) rfl rfl (Nat.le_of_ble_eq_true rfl) dX10_readNumber_156 (fun H locs hM hS hsz => ?_)
                obtain ⟨E10, hE10⟩ : ∃ X : mE, X = mm_up E3 (h) (.inr (9, [.ref (h + 1), .ref (h + 2), .ref (h + 3), .ref (h + 4), .int (zI ((L : Int))), .int (zI ((s1 : Int))), .long (zL ((rv B s1 j))), .ref (h + 5), .ref (h + 6), .ref (h + 7), .ref (h + 8), .int (zI (x4)), .int (zI (x5)), .int (zI (x6)), .int (zI (x7)), .int (zI (x8)), .ref (h + 9), .ref (h + 10), .ref (h + 11), .ref (h + 12)])) := ⟨_, rfl⟩
                replace hM : mm_M G E10 H := by rw [hE10]; exact hM
                have frs : ∀ q : Nat, q ≠ h → E10 q = E3 q := fun q h => by rw [hE10]; exact mm_up_n _ _ h
                have hat : E10 (h) = some (.inr (9, [.ref (h + 1), .ref (h + 2), .ref (h + 3), .ref (h + 4), .int (zI ((L : Int))), .int (zI ((s1 : Int))), .long (zL ((rv B s1 j))), .ref (h + 5), .ref (h + 6), .ref (h + 7), .ref (h + 8), .int (zI (x4)), .int (zI (x5)), .int (zI (x6)), .int (zI (x7)), .int (zI (x8)), .ref (h + 9), .ref (h + 10), .ref (h + 11), .ref (h + 12)])) := by rw [hE10]; exact mm_up_s _ _ _
                have hO : ro G E10 h (L : Int) (s1 : Int) (rv B s1 j) x4 x5 x6 x7 x8 := hat
                have hT := (frs _ (by omega)).trans hT
                have hfr := (fun q h => (frs q (by omega)).trans (hfr q h) : ∀ q : Nat, q ≠ h → E10 q = E0 q)
                refine lv_iconst (v := zI 0) C0.1 C0.2.1 dX10_readNumber_159 rfl ?_
                exact mm_zret (z := 0) C0 hr hlk hM hS (by omega) dX10_readNumber_160 (⟨Or.inr ⟨rfl, Or.inr (Or.inr (by rw [hrV, show ed - s1 = j by omega]; omega)), rv B s1 j, by rw [← hs1]; exact hO⟩, hfr⟩)
          · skip
            refine lv_iconst (v := zI 0) C0.1 C0.2.1 dX10_readNumber_127 rfl ?_
            exact mm_zret (z := 0) C0 hr hlk hM hS (by omega) dX10_readNumber_128 (⟨Or.inr ⟨rfl, Or.inl (by rw [hrE]; omega), rv B s1 j, by rw [← hs1, show ((s1 : Nat) : Int) = ((s1 + j : Nat) : Int) by omega]; exact hO⟩, hfr⟩)
        · skip
          have hfj : fig (B (s1 + j)) := ⟨by omega, by omega⟩
          have hlt : s1 + j + 1 ≤ ed := by have h9 := fe_s (L := L) (show s1 + j < L by omega) hfj; rw [hfe] at h9; have h8 := (fe_le (B := B) (L := L) _ (s1 + j + 1) (Nat.le_refl _) (by omega)).2; omega
          refine lv_aload_n C0.1 C0.2.1 dX10_readNumber_49 rfl (lv_at hl 0 rfl) ?_
          refine mm_get (fs := [.ref (h + 1), .ref (h + 2), .ref (h + 3), .ref (h + 4), .int (zI ((L : Int))), .int (zI (((s1 + j : Nat) : Int))), .long (zL ((rv B s1 j))), .ref (h + 5), .ref (h + 6), .ref (h + 7), .ref (h + 8), .int (zI (x4)), .int (zI (x5)), .int (zI (x6)), .int (zI (x7)), .int (zI (x8)), .ref (h + 9), .ref (h + 10), .ref (h + 11), .ref (h + 12)]) C0 (C := RX10) (T := TX10) (N := 20) iG_X10 hM (hO) rfl 5 (by decide) tw_921 rfl rfl dX10_readNumber_50 ?_
          refine lv_iload C0.1 C0.2.1 dX10_readNumber_53 (lv_at hl 4 rfl) ?_
          refine z_isub C0.1 C0.2.1 dX10_readNumber_55 ?_
          refine lv_iload_n C0.1 C0.2.1 dX10_readNumber_56 rfl (lv_at hl 1 rfl) ?_
          refine z_icmp_gt (tgt := 118) C0.1 C0.2.1 dX10_readNumber_57 (by decide) ⟨by omega, by omega⟩ ⟨by omega, by omega⟩ (fun c_57 => ?_) (fun c_57 => ?_)
          · skip
            have hend : 19 ≤ ed - s1 ∧ j = 19 := by omega
            refine lv_aload_n C0.1 C0.2.1 dX10_readNumber_118 rfl (lv_at hl 0 rfl) ?_
            refine mm_get (fs := [.ref (h + 1), .ref (h + 2), .ref (h + 3), .ref (h + 4), .int (zI ((L : Int))), .int (zI (((s1 + j : Nat) : Int))), .long (zL ((rv B s1 j))), .ref (h + 5), .ref (h + 6), .ref (h + 7), .ref (h + 8), .int (zI (x4)), .int (zI (x5)), .int (zI (x6)), .int (zI (x7)), .int (zI (x8)), .ref (h + 9), .ref (h + 10), .ref (h + 11), .ref (h + 12)]) C0 (C := RX10) (T := TX10) (N := 20) iG_X10 hM (hO) rfl 5 (by decide) tw_921 rfl rfl dX10_readNumber_119 ?_
            refine lv_iload C0.1 C0.2.1 dX10_readNumber_122 (lv_at hl 4 rfl) ?_
            refine z_icmp_ne (tgt := 129) C0.1 C0.2.1 dX10_readNumber_124 (by decide) ⟨by omega, by omega⟩ ⟨by omega, by omega⟩ (fun c_124 => ?_) (fun c_124 => ?_)
            · skip
              refine lv_aload_n C0.1 C0.2.1 dX10_readNumber_129 rfl (lv_at hl 0 rfl) ?_
              refine mm_get (fs := [.ref (h + 1), .ref (h + 2), .ref (h + 3), .ref (h + 4), .int (zI ((L : Int))), .int (zI (((s1 + j : Nat) : Int))), .long (zL ((rv B s1 j))), .ref (h + 5), .ref (h + 6), .ref (h + 7), .ref (h + 8), .int (zI (x4)), .int (zI (x5)), .int (zI (x6)), .int (zI (x7)), .int (zI (x8)), .ref (h + 9), .ref (h + 10), .ref (h + 11), .ref (h + 12)]) C0 (C := RX10) (T := TX10) (N := 20) iG_X10 hM (hO) rfl 5 (by decide) tw_921 rfl rfl dX10_readNumber_130 ?_
              refine lv_iload C0.1 C0.2.1 dX10_readNumber_133 (lv_at hl 4 rfl) ?_
              refine z_isub C0.1 C0.2.1 dX10_readNumber_135 ?_
              refine lv_iload_n C0.1 C0.2.1 dX10_readNumber_136 rfl (lv_at hl 1 rfl) ?_
              refine z_icmp_gt (tgt := 153) C0.1 C0.2.1 dX10_readNumber_137 (by decide) ⟨by omega, by omega⟩ ⟨by omega, by omega⟩ (fun c_137 => ?_) (fun c_137 => ?_)
              · skip
                refine lv_aload_n C0.1 C0.2.1 dX10_readNumber_153 rfl (lv_at hl 0 rfl) ?_
                refine lv_iload C0.1 C0.2.1 dX10_readNumber_154 (lv_at hl 4 rfl) ?_
                refine mm_put (v := .int (zI ((s1 : Int)))) (fs := [.ref (h + 1), .ref (h + 2), .ref (h + 3), .ref (h + 4), .int (zI ((L : Int))), .int (zI (((s1 + j : Nat) : Int))), .long (zL ((rv B s1 j))), .ref (h + 5), .ref (h + 6), .ref (h + 7), .ref (h + 8), .int (zI (x4)), .int (zI (x5)), .int (zI (x6)), .int (zI (x7)), .int (zI (x8)), .ref (h + 9), .ref (h + 10), .ref (h + 11), .ref (h + 12)]) C0 (C := RX10) (T := TX10) (N := 20) iG_X10 tyX10 tyX10_ok nmX10 hM hS (hO) rfl 5 (by decide) tw_921 rfl rfl (ty := tyX10 5) (tyX10_ok 5 (by decide)) rfl rfl (Nat.le_of_ble_eq_true rfl) dX10_readNumber_156 (fun H locs hM hS hsz => ?_)
                obtain ⟨E11, hE11⟩ : ∃ X : mE, X = mm_up E3 (h) (.inr (9, [.ref (h + 1), .ref (h + 2), .ref (h + 3), .ref (h + 4), .int (zI ((L : Int))), .int (zI ((s1 : Int))), .long (zL ((rv B s1 j))), .ref (h + 5), .ref (h + 6), .ref (h + 7), .ref (h + 8), .int (zI (x4)), .int (zI (x5)), .int (zI (x6)), .int (zI (x7)), .int (zI (x8)), .ref (h + 9), .ref (h + 10), .ref (h + 11), .ref (h + 12)])) := ⟨_, rfl⟩
                replace hM : mm_M G E11 H := by rw [hE11]; exact hM
                have frs : ∀ q : Nat, q ≠ h → E11 q = E3 q := fun q h => by rw [hE11]; exact mm_up_n _ _ h
                have hat : E11 (h) = some (.inr (9, [.ref (h + 1), .ref (h + 2), .ref (h + 3), .ref (h + 4), .int (zI ((L : Int))), .int (zI ((s1 : Int))), .long (zL ((rv B s1 j))), .ref (h + 5), .ref (h + 6), .ref (h + 7), .ref (h + 8), .int (zI (x4)), .int (zI (x5)), .int (zI (x6)), .int (zI (x7)), .int (zI (x8)), .ref (h + 9), .ref (h + 10), .ref (h + 11), .ref (h + 12)])) := by rw [hE11]; exact mm_up_s _ _ _
                have hO : ro G E11 h (L : Int) (s1 : Int) (rv B s1 j) x4 x5 x6 x7 x8 := hat
                have hT := (frs _ (by omega)).trans hT
                have hfr := (fun q h => (frs q (by omega)).trans (hfr q h) : ∀ q : Nat, q ≠ h → E11 q = E0 q)
                refine lv_iconst (v := zI 0) C0.1 C0.2.1 dX10_readNumber_159 rfl ?_
                exact mm_zret (z := 0) C0 hr hlk hM hS (by omega) dX10_readNumber_160 (⟨Or.inr ⟨rfl, Or.inr (Or.inl (by rw [hrE, ← hs1]; omega)), rv B s1 j, by rw [← hs1]; exact hO⟩, hfr⟩)
              · skip
                refine lv_aload_n C0.1 C0.2.1 dX10_readNumber_140 rfl (lv_at hl 0 rfl) ?_
                refine mm_get (fs := [.ref (h + 1), .ref (h + 2), .ref (h + 3), .ref (h + 4), .int (zI ((L : Int))), .int (zI (((s1 + j : Nat) : Int))), .long (zL ((rv B s1 j))), .ref (h + 5), .ref (h + 6), .ref (h + 7), .ref (h + 8), .int (zI (x4)), .int (zI (x5)), .int (zI (x6)), .int (zI (x7)), .int (zI (x8)), .ref (h + 9), .ref (h + 10), .ref (h + 11), .ref (h + 12)]) C0 (C := RX10) (T := TX10) (N := 20) iG_X10 hM (hO) rfl 6 (by decide) tw_922 rfl rfl dX10_readNumber_141 ?_
                refine lv_lload_n C0.1 C0.2.1 dX10_readNumber_144 rfl (lv_at hl 2 rfl) ?_
                refine lv_lload C0.1 C0.2.1 dX10_readNumber_145 (lv_at hl 3 rfl) ?_
                refine mm_callSi (As := [.long (zL ((rv B s1 j))), .long (zL (lo)), .long (zL (hi))]) C0 sw_X10_in tw_985 (c_X10_in l G _ (v := rv B s1 j) (lo := lo) (hi := hi) ⟨by omega, by omega⟩ ⟨by omega, by omega⟩ ⟨by omega, by omega⟩) hM rfl hl.1 rfl (Nat.le_of_ble_eq_true rfl) ⟨rfl, rfl, Nat.le_of_ble_eq_true rfl, Nat.le_of_ble_eq_true rfl, Nat.zero_le _, Nat.zero_le _⟩ dX10_readNumber_147 hS (fun z_147 E12 H locs hp hM hS => ?_)
                obtain ⟨hz_147, hEq⟩ := hp
                rw [hEq] at hM
                have hz_147b := if01 hz_147
                refine z_if_ne (tgt := 161) C0.1 C0.2.1 dX10_readNumber_150 (by decide) ⟨by omega, by omega⟩ (fun c_150 => ?_) (fun c_150 => ?_)
                · skip
                  refine lv_iconst (v := zI 1) C0.1 C0.2.1 dX10_readNumber_161 rfl ?_
                  exact mm_zret (z := 1) C0 hr hlk hM hS (by omega) dX10_readNumber_162 (⟨Or.inl ⟨rfl, fun q => by have q : _ ∨ _ ∨ _ ∨ _ := q; rw [hrV, hrE, ← hs1, show ed - s1 = j by omega] at q; omega, by rw [hrE, hrV, show ed - s1 = j by omega, show ed = s1 + j by omega]; exact hO, by omega⟩, hfr⟩)
                · skip
                  refine lv_aload_n C0.1 C0.2.1 dX10_readNumber_153 rfl (lv_at hl 0 rfl) ?_
                  refine lv_iload C0.1 C0.2.1 dX10_readNumber_154 (lv_at hl 4 rfl) ?_
                  refine mm_put (v := .int (zI ((s1 : Int)))) (fs := [.ref (h + 1), .ref (h + 2), .ref (h + 3), .ref (h + 4), .int (zI ((L : Int))), .int (zI (((s1 + j : Nat) : Int))), .long (zL ((rv B s1 j))), .ref (h + 5), .ref (h + 6), .ref (h + 7), .ref (h + 8), .int (zI (x4)), .int (zI (x5)), .int (zI (x6)), .int (zI (x7)), .int (zI (x8)), .ref (h + 9), .ref (h + 10), .ref (h + 11), .ref (h + 12)]) C0 (C := RX10) (T := TX10) (N := 20) iG_X10 tyX10 tyX10_ok nmX10 hM hS (hO) rfl 5 (by decide) tw_921 rfl rfl (ty := tyX10 5) (tyX10_ok 5 (by decide)) rfl rfl (Nat.le_of_ble_eq_true rfl) dX10_readNumber_156 (fun H locs hM hS hsz => ?_)
                  obtain ⟨E13, hE13⟩ : ∃ X : mE, X = mm_up E3 (h) (.inr (9, [.ref (h + 1), .ref (h + 2), .ref (h + 3), .ref (h + 4), .int (zI ((L : Int))), .int (zI ((s1 : Int))), .long (zL ((rv B s1 j))), .ref (h + 5), .ref (h + 6), .ref (h + 7), .ref (h + 8), .int (zI (x4)), .int (zI (x5)), .int (zI (x6)), .int (zI (x7)), .int (zI (x8)), .ref (h + 9), .ref (h + 10), .ref (h + 11), .ref (h + 12)])) := ⟨_, rfl⟩
                  replace hM : mm_M G E13 H := by rw [hE13]; exact hM
                  have frs : ∀ q : Nat, q ≠ h → E13 q = E3 q := fun q h => by rw [hE13]; exact mm_up_n _ _ h
                  have hat : E13 (h) = some (.inr (9, [.ref (h + 1), .ref (h + 2), .ref (h + 3), .ref (h + 4), .int (zI ((L : Int))), .int (zI ((s1 : Int))), .long (zL ((rv B s1 j))), .ref (h + 5), .ref (h + 6), .ref (h + 7), .ref (h + 8), .int (zI (x4)), .int (zI (x5)), .int (zI (x6)), .int (zI (x7)), .int (zI (x8)), .ref (h + 9), .ref (h + 10), .ref (h + 11), .ref (h + 12)])) := by rw [hE13]; exact mm_up_s _ _ _
                  have hO : ro G E13 h (L : Int) (s1 : Int) (rv B s1 j) x4 x5 x6 x7 x8 := hat
                  have hT := (frs _ (by omega)).trans hT
                  have hfr := (fun q h => (frs q (by omega)).trans (hfr q h) : ∀ q : Nat, q ≠ h → E13 q = E0 q)
                  refine lv_iconst (v := zI 0) C0.1 C0.2.1 dX10_readNumber_159 rfl ?_
                  exact mm_zret (z := 0) C0 hr hlk hM hS (by omega) dX10_readNumber_160 (⟨Or.inr ⟨rfl, Or.inr (Or.inr (by rw [hrV, show ed - s1 = j by omega]; omega)), rv B s1 j, by rw [← hs1]; exact hO⟩, hfr⟩)
            · skip
              refine lv_iconst (v := zI 0) C0.1 C0.2.1 dX10_readNumber_127 rfl ?_
              exact mm_zret (z := 0) C0 hr hlk hM hS (by omega) dX10_readNumber_128 (⟨Or.inr ⟨rfl, Or.inl (by rw [hrE]; omega), rv B s1 j, by rw [← hs1, show ((s1 : Nat) : Int) = ((s1 + j : Nat) : Int) by omega]; exact hO⟩, hfr⟩)
          · skip
            refine lv_aload_n C0.1 C0.2.1 dX10_readNumber_60 rfl (lv_at hl 0 rfl) ?_
            refine lv_aload_n C0.1 C0.2.1 dX10_readNumber_61 rfl (lv_at hl 0 rfl) ?_
            refine mm_get (fs := [.ref (h + 1), .ref (h + 2), .ref (h + 3), .ref (h + 4), .int (zI ((L : Int))), .int (zI (((s1 + j : Nat) : Int))), .long (zL ((rv B s1 j))), .ref (h + 5), .ref (h + 6), .ref (h + 7), .ref (h + 8), .int (zI (x4)), .int (zI (x5)), .int (zI (x6)), .int (zI (x7)), .int (zI (x8)), .ref (h + 9), .ref (h + 10), .ref (h + 11), .ref (h + 12)]) C0 (C := RX10) (T := TX10) (N := 20) iG_X10 hM (hO) rfl 5 (by decide) tw_921 rfl rfl dX10_readNumber_62 ?_
            refine lv_iload C0.1 C0.2.1 dX10_readNumber_65 (lv_at hl 4 rfl) ?_
            refine z_isub C0.1 C0.2.1 dX10_readNumber_67 ?_
            refine lv_iload_n C0.1 C0.2.1 dX10_readNumber_68 rfl (lv_at hl 1 rfl) ?_
            refine z_icmp_ge (tgt := 98) C0.1 C0.2.1 dX10_readNumber_69 (by decide) ⟨by omega, by omega⟩ ⟨by omega, by omega⟩ (fun c_69 => ?_) (fun c_69 => ?_)
            · skip
              refine lv_aload_n C0.1 C0.2.1 dX10_readNumber_98 rfl (lv_at hl 0 rfl) ?_
              refine mm_get (fs := [.ref (h + 1), .ref (h + 2), .ref (h + 3), .ref (h + 4), .int (zI ((L : Int))), .int (zI (((s1 + j : Nat) : Int))), .long (zL ((rv B s1 j))), .ref (h + 5), .ref (h + 6), .ref (h + 7), .ref (h + 8), .int (zI (x4)), .int (zI (x5)), .int (zI (x6)), .int (zI (x7)), .int (zI (x8)), .ref (h + 9), .ref (h + 10), .ref (h + 11), .ref (h + 12)]) C0 (C := RX10) (T := TX10) (N := 20) iG_X10 hM (hO) rfl 6 (by decide) tw_922 rfl rfl dX10_readNumber_99 ?_
              refine z_asL (a := (rv B s1 j)) (b := (rv B s1 (j + 1))) (by first | exact (rv_s (by omega)).symm | exact (rv_e (by omega)).symm) ?_
              refine mm_put (v := .long (zL ((rv B s1 (j + 1))))) (fs := [.ref (h + 1), .ref (h + 2), .ref (h + 3), .ref (h + 4), .int (zI ((L : Int))), .int (zI (((s1 + j : Nat) : Int))), .long (zL ((rv B s1 j))), .ref (h + 5), .ref (h + 6), .ref (h + 7), .ref (h + 8), .int (zI (x4)), .int (zI (x5)), .int (zI (x6)), .int (zI (x7)), .int (zI (x8)), .ref (h + 9), .ref (h + 10), .ref (h + 11), .ref (h + 12)]) C0 (C := RX10) (T := TX10) (N := 20) iG_X10 tyX10 tyX10_ok nmX10 hM hS (hO) rfl 6 (by decide) tw_922 rfl rfl (ty := tyX10 6) (tyX10_ok 6 (by decide)) rfl rfl (Nat.le_of_ble_eq_true rfl) dX10_readNumber_102 (fun H locs hM hS hsz => ?_)
              obtain ⟨E14, hE14⟩ : ∃ X : mE, X = mm_up E3 (h) (.inr (9, [.ref (h + 1), .ref (h + 2), .ref (h + 3), .ref (h + 4), .int (zI ((L : Int))), .int (zI (((s1 + j : Nat) : Int))), .long (zL ((rv B s1 (j + 1)))), .ref (h + 5), .ref (h + 6), .ref (h + 7), .ref (h + 8), .int (zI (x4)), .int (zI (x5)), .int (zI (x6)), .int (zI (x7)), .int (zI (x8)), .ref (h + 9), .ref (h + 10), .ref (h + 11), .ref (h + 12)])) := ⟨_, rfl⟩
              replace hM : mm_M G E14 H := by rw [hE14]; exact hM
              have frs : ∀ q : Nat, q ≠ h → E14 q = E3 q := fun q h => by rw [hE14]; exact mm_up_n _ _ h
              have hat : E14 (h) = some (.inr (9, [.ref (h + 1), .ref (h + 2), .ref (h + 3), .ref (h + 4), .int (zI ((L : Int))), .int (zI (((s1 + j : Nat) : Int))), .long (zL ((rv B s1 (j + 1)))), .ref (h + 5), .ref (h + 6), .ref (h + 7), .ref (h + 8), .int (zI (x4)), .int (zI (x5)), .int (zI (x6)), .int (zI (x7)), .int (zI (x8)), .ref (h + 9), .ref (h + 10), .ref (h + 11), .ref (h + 12)])) := by rw [hE14]; exact mm_up_s _ _ _
              have hO : ro G E14 h (L : Int) ((s1 + j : Nat) : Int) (rv B s1 (j + 1)) x4 x5 x6 x7 x8 := hat
              have hT := (frs _ (by omega)).trans hT
              have hfr := (fun q h => (frs q (by omega)).trans (hfr q h) : ∀ q : Nat, q ≠ h → E14 q = E0 q)
              refine lv_aload_n C0.1 C0.2.1 dX10_readNumber_105 rfl (lv_at hl 0 rfl) ?_
              refine lv_dup C0.1 C0.2.1 dX10_readNumber_106 rfl ?_
              refine mm_get (fs := [.ref (h + 1), .ref (h + 2), .ref (h + 3), .ref (h + 4), .int (zI ((L : Int))), .int (zI (((s1 + j : Nat) : Int))), .long (zL ((rv B s1 (j + 1)))), .ref (h + 5), .ref (h + 6), .ref (h + 7), .ref (h + 8), .int (zI (x4)), .int (zI (x5)), .int (zI (x6)), .int (zI (x7)), .int (zI (x8)), .ref (h + 9), .ref (h + 10), .ref (h + 11), .ref (h + 12)]) C0 (C := RX10) (T := TX10) (N := 20) iG_X10 hM (hO) rfl 5 (by decide) tw_921 rfl rfl dX10_readNumber_107 ?_
              refine lv_iconst (v := zI 1) C0.1 C0.2.1 dX10_readNumber_110 rfl ?_
              refine z_iadd C0.1 C0.2.1 dX10_readNumber_111 ?_
              refine z_asI (a := ((((s1 + j : Nat) : Int)) + (1))) (b := ((s1 + (j + 1) : Nat) : Int)) (by omega) ?_
              refine mm_put (v := .int (zI (((s1 + (j + 1) : Nat) : Int)))) (fs := [.ref (h + 1), .ref (h + 2), .ref (h + 3), .ref (h + 4), .int (zI ((L : Int))), .int (zI (((s1 + j : Nat) : Int))), .long (zL ((rv B s1 (j + 1)))), .ref (h + 5), .ref (h + 6), .ref (h + 7), .ref (h + 8), .int (zI (x4)), .int (zI (x5)), .int (zI (x6)), .int (zI (x7)), .int (zI (x8)), .ref (h + 9), .ref (h + 10), .ref (h + 11), .ref (h + 12)]) C0 (C := RX10) (T := TX10) (N := 20) iG_X10 tyX10 tyX10_ok nmX10 hM hS (hO) rfl 5 (by decide) tw_921 rfl rfl (ty := tyX10 5) (tyX10_ok 5 (by decide)) rfl rfl (Nat.le_of_ble_eq_true rfl) dX10_readNumber_112 (fun H locs hM hS hsz => ?_)
              obtain ⟨E15, hE15⟩ : ∃ X : mE, X = mm_up E14 (h) (.inr (9, [.ref (h + 1), .ref (h + 2), .ref (h + 3), .ref (h + 4), .int (zI ((L : Int))), .int (zI (((s1 + (j + 1) : Nat) : Int))), .long (zL ((rv B s1 (j + 1)))), .ref (h + 5), .ref (h + 6), .ref (h + 7), .ref (h + 8), .int (zI (x4)), .int (zI (x5)), .int (zI (x6)), .int (zI (x7)), .int (zI (x8)), .ref (h + 9), .ref (h + 10), .ref (h + 11), .ref (h + 12)])) := ⟨_, rfl⟩
              replace hM : mm_M G E15 H := by rw [hE15]; exact hM
              have frs : ∀ q : Nat, q ≠ h → E15 q = E14 q := fun q h => by rw [hE15]; exact mm_up_n _ _ h
              have hat : E15 (h) = some (.inr (9, [.ref (h + 1), .ref (h + 2), .ref (h + 3), .ref (h + 4), .int (zI ((L : Int))), .int (zI (((s1 + (j + 1) : Nat) : Int))), .long (zL ((rv B s1 (j + 1)))), .ref (h + 5), .ref (h + 6), .ref (h + 7), .ref (h + 8), .int (zI (x4)), .int (zI (x5)), .int (zI (x6)), .int (zI (x7)), .int (zI (x8)), .ref (h + 9), .ref (h + 10), .ref (h + 11), .ref (h + 12)])) := by rw [hE15]; exact mm_up_s _ _ _
              have hO : ro G E15 h (L : Int) ((s1 + (j + 1) : Nat) : Int) (rv B s1 (j + 1)) x4 x5 x6 x7 x8 := hat
              have hT := (frs _ (by omega)).trans hT
              have hfr := (fun q h => (frs q (by omega)).trans (hfr q h) : ∀ q : Nat, q ≠ h → E15 q = E0 q)
              refine lv_goto (tgt := 16) C0.1 C0.2.1 dX10_readNumber_115 (by decide) ?_
              exact ih16  (j + 1) E15 _ _ _ (by omega) (by omega) (fun i hi => if q : i = j then (by subst q; exact hfj) else hfg i (by omega)) (by rw [← hed, ← hfe]; exact (fe_s (by omega) hfj).symm) (hO) (hT) (hfr) (by omega) hM hS (lv_sub hl [0, 1, 2, 3, 4] rfl)
            · skip
              refine mm_ldc2 (z := 10) C0 tw_1034 rfl dX10_readNumber_72 ?_
              refine lv_aload_n C0.1 C0.2.1 dX10_readNumber_75 rfl (lv_at hl 0 rfl) ?_
              refine mm_get (fs := [.ref (h + 1), .ref (h + 2), .ref (h + 3), .ref (h + 4), .int (zI ((L : Int))), .int (zI (((s1 + j : Nat) : Int))), .long (zL ((rv B s1 j))), .ref (h + 5), .ref (h + 6), .ref (h + 7), .ref (h + 8), .int (zI (x4)), .int (zI (x5)), .int (zI (x6)), .int (zI (x7)), .int (zI (x8)), .ref (h + 9), .ref (h + 10), .ref (h + 11), .ref (h + 12)]) C0 (C := RX10) (T := TX10) (N := 20) iG_X10 hM (hO) rfl 6 (by decide) tw_922 rfl rfl dX10_readNumber_76 ?_
              refine z_lmul C0.1 C0.2.1 dX10_readNumber_79 ?_
              refine lv_aload_n C0.1 C0.2.1 dX10_readNumber_80 rfl (lv_at hl 0 rfl) ?_
              refine mm_get (fs := [.ref (h + 1), .ref (h + 2), .ref (h + 3), .ref (h + 4), .int (zI ((L : Int))), .int (zI (((s1 + j : Nat) : Int))), .long (zL ((rv B s1 j))), .ref (h + 5), .ref (h + 6), .ref (h + 7), .ref (h + 8), .int (zI (x4)), .int (zI (x5)), .int (zI (x6)), .int (zI (x7)), .int (zI (x8)), .ref (h + 9), .ref (h + 10), .ref (h + 11), .ref (h + 12)]) C0 (C := RX10) (T := TX10) (N := 20) iG_X10 hM (hO) rfl 3 (by decide) tw_919 rfl rfl dX10_readNumber_81 ?_
              refine lv_aload_n C0.1 C0.2.1 dX10_readNumber_84 rfl (lv_at hl 0 rfl) ?_
              refine mm_get (fs := [.ref (h + 1), .ref (h + 2), .ref (h + 3), .ref (h + 4), .int (zI ((L : Int))), .int (zI (((s1 + j : Nat) : Int))), .long (zL ((rv B s1 j))), .ref (h + 5), .ref (h + 6), .ref (h + 7), .ref (h + 8), .int (zI (x4)), .int (zI (x5)), .int (zI (x6)), .int (zI (x7)), .int (zI (x8)), .ref (h + 9), .ref (h + 10), .ref (h + 11), .ref (h + 12)]) C0 (C := RX10) (T := TX10) (N := 20) iG_X10 hM (hO) rfl 5 (by decide) tw_921 rfl rfl dX10_readNumber_85 ?_
              refine mm_iald C0 hM (g := B) (hT) (s1 + j) (i := ((s1 + j : Nat) : Int)) (by omega) (by omega) (by decide) dX10_readNumber_88 ?_
              refine z_i2l C0.1 C0.2.1 dX10_readNumber_89 ⟨by omega, by omega⟩ ?_
              refine z_ladd C0.1 C0.2.1 dX10_readNumber_90 ?_
              refine mm_ldc2 (z := 48) C0 tw_1032 rfl dX10_readNumber_91 ?_
              refine z_lsub C0.1 C0.2.1 dX10_readNumber_94 ?_
              refine lv_goto (tgt := 102) C0.1 C0.2.1 dX10_readNumber_95 (by decide) ?_
              refine z_asL (a := ((((((10) * ((rv B s1 j)))) + ((B) (s1 + j)))) - (48))) (b := (rv B s1 (j + 1))) (by first | exact (rv_s (by omega)).symm | exact (rv_e (by omega)).symm) ?_
              refine mm_put (v := .long (zL ((rv B s1 (j + 1))))) (fs := [.ref (h + 1), .ref (h + 2), .ref (h + 3), .ref (h + 4), .int (zI ((L : Int))), .int (zI (((s1 + j : Nat) : Int))), .long (zL ((rv B s1 j))), .ref (h + 5), .ref (h + 6), .ref (h + 7), .ref (h + 8), .int (zI (x4)), .int (zI (x5)), .int (zI (x6)), .int (zI (x7)), .int (zI (x8)), .ref (h + 9), .ref (h + 10), .ref (h + 11), .ref (h + 12)]) C0 (C := RX10) (T := TX10) (N := 20) iG_X10 tyX10 tyX10_ok nmX10 hM hS (hO) rfl 6 (by decide) tw_922 rfl rfl (ty := tyX10 6) (tyX10_ok 6 (by decide)) rfl rfl (Nat.le_of_ble_eq_true rfl) dX10_readNumber_102 (fun H locs hM hS hsz => ?_)
              obtain ⟨E16, hE16⟩ : ∃ X : mE, X = mm_up E3 (h) (.inr (9, [.ref (h + 1), .ref (h + 2), .ref (h + 3), .ref (h + 4), .int (zI ((L : Int))), .int (zI (((s1 + j : Nat) : Int))), .long (zL ((rv B s1 (j + 1)))), .ref (h + 5), .ref (h + 6), .ref (h + 7), .ref (h + 8), .int (zI (x4)), .int (zI (x5)), .int (zI (x6)), .int (zI (x7)), .int (zI (x8)), .ref (h + 9), .ref (h + 10), .ref (h + 11), .ref (h + 12)])) := ⟨_, rfl⟩
              replace hM : mm_M G E16 H := by rw [hE16]; exact hM
              have frs : ∀ q : Nat, q ≠ h → E16 q = E3 q := fun q h => by rw [hE16]; exact mm_up_n _ _ h
              have hat : E16 (h) = some (.inr (9, [.ref (h + 1), .ref (h + 2), .ref (h + 3), .ref (h + 4), .int (zI ((L : Int))), .int (zI (((s1 + j : Nat) : Int))), .long (zL ((rv B s1 (j + 1)))), .ref (h + 5), .ref (h + 6), .ref (h + 7), .ref (h + 8), .int (zI (x4)), .int (zI (x5)), .int (zI (x6)), .int (zI (x7)), .int (zI (x8)), .ref (h + 9), .ref (h + 10), .ref (h + 11), .ref (h + 12)])) := by rw [hE16]; exact mm_up_s _ _ _
              have hO : ro G E16 h (L : Int) ((s1 + j : Nat) : Int) (rv B s1 (j + 1)) x4 x5 x6 x7 x8 := hat
              have hT := (frs _ (by omega)).trans hT
              have hfr := (fun q h => (frs q (by omega)).trans (hfr q h) : ∀ q : Nat, q ≠ h → E16 q = E0 q)
              refine lv_aload_n C0.1 C0.2.1 dX10_readNumber_105 rfl (lv_at hl 0 rfl) ?_
              refine lv_dup C0.1 C0.2.1 dX10_readNumber_106 rfl ?_
              refine mm_get (fs := [.ref (h + 1), .ref (h + 2), .ref (h + 3), .ref (h + 4), .int (zI ((L : Int))), .int (zI (((s1 + j : Nat) : Int))), .long (zL ((rv B s1 (j + 1)))), .ref (h + 5), .ref (h + 6), .ref (h + 7), .ref (h + 8), .int (zI (x4)), .int (zI (x5)), .int (zI (x6)), .int (zI (x7)), .int (zI (x8)), .ref (h + 9), .ref (h + 10), .ref (h + 11), .ref (h + 12)]) C0 (C := RX10) (T := TX10) (N := 20) iG_X10 hM (hO) rfl 5 (by decide) tw_921 rfl rfl dX10_readNumber_107 ?_
              refine lv_iconst (v := zI 1) C0.1 C0.2.1 dX10_readNumber_110 rfl ?_
              refine z_iadd C0.1 C0.2.1 dX10_readNumber_111 ?_
              refine z_asI (a := ((((s1 + j : Nat) : Int)) + (1))) (b := ((s1 + (j + 1) : Nat) : Int)) (by omega) ?_
              refine mm_put (v := .int (zI (((s1 + (j + 1) : Nat) : Int)))) (fs := [.ref (h + 1), .ref (h + 2), .ref (h + 3), .ref (h + 4), .int (zI ((L : Int))), .int (zI (((s1 + j : Nat) : Int))), .long (zL ((rv B s1 (j + 1)))), .ref (h + 5), .ref (h + 6), .ref (h + 7), .ref (h + 8), .int (zI (x4)), .int (zI (x5)), .int (zI (x6)), .int (zI (x7)), .int (zI (x8)), .ref (h + 9), .ref (h + 10), .ref (h + 11), .ref (h + 12)]) C0 (C := RX10) (T := TX10) (N := 20) iG_X10 tyX10 tyX10_ok nmX10 hM hS (hO) rfl 5 (by decide) tw_921 rfl rfl (ty := tyX10 5) (tyX10_ok 5 (by decide)) rfl rfl (Nat.le_of_ble_eq_true rfl) dX10_readNumber_112 (fun H locs hM hS hsz => ?_)
              obtain ⟨E17, hE17⟩ : ∃ X : mE, X = mm_up E16 (h) (.inr (9, [.ref (h + 1), .ref (h + 2), .ref (h + 3), .ref (h + 4), .int (zI ((L : Int))), .int (zI (((s1 + (j + 1) : Nat) : Int))), .long (zL ((rv B s1 (j + 1)))), .ref (h + 5), .ref (h + 6), .ref (h + 7), .ref (h + 8), .int (zI (x4)), .int (zI (x5)), .int (zI (x6)), .int (zI (x7)), .int (zI (x8)), .ref (h + 9), .ref (h + 10), .ref (h + 11), .ref (h + 12)])) := ⟨_, rfl⟩
              replace hM : mm_M G E17 H := by rw [hE17]; exact hM
              have frs : ∀ q : Nat, q ≠ h → E17 q = E16 q := fun q h => by rw [hE17]; exact mm_up_n _ _ h
              have hat : E17 (h) = some (.inr (9, [.ref (h + 1), .ref (h + 2), .ref (h + 3), .ref (h + 4), .int (zI ((L : Int))), .int (zI (((s1 + (j + 1) : Nat) : Int))), .long (zL ((rv B s1 (j + 1)))), .ref (h + 5), .ref (h + 6), .ref (h + 7), .ref (h + 8), .int (zI (x4)), .int (zI (x5)), .int (zI (x6)), .int (zI (x7)), .int (zI (x8)), .ref (h + 9), .ref (h + 10), .ref (h + 11), .ref (h + 12)])) := by rw [hE17]; exact mm_up_s _ _ _
              have hO : ro G E17 h (L : Int) ((s1 + (j + 1) : Nat) : Int) (rv B s1 (j + 1)) x4 x5 x6 x7 x8 := hat
              have hT := (frs _ (by omega)).trans hT
              have hfr := (fun q h => (frs q (by omega)).trans (hfr q h) : ∀ q : Nat, q ≠ h → E17 q = E0 q)
              refine lv_goto (tgt := 16) C0.1 C0.2.1 dX10_readNumber_115 (by decide) ?_
              exact ih16  (j + 1) E17 _ _ _ (by omega) (by omega) (fun i hi => if q : i = j then (by subst q; exact hfj) else hfg i (by omega)) (by rw [← hed, ← hfe]; exact (fe_s (by omega) hfj).symm) (hO) (hT) (hfr) (by omega) hM hS (lv_sub hl [0, 1, 2, 3, 4] rfl)
  exact L16 (_ + 1) 0 E2 _ _ _ (by omega) (by omega) (fun i hi => absurd hi (Nat.not_lt_zero _)) (rfl) (hO) (hT) (hfr) (Nat.lt_succ_self _) hM hS (lv_sub hl [1, 2, 3, 4, 0] rfl)

def rX10_readByte : Room := { frames := 1, cells := 0, slots := 0, locals := 20 }
theorem vw_X10_readByte : mm_Vw RX10 yX10_readByte cX10_readByte 3 (some .boolean) 1 := ⟨tw_1074, tp_29, tw_10, tw_1075, by decide +kernel⟩
set_option maxHeartbeats 4000000 in
set_option maxRecDepth 100000 in
theorem c_X10_readByte (l : Launch) (G : mG) (E0 : mE) {h : Nat} {B : Nat → Int} {L a : Nat} {x3 x4 x5 x6 x7 x8 : Int} (hO : ro G E0 h (L : Int) (a : Int) x3 x4 x5 x6 x7 x8) (hT : E0 (h + 4) = some (mm_I G 100 B)) (hk : okT B L) (ha : a ≤ L) {x : Int} (hx : okB x) : mm_Ci l yX10_readByte (.code yX10_readByte cX10_readByte 3 (some .boolean) :: wsG) rX10_readByte G [.ref (h), .int (zI (x))] E0 (fun z E => ((z = 1 ∧ skp B L a < L ∧ B (skp B L a) = x ∧ ro G E h (L : Int) ((skp B L a + 1 : Nat) : Int) x3 x4 x5 x6 x7 x8) ∨ (z = 0 ∧ ¬ (skp B L a < L ∧ B (skp B L a) = x) ∧ ro G E h (L : Int) ((skp B L a : Nat) : Int) x3 x4 x5 x6 x7 x8)) ∧ ∀ q : Nat, q ≠ h → E q = E0 q) := by
  refine mm_of_i (by decide +kernel) (Nat.le_of_ble_eq_true rfl) ?_
  intro p e s m args below meth c ls C0 hr hlk hM hl hS
  have hl : lv_has ls 3 [(0, .ref (h)), (1, .int (zI (x)))] := hl
  have hfr : ∀ q : Nat, q ≠ h → E0 q = E0 q := fun _ _ => rfl
  have hL := hk.1
  obtain ⟨hx1, hx2⟩ := hx
  have hsb := skp_b (B := B) ha
  obtain ⟨hnb1, hnb2⟩ := nbZ_b (a := a) hk
  have hnbp := nbZ_p (B := B) (L := L) (a := a)
  have hnbn := nbZ_n (B := B) (L := L) (a := a)
  refine lv_aload_n C0.1 C0.2.1 dX10_readByte_0 rfl (lv_at hl 0 rfl) ?_
  refine mm_callVi (As := []) C0 vw_X10_nextByte tw_1028 (c_X10_nextByte l G _ hO hT hk ha) hM (hO) rfl rfl hl.1 rfl (Nat.le_of_ble_eq_true rfl) ⟨rfl, rfl, Nat.le_of_ble_eq_true rfl, Nat.le_of_ble_eq_true rfl, Nat.zero_le _, Nat.zero_le _⟩ dX10_readByte_1 hS (fun z1 E1 H locs hp hM hS => ?_)
  obtain ⟨hz1, hO, fr⟩ := hp
  have hT := (fr _ (by omega)).trans hT
  have hfr := (fun q h => (fr q (by omega)).trans (hfr q h) : ∀ q : Nat, q ≠ h → E1 q = E0 q)
  refine lv_iload_n C0.1 C0.2.1 dX10_readByte_4 rfl (lv_at hl 1 rfl) ?_
  refine z_icmp_ne (tgt := 12) C0.1 C0.2.1 dX10_readByte_5 (by decide) ⟨by omega, by omega⟩ ⟨by omega, by omega⟩ (fun c_5 => ?_) (fun c_5 => ?_)
  · skip
    have hno : ¬ (skp B L a < L ∧ B (skp B L a) = x) := fun q => by have := hnbp q.1; omega
    refine lv_iconst (v := zI 0) C0.1 C0.2.1 dX10_readByte_12 rfl ?_
    refine lv_istore_n (lv' := [(2, .int (zI (0))), (0, .ref (h)), (1, .int (zI (x)))]) C0.1 C0.2.1 dX10_readByte_13 rfl hl (by decide) rfl (fun ls hl => ?_)
    refine lv_aload_n C0.1 C0.2.1 dX10_readByte_14 rfl (lv_at hl 1 rfl) ?_
    refine lv_dup C0.1 C0.2.1 dX10_readByte_15 rfl ?_
    refine mm_get (fs := [.ref (h + 1), .ref (h + 2), .ref (h + 3), .ref (h + 4), .int (zI ((L : Int))), .int (zI (((skp B L a : Nat) : Int))), .long (zL (x3)), .ref (h + 5), .ref (h + 6), .ref (h + 7), .ref (h + 8), .int (zI (x4)), .int (zI (x5)), .int (zI (x6)), .int (zI (x7)), .int (zI (x8)), .ref (h + 9), .ref (h + 10), .ref (h + 11), .ref (h + 12)]) C0 (C := RX10) (T := TX10) (N := 20) iG_X10 hM (hO) rfl 5 (by decide) tw_921 rfl rfl dX10_readByte_16 ?_
    refine lv_iload_n C0.1 C0.2.1 dX10_readByte_19 rfl (lv_at hl 0 rfl) ?_
    refine z_if_eq (tgt := 27) C0.1 C0.2.1 dX10_readByte_20 (by decide) ⟨by omega, by omega⟩ (fun c_20 => ?_) (fun c_20 => ?_)
    · skip
      refine lv_iconst (v := zI 0) C0.1 C0.2.1 dX10_readByte_27 rfl ?_
      refine z_iadd C0.1 C0.2.1 dX10_readByte_28 ?_
      refine z_asI (a := ((((skp B L a : Nat) : Int)) + (0))) (b := ((skp B L a : Nat) : Int)) (by omega) ?_
      refine mm_put (v := .int (zI (((skp B L a : Nat) : Int)))) (fs := [.ref (h + 1), .ref (h + 2), .ref (h + 3), .ref (h + 4), .int (zI ((L : Int))), .int (zI (((skp B L a : Nat) : Int))), .long (zL (x3)), .ref (h + 5), .ref (h + 6), .ref (h + 7), .ref (h + 8), .int (zI (x4)), .int (zI (x5)), .int (zI (x6)), .int (zI (x7)), .int (zI (x8)), .ref (h + 9), .ref (h + 10), .ref (h + 11), .ref (h + 12)]) C0 (C := RX10) (T := TX10) (N := 20) iG_X10 tyX10 tyX10_ok nmX10 hM hS (hO) rfl 5 (by decide) tw_921 rfl rfl (ty := tyX10 5) (tyX10_ok 5 (by decide)) rfl rfl (Nat.le_of_ble_eq_true rfl) dX10_readByte_29 (fun H locs hM hS hsz => ?_)
      obtain ⟨E2, hE2⟩ : ∃ X : mE, X = mm_up E1 (h) (.inr (9, [.ref (h + 1), .ref (h + 2), .ref (h + 3), .ref (h + 4), .int (zI ((L : Int))), .int (zI (((skp B L a : Nat) : Int))), .long (zL (x3)), .ref (h + 5), .ref (h + 6), .ref (h + 7), .ref (h + 8), .int (zI (x4)), .int (zI (x5)), .int (zI (x6)), .int (zI (x7)), .int (zI (x8)), .ref (h + 9), .ref (h + 10), .ref (h + 11), .ref (h + 12)])) := ⟨_, rfl⟩
      replace hM : mm_M G E2 H := by rw [hE2]; exact hM
      have frs : ∀ q : Nat, q ≠ h → E2 q = E1 q := fun q h => by rw [hE2]; exact mm_up_n _ _ h
      have hat : E2 (h) = some (.inr (9, [.ref (h + 1), .ref (h + 2), .ref (h + 3), .ref (h + 4), .int (zI ((L : Int))), .int (zI (((skp B L a : Nat) : Int))), .long (zL (x3)), .ref (h + 5), .ref (h + 6), .ref (h + 7), .ref (h + 8), .int (zI (x4)), .int (zI (x5)), .int (zI (x6)), .int (zI (x7)), .int (zI (x8)), .ref (h + 9), .ref (h + 10), .ref (h + 11), .ref (h + 12)])) := by rw [hE2]; exact mm_up_s _ _ _
      have hO : ro G E2 h (L : Int) ((skp B L a : Nat) : Int) x3 x4 x5 x6 x7 x8 := hat
      have hT := (frs _ (by omega)).trans hT
      have hfr := (fun q h => (frs q (by omega)).trans (hfr q h) : ∀ q : Nat, q ≠ h → E2 q = E0 q)
      refine lv_iload_n C0.1 C0.2.1 dX10_readByte_32 rfl (lv_at hl 0 rfl) ?_
      exact mm_zret (z := 0) C0 hr hlk hM hS (by omega) dX10_readByte_33 (⟨Or.inr ⟨rfl, hno, hO⟩, hfr⟩)
    · skip
      omega
  · skip
    have hlt : skp B L a < L := Classical.byContradiction fun q => by have := hnbn q; omega
    have hBx : B (skp B L a) = x := by have := hnbp hlt; omega
    refine lv_iconst (v := zI 1) C0.1 C0.2.1 dX10_readByte_8 rfl ?_
    refine lv_goto (tgt := 13) C0.1 C0.2.1 dX10_readByte_9 (by decide) ?_
    refine lv_istore_n (lv' := [(2, .int (zI (1))), (0, .ref (h)), (1, .int (zI (x)))]) C0.1 C0.2.1 dX10_readByte_13 rfl hl (by decide) rfl (fun ls hl => ?_)
    refine lv_aload_n C0.1 C0.2.1 dX10_readByte_14 rfl (lv_at hl 1 rfl) ?_
    refine lv_dup C0.1 C0.2.1 dX10_readByte_15 rfl ?_
    refine mm_get (fs := [.ref (h + 1), .ref (h + 2), .ref (h + 3), .ref (h + 4), .int (zI ((L : Int))), .int (zI (((skp B L a : Nat) : Int))), .long (zL (x3)), .ref (h + 5), .ref (h + 6), .ref (h + 7), .ref (h + 8), .int (zI (x4)), .int (zI (x5)), .int (zI (x6)), .int (zI (x7)), .int (zI (x8)), .ref (h + 9), .ref (h + 10), .ref (h + 11), .ref (h + 12)]) C0 (C := RX10) (T := TX10) (N := 20) iG_X10 hM (hO) rfl 5 (by decide) tw_921 rfl rfl dX10_readByte_16 ?_
    refine lv_iload_n C0.1 C0.2.1 dX10_readByte_19 rfl (lv_at hl 0 rfl) ?_
    refine z_if_eq (tgt := 27) C0.1 C0.2.1 dX10_readByte_20 (by decide) ⟨by omega, by omega⟩ (fun c_20 => ?_) (fun c_20 => ?_)
    · skip
      omega
    · skip
      refine lv_iconst (v := zI 1) C0.1 C0.2.1 dX10_readByte_23 rfl ?_
      refine lv_goto (tgt := 28) C0.1 C0.2.1 dX10_readByte_24 (by decide) ?_
      refine z_iadd C0.1 C0.2.1 dX10_readByte_28 ?_
      refine z_asI (a := ((((skp B L a : Nat) : Int)) + (1))) (b := ((skp B L a + 1 : Nat) : Int)) (by omega) ?_
      refine mm_put (v := .int (zI (((skp B L a + 1 : Nat) : Int)))) (fs := [.ref (h + 1), .ref (h + 2), .ref (h + 3), .ref (h + 4), .int (zI ((L : Int))), .int (zI (((skp B L a : Nat) : Int))), .long (zL (x3)), .ref (h + 5), .ref (h + 6), .ref (h + 7), .ref (h + 8), .int (zI (x4)), .int (zI (x5)), .int (zI (x6)), .int (zI (x7)), .int (zI (x8)), .ref (h + 9), .ref (h + 10), .ref (h + 11), .ref (h + 12)]) C0 (C := RX10) (T := TX10) (N := 20) iG_X10 tyX10 tyX10_ok nmX10 hM hS (hO) rfl 5 (by decide) tw_921 rfl rfl (ty := tyX10 5) (tyX10_ok 5 (by decide)) rfl rfl (Nat.le_of_ble_eq_true rfl) dX10_readByte_29 (fun H locs hM hS hsz => ?_)
      obtain ⟨E3, hE3⟩ : ∃ X : mE, X = mm_up E1 (h) (.inr (9, [.ref (h + 1), .ref (h + 2), .ref (h + 3), .ref (h + 4), .int (zI ((L : Int))), .int (zI (((skp B L a + 1 : Nat) : Int))), .long (zL (x3)), .ref (h + 5), .ref (h + 6), .ref (h + 7), .ref (h + 8), .int (zI (x4)), .int (zI (x5)), .int (zI (x6)), .int (zI (x7)), .int (zI (x8)), .ref (h + 9), .ref (h + 10), .ref (h + 11), .ref (h + 12)])) := ⟨_, rfl⟩
      replace hM : mm_M G E3 H := by rw [hE3]; exact hM
      have frs : ∀ q : Nat, q ≠ h → E3 q = E1 q := fun q h => by rw [hE3]; exact mm_up_n _ _ h
      have hat : E3 (h) = some (.inr (9, [.ref (h + 1), .ref (h + 2), .ref (h + 3), .ref (h + 4), .int (zI ((L : Int))), .int (zI (((skp B L a + 1 : Nat) : Int))), .long (zL (x3)), .ref (h + 5), .ref (h + 6), .ref (h + 7), .ref (h + 8), .int (zI (x4)), .int (zI (x5)), .int (zI (x6)), .int (zI (x7)), .int (zI (x8)), .ref (h + 9), .ref (h + 10), .ref (h + 11), .ref (h + 12)])) := by rw [hE3]; exact mm_up_s _ _ _
      have hO : ro G E3 h (L : Int) ((skp B L a + 1 : Nat) : Int) x3 x4 x5 x6 x7 x8 := hat
      have hT := (frs _ (by omega)).trans hT
      have hfr := (fun q h => (frs q (by omega)).trans (hfr q h) : ∀ q : Nat, q ≠ h → E3 q = E0 q)
      refine lv_iload_n C0.1 C0.2.1 dX10_readByte_32 rfl (lv_at hl 0 rfl) ?_
      exact mm_zret (z := 1) C0 hr hlk hM hS (by omega) dX10_readByte_33 (⟨Or.inl ⟨rfl, hlt, hBx, hO⟩, hfr⟩)
