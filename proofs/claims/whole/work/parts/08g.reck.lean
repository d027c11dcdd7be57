theorem newt {k N x t nx P : Nat} (hk : (k = 2 ∧ P = x) ∨ (k = 3 ∧ P = x * x)) (h : rtP k N t) (hx : t ≤ x) (h0 : 0 < x) (hn : nx = (x * (k - 1) + N / P) / k) : t ≤ nx ∧ (t < x → nx < x ∧ 3 * (nx - t) ≤ 2 * (x - t)) ∧ (x = t → x ≤ nx) := by
  subst hn
  rcases hk with ⟨rfl, rfl⟩ | ⟨rfl, rfl⟩
  · obtain ⟨a, b⟩ := nw_2 h hx h0
    refine ⟨a, fun q => ?_, fun q => by rw [q]; rw [q] at a; exact a⟩
    have := b q
    omega
  · obtain ⟨a, b⟩ := nw_3 h hx h0
    refine ⟨a, fun q => ?_, fun q => by rw [q]; rw [q] at a; exact a⟩
    have := b q
    omega
theorem nl_prod14 {x P : Nat} (hx : nl x ≤ 14) (hP : P = x * x) : nl P ≤ 28 := by
  rw [nl_le] at hx ⊢
  rw [hP, show (28 : Nat) = 14 + 14 by omega, Nat.pow_add]
  exact Nat.mul_lt_mul_of_lt_of_le hx (Nat.le_of_lt hx) (bP_pos _)
theorem pow13 : 10 ^ 117 = 1000000000 ^ 13 := by decide +kernel

def rX4_divide : Room := { frames := 4, cells := 0, slots := 0, locals := 107 }
theorem vw_X4_divide : mm_Vw RX4 yX4_divide cX4_divide 3 none 2 := ⟨tw_415, tw_416, tw_3, tw_417, by decide +kernel⟩
set_option maxHeartbeats 4000000 in
set_option maxRecDepth 100000 in
theorem c_X4_divide (l : Launch) (G : mG) (E0 : mE) {r a b N1 N2 : Nat} (hk : rk G E0 r) (hQ : isV G E0 (r + 1)) (hR : isV G E0 (r + 3)) (hV : isV G E0 (r + 5)) (hA : isW G E0 a N1) (hB : isW G E0 b N2) (ha : a + 2 ≤ r + 1 ∨ r + 7 ≤ a) (hb : b + 2 ≤ r + 1 ∨ r + 7 ≤ b) (hn1 : nl N1 ≤ 54) : mm_Cv l yX4_divide (.code yX4_divide cX4_divide 3 none :: wsG) rX4_divide G [.ref (r), .ref (a), .ref (b)] E0 (fun E => isW G E (r + 1) (N1 / N2) ∧ isW G E (r + 3) (N1 % N2) ∧ isV G E (r + 5) ∧ ∀ q : Nat, (q < r + 1 ∨ r + 7 ≤ q) → E q = E0 q) := by
  refine mm_of_v (by decide +kernel) (Nat.le_of_ble_eq_true rfl) ?_
  intro p e s m args below meth c ls C0 hr hlk hM hl hS
  have hl : lv_has ls 3 [(0, .ref (r)), (1, .ref (a)), (2, .ref (b))] := hl
  have hB56 := hB.le
  have hfr : ∀ q : Nat, (q < r + 1 ∨ r + 7 ≤ q) → E0 q = E0 q := fun _ _ => rfl
  obtain ⟨nQ, fQ, hQr⟩ := hQ
  obtain ⟨nR, fR, hRr⟩ := hR
  refine lv_aload_n C0.1 C0.2.1 dX4_divide_0 rfl (lv_at hl 0 rfl) ?_
  refine mm_get (fs := [.ref (r + 1), .ref (r + 3), .ref (r + 5), .ref (r + 7), .ref (r + 9)]) C0 (C := RX4) (T := TX4) (N := 5) iG_X4 hM (hk) rfl 1 (by decide) tw_94 rfl rfl dX4_divide_1 ?_
  refine lv_aload_n C0.1 C0.2.1 dX4_divide_4 rfl (lv_at hl 1 rfl) ?_
  refine mm_callVv (As := [.ref (a)]) C0 vw_X8_copy tw_418 (c_X8_copy l G _ ⟨nR, fR, hRr⟩ hA (by omega)) hM (hRr.1) rfl rfl hl.1 rfl (Nat.le_of_ble_eq_true rfl) ⟨rfl, rfl, Nat.le_of_ble_eq_true rfl, Nat.le_of_ble_eq_true rfl, Nat.zero_le _, Nat.zero_le _⟩ dX4_divide_5 hS (fun E1 H locs hp hM hS => ?_)
  obtain ⟨hR, fr⟩ := hp
  have hk := rk.kept hk (fr _ (by omega))
  have hQr := wR.kept hQr (fr _ (by omega)) (fr _ (by omega))
  have hV := isV.kept hV (fr _ (by omega)) (fr _ (by omega))
  have hA := isW.kept hA (fr _ (by omega)) (fr _ (by omega))
  have hB := isW.kept hB (fr _ (by omega)) (fr _ (by omega))
  have hfr := (fun q h => (fr q (by omega)).trans (hfr q h) : ∀ q : Nat, (q < r + 1 ∨ r + 7 ≤ q) → E1 q = E0 q)
  refine lv_aload_n C0.1 C0.2.1 dX4_divide_8 rfl (lv_at hl 0 rfl) ?_
  refine mm_get (fs := [.ref (r + 1), .ref (r + 3), .ref (r + 5), .ref (r + 7), .ref (r + 9)]) C0 (C := RX4) (T := TX4) (N := 5) iG_X4 hM (hk) rfl 0 (by decide) tw_92 rfl rfl dX4_divide_9 ?_
  refine lv_lconst (v := zL 0) C0.1 C0.2.1 dX4_divide_12 rfl ?_
  refine mm_callVv (As := [.long (zL (0))]) C0 vw_X8_setLong tw_419 (c_X8_setLongV l G _ (N := 0) ⟨nQ, fQ, hQr⟩ rfl (by omega)) hM (hQr.1) rfl rfl hl.1 rfl (Nat.le_of_ble_eq_true rfl) ⟨rfl, rfl, Nat.le_of_ble_eq_true rfl, Nat.le_of_ble_eq_true rfl, Nat.zero_le _, Nat.zero_le _⟩ dX4_divide_13 hS (fun E2 H locs hp hM hS => ?_)
  obtain ⟨hQ, fr⟩ := hp
  have hk := rk.kept hk (fr _ (by omega))
  have hV := isV.kept hV (fr _ (by omega)) (fr _ (by omega))
  have hA := isW.kept hA (fr _ (by omega)) (fr _ (by omega))
  have hB := isW.kept hB (fr _ (by omega)) (fr _ (by omega))
  have hfr := (fun q h => (fr q (by omega)).trans (hfr q h) : ∀ q : Nat, (q < r + 1 ∨ r + 7 ≤ q) → E2 q = E0 q)
  have hR := isW.kept hR (fr _ (by omega)) (fr _ (by omega))
  refine lv_aload_n C0.1 C0.2.1 dX4_divide_16 rfl (lv_at hl 2 rfl) ?_
  refine mm_get (fs := [.ref (b + 1), .int (zI (((nl (N2) : Nat) : Int)))]) C0 (C := RX8) (T := TX8) (N := 2) iG_X8 hM (hB.obj) rfl 1 (by decide) tw_83 rfl rfl dX4_divide_17 ?_
  refine z_if_eq (tgt := 31) C0.1 C0.2.1 dX4_divide_20 (by decide) ⟨by omega, by omega⟩ (fun c_20 => ?_) (fun c_20 => ?_)
  · skip
    have hN2 : N2 = 0 := nl_eq0.mp (by omega)
    exact mm_vret C0 hr hlk hM hS dX4_divide_31 (by rw [hN2, Nat.div_zero, Nat.mod_zero]; exact ⟨hQ, hR, hV, hfr⟩)
  · skip
    refine lv_aload_n C0.1 C0.2.1 dX4_divide_23 rfl (lv_at hl 1 rfl) ?_
    refine lv_aload_n C0.1 C0.2.1 dX4_divide_24 rfl (lv_at hl 2 rfl) ?_
    refine mm_callVi (As := [.ref (b)]) C0 vw_X8_compareWith tw_420 (c_X8_compareWith l G _ hA hB) hM (hA.obj) rfl rfl hl.1 rfl (Nat.le_of_ble_eq_true rfl) ⟨rfl, rfl, Nat.le_of_ble_eq_true rfl, Nat.le_of_ble_eq_true rfl, Nat.zero_le _, Nat.zero_le _⟩ dX4_divide_25 hS (fun z_25 E3 H locs hp hM hS => ?_)
    obtain ⟨hz_25, hEq⟩ := hp
    rw [hEq] at hM
    refine z_asI (b := cmpZ N1 N2) (hz_25) ?_
    have hcm : cmpZ N1 N2 = -1 ∨ cmpZ N1 N2 = 0 ∨ cmpZ N1 N2 = 1 := by unfold cmpZ; omega
    have hcl : cmpZ N1 N2 < 0 → N1 < N2 := by unfold cmpZ; omega
    have hcg : 0 ≤ cmpZ N1 N2 → N2 ≤ N1 := by unfold cmpZ; omega
    refine z_if_ge (tgt := 32) C0.1 C0.2.1 dX4_divide_28 (by decide) ⟨by omega, by omega⟩ (fun c_28 => ?_) (fun c_28 => ?_)
    · skip
      have hge := hcg (by omega)
      refine lv_aload_n C0.1 C0.2.1 dX4_divide_32 rfl (lv_at hl 2 rfl) ?_
      refine mm_get (fs := [.ref (b + 1), .int (zI (((nl (N2) : Nat) : Int)))]) C0 (C := RX8) (T := TX8) (N := 2) iG_X8 hM (hB.obj) rfl 1 (by decide) tw_83 rfl rfl dX4_divide_33 ?_
      refine lv_iconst (v := zI 1) C0.1 C0.2.1 dX4_divide_36 rfl ?_
      refine z_icmp_ne (tgt := 68) C0.1 C0.2.1 dX4_divide_37 (by decide) ⟨by omega, by omega⟩ ⟨by omega, by omega⟩ (fun c_37 => ?_) (fun c_37 => ?_)
      · skip
        refine lv_aload_n C0.1 C0.2.1 dX4_divide_68 rfl (lv_at hl 0 rfl) ?_
        refine lv_aload_n C0.1 C0.2.1 dX4_divide_69 rfl (lv_at hl 2 rfl) ?_
        refine mm_callVv (As := [.ref (b)]) C0 vw_X4_divideLong tw_426 (c_X4_divideLong l G _ hk hQ.v hR hV hB hb (by omega) (by omega) hn1) hM (hk) rfl rfl hl.1 rfl (Nat.le_of_ble_eq_true rfl) ⟨rfl, rfl, Nat.le_of_ble_eq_true rfl, Nat.le_of_ble_eq_true rfl, Nat.zero_le _, Nat.zero_le _⟩ dX4_divide_70 hS (fun E4 H locs hp hM hS => ?_)
        obtain ⟨hQ, hR, hV, fr⟩ := hp
        have hk := rk.kept hk (fr _ (by omega))
        have hA := isW.kept hA (fr _ (by omega)) (fr _ (by omega))
        have hB := isW.kept hB (fr _ (by omega)) (fr _ (by omega))
        have hfr := (fun q h => (fr q (by omega)).trans (hfr q h) : ∀ q : Nat, (q < r + 1 ∨ r + 7 ≤ q) → E4 q = E0 q)
        exact mm_vret C0 hr hlk hM hS dX4_divide_73 (⟨hQ, hR, hV, hfr⟩)
      · skip
        have hN1l : N2 < 1000000000 := by have h9 := nl_self N2; rw [show nl N2 = 1 by omega] at h9; exact h9
        have hN0 : dg N2 0 = N2 := by unfold dg; rw [Nat.pow_zero, Nat.div_one]; exact Nat.mod_eq_of_lt hN1l
        have hN2p : 0 < N2 := Nat.pos_of_ne_zero (nl_pos.mp (by omega))
        have hml : N1 % N2 < N2 := Nat.mod_lt _ hN2p
        refine lv_aload_n C0.1 C0.2.1 dX4_divide_40 rfl (lv_at hl 0 rfl) ?_
        refine mm_get (fs := [.ref (r + 1), .ref (r + 3), .ref (r + 5), .ref (r + 7), .ref (r + 9)]) C0 (C := RX4) (T := TX4) (N := 5) iG_X4 hM (hk) rfl 0 (by decide) tw_92 rfl rfl dX4_divide_41 ?_
        refine lv_aload_n C0.1 C0.2.1 dX4_divide_44 rfl (lv_at hl 1 rfl) ?_
        refine mm_callVv (As := [.ref (a)]) C0 vw_X8_copy tw_418 (c_X8_copy l G _ hQ.v hA (by omega)) hM (hQ.obj) rfl rfl hl.1 rfl (Nat.le_of_ble_eq_true rfl) ⟨rfl, rfl, Nat.le_of_ble_eq_true rfl, Nat.le_of_ble_eq_true rfl, Nat.zero_le _, Nat.zero_le _⟩ dX4_divide_45 hS (fun E5 H locs hp hM hS => ?_)
        obtain ⟨hQ, fr⟩ := hp
        have hk := rk.kept hk (fr _ (by omega))
        have hV := isV.kept hV (fr _ (by omega)) (fr _ (by omega))
        have hA := isW.kept hA (fr _ (by omega)) (fr _ (by omega))
        have hB := isW.kept hB (fr _ (by omega)) (fr _ (by omega))
        have hfr := (fun q h => (fr q (by omega)).trans (hfr q h) : ∀ q : Nat, (q < r + 1 ∨ r + 7 ≤ q) → E5 q = E0 q)
        have hR := isW.kept hR (fr _ (by omega)) (fr _ (by omega))
        refine lv_aload_n C0.1 C0.2.1 dX4_divide_48 rfl (lv_at hl 0 rfl) ?_
        refine mm_get (fs := [.ref (r + 1), .ref (r + 3), .ref (r + 5), .ref (r + 7), .ref (r + 9)]) C0 (C := RX4) (T := TX4) (N := 5) iG_X4 hM (hk) rfl 1 (by decide) tw_94 rfl rfl dX4_divide_49 ?_
        refine lv_aload_n C0.1 C0.2.1 dX4_divide_52 rfl (lv_at hl 0 rfl) ?_
        refine mm_get (fs := [.ref (r + 1), .ref (r + 3), .ref (r + 5), .ref (r + 7), .ref (r + 9)]) C0 (C := RX4) (T := TX4) (N := 5) iG_X4 hM (hk) rfl 0 (by decide) tw_92 rfl rfl dX4_divide_53 ?_
        refine lv_aload_n C0.1 C0.2.1 dX4_divide_56 rfl (lv_at hl 2 rfl) ?_
        refine lv_iconst (v := zI 0) C0.1 C0.2.1 dX4_divide_57 rfl ?_
        refine mm_callVl (As := [.int (zI (0))]) C0 vw_X8_limb tw_421 (c_X8_limbW l G _ hB 0 rfl ⟨by omega, by omega⟩) hM (hB.obj) rfl rfl hl.1 rfl (Nat.le_of_ble_eq_true rfl) ⟨rfl, rfl, Nat.le_of_ble_eq_true rfl, Nat.le_of_ble_eq_true rfl, Nat.zero_le _, Nat.zero_le _⟩ dX4_divide_58 hS (fun z_58 E6 H locs hp hM hS => ?_)
        obtain ⟨hz_58, hEq⟩ := hp
        rw [hEq] at hM
        refine z_asL (b := (N2 : Int)) (hz_58.trans (by rw [hN0])) ?_
        refine mm_callVl (As := [.long (zL ((N2 : Int)))]) C0 vw_X8_shrink tw_422 (c_X8_shrink l G _ N2 rfl hQ (by omega) (by omega)) hM (hQ.obj) rfl rfl hl.1 rfl (Nat.le_of_ble_eq_true rfl) ⟨rfl, rfl, Nat.le_of_ble_eq_true rfl, Nat.le_of_ble_eq_true rfl, Nat.zero_le _, Nat.zero_le _⟩ dX4_divide_61 hS (fun z9 E7 H locs hp hM hS => ?_)
        obtain ⟨hz9, hQ, fr⟩ := hp
        have hk := rk.kept hk (fr _ (by omega))
        have hV := isV.kept hV (fr _ (by omega)) (fr _ (by omega))
        have hA := isW.kept hA (fr _ (by omega)) (fr _ (by omega))
        have hB := isW.kept hB (fr _ (by omega)) (fr _ (by omega))
        have hfr := (fun q h => (fr q (by omega)).trans (hfr q h) : ∀ q : Nat, (q < r + 1 ∨ r + 7 ≤ q) → E7 q = E0 q)
        have hR := isW.kept hR (fr _ (by omega)) (fr _ (by omega))
        refine z_asL (b := ((N1 % N2 : Nat) : Int)) (hz9) ?_
        refine mm_callVv (As := [.long (zL (((N1 % N2 : Nat) : Int)))]) C0 vw_X8_setLong tw_419 (c_X8_setLongV l G _ (N := N1 % N2) hR.v rfl (by omega)) hM (hR.obj) rfl rfl hl.1 rfl (Nat.le_of_ble_eq_true rfl) ⟨rfl, rfl, Nat.le_of_ble_eq_true rfl, Nat.le_of_ble_eq_true rfl, Nat.zero_le _, Nat.zero_le _⟩ dX4_divide_64 hS (fun E8 H locs hp hM hS => ?_)
        obtain ⟨hR, fr⟩ := hp
        have hk := rk.kept hk (fr _ (by omega))
        have hV := isV.kept hV (fr _ (by omega)) (fr _ (by omega))
        have hA := isW.kept hA (fr _ (by omega)) (fr _ (by omega))
        have hB := isW.kept hB (fr _ (by omega)) (fr _ (by omega))
        have hfr := (fun q h => (fr q (by omega)).trans (hfr q h) : ∀ q : Nat, (q < r + 1 ∨ r + 7 ≤ q) → E8 q = E0 q)
        have hQ := isW.kept hQ (fr _ (by omega)) (fr _ (by omega))
        exact mm_vret C0 hr hlk hM hS dX4_divide_67 (⟨hQ, hR, hV, hfr⟩)
    · skip
      have hlt := hcl (by omega)
      exact mm_vret C0 hr hlk hM hS dX4_divide_31 (by rw [Nat.div_eq_of_lt hlt, Nat.mod_eq_of_lt hlt]; exact ⟨hQ, hR, hV, hfr⟩)

def rX4_extract : Room := { frames := 5, cells := 0, slots := 0, locals := 129 }
theorem vw_X4_extract : mm_Vw RX4 yX4_extract cX4_extract 5 none 3 := ⟨tw_471, tw_472, tw_3, tw_473, by decide +kernel⟩
set_option maxHeartbeats 4000000 in
set_option maxRecDepth 100000 in
theorem c_X4_extract (l : Launch) (G : mG) (E0 : mE) {r a o N : Nat} (k : Nat) (hk23 : k = 2 ∨ k = 3) (hk : rk G E0 r) (h1 : isV G E0 (r + 1)) (h3 : isV G E0 (r + 3)) (h5 : isV G E0 (r + 5)) (h7 : isV G E0 (r + 7)) (h9 : isV G E0 (r + 9)) (hA : isW G E0 a N) (hO : isV G E0 o) (ha : a + 2 ≤ r ∨ r + 11 ≤ a) (ho : o + 2 ≤ r ∨ r + 11 ≤ o) (hao : a + 2 ≤ o ∨ o + 2 ≤ a) (hn : nl N ≤ 26) : mm_Cv l yX4_extract (.code yX4_extract cX4_extract 5 none :: wsG) rX4_extract G [.ref (r), .ref (a), .int (zI ((k : Int))), .ref (o)] E0 (fun E => (∃ x, isW G E o x ∧ rtP k N x) ∧ isV G E (r + 1) ∧ isV G E (r + 3) ∧ isV G E (r + 5) ∧ isV G E (r + 7) ∧ isV G E (r + 9) ∧ ∀ q : Nat, ((q < r + 1 ∨ r + 11 ≤ q) ∧ (q < o ∨ o + 2 ≤ q)) → E q = E0 q) := by
  refine mm_of_v (by decide +kernel) (Nat.le_of_ble_eq_true rfl) ?_
  intro p e s m args below meth c ls C0 hr hlk hM hl hS
  have hl : lv_has ls 5 [(0, .ref (r)), (1, .ref (a)), (2, .int (zI ((k : Int)))), (3, .ref (o))] := hl
  have hfr : ∀ q : Nat, ((q < r + 1 ∨ r + 11 ≤ q) ∧ (q < o ∨ o + 2 ≤ q)) → E0 q = E0 q := fun _ _ => rfl
  obtain ⟨t, ht⟩ := rt_ex (k := k) (by omega) N
  have hfg := fgs_le (N := N) (n := 26) ((nl_le _ _).mp hn) (by omega)
  have hfp := fgs_pos N
  obtain ⟨X, hX⟩ : ∃ X, X = (fgs N + k - 1) / k := ⟨_, rfl⟩
  have hXb : X ≤ 117 := by rw [hX]; rcases hk23 with rfl | rfl <;> omega
  have hXi : (((fgs N : Nat) : Int) + (k : Int) - 1) / (k : Int) = (X : Int) := by rw [hX]; rcases hk23 with rfl | rfl <;> omega
  have hst := nw_start hk23 hX ht
  have hXp : 10 ^ X ≤ 1000000000 ^ 13 := by rw [← pow13]; exact Nat.pow_le_pow_right (by omega) hXb
  have hXn : nl (10 ^ X) ≤ 14 := (nl_le _ _).mpr (Nat.lt_of_le_of_lt hXp (Nat.pow_lt_pow_right (by omega) (by omega)))
  have hXm : 10 ^ X ≤ 10 ^ 130 := Nat.pow_le_pow_right (by omega) (by omega)
  replace hXp : hid _ := hXp
  replace hst : hid _ := hst
  replace hXi : hid _ := hXi
  replace hXm : hid _ := hXm
  replace hX : hid _ := hX
  replace ht : hid _ := ht
  refine lv_aload_n C0.1 C0.2.1 dX4_extract_0 rfl (lv_at hl 1 rfl) ?_
  refine mm_get (fs := [.ref (a + 1), .int (zI (((nl (N) : Nat) : Int)))]) C0 (C := RX8) (T := TX8) (N := 2) iG_X8 hM (hA.obj) rfl 1 (by decide) tw_83 rfl rfl dX4_extract_1 ?_
  refine z_if_eq (tgt := 17) C0.1 C0.2.1 dX4_extract_4 (by decide) ⟨by omega, by omega⟩ (fun c_4 => ?_) (fun c_4 => ?_)
  · skip
    have hN0 : N = 0 := nl_eq0.mp (by omega)
    refine lv_aload_n C0.1 C0.2.1 dX4_extract_17 rfl (lv_at hl 3 rfl) ?_
    refine lv_lconst (v := zL 0) C0.1 C0.2.1 dX4_extract_18 rfl ?_
    refine mm_callVv (As := [.long (zL (0))]) C0 vw_X8_setLong tw_419 (c_X8_setLongV l G _ (N := 0) hO rfl (by omega)) hM ((hO.obj).choose_spec) rfl rfl hl.1 rfl (Nat.le_of_ble_eq_true rfl) ⟨rfl, rfl, Nat.le_of_ble_eq_true rfl, Nat.le_of_ble_eq_true rfl, Nat.zero_le _, Nat.zero_le _⟩ dX4_extract_19 hS (fun E1 H locs hp hM hS => ?_)
    obtain ⟨hO, fr⟩ := hp
    have hk := rk.kept hk (fr _ (by omega))
    have hA := isW.kept hA (fr _ (by omega)) (fr _ (by omega))
    have hfr := (fun q h => (fr q (by omega)).trans (hfr q h) : ∀ q : Nat, ((q < r + 1 ∨ r + 11 ≤ q) ∧ (q < o ∨ o + 2 ≤ q)) → E1 q = E0 q)
    have h1 := isV.kept h1 (fr _ (by omega)) (fr _ (by omega))
    have h3 := isV.kept h3 (fr _ (by omega)) (fr _ (by omega))
    have h5 := isV.kept h5 (fr _ (by omega)) (fr _ (by omega))
    have h7 := isV.kept h7 (fr _ (by omega)) (fr _ (by omega))
    have h9 := isV.kept h9 (fr _ (by omega)) (fr _ (by omega))
    exact mm_vret C0 hr hlk hM hS dX4_extract_22 (⟨⟨0, hO, by rw [hN0]; exact ⟨by rw [Nat.zero_pow (by omega)]; exact Nat.le_refl _, Nat.pow_pos (by omega)⟩⟩, h1, h3, h5, h7, h9, hfr⟩)
  · skip
    have hN0 : N ≠ 0 := fun q => c_4 (by rw [q, nl_0]; rfl)
    have ht0 : 0 < t := Nat.pos_of_ne_zero (fun q => hN0 (by have h99 := ht.2; rw [q, Nat.zero_add, Nat.one_pow] at h99; omega))
    refine lv_iload_n C0.1 C0.2.1 dX4_extract_7 rfl (lv_at hl 2 rfl) ?_
    refine lv_iconst (v := zI 2) C0.1 C0.2.1 dX4_extract_8 rfl ?_
    refine z_icmp_lt (tgt := 17) C0.1 C0.2.1 dX4_extract_9 (by decide) ⟨by omega, by omega⟩ ⟨by omega, by omega⟩ (fun c_9 => ?_) (fun c_9 => ?_)
    · skip
      omega
    · skip
      refine lv_iload_n C0.1 C0.2.1 dX4_extract_12 rfl (lv_at hl 2 rfl) ?_
      refine lv_iconst (v := zI 3) C0.1 C0.2.1 dX4_extract_13 rfl ?_
      refine z_icmp_le (tgt := 23) C0.1 C0.2.1 dX4_extract_14 (by decide) ⟨by omega, by omega⟩ ⟨by omega, by omega⟩ (fun c_14 => ?_) (fun c_14 => ?_)
      · skip
        refine lv_aload_n C0.1 C0.2.1 dX4_extract_23 rfl (lv_at hl 3 rfl) ?_
        refine lv_aload_n C0.1 C0.2.1 dX4_extract_24 rfl (lv_at hl 1 rfl) ?_
        refine mm_callVi (As := []) C0 vw_X8_countFigures tw_474 (c_X8_countFigures l G _ hA) hM (hA.obj) rfl rfl hl.1 rfl (Nat.le_of_ble_eq_true rfl) ⟨rfl, rfl, Nat.le_of_ble_eq_true rfl, Nat.le_of_ble_eq_true rfl, Nat.zero_le _, Nat.zero_le _⟩ dX4_extract_25 hS (fun z_25 E2 H locs hp hM hS => ?_)
        obtain ⟨hz_25, hEq⟩ := hp
        rw [hEq] at hM
        refine z_asI (b := (fgs N : Int)) (hz_25) ?_
        refine lv_iload_n C0.1 C0.2.1 dX4_extract_28 rfl (lv_at hl 2 rfl) ?_
        refine z_iadd C0.1 C0.2.1 dX4_extract_29 ?_
        refine lv_iconst (v := zI 1) C0.1 C0.2.1 dX4_extract_30 rfl ?_
        refine z_isub C0.1 C0.2.1 dX4_extract_31 ?_
        refine lv_iload_n C0.1 C0.2.1 dX4_extract_32 rfl (lv_at hl 2 rfl) ?_
        refine z_idivp C0.1 C0.2.1 dX4_extract_33 ⟨by omega, by omega⟩ ⟨by omega, by omega⟩ (by omega) (by omega) ?_
        refine z_asI (a := (((((((fgs N : Int)) + ((k : Int)))) - (1))) / ((k : Int)))) (b := (X : Int)) (hXi) ?_
        refine mm_callVv (As := [.int (zI ((X : Int)))]) C0 vw_X8_setPowerOfTen tw_475 (c_X8_setPowerOfTen l G _ X rfl hO (by omega)) hM ((hO.obj).choose_spec) rfl rfl hl.1 rfl (Nat.le_of_ble_eq_true rfl) ⟨rfl, rfl, Nat.le_of_ble_eq_true rfl, Nat.le_of_ble_eq_true rfl, Nat.zero_le _, Nat.zero_le _⟩ dX4_extract_34 hS (fun E3 H locs hp hM hS => ?_)
        obtain ⟨hO, fr⟩ := hp
        have hk := rk.kept hk (fr _ (by omega))
        have hA := isW.kept hA (fr _ (by omega)) (fr _ (by omega))
        have hfr := (fun q h => (fr q (by omega)).trans (hfr q h) : ∀ q : Nat, ((q < r + 1 ∨ r + 11 ≤ q) ∧ (q < o ∨ o + 2 ≤ q)) → E3 q = E0 q)
        have h1 := isV.kept h1 (fr _ (by omega)) (fr _ (by omega))
        have h3 := isV.kept h3 (fr _ (by omega)) (fr _ (by omega))
        have h5 := isV.kept h5 (fr _ (by omega)) (fr _ (by omega))
        have h7 := isV.kept h7 (fr _ (by omega)) (fr _ (by omega))
        have h9 := isV.kept h9 (fr _ (by omega)) (fr _ (by omega))
        refine lv_iconst (v := zI 0) C0.1 C0.2.1 dX4_extract_37 rfl ?_
        refine lv_istore (lv' := [(4, .int (zI (0))), (0, .ref (r)), (1, .ref (a)), (2, .int (zI ((k : Int)))), (3, .ref (o))]) C0.1 C0.2.1 dX4_extract_38 hl (by decide) rfl (fun ls hl => ?_)
        have L40 : ∀ (k40 : Nat) (s_ x : Nat) (E4 : mE) (H : Heap) (locs : List Loc) (ls : Array Slot), (s_ ≤ 2000) → (t ≤ x) → (x ≤ 10 ^ X) → (nwI x t s_ (10 ^ X)) → (rk G E4 r) → (isW G E4 a N) → (isW G E4 o x) → (∀ q : Nat, ((q < r + 1 ∨ r + 11 ≤ q) ∧ (q < o ∨ o + 2 ≤ q)) → E4 q = E0 q) → (isV G E4 (r + 1)) → (isV G E4 (r + 3)) → (isV G E4 (r + 5)) → (isV G E4 (r + 7)) → (isV G E4 (r + 9)) → 2001 - s_ < k40 → mm_M G E4 H → va_S (mm_A G) s.heap H locs → lv_has ls 5 [(0, .ref (r)), (1, .ref (a)), (2, .int (zI ((k : Int)))), (3, .ref (o)), (4, .int (zI ((s_ : Int))))] → W p l e rX4_extract s m args below meth c H locs 0 0 (mm_Zv G below args s (fun E => (∃ x, isW G E o x ∧ rtP k N x) ∧ isV G E (r + 1) ∧ isV G E (r + 3) ∧ isV G E (r + 5) ∧ isV G E (r + 7) ∧ isV G E (r + 9) ∧ ∀ q : Nat, ((q < r + 1 ∨ r + 11 ≤ q) ∧ (q < o ∨ o + 2 ≤ q)) → E q = E0 q)) (F0 m 40 ls []) := by
          intro k40
          induction k40 with
          | zero => intro s_ x E4 H locs ls hs hxt hxX herr hk hA hO hfr h1 h3 h5 h7 h9 hk hM hS hl; exact absurd hk (Nat.not_lt_zero _)
          | succ k40 ih40 =>
            intro s_ x E4 H locs ls hs hxt hxX herr hk hA hO hfr h1 h3 h5 h7 h9 hk40 hM hS hl
            have hx0 : 0 < x := Nat.lt_of_lt_of_le ht0 hxt
            have hxn : nl x ≤ 14 := Nat.le_trans (nl_mono hxX) hXn
            replace hxX : hid _ := hxX
            refine lv_iload C0.1 C0.2.1 dX4_extract_40 (lv_at hl 4 rfl) ?_
            refine mm_ldc (z := 1000000) C0 tw_479 rfl dX4_extract_42 ?_
            refine z_icmp_ge (tgt := 145) C0.1 C0.2.1 dX4_extract_44 (by decide) ⟨by omega, by omega⟩ ⟨by omega, by omega⟩ (fun c_44 => ?_) (fun c_44 => ?_)
            · skip
              omega
            · skip
              refine lv_aload_n C0.1 C0.2.1 dX4_extract_47 rfl (lv_at hl 0 rfl) ?_
              refine mm_get (fs := [.ref (r + 1), .ref (r + 3), .ref (r + 5), .ref (r + 7), .ref (r + 9)]) C0 (C := RX4) (T := TX4) (N := 5) iG_X4 hM (hk) rfl 4 (by decide) tw_98 rfl rfl dX4_extract_48 ?_
              refine lv_aload_n C0.1 C0.2.1 dX4_extract_51 rfl (lv_at hl 3 rfl) ?_
              refine mm_callVv (As := [.ref (o)]) C0 vw_X8_copy tw_418 (c_X8_copy l G _ h9 hO (by omega)) hM ((h9.obj).choose_spec) rfl rfl hl.1 rfl (Nat.le_of_ble_eq_true rfl) ⟨rfl, rfl, Nat.le_of_ble_eq_true rfl, Nat.le_of_ble_eq_true rfl, Nat.zero_le _, Nat.zero_le _⟩ dX4_extract_52 hS (fun E5 H locs hp hM hS => ?_)
              obtain ⟨hP, fr⟩ := hp
              have hk := rk.kept hk (fr _ (by omega))
              have hA := isW.kept hA (fr _ (by omega)) (fr _ (by omega))
              have hO := isW.kept hO (fr _ (by omega)) (fr _ (by omega))
              have hfr := (fun q h => (fr q (by omega)).trans (hfr q h) : ∀ q : Nat, ((q < r + 1 ∨ r + 11 ≤ q) ∧ (q < o ∨ o + 2 ≤ q)) → E5 q = E0 q)
              have h1 := isV.kept h1 (fr _ (by omega)) (fr _ (by omega))
              have h3 := isV.kept h3 (fr _ (by omega)) (fr _ (by omega))
              have h5 := isV.kept h5 (fr _ (by omega)) (fr _ (by omega))
              have h7 := isV.kept h7 (fr _ (by omega)) (fr _ (by omega))
              refine lv_iload_n C0.1 C0.2.1 dX4_extract_55 rfl (lv_at hl 2 rfl) ?_
              refine lv_iconst (v := zI 3) C0.1 C0.2.1 dX4_extract_56 rfl ?_
              refine z_icmp_ne (tgt := 69) C0.1 C0.2.1 dX4_extract_57 (by decide) ⟨by omega, by omega⟩ ⟨by omega, by omega⟩ (fun c_57 => ?_) (fun c_57 => ?_)
              · skip
                obtain ⟨P, hPe⟩ : ∃ P, P = x := ⟨_, rfl⟩
                rw [← hPe] at hP
                have hPk : (k = 2 ∧ P = x) ∨ (k = 3 ∧ P = x * x) := Or.inl ⟨by omega, hPe⟩
                have hPn : nl P ≤ 28 := by rw [hPe]; omega
                refine lv_aload_n C0.1 C0.2.1 dX4_extract_69 rfl (lv_at hl 0 rfl) ?_
                refine lv_aload_n C0.1 C0.2.1 dX4_extract_70 rfl (lv_at hl 1 rfl) ?_
                refine lv_aload_n C0.1 C0.2.1 dX4_extract_71 rfl (lv_at hl 0 rfl) ?_
                refine mm_get (fs := [.ref (r + 1), .ref (r + 3), .ref (r + 5), .ref (r + 7), .ref (r + 9)]) C0 (C := RX4) (T := TX4) (N := 5) iG_X4 hM (hk) rfl 4 (by decide) tw_98 rfl rfl dX4_extract_72 ?_
                refine mm_callVv (As := [.ref (a), .ref (r + 9)]) C0 vw_X4_divide tw_481 (c_X4_divide l G _ hk h1 h3 h5 hA hP (by omega) (by omega) (by omega)) hM (hk) rfl rfl hl.1 rfl (Nat.le_of_ble_eq_true rfl) ⟨rfl, rfl, Nat.le_of_ble_eq_true rfl, Nat.le_of_ble_eq_true rfl, Nat.zero_le _, Nat.zero_le _⟩ dX4_extract_75 hS (fun E6 H locs hp hM hS => ?_)
                obtain ⟨hQ, h3w, h5, fr⟩ := hp
                have hk := rk.kept hk (fr _ (by omega))
                have hA := isW.kept hA (fr _ (by omega)) (fr _ (by omega))
                have hO := isW.kept hO (fr _ (by omega)) (fr _ (by omega))
                have hfr := (fun q h => (fr q (by omega)).trans (hfr q h) : ∀ q : Nat, ((q < r + 1 ∨ r + 11 ≤ q) ∧ (q < o ∨ o + 2 ≤ q)) → E6 q = E0 q)
                have h7 := isV.kept h7 (fr _ (by omega)) (fr _ (by omega))
                have hP := isW.kept hP (fr _ (by omega)) (fr _ (by omega))
                have hQn : nl (N / P) ≤ 26 := Nat.le_trans (nl_mono (Nat.div_le_self N P)) hn
                refine lv_aload_n C0.1 C0.2.1 dX4_extract_78 rfl (lv_at hl 0 rfl) ?_
                refine mm_get (fs := [.ref (r + 1), .ref (r + 3), .ref (r + 5), .ref (r + 7), .ref (r + 9)]) C0 (C := RX4) (T := TX4) (N := 5) iG_X4 hM (hk) rfl 3 (by decide) tw_97 rfl rfl dX4_extract_79 ?_
                refine lv_aload_n C0.1 C0.2.1 dX4_extract_82 rfl (lv_at hl 3 rfl) ?_
                refine mm_callVv (As := [.ref (o)]) C0 vw_X8_copy tw_418 (c_X8_copy l G _ h7 hO (by omega)) hM ((h7.obj).choose_spec) rfl rfl hl.1 rfl (Nat.le_of_ble_eq_true rfl) ⟨rfl, rfl, Nat.le_of_ble_eq_true rfl, Nat.le_of_ble_eq_true rfl, Nat.zero_le _, Nat.zero_le _⟩ dX4_extract_83 hS (fun E7 H locs hp hM hS => ?_)
                obtain ⟨hX7, fr⟩ := hp
                have hk := rk.kept hk (fr _ (by omega))
                have hA := isW.kept hA (fr _ (by omega)) (fr _ (by omega))
                have hO := isW.kept hO (fr _ (by omega)) (fr _ (by omega))
                have hfr := (fun q h => (fr q (by omega)).trans (hfr q h) : ∀ q : Nat, ((q < r + 1 ∨ r + 11 ≤ q) ∧ (q < o ∨ o + 2 ≤ q)) → E7 q = E0 q)
                have h5 := isV.kept h5 (fr _ (by omega)) (fr _ (by omega))
                have hP := isW.kept hP (fr _ (by omega)) (fr _ (by omega))
                have hQ := isW.kept hQ (fr _ (by omega)) (fr _ (by omega))
                have h3w := isW.kept h3w (fr _ (by omega)) (fr _ (by omega))
                refine lv_aload_n C0.1 C0.2.1 dX4_extract_86 rfl (lv_at hl 0 rfl) ?_
                refine mm_get (fs := [.ref (r + 1), .ref (r + 3), .ref (r + 5), .ref (r + 7), .ref (r + 9)]) C0 (C := RX4) (T := TX4) (N := 5) iG_X4 hM (hk) rfl 3 (by decide) tw_97 rfl rfl dX4_extract_87 ?_
                refine lv_iload_n C0.1 C0.2.1 dX4_extract_90 rfl (lv_at hl 2 rfl) ?_
                refine lv_iconst (v := zI 1) C0.1 C0.2.1 dX4_extract_91 rfl ?_
                refine z_isub C0.1 C0.2.1 dX4_extract_92 ?_
                refine z_i2l C0.1 C0.2.1 dX4_extract_93 ⟨by omega, by omega⟩ ?_
                refine z_asL (a := (((k : Int)) - (1))) (b := ((k - 1 : Nat) : Int)) (by omega) ?_
                refine lv_lconst (v := zL 0) C0.1 C0.2.1 dX4_extract_94 rfl ?_
                refine mm_callVv (As := [.long (zL (((k - 1 : Nat) : Int))), .long (zL (0))]) C0 vw_X8_scale tw_431 (c_X8_scale l G _ (k - 1) 0 rfl rfl hX7 (by omega) (by omega) (by omega)) hM ((hX7.v.obj).choose_spec) rfl rfl hl.1 rfl (Nat.le_of_ble_eq_true rfl) ⟨rfl, rfl, Nat.le_of_ble_eq_true rfl, Nat.le_of_ble_eq_true rfl, Nat.zero_le _, Nat.zero_le _⟩ dX4_extract_95 hS (fun E8 H locs hp hM hS => ?_)
                obtain ⟨hX7, fr⟩ := hp
                have hk := rk.kept hk (fr _ (by omega))
                have hA := isW.kept hA (fr _ (by omega)) (fr _ (by omega))
                have hO := isW.kept hO (fr _ (by omega)) (fr _ (by omega))
                have hfr := (fun q h => (fr q (by omega)).trans (hfr q h) : ∀ q : Nat, ((q < r + 1 ∨ r + 11 ≤ q) ∧ (q < o ∨ o + 2 ≤ q)) → E8 q = E0 q)
                have h5 := isV.kept h5 (fr _ (by omega)) (fr _ (by omega))
                have hP := isW.kept hP (fr _ (by omega)) (fr _ (by omega))
                have hQ := isW.kept hQ (fr _ (by omega)) (fr _ (by omega))
                have h3w := isW.kept h3w (fr _ (by omega)) (fr _ (by omega))
                rw [Nat.add_zero (x * (k - 1))] at hX7
                have hm1 := nl_mul1 (N := x) (a := k - 1) (by omega)
                refine lv_aload_n C0.1 C0.2.1 dX4_extract_98 rfl (lv_at hl 0 rfl) ?_
                refine mm_get (fs := [.ref (r + 1), .ref (r + 3), .ref (r + 5), .ref (r + 7), .ref (r + 9)]) C0 (C := RX4) (T := TX4) (N := 5) iG_X4 hM (hk) rfl 3 (by decide) tw_97 rfl rfl dX4_extract_99 ?_
                refine lv_aload_n C0.1 C0.2.1 dX4_extract_102 rfl (lv_at hl 0 rfl) ?_
                refine mm_get (fs := [.ref (r + 1), .ref (r + 3), .ref (r + 5), .ref (r + 7), .ref (r + 9)]) C0 (C := RX4) (T := TX4) (N := 5) iG_X4 hM (hk) rfl 0 (by decide) tw_92 rfl rfl dX4_extract_103 ?_
                refine mm_callVv (As := [.ref (r + 1)]) C0 vw_X8_add tw_482 (c_X8_add l G _ hX7 hQ (by omega) (by omega) (by omega)) hM ((hX7.v.obj).choose_spec) rfl rfl hl.1 rfl (Nat.le_of_ble_eq_true rfl) ⟨rfl, rfl, Nat.le_of_ble_eq_true rfl, Nat.le_of_ble_eq_true rfl, Nat.zero_le _, Nat.zero_le _⟩ dX4_extract_106 hS (fun E9 H locs hp hM hS => ?_)
                obtain ⟨hX7, fr⟩ := hp
                have hk := rk.kept hk (fr _ (by omega))
                have hA := isW.kept hA (fr _ (by omega)) (fr _ (by omega))
                have hO := isW.kept hO (fr _ (by omega)) (fr _ (by omega))
                have hfr := (fun q h => (fr q (by omega)).trans (hfr q h) : ∀ q : Nat, ((q < r + 1 ∨ r + 11 ≤ q) ∧ (q < o ∨ o + 2 ≤ q)) → E9 q = E0 q)
                have h5 := isV.kept h5 (fr _ (by omega)) (fr _ (by omega))
                have hP := isW.kept hP (fr _ (by omega)) (fr _ (by omega))
                have hQ := isW.kept hQ (fr _ (by omega)) (fr _ (by omega))
                have h3w := isW.kept h3w (fr _ (by omega)) (fr _ (by omega))
                refine lv_aload_n C0.1 C0.2.1 dX4_extract_109 rfl (lv_at hl 0 rfl) ?_
                refine mm_get (fs := [.ref (r + 1), .ref (r + 3), .ref (r + 5), .ref (r + 7), .ref (r + 9)]) C0 (C := RX4) (T := TX4) (N := 5) iG_X4 hM (hk) rfl 3 (by decide) tw_97 rfl rfl dX4_extract_110 ?_
                refine lv_iload_n C0.1 C0.2.1 dX4_extract_113 rfl (lv_at hl 2 rfl) ?_
                refine z_i2l C0.1 C0.2.1 dX4_extract_114 ⟨by omega, by omega⟩ ?_
                refine mm_callVl (As := [.long (zL ((k : Int)))]) C0 vw_X8_shrink tw_422 (c_X8_shrink l G _ k rfl hX7 (by omega) (by omega)) hM ((hX7.v.obj).choose_spec) rfl rfl hl.1 rfl (Nat.le_of_ble_eq_true rfl) ⟨rfl, rfl, Nat.le_of_ble_eq_true rfl, Nat.le_of_ble_eq_true rfl, Nat.zero_le _, Nat.zero_le _⟩ dX4_extract_115 hS (fun z_115 E10 H locs hp hM hS => ?_)
                obtain ⟨hz9, hX7, fr⟩ := hp
                have hk := rk.kept hk (fr _ (by omega))
                have hA := isW.kept hA (fr _ (by omega)) (fr _ (by omega))
                have hO := isW.kept hO (fr _ (by omega)) (fr _ (by omega))
                have hfr := (fun q h => (fr q (by omega)).trans (hfr q h) : ∀ q : Nat, ((q < r + 1 ∨ r + 11 ≤ q) ∧ (q < o ∨ o + 2 ≤ q)) → E10 q = E0 q)
                have h5 := isV.kept h5 (fr _ (by omega)) (fr _ (by omega))
                have hP := isW.kept hP (fr _ (by omega)) (fr _ (by omega))
                have hQ := isW.kept hQ (fr _ (by omega)) (fr _ (by omega))
                have h3w := isW.kept h3w (fr _ (by omega)) (fr _ (by omega))
                obtain ⟨nx, hnx⟩ : ∃ nx, nx = (x * (k - 1) + N / P) / k := ⟨_, rfl⟩
                rw [← hnx] at hX7
                obtain ⟨nt1, nt2, nt3⟩ := newt hPk ht hxt hx0 hnx
                replace hnx : hid _ := hnx
                refine lv_pop2_2 C0.1 C0.2.1 dX4_extract_118 rfl ?_
                refine lv_aload_n C0.1 C0.2.1 dX4_extract_119 rfl (lv_at hl 0 rfl) ?_
                refine mm_get (fs := [.ref (r + 1), .ref (r + 3), .ref (r + 5), .ref (r + 7), .ref (r + 9)]) C0 (C := RX4) (T := TX4) (N := 5) iG_X4 hM (hk) rfl 3 (by decide) tw_97 rfl rfl dX4_extract_120 ?_
                refine lv_aload_n C0.1 C0.2.1 dX4_extract_123 rfl (lv_at hl 3 rfl) ?_
                refine mm_callVi (As := [.ref (o)]) C0 vw_X8_compareWith tw_420 (c_X8_compareWith l G _ hX7 hO) hM (hX7.obj) rfl rfl hl.1 rfl (Nat.le_of_ble_eq_true rfl) ⟨rfl, rfl, Nat.le_of_ble_eq_true rfl, Nat.le_of_ble_eq_true rfl, Nat.zero_le _, Nat.zero_le _⟩ dX4_extract_124 hS (fun z_124 E11 H locs hp hM hS => ?_)
                obtain ⟨hz_124, hEq⟩ := hp
                rw [hEq] at hM
                refine z_asI (b := cmpZ nx x) (hz_124) ?_
                have hcl : cmpZ nx x < 0 → nx < x := by unfold cmpZ; omega
                have hcg : 0 ≤ cmpZ nx x → x ≤ nx := by unfold cmpZ; omega
                have hcm : cmpZ nx x = -1 ∨ cmpZ nx x = 0 ∨ cmpZ nx x = 1 := by unfold cmpZ; omega
                refine z_if_lt (tgt := 131) C0.1 C0.2.1 dX4_extract_127 (by decide) ⟨by omega, by omega⟩ (fun c_127 => ?_) (fun c_127 => ?_)
                · skip
                  refine lv_aload_n C0.1 C0.2.1 dX4_extract_131 rfl (lv_at hl 3 rfl) ?_
                  refine lv_aload_n C0.1 C0.2.1 dX4_extract_132 rfl (lv_at hl 0 rfl) ?_
                  refine mm_get (fs := [.ref (r + 1), .ref (r + 3), .ref (r + 5), .ref (r + 7), .ref (r + 9)]) C0 (C := RX4) (T := TX4) (N := 5) iG_X4 hM (hk) rfl 3 (by decide) tw_97 rfl rfl dX4_extract_133 ?_
                  refine mm_callVv (As := [.ref (r + 7)]) C0 vw_X8_copy tw_418 (c_X8_copy l G _ hO.v hX7 (by omega)) hM (hO.obj) rfl rfl hl.1 rfl (Nat.le_of_ble_eq_true rfl) ⟨rfl, rfl, Nat.le_of_ble_eq_true rfl, Nat.le_of_ble_eq_true rfl, Nat.zero_le _, Nat.zero_le _⟩ dX4_extract_136 hS (fun E12 H locs hp hM hS => ?_)
                  obtain ⟨hO, fr⟩ := hp
                  have hk := rk.kept hk (fr _ (by omega))
                  have hA := isW.kept hA (fr _ (by omega)) (fr _ (by omega))
                  have hfr := (fun q h => (fr q (by omega)).trans (hfr q h) : ∀ q : Nat, ((q < r + 1 ∨ r + 11 ≤ q) ∧ (q < o ∨ o + 2 ≤ q)) → E12 q = E0 q)
                  have h5 := isV.kept h5 (fr _ (by omega)) (fr _ (by omega))
                  have hP := isW.kept hP (fr _ (by omega)) (fr _ (by omega))
                  have hQ := isW.kept hQ (fr _ (by omega)) (fr _ (by omega))
                  have h3w := isW.kept h3w (fr _ (by omega)) (fr _ (by omega))
                  have hX7 := isW.kept hX7 (fr _ (by omega)) (fr _ (by omega))
                  have hs9 : s_ ≠ 2000 := fun q => by rw [q] at herr; have h99 := nw_end herr hXm hxt; have h98 := hcl (by omega); have h97 := nt3 h99; omega
                  have hlt9 := hcl (by omega)
                  have htx9 : t < x := Nat.lt_of_le_of_lt nt1 hlt9
                  have hn9 := nt2 htx9
                  refine lv_iinc (v := zI (((s_ + 1 : Nat) : Int))) (lv' := [(4, .int (zI (((s_ + 1 : Nat) : Int)))), (0, .ref (r)), (1, .ref (a)), (2, .int (zI ((k : Int)))), (3, .ref (o))]) C0.1 C0.2.1 dX4_extract_139 hl (k := 4) rfl (z_inc (a := (s_ : Int)) (n := 1) (by omega)) (by decide) rfl (fun ls hl => ?_)
                  refine lv_goto (tgt := 40) C0.1 C0.2.1 dX4_extract_142 (by decide) ?_
                  exact ih40  (s_ + 1) nx E12 _ _ _ (by omega) (nt1) (Nat.le_trans (Nat.le_of_lt hlt9) hxX) (nw_err herr hn9.2) (hk) (hA) (hO) (hfr) (hQ.v) (h3w.v) (h5) (hX7.v) (hP.v) (by omega) hM hS (lv_sub hl [1, 2, 3, 4, 0] rfl)
                · skip
                  exact mm_vret C0 hr hlk hM hS dX4_extract_130 (⟨⟨x, hO, by have h99 := hcg (by omega); have h98 : x = t := Nat.le_antisymm (Nat.le_of_not_lt fun q => by have h97 := (nt2 q).1; omega) hxt; rw [h98]; exact ht⟩, hQ.v, h3w.v, h5, hX7.v, hP.v, hfr⟩)
              · skip
                refine lv_aload_n C0.1 C0.2.1 dX4_extract_60 rfl (lv_at hl 0 rfl) ?_
                refine mm_get (fs := [.ref (r + 1), .ref (r + 3), .ref (r + 5), .ref (r + 7), .ref (r + 9)]) C0 (C := RX4) (T := TX4) (N := 5) iG_X4 hM (hk) rfl 4 (by decide) tw_98 rfl rfl dX4_extract_61 ?_
                refine lv_aload_n C0.1 C0.2.1 dX4_extract_64 rfl (lv_at hl 3 rfl) ?_
                refine lv_aload_n C0.1 C0.2.1 dX4_extract_65 rfl (lv_at hl 3 rfl) ?_
                refine mm_callVv (As := [.ref (o), .ref (o)]) C0 vw_X8_setProduct tw_480 (c_X8_setProduct l G _ hP.v hO hO (by omega) (by omega) (by omega)) hM ((hP.v.obj).choose_spec) rfl rfl hl.1 rfl (Nat.le_of_ble_eq_true rfl) ⟨rfl, rfl, Nat.le_of_ble_eq_true rfl, Nat.le_of_ble_eq_true rfl, Nat.zero_le _, Nat.zero_le _⟩ dX4_extract_66 hS (fun E13 H locs hp hM hS => ?_)
                obtain ⟨hP, fr⟩ := hp
                have hk := rk.kept hk (fr _ (by omega))
                have hA := isW.kept hA (fr _ (by omega)) (fr _ (by omega))
                have hO := isW.kept hO (fr _ (by omega)) (fr _ (by omega))
                have hfr := (fun q h => (fr q (by omega)).trans (hfr q h) : ∀ q : Nat, ((q < r + 1 ∨ r + 11 ≤ q) ∧ (q < o ∨ o + 2 ≤ q)) → E13 q = E0 q)
                have h1 := isV.kept h1 (fr _ (by omega)) (fr _ (by omega))
                have h3 := isV.kept h3 (fr _ (by omega)) (fr _ (by omega))
                have h5 := isV.kept h5 (fr _ (by omega)) (fr _ (by omega))
                have h7 := isV.kept h7 (fr _ (by omega)) (fr _ (by omega))
                obtain ⟨P, hPe⟩ : ∃ P, P = x * x := ⟨_, rfl⟩
                rw [← hPe] at hP
                have hPk : (k = 2 ∧ P = x) ∨ (k = 3 ∧ P = x * x) := Or.inr ⟨by omega, hPe⟩
                have hPn : nl P ≤ 28 := by have h99 := (hP.le); exact nl_prod14 hxn hPe
                refine lv_aload_n C0.1 C0.2.1 dX4_extract_69 rfl (lv_at hl 0 rfl) ?_
                refine lv_aload_n C0.1 C0.2.1 dX4_extract_70 rfl (lv_at hl 1 rfl) ?_
                refine lv_aload_n C0.1 C0.2.1 dX4_extract_71 rfl (lv_at hl 0 rfl) ?_
                refine mm_get (fs := [.ref (r + 1), .ref (r + 3), .ref (r + 5), .ref (r + 7), .ref (r + 9)]) C0 (C := RX4) (T := TX4) (N := 5) iG_X4 hM (hk) rfl 4 (by decide) tw_98 rfl rfl dX4_extract_72 ?_
                refine mm_callVv (As := [.ref (a), .ref (r + 9)]) C0 vw_X4_divide tw_481 (c_X4_divide l G _ hk h1 h3 h5 hA hP (by omega) (by omega) (by omega)) hM (hk) rfl rfl hl.1 rfl (Nat.le_of_ble_eq_true rfl) ⟨rfl, rfl, Nat.le_of_ble_eq_true rfl, Nat.le_of_ble_eq_true rfl, Nat.zero_le _, Nat.zero_le _⟩ dX4_extract_75 hS (fun E14 H locs hp hM hS => ?_)
                obtain ⟨hQ, h3w, h5, fr⟩ := hp
                have hk := rk.kept hk (fr _ (by omega))
                have hA := isW.kept hA (fr _ (by omega)) (fr _ (by omega))
                have hO := isW.kept hO (fr _ (by omega)) (fr _ (by omega))
                have hfr := (fun q h => (fr q (by omega)).trans (hfr q h) : ∀ q : Nat, ((q < r + 1 ∨ r + 11 ≤ q) ∧ (q < o ∨ o + 2 ≤ q)) → E14 q = E0 q)
                have h7 := isV.kept h7 (fr _ (by omega)) (fr _ (by omega))
                have hP := isW.kept hP (fr _ (by omega)) (fr _ (by omega))
                have hQn : nl (N / P) ≤ 26 := Nat.le_trans (nl_mono (Nat.div_le_self N P)) hn
                refine lv_aload_n C0.1 C0.2.1 dX4_extract_78 rfl (lv_at hl 0 rfl) ?_
                refine mm_get (fs := [.ref (r + 1), .ref (r + 3), .ref (r + 5), .ref (r + 7), .ref (r + 9)]) C0 (C := RX4) (T := TX4) (N := 5) iG_X4 hM (hk) rfl 3 (by decide) tw_97 rfl rfl dX4_extract_79 ?_
                refine lv_aload_n C0.1 C0.2.1 dX4_extract_82 rfl (lv_at hl 3 rfl) ?_
                refine mm_callVv (As := [.ref (o)]) C0 vw_X8_copy tw_418 (c_X8_copy l G _ h7 hO (by omega)) hM ((h7.obj).choose_spec) rfl rfl hl.1 rfl (Nat.le_of_ble_eq_true rfl) ⟨rfl, rfl, Nat.le_of_ble_eq_true rfl, Nat.le_of_ble_eq_true rfl, Nat.zero_le _, Nat.zero_le _⟩ dX4_extract_83 hS (fun E15 H locs hp hM hS => ?_)
                obtain ⟨hX7, fr⟩ := hp
                have hk := rk.kept hk (fr _ (by omega))
                have hA := isW.kept hA (fr _ (by omega)) (fr _ (by omega))
                have hO := isW.kept hO (fr _ (by omega)) (fr _ (by omega))
                have hfr := (fun q h => (fr q (by omega)).trans (hfr q h) : ∀ q : Nat, ((q < r + 1 ∨ r + 11 ≤ q) ∧ (q < o ∨ o + 2 ≤ q)) → E15 q = E0 q)
                have h5 := isV.kept h5 (fr _ (by omega)) (fr _ (by omega))
                have hP := isW.kept hP (fr _ (by omega)) (fr _ (by omega))
                have hQ := isW.kept hQ (fr _ (by omega)) (fr _ (by omega))
                have h3w := isW.kept h3w (fr _ (by omega)) (fr _ (by omega))
                refine lv_aload_n C0.1 C0.2.1 dX4_extract_86 rfl (lv_at hl 0 rfl) ?_
                refine mm_get (fs := [.ref (r + 1), .ref (r + 3), .ref (r + 5), .ref (r + 7), .ref (r + 9)]) C0 (C := RX4) (T := TX4) (N := 5) iG_X4 hM (hk) rfl 3 (by decide) tw_97 rfl rfl dX4_extract_87 ?_
                refine lv_iload_n C0.1 C0.2.1 dX4_extract_90 rfl (lv_at hl 2 rfl) ?_
                refine lv_iconst (v := zI 1) C0.1 C0.2.1 dX4_extract_91 rfl ?_
                refine z_isub C0.1 C0.2.1 dX4_extract_92 ?_
                refine z_i2l C0.1 C0.2.1 dX4_extract_93 ⟨by omega, by omega⟩ ?_
                refine z_asL (a := (((k : Int)) - (1))) (b := ((k - 1 : Nat) : Int)) (by omega) ?_
                refine lv_lconst (v := zL 0) C0.1 C0.2.1 dX4_extract_94 rfl ?_
                refine mm_callVv (As := [.long (zL (((k - 1 : Nat) : Int))), .long (zL (0))]) C0 vw_X8_scale tw_431 (c_X8_scale l G _ (k - 1) 0 rfl rfl hX7 (by omega) (by omega) (by omega)) hM ((hX7.v.obj).choose_spec) rfl rfl hl.1 rfl (Nat.le_of_ble_eq_true rfl) ⟨rfl, rfl, Nat.le_of_ble_eq_true rfl, Nat.le_of_ble_eq_true rfl, Nat.zero_le _, Nat.zero_le _⟩ dX4_extract_95 hS (fun E16 H locs hp hM hS => ?_)
                obtain ⟨hX7, fr⟩ := hp
                have hk := rk.kept hk (fr _ (by omega))
                have hA := isW.kept hA (fr _ (by omega)) (fr _ (by omega))
                have hO := isW.kept hO (fr _ (by omega)) (fr _ (by omega))
                have hfr := (fun q h => (fr q (by omega)).trans (hfr q h) : ∀ q : Nat, ((q < r + 1 ∨ r + 11 ≤ q) ∧ (q < o ∨ o + 2 ≤ q)) → E16 q = E0 q)
                have h5 := isV.kept h5 (fr _ (by omega)) (fr _ (by omega))
                have hP := isW.kept hP (fr _ (by omega)) (fr _ (by omega))
                have hQ := isW.kept hQ (fr _ (by omega)) (fr _ (by omega))
                have h3w := isW.kept h3w (fr _ (by omega)) (fr _ (by omega))
                rw [Nat.add_zero (x * (k - 1))] at hX7
                have hm1 := nl_mul1 (N := x) (a := k - 1) (by omega)
                refine lv_aload_n C0.1 C0.2.1 dX4_extract_98 rfl (lv_at hl 0 rfl) ?_
                refine mm_get (fs := [.ref (r + 1), .ref (r + 3), .ref (r + 5), .ref (r + 7), .ref (r + 9)]) C0 (C := RX4) (T := TX4) (N := 5) iG_X4 hM (hk) rfl 3 (by decide) tw_97 rfl rfl dX4_extract_99 ?_
                refine lv_aload_n C0.1 C0.2.1 dX4_extract_102 rfl (lv_at hl 0 rfl) ?_
                refine mm_get (fs := [.ref (r + 1), .ref (r + 3), .ref (r + 5), .ref (r + 7), .ref (r + 9)]) C0 (C := RX4) (T := TX4) (N := 5) iG_X4 hM (hk) rfl 0 (by decide) tw_92 rfl rfl dX4_extract_103 ?_
                refine mm_callVv (As := [.ref (r + 1)]) C0 vw_X8_add tw_482 (c_X8_add l G _ hX7 hQ (by omega) (by omega) (by omega)) hM ((hX7.v.obj).choose_spec) rfl rfl hl.1 rfl (Nat.le_of_ble_eq_true rfl) ⟨rfl, rfl, Nat.le_of_ble_eq_true rfl, Nat.le_of_ble_eq_true rfl, Nat.zero_le _, Nat.zero_le _⟩ dX4_extract_106 hS (fun E17 H locs hp hM hS => ?_)
                obtain ⟨hX7, fr⟩ := hp
                have hk := rk.kept hk (fr _ (by omega))
                have hA := isW.kept hA (fr _ (by omega)) (fr _ (by omega))
                have hO := isW.kept hO (fr _ (by omega)) (fr _ (by omega))
                have hfr := (fun q h => (fr q (by omega)).trans (hfr q h) : ∀ q : Nat, ((q < r + 1 ∨ r + 11 ≤ q) ∧ (q < o ∨ o + 2 ≤ q)) → E17 q = E0 q)
                have h5 := isV.kept h5 (fr _ (by omega)) (fr _ (by omega))
                have hP := isW.kept hP (fr _ (by omega)) (fr _ (by omega))
                have hQ := isW.kept hQ (fr _ (by omega)) (fr _ (by omega))
                have h3w := isW.kept h3w (fr _ (by omega)) (fr _ (by omega))
                refine lv_aload_n C0.1 C0.2.1 dX4_extract_109 rfl (lv_at hl 0 rfl) ?_
                refine mm_get (fs := [.ref (r + 1), .ref (r + 3), .ref (r + 5), .ref (r + 7), .ref (r + 9)]) C0 (C := RX4) (T := TX4) (N := 5) iG_X4 hM (hk) rfl 3 (by decide) tw_97 rfl rfl dX4_extract_110 ?_
                refine lv_iload_n C0.1 C0.2.1 dX4_extract_113 rfl (lv_at hl 2 rfl) ?_
                refine z_i2l C0.1 C0.2.1 dX4_extract_114 ⟨by omega, by omega⟩ ?_
                refine mm_callVl (As := [.long (zL ((k : Int)))]) C0 vw_X8_shrink tw_422 (c_X8_shrink l G _ k rfl hX7 (by omega) (by omega)) hM ((hX7.v.obj).choose_spec) rfl rfl hl.1 rfl (Nat.le_of_ble_eq_true rfl) ⟨rfl, rfl, Nat.le_of_ble_eq_true rfl, Nat.le_of_ble_eq_true rfl, Nat.zero_le _, Nat.zero_le _⟩ dX4_extract_115 hS (fun z_115 E18 H locs hp hM hS => ?_)
                obtain ⟨hz9, hX7, fr⟩ := hp
                have hk := rk.kept hk (fr _ (by omega))
                have hA := isW.kept hA (fr _ (by omega)) (fr _ (by omega))
                have hO := isW.kept hO (fr _ (by omega)) (fr _ (by omega))
                have hfr := (fun q h => (fr q (by omega)).trans (hfr q h) : ∀ q : Nat, ((q < r + 1 ∨ r + 11 ≤ q) ∧ (q < o ∨ o + 2 ≤ q)) → E18 q = E0 q)
                have h5 := isV.kept h5 (fr _ (by omega)) (fr _ (by omega))
                have hP := isW.kept hP (fr _ (by omega)) (fr _ (by omega))
                have hQ := isW.kept hQ (fr _ (by omega)) (fr _ (by omega))
                have h3w := isW.kept h3w (fr _ (by omega)) (fr _ (by omega))
                obtain ⟨nx, hnx⟩ : ∃ nx, nx = (x * (k - 1) + N / P) / k := ⟨_, rfl⟩
                rw [← hnx] at hX7
                obtain ⟨nt1, nt2, nt3⟩ := newt hPk ht hxt hx0 hnx
                replace hnx : hid _ := hnx
                refine lv_pop2_2 C0.1 C0.2.1 dX4_extract_118 rfl ?_
                refine lv_aload_n C0.1 C0.2.1 dX4_extract_119 rfl (lv_at hl 0 rfl) ?_
                refine mm_get (fs := [.ref (r + 1), .ref (r + 3), .ref (r + 5), .ref (r + 7), .ref (r + 9)]) C0 (C := RX4) (T := TX4) (N := 5) iG_X4 hM (hk) rfl 3 (by decide) tw_97 rfl rfl dX4_extract_120 ?_
                refine lv_aload_n C0.1 C0.2.1 dX4_extract_123 rfl (lv_at hl 3 rfl) ?_
                refine mm_callVi (As := [.ref (o)]) C0 vw_X8_compareWith tw_420 (c_X8_compareWith l G _ hX7 hO) hM (hX7.obj) rfl rfl hl.1 rfl (Nat.le_of_ble_eq_true rfl) ⟨rfl, rfl, Nat.le_of_ble_eq_true rfl, Nat.le_of_ble_eq_true rfl, Nat.zero_le _, Nat.zero_le _⟩ dX4_extract_124 hS (fun z_124 E19 H locs hp hM hS => ?_)
                obtain ⟨hz_124, hEq⟩ := hp
                rw [hEq] at hM
                refine z_asI (b := cmpZ nx x) (hz_124) ?_
                have hcl : cmpZ nx x < 0 → nx < x := by unfold cmpZ; omega
                have hcg : 0 ≤ cmpZ nx x → x ≤ nx := by unfold cmpZ; omega
                have hcm : cmpZ nx x = -1 ∨ cmpZ nx x = 0 ∨ cmpZ nx x = 1 := by unfold cmpZ; omega
                refine z_if_lt (tgt := 131) C0.1 C0.2.1 dX4_extract_127 (by decide) ⟨by omega, by omega⟩ (fun c_127 => ?_) (fun c_127 => ?_)
                · skip
                  refine lv_aload_n C0.1 C0.2.1 dX4_extract_131 rfl (lv_at hl 3 rfl) ?_
                  refine lv_aload_n C0.1 C0.2.1 dX4_extract_132 rfl (lv_at hl 0 rfl) ?_
                  refine mm_get (fs := [.ref (r + 1), .ref (r + 3), .ref (r + 5), .ref (r + 7), .ref (r + 9)]) C0 (C := RX4) (T := TX4) (N := 5) iG_X4 hM (hk) rfl 3 (by decide) tw_97 rfl rfl dX4_extract_133 ?_
                  refine mm_callVv (As := [.ref (r + 7)]) C0 vw_X8_copy tw_418 (c_X8_copy l G _ hO.v hX7 (by omega)) hM (hO.obj) rfl rfl hl.1 rfl (Nat.le_of_ble_eq_true rfl) ⟨rfl, rfl, Nat.le_of_ble_eq_true rfl, Nat.le_of_ble_eq_true rfl, Nat.zero_le _, Nat.zero_le _⟩ dX4_extract_136 hS (fun E20 H locs hp hM hS => ?_)
                  obtain ⟨hO, fr⟩ := hp
                  have hk := rk.kept hk (fr _ (by omega))
                  have hA := isW.kept hA (fr _ (by omega)) (fr _ (by omega))
                  have hfr := (fun q h => (fr q (by omega)).trans (hfr q h) : ∀ q : Nat, ((q < r + 1 ∨ r + 11 ≤ q) ∧ (q < o ∨ o + 2 ≤ q)) → E20 q = E0 q)
                  have h5 := isV.kept h5 (fr _ (by omega)) (fr _ (by omega))
                  have hP := isW.kept hP (fr _ (by omega)) (fr _ (by omega))
                  have hQ := isW.kept hQ (fr _ (by omega)) (fr _ (by omega))
                  have h3w := isW.kept h3w (fr _ (by omega)) (fr _ (by omega))
                  have hX7 := isW.kept hX7 (fr _ (by omega)) (fr _ (by omega))
                  have hs9 : s_ ≠ 2000 := fun q => by rw [q] at herr; have h99 := nw_end herr hXm hxt; have h98 := hcl (by omega); have h97 := nt3 h99; omega
                  have hlt9 := hcl (by omega)
                  have htx9 : t < x := Nat.lt_of_le_of_lt nt1 hlt9
                  have hn9 := nt2 htx9
                  refine lv_iinc (v := zI (((s_ + 1 : Nat) : Int))) (lv' := [(4, .int (zI (((s_ + 1 : Nat) : Int)))), (0, .ref (r)), (1, .ref (a)), (2, .int (zI ((k : Int)))), (3, .ref (o))]) C0.1 C0.2.1 dX4_extract_139 hl (k := 4) rfl (z_inc (a := (s_ : Int)) (n := 1) (by omega)) (by decide) rfl (fun ls hl => ?_)
                  refine lv_goto (tgt := 40) C0.1 C0.2.1 dX4_extract_142 (by decide) ?_
                  exact ih40  (s_ + 1) nx E20 _ _ _ (by omega) (nt1) (Nat.le_trans (Nat.le_of_lt hlt9) hxX) (nw_err herr hn9.2) (hk) (hA) (hO) (hfr) (hQ.v) (h3w.v) (h5) (hX7.v) (hP.v) (by omega) hM hS (lv_sub hl [1, 2, 3, 4, 0] rfl)
                · skip
                  exact mm_vret C0 hr hlk hM hS dX4_extract_130 (⟨⟨x, hO, by have h99 := hcg (by omega); have h98 : x = t := Nat.le_antisymm (Nat.le_of_not_lt fun q => by have h97 := (nt2 q).1; omega) hxt; rw [h98]; exact ht⟩, hQ.v, h3w.v, h5, hX7.v, hP.v, hfr⟩)
        exact L40 (_ + 1) 0 (10 ^ X) E3 _ _ _ (Nat.zero_le _) (hst) (Nat.le_refl _) (by unfold nwI; rw [Nat.pow_zero]; omega) (hk) (hA) (hO) (hfr) (h1) (h3) (h5) (h7) (h9) (Nat.lt_succ_self _) hM hS (lv_sub hl [1, 2, 3, 4, 0] rfl)
      · skip
        omega
