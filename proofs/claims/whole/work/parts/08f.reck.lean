def rX4_divideLong : Room := { frames := 3, cells := 0, slots := 0, locals := 79 }
theorem vw_X4_divideLong : mm_Vw RX4 yX4_divideLong cX4_divideLong 9 none 1 := ⟨tw_428, tp_4, tw_3, tw_429, by decide +kernel⟩
set_option maxHeartbeats 4000000 in
set_option maxRecDepth 100000 in
theorem c_X4_divideLong (l : Launch) (G : mG) (E0 : mE) {r b N1 N2 : Nat} (hk : rk G E0 r) (hQ : isV G E0 (r + 1)) (hR : isW G E0 (r + 3) N1) (hV : isV G E0 (r + 5)) (hB : isW G E0 b N2) (hb : b + 2 ≤ r + 1 ∨ r + 7 ≤ b) (h2 : 2 ≤ nl N2) (hle : N2 ≤ N1) (hn1 : nl N1 ≤ 54) : mm_Cv l yX4_divideLong (.code yX4_divideLong cX4_divideLong 9 none :: wsG) rX4_divideLong G [.ref (r), .ref (b)] E0 (fun E => isW G E (r + 1) (N1 / N2) ∧ isW G E (r + 3) (N1 % N2) ∧ isV G E (r + 5) ∧ ∀ q : Nat, (q < r + 1 ∨ r + 7 ≤ q) → E q = E0 q) := by
  refine mm_of_v (by decide +kernel) (Nat.le_of_ble_eq_true rfl) ?_
  intro p e s m args below meth c ls C0 hr hlk hM hl hS
  have hl : lv_has ls 9 [(0, .ref (r)), (1, .ref (b))] := hl
  obtain ⟨nV, fV, hVr⟩ := hV
  have hfr : ∀ q : Nat, (q < r + 1 ∨ r + 7 ≤ q) → E0 q = E0 q := fun _ _ => rfl
  have hN2 : N2 ≠ 0 := nl_pos.mp (by omega)
  obtain ⟨v, lift, hlft, hl0, hlB, hDlt, hDn, hv, hv1, hv2, hv4⟩ := kn_lift hN2 rfl
  have hd1 := dg_lt N2 (nl N2 - 1)
  have hnle := nl_mono hle
  have hU1 := nl_mul1 (N := N1) hlB
  have hD0 : N2 * lift ≠ 0 := Nat.mul_ne_zero hN2 (by omega)
  have hDU : N2 * lift ≤ N1 * lift := Nat.mul_le_mul_right _ hle
  have hnDU := nl_mono hDU
  rw [hDn] at hnDU
  have hUU := dv_U (U := N1 * lift) hD0 rfl (by rw [hDn]; exact hnDU)
  rw [hDn] at hUU
  replace hDlt : hid _ := hDlt
  replace hv1 : hid _ := hv1
  replace hv2 : hid _ := hv2
  replace hUU : hid _ := hUU
  replace hDU : hid _ := hDU
  refine mm_ldc2 (z := 1000000000) C0 tw_430 rfl dX4_divideLong_0 ?_
  refine lv_aload_n C0.1 C0.2.1 dX4_divideLong_3 rfl (lv_at hl 1 rfl) ?_
  refine lv_aload_n C0.1 C0.2.1 dX4_divideLong_4 rfl (lv_at hl 1 rfl) ?_
  refine mm_get (fs := [.ref (b + 1), .int (zI (((nl (N2) : Nat) : Int)))]) C0 (C := RX8) (T := TX8) (N := 2) iG_X8 hM (hB.obj) rfl 1 (by decide) tw_83 rfl rfl dX4_divideLong_5 ?_
  refine lv_iconst (v := zI 1) C0.1 C0.2.1 dX4_divideLong_8 rfl ?_
  refine z_isub C0.1 C0.2.1 dX4_divideLong_9 ?_
  refine mm_callVl (As := [.int (zI (((((nl (N2) : Nat) : Int)) - (1))))]) C0 vw_X8_limb tw_421 (c_X8_limbW l G _ hB (nl N2 - 1) (by omega) ⟨by omega, by omega⟩) hM (hB.obj) rfl rfl hl.1 rfl (Nat.le_of_ble_eq_true rfl) ⟨rfl, rfl, Nat.le_of_ble_eq_true rfl, Nat.le_of_ble_eq_true rfl, Nat.zero_le _, Nat.zero_le _⟩ dX4_divideLong_10 hS (fun z_10 E1 H locs hp hM hS => ?_)
  obtain ⟨hz_10, hEq⟩ := hp
  rw [hEq] at hM
  refine z_asL (b := (dg N2 (nl N2 - 1) : Int)) (hz_10) ?_
  refine lv_lconst (v := zL 1) C0.1 C0.2.1 dX4_divideLong_13 rfl ?_
  refine z_ladd C0.1 C0.2.1 dX4_divideLong_14 ?_
  refine z_ldivp C0.1 C0.2.1 dX4_divideLong_15 ⟨by omega, by omega⟩ ⟨by omega, by omega⟩ (by omega) (by omega) ?_
  refine z_asL (a := ((1000000000) / ((((dg N2 (nl N2 - 1) : Int)) + (1))))) (b := (lift : Int)) (by rw [hlft, Int.natCast_ediv, Int.natCast_add]; rfl) ?_
  refine lv_lstore_n (lv' := [(2, .long (zL ((lift : Int)))), (0, .ref (r)), (1, .ref (b))]) C0.1 C0.2.1 dX4_divideLong_16 rfl hl (by decide) rfl (fun ls hl => ?_)
  replace hlft : hid _ := hlft
  refine lv_aload_n C0.1 C0.2.1 dX4_divideLong_17 rfl (lv_at hl 1 rfl) ?_
  refine mm_get (fs := [.ref (r + 1), .ref (r + 3), .ref (r + 5), .ref (r + 7), .ref (r + 9)]) C0 (C := RX4) (T := TX4) (N := 5) iG_X4 hM (hk) rfl 2 (by decide) tw_96 rfl rfl dX4_divideLong_18 ?_
  refine lv_aload_n C0.1 C0.2.1 dX4_divideLong_21 rfl (lv_at hl 2 rfl) ?_
  refine mm_callVv (As := [.ref (b)]) C0 vw_X8_copy tw_418 (c_X8_copy l G _ ⟨nV, fV, hVr⟩ hB (by omega)) hM (hVr.1) rfl rfl hl.1 rfl (Nat.le_of_ble_eq_true rfl) ⟨rfl, rfl, Nat.le_of_ble_eq_true rfl, Nat.le_of_ble_eq_true rfl, Nat.zero_le _, Nat.zero_le _⟩ dX4_divideLong_22 hS (fun E2 H locs hp hM hS => ?_)
  obtain ⟨hD, fr⟩ := hp
  have hk := rk.kept hk (fr _ (by omega))
  have hQ := isV.kept hQ (fr _ (by omega)) (fr _ (by omega))
  have hR := isW.kept hR (fr _ (by omega)) (fr _ (by omega))
  have hB := isW.kept hB (fr _ (by omega)) (fr _ (by omega))
  have hfr := (fun q h => (fr q (by omega)).trans (hfr q h) : ∀ q : Nat, (q < r + 1 ∨ r + 7 ≤ q) → E2 q = E0 q)
  refine lv_aload_n C0.1 C0.2.1 dX4_divideLong_25 rfl (lv_at hl 1 rfl) ?_
  refine mm_get (fs := [.ref (r + 1), .ref (r + 3), .ref (r + 5), .ref (r + 7), .ref (r + 9)]) C0 (C := RX4) (T := TX4) (N := 5) iG_X4 hM (hk) rfl 2 (by decide) tw_96 rfl rfl dX4_divideLong_26 ?_
  refine lv_lload_n C0.1 C0.2.1 dX4_divideLong_29 rfl (lv_at hl 0 rfl) ?_
  refine lv_lconst (v := zL 0) C0.1 C0.2.1 dX4_divideLong_30 rfl ?_
  refine mm_callVv (As := [.long (zL ((lift : Int))), .long (zL (0))]) C0 vw_X8_scale tw_431 (c_X8_scale l G _ lift 0 rfl rfl hD hlB (by omega) (by omega)) hM (hD.obj) rfl rfl hl.1 rfl (Nat.le_of_ble_eq_true rfl) ⟨rfl, rfl, Nat.le_of_ble_eq_true rfl, Nat.le_of_ble_eq_true rfl, Nat.zero_le _, Nat.zero_le _⟩ dX4_divideLong_31 hS (fun E3 H locs hp hM hS => ?_)
  obtain ⟨hD, fr⟩ := hp
  have hk := rk.kept hk (fr _ (by omega))
  have hQ := isV.kept hQ (fr _ (by omega)) (fr _ (by omega))
  have hR := isW.kept hR (fr _ (by omega)) (fr _ (by omega))
  have hB := isW.kept hB (fr _ (by omega)) (fr _ (by omega))
  have hfr := (fun q h => (fr q (by omega)).trans (hfr q h) : ∀ q : Nat, (q < r + 1 ∨ r + 7 ≤ q) → E3 q = E0 q)
  rw [Nat.add_zero (N2 * lift)] at hD
  refine lv_aload_n C0.1 C0.2.1 dX4_divideLong_34 rfl (lv_at hl 1 rfl) ?_
  refine mm_get (fs := [.ref (r + 1), .ref (r + 3), .ref (r + 5), .ref (r + 7), .ref (r + 9)]) C0 (C := RX4) (T := TX4) (N := 5) iG_X4 hM (hk) rfl 1 (by decide) tw_94 rfl rfl dX4_divideLong_35 ?_
  refine lv_lload_n C0.1 C0.2.1 dX4_divideLong_38 rfl (lv_at hl 0 rfl) ?_
  refine lv_lconst (v := zL 0) C0.1 C0.2.1 dX4_divideLong_39 rfl ?_
  refine mm_callVv (As := [.long (zL ((lift : Int))), .long (zL (0))]) C0 vw_X8_scale tw_431 (c_X8_scale l G _ lift 0 rfl rfl hR hlB (by omega) (by omega)) hM (hR.obj) rfl rfl hl.1 rfl (Nat.le_of_ble_eq_true rfl) ⟨rfl, rfl, Nat.le_of_ble_eq_true rfl, Nat.le_of_ble_eq_true rfl, Nat.zero_le _, Nat.zero_le _⟩ dX4_divideLong_40 hS (fun E4 H locs hp hM hS => ?_)
  obtain ⟨hR, fr⟩ := hp
  have hk := rk.kept hk (fr _ (by omega))
  have hQ := isV.kept hQ (fr _ (by omega)) (fr _ (by omega))
  have hB := isW.kept hB (fr _ (by omega)) (fr _ (by omega))
  have hfr := (fun q h => (fr q (by omega)).trans (hfr q h) : ∀ q : Nat, (q < r + 1 ∨ r + 7 ≤ q) → E4 q = E0 q)
  rw [Nat.add_zero (N1 * lift)] at hR
  have hD := isW.kept hD (fr _ (by omega)) (fr _ (by omega))
  refine lv_aload_n C0.1 C0.2.1 dX4_divideLong_43 rfl (lv_at hl 1 rfl) ?_
  refine mm_get (fs := [.ref (r + 1), .ref (r + 3), .ref (r + 5), .ref (r + 7), .ref (r + 9)]) C0 (C := RX4) (T := TX4) (N := 5) iG_X4 hM (hk) rfl 2 (by decide) tw_96 rfl rfl dX4_divideLong_44 ?_
  refine mm_get (fs := [.ref (r + 5 + 1), .int (zI (((nl (N2 * lift) : Nat) : Int)))]) C0 (C := RX8) (T := TX8) (N := 2) iG_X8 hM (hD.obj) rfl 1 (by decide) tw_83 rfl rfl dX4_divideLong_47 ?_
  refine z_asI (a := ((nl (N2 * lift) : Nat) : Int)) (b := ((nl N2 : Nat) : Int)) (by rw [hDn]) ?_
  refine lv_istore (lv' := [(4, .int (zI (((nl N2 : Nat) : Int)))), (2, .long (zL ((lift : Int)))), (0, .ref (r)), (1, .ref (b))]) C0.1 C0.2.1 dX4_divideLong_50 hl (by decide) rfl (fun ls hl => ?_)
  refine lv_aload_n C0.1 C0.2.1 dX4_divideLong_52 rfl (lv_at hl 2 rfl) ?_
  refine mm_get (fs := [.ref (r + 1), .ref (r + 3), .ref (r + 5), .ref (r + 7), .ref (r + 9)]) C0 (C := RX4) (T := TX4) (N := 5) iG_X4 hM (hk) rfl 1 (by decide) tw_94 rfl rfl dX4_divideLong_53 ?_
  refine mm_get (fs := [.ref (r + 3 + 1), .int (zI (((nl (N1 * lift) : Nat) : Int)))]) C0 (C := RX8) (T := TX8) (N := 2) iG_X8 hM (hR.obj) rfl 1 (by decide) tw_83 rfl rfl dX4_divideLong_56 ?_
  refine lv_iload C0.1 C0.2.1 dX4_divideLong_59 (lv_at hl 0 rfl) ?_
  refine z_isub C0.1 C0.2.1 dX4_divideLong_61 ?_
  refine z_asI (a := ((((nl (N1 * lift) : Nat) : Int)) - (((nl N2 : Nat) : Int)))) (b := ((nl (N1 * lift) - nl N2 : Nat) : Int)) (by omega) ?_
  refine lv_istore (lv' := [(5, .int (zI (((nl (N1 * lift) - nl N2 : Nat) : Int)))), (4, .int (zI (((nl N2 : Nat) : Int)))), (2, .long (zL ((lift : Int)))), (0, .ref (r)), (1, .ref (b))]) C0.1 C0.2.1 dX4_divideLong_62 hl (by decide) rfl (fun ls hl => ?_)
  have hR9 := hR
  obtain ⟨f, hRf, hf⟩ := hR9
  refine lv_aload_n C0.1 C0.2.1 dX4_divideLong_64 rfl (lv_at hl 3 rfl) ?_
  refine mm_get (fs := [.ref (r + 1), .ref (r + 3), .ref (r + 5), .ref (r + 7), .ref (r + 9)]) C0 (C := RX4) (T := TX4) (N := 5) iG_X4 hM (hk) rfl 1 (by decide) tw_94 rfl rfl dX4_divideLong_65 ?_
  refine mm_callVv (As := []) C0 vw_X8_widen tw_432 (c_X8_widen l G _ hRf (by omega)) hM (hR.obj) rfl rfl hl.1 rfl (Nat.le_of_ble_eq_true rfl) ⟨rfl, rfl, Nat.le_of_ble_eq_true rfl, Nat.le_of_ble_eq_true rfl, Nat.zero_le _, Nat.zero_le _⟩ dX4_divideLong_68 hS (fun E5 H locs hp hM hS => ?_)
  obtain ⟨hRf, fr⟩ := hp
  have hk := rk.kept hk (fr _ (by omega))
  have hQ := isV.kept hQ (fr _ (by omega)) (fr _ (by omega))
  have hB := isW.kept hB (fr _ (by omega)) (fr _ (by omega))
  have hfr := (fun q h => (fr q (by omega)).trans (hfr q h) : ∀ q : Nat, (q < r + 1 ∨ r + 7 ≤ q) → E5 q = E0 q)
  have hD := isW.kept hD (fr _ (by omega)) (fr _ (by omega))
  obtain ⟨mq, fq, hQ⟩ := hQ
  refine lv_iload C0.1 C0.2.1 dX4_divideLong_71 (lv_at hl 0 rfl) ?_
  refine z_asI (a := ((nl (N1 * lift) - nl N2 : Nat) : Int)) (b := ((nl (N1 * lift) - nl N2 + 1 : Nat) : Int) - 1) (by omega) ?_
  refine lv_istore (lv' := [(6, .int (zI (((nl (N1 * lift) - nl N2 + 1 : Nat) : Int) - 1))), (5, .int (zI (((nl (N1 * lift) - nl N2 : Nat) : Int)))), (4, .int (zI (((nl N2 : Nat) : Int)))), (2, .long (zL ((lift : Int)))), (0, .ref (r)), (1, .ref (b))]) C0.1 C0.2.1 dX4_divideLong_73 hl (by decide) rfl (fun ls hl => ?_)
  have L75 : ∀ (k75 : Nat) (u : Nat) (f fq : Nat → Nat) (E6 : mE) (H : Heap) (locs : List Loc) (ls : Array Slot), (u ≤ nl (N1 * lift) - nl N2 + 1) → (dvI f (nl (N1 * lift)) (N1 * lift) (N2 * lift) u) → (∀ k, u ≤ k → k < nl (N1 * lift) - nl N2 + 1 → fq k = dg (N1 * lift / (N2 * lift)) k) → (wR G E6 (r + 3) (nl (N1 * lift) + 1) f) → (wR G E6 (r + 1) mq fq) → (rk G E6 r) → (isW G E6 (r + 5) (N2 * lift)) → (∀ q : Nat, (q < r + 1 ∨ r + 7 ≤ q) → E6 q = E0 q) → u < k75 → mm_M G E6 H → va_S (mm_A G) s.heap H locs → lv_has ls 9 [(0, .ref (r)), (1, .ref (b)), (2, .long (zL ((lift : Int)))), (4, .int (zI (((nl N2 : Nat) : Int)))), (5, .int (zI (((nl (N1 * lift) - nl N2 : Nat) : Int)))), (6, .int (zI ((u : Int) - 1)))] → W p l e rX4_divideLong s m args below meth c H locs 0 0 (mm_Zv G below args s (fun E => isW G E (r + 1) (N1 / N2) ∧ isW G E (r + 3) (N1 % N2) ∧ isV G E (r + 5) ∧ ∀ q : Nat, (q < r + 1 ∨ r + 7 ≤ q) → E q = E0 q)) (F0 m 75 ls []) := by
    intro k75
    induction k75 with
    | zero => intro u f fq E6 H locs ls hu hI hq hRf hQ hk hD hfr hk hM hS hl; exact absurd hk (Nat.not_lt_zero _)
    | succ k75 ih75 =>
      intro u f fq E6 H locs ls hu hI hq hRf hQ hk hD hfr hk75 hM hS hl
      refine lv_iload C0.1 C0.2.1 dX4_divideLong_75 (lv_at hl 5 rfl) ?_
      refine z_if_lt (tgt := 106) C0.1 C0.2.1 dX4_divideLong_77 (by decide) ⟨by omega, by omega⟩ (fun c_77 => ?_) (fun c_77 => ?_)
      · skip
        have hu0 : u = 0 := by omega
        rw [hu0] at hq
        have hv0 : dvI f (nl (N1 * lift)) (N1 * lift) (N2 * lift) 0 := by rw [← hu0]; exact hI
        refine lv_aload_n C0.1 C0.2.1 dX4_divideLong_106 rfl (lv_at hl 0 rfl) ?_
        refine mm_get (fs := [.ref (r + 1), .ref (r + 3), .ref (r + 5), .ref (r + 7), .ref (r + 9)]) C0 (C := RX4) (T := TX4) (N := 5) iG_X4 hM (hk) rfl 0 (by decide) tw_92 rfl rfl dX4_divideLong_107 ?_
        refine lv_iload C0.1 C0.2.1 dX4_divideLong_110 (lv_at hl 4 rfl) ?_
        refine lv_iconst (v := zI 1) C0.1 C0.2.1 dX4_divideLong_112 rfl ?_
        refine z_iadd C0.1 C0.2.1 dX4_divideLong_113 ?_
        refine mm_callVv (As := [.int (zI (((((nl (N1 * lift) - nl N2 : Nat) : Int)) + (1))))]) C0 vw_X8_trim tw_459 (c_X8_trimW l G _ (N := N1 * lift / (N2 * lift)) (m := nl (N1 * lift) - nl N2 + 1) hQ (And.right hUU) (by omega) (by omega) (fun j hj => hq j (Nat.zero_le _) hj)) hM (hQ.1) rfl rfl hl.1 rfl (Nat.le_of_ble_eq_true rfl) ⟨rfl, rfl, Nat.le_of_ble_eq_true rfl, Nat.le_of_ble_eq_true rfl, Nat.zero_le _, Nat.zero_le _⟩ dX4_divideLong_114 hS (fun E7 H locs hp hM hS => ?_)
        obtain ⟨hQ, fr⟩ := hp
        have hRf := wR.kept hRf (fr _ (by omega)) (fr _ (by omega))
        have hk := rk.kept hk (fr _ (by omega))
        have hD := isW.kept hD (fr _ (by omega)) (fr _ (by omega))
        have hfr := (fun q h => (fr q (by omega)).trans (hfr q h) : ∀ q : Nat, (q < r + 1 ∨ r + 7 ≤ q) → E7 q = E0 q)
        rw [Nat.mul_div_mul_right _ _ hl0] at hQ
        refine lv_aload_n C0.1 C0.2.1 dX4_divideLong_117 rfl (lv_at hl 0 rfl) ?_
        refine mm_get (fs := [.ref (r + 1), .ref (r + 3), .ref (r + 5), .ref (r + 7), .ref (r + 9)]) C0 (C := RX4) (T := TX4) (N := 5) iG_X4 hM (hk) rfl 1 (by decide) tw_94 rfl rfl dX4_divideLong_118 ?_
        refine lv_iload C0.1 C0.2.1 dX4_divideLong_121 (lv_at hl 3 rfl) ?_
        refine mm_callVv (As := [.int (zI (((nl N2 : Nat) : Int)))]) C0 vw_X8_trim tw_459 (c_X8_trimW l G _ (N := N1 * lift % (N2 * lift)) (m := nl N2) hRf (Nat.lt_trans (Nat.mod_lt _ (Nat.pos_of_ne_zero hD0)) hDlt) (by omega) rfl (fun j hj => dg_of (n := nl (N1 * lift) + 1) (fun k hk => hRf.2.2.2 k (by omega)) (by have h9 := hv0; unfold dvI at h9; rw [Nat.pow_zero, Nat.mul_one] at h9; exact h9) j (by omega))) hM (hRf.1) rfl rfl hl.1 rfl (Nat.le_of_ble_eq_true rfl) ⟨rfl, rfl, Nat.le_of_ble_eq_true rfl, Nat.le_of_ble_eq_true rfl, Nat.zero_le _, Nat.zero_le _⟩ dX4_divideLong_123 hS (fun E8 H locs hp hM hS => ?_)
        obtain ⟨hR, fr⟩ := hp
        have hQ := isW.kept hQ (fr _ (by omega)) (fr _ (by omega))
        have hk := rk.kept hk (fr _ (by omega))
        have hD := isW.kept hD (fr _ (by omega)) (fr _ (by omega))
        have hfr := (fun q h => (fr q (by omega)).trans (hfr q h) : ∀ q : Nat, (q < r + 1 ∨ r + 7 ≤ q) → E8 q = E0 q)
        rw [Nat.mul_mod_mul_right] at hR
        refine lv_aload_n C0.1 C0.2.1 dX4_divideLong_126 rfl (lv_at hl 0 rfl) ?_
        refine mm_get (fs := [.ref (r + 1), .ref (r + 3), .ref (r + 5), .ref (r + 7), .ref (r + 9)]) C0 (C := RX4) (T := TX4) (N := 5) iG_X4 hM (hk) rfl 1 (by decide) tw_94 rfl rfl dX4_divideLong_127 ?_
        refine lv_lload_n C0.1 C0.2.1 dX4_divideLong_130 rfl (lv_at hl 2 rfl) ?_
        refine mm_callVl (As := [.long (zL ((lift : Int)))]) C0 vw_X8_shrink tw_422 (c_X8_shrink l G _ lift rfl hR hl0 hlB) hM (hR.obj) rfl rfl hl.1 rfl (Nat.le_of_ble_eq_true rfl) ⟨rfl, rfl, Nat.le_of_ble_eq_true rfl, Nat.le_of_ble_eq_true rfl, Nat.zero_le _, Nat.zero_le _⟩ dX4_divideLong_131 hS (fun z_131 E9 H locs hp hM hS => ?_)
        obtain ⟨hz9, hR, fr⟩ := hp
        have hQ := isW.kept hQ (fr _ (by omega)) (fr _ (by omega))
        have hk := rk.kept hk (fr _ (by omega))
        have hD := isW.kept hD (fr _ (by omega)) (fr _ (by omega))
        have hfr := (fun q h => (fr q (by omega)).trans (hfr q h) : ∀ q : Nat, (q < r + 1 ∨ r + 7 ≤ q) → E9 q = E0 q)
        rw [Nat.mul_div_cancel _ hl0] at hR
        refine lv_pop2_2 C0.1 C0.2.1 dX4_divideLong_134 rfl ?_
        exact mm_vret C0 hr hlk hM hS dX4_divideLong_135 (⟨hQ, hR, hD.v, hfr⟩)
      · skip
        obtain ⟨gg, hgg⟩ : ∃ x : Nat, x = min ((f (u - 1 + nl N2) * 1000000000 + f (u - 1 + nl N2 - 1)) / dg (N2 * lift) (nl N2 - 1)) 999999999 := ⟨_, rfl⟩
        obtain ⟨kq1, kq2, kqd, kI⟩ := dv_round (u := u - 1) (by rw [show u - 1 + 1 = u by omega]; exact hI) (fun k hk => hRf.2.2.2 k (by have := hRf.2.2.1; omega)) hDn.symm (by omega) (by omega) (by rw [← hv]; exact hv4) hgg
        have hg9 : gg < 1000000000 := by rw [hgg]; exact Nat.lt_of_le_of_lt (Nat.min_le_right _ _) (by decide)
        replace kq1 : hid _ := kq1
        replace kq2 : hid _ := kq2
        replace kqd : hid _ := kqd
        replace hgg : hid _ := hgg
        refine lv_aload_n C0.1 C0.2.1 dX4_divideLong_80 rfl (lv_at hl 0 rfl) ?_
        refine lv_iload C0.1 C0.2.1 dX4_divideLong_81 (lv_at hl 5 rfl) ?_
        refine z_asI (a := (u : Int) - 1) (b := ((u - 1 : Nat) : Int)) (by omega) ?_
        refine lv_iload C0.1 C0.2.1 dX4_divideLong_83 (lv_at hl 3 rfl) ?_
        refine mm_callVl (As := [.int (zI (((u - 1 : Nat) : Int))), .int (zI (((nl N2 : Nat) : Int)))]) C0 vw_X4_guessAt tw_436 (c_X4_guessAt l G _ (u - 1) (nl N2) hk hRf hD (by omega) hDn.symm (by omega)) hM (hk) rfl rfl hl.1 rfl (Nat.le_of_ble_eq_true rfl) ⟨rfl, rfl, Nat.le_of_ble_eq_true rfl, Nat.le_of_ble_eq_true rfl, Nat.zero_le _, Nat.zero_le _⟩ dX4_divideLong_85 hS (fun z_85 E10 H locs hp hM hS => ?_)
        obtain ⟨hz_85, hEq⟩ := hp
        rw [hEq] at hM
        refine z_asL (b := (gg : Int)) (hz_85.trans (congrArg _ (Eq.symm hgg))) ?_
        refine lv_lstore (lv' := [(7, .long (zL ((gg : Int)))), (0, .ref (r)), (1, .ref (b)), (2, .long (zL ((lift : Int)))), (4, .int (zI (((nl N2 : Nat) : Int)))), (5, .int (zI (((nl (N1 * lift) - nl N2 : Nat) : Int)))), (6, .int (zI ((u : Int) - 1)))]) C0.1 C0.2.1 dX4_divideLong_88 hl (by decide) rfl (fun ls hl => ?_)
        refine lv_aload_n C0.1 C0.2.1 dX4_divideLong_90 rfl (lv_at hl 1 rfl) ?_
        refine lv_lload C0.1 C0.2.1 dX4_divideLong_91 (lv_at hl 0 rfl) ?_
        refine lv_iload C0.1 C0.2.1 dX4_divideLong_93 (lv_at hl 6 rfl) ?_
        refine z_asI (a := (u : Int) - 1) (b := ((u - 1 : Nat) : Int)) (by omega) ?_
        refine lv_iload C0.1 C0.2.1 dX4_divideLong_95 (lv_at hl 4 rfl) ?_
        refine mm_callVv (As := [.long (zL ((gg : Int))), .int (zI (((u - 1 : Nat) : Int))), .int (zI (((nl N2 : Nat) : Int)))]) C0 vw_X4_takeAway tw_444 (c_X4_takeAway l G _ gg (u - 1) (nl N2) hk hRf hQ hD (by omega) (by omega) (Nat.pos_of_ne_zero hD0) hg9 kq1 kq2) hM (hk) rfl rfl hl.1 rfl (Nat.le_of_ble_eq_true rfl) ⟨rfl, rfl, Nat.le_of_ble_eq_true rfl, Nat.le_of_ble_eq_true rfl, Nat.zero_le _, Nat.zero_le _⟩ dX4_divideLong_97 hS (fun E11 H locs hp hM hS => ?_)
        obtain ⟨⟨f1, hRf, hQ, hff, hf1⟩, fr⟩ := hp
        have hk := rk.kept hk (fr _ (by omega))
        have hD := isW.kept hD (fr _ (by omega)) (fr _ (by omega))
        have hfr := (fun q h => (fr q (by omega)).trans (hfr q h) : ∀ q : Nat, (q < r + 1 ∨ r + 7 ≤ q) → E11 q = E0 q)
        refine lv_iinc (v := zI (((u - 1 : Nat) : Int) - 1)) (lv' := [(6, .int (zI (((u - 1 : Nat) : Int) - 1))), (7, .long (zL ((gg : Int)))), (0, .ref (r)), (1, .ref (b)), (2, .long (zL ((lift : Int)))), (4, .int (zI (((nl N2 : Nat) : Int)))), (5, .int (zI (((nl (N1 * lift) - nl N2 : Nat) : Int))))]) C0.1 C0.2.1 dX4_divideLong_100 hl (k := 6) rfl (z_inc (a := (u : Int) - 1) (n := (-1)) (by omega)) (by decide) rfl (fun ls hl => ?_)
        refine lv_goto (tgt := 75) C0.1 C0.2.1 dX4_divideLong_103 (by decide) ?_
        exact ih75  (u - 1) f1 (nup fq (u - 1) (bV (sh f (u - 1)) (nl N2 + 1) / (N2 * lift))) E11 _ _ _ (by omega) (kI f1 hff hf1) (fun k h1 h2 => if q : k = u - 1 then (by subst q; rw [nup_s]; exact kqd) else (by rw [nup_n _ _ q]; exact hq k (by omega) h2)) (hRf) (hQ) (hk) (hD) (hfr) (by omega) hM hS (lv_sub hl [2, 3, 4, 5, 6, 0] rfl)
  exact L75 (_ + 1) (nl (N1 * lift) - nl N2 + 1) (nup f (nl (N1 * lift)) 0) fq E5 _ _ _ (Nat.le_refl _) (by unfold dvI; rw [Nat.mod_eq_of_lt (And.left hUU), bV_s, bV_nup (Nat.le_refl _), nup_s, Nat.zero_mul, Nat.add_zero]; exact bV_dg hf (nl_self _)) (fun k h1 h2 => absurd h2 (by omega)) (hRf) (hQ) (hk) (hD) (hfr) (Nat.lt_succ_self _) hM hS (lv_sub hl [4, 5, 3, 2, 1, 0] rfl)
