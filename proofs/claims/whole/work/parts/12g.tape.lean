theorem kd_t (B : Nat → Int) (L a : Nat) : kdO (tb B L (clP2 B L a)) = clD B L a := by
  unfold tb clD; split
  · rfl
  · exact kdO_0
theorem clD_b (B : Nat → Int) (L a : Nat) : -1 ≤ clD B L a ∧ clD B L a < 5 := by
  unfold clD; split
  · exact kdF_b 5 0 (by omega)
  · omega
theorem clD_n {B : Nat → Int} {L a : Nat} (h : ¬ clP2 B L a < L) : clD B L a = -1 := by unfold clD; exact if_neg h
theorem cnZ_b {B : Nat → Int} {L b : Nat} (hT : okT B L) (hb : b ≤ L) : -200 ≤ cnZ B L b ∧ cnZ B L b ≤ 0 := by
  have h1 := skp_b (B := B) hb
  have h0 := hT.1
  have h2 : rnE B L b ≤ L := (fe_le (B := B) (L := L) _ (skp B L b) (Nat.le_refl _) h1.1).1
  have h3 := skp_b (B := B) h2
  unfold cnZ; split
  · omega
  · split <;> omega
def rX7_readClaim : Room := { frames := 4, cells := 0, slots := 0, locals := 91 }
theorem vw_X7_readClaim : mm_Vw RX7 yX7_readClaim cX7_readClaim 2 (some .int) 0 := ⟨tw_733, tw_734, tw_2, tw_735, by decide +kernel⟩
set_option maxHeartbeats 4000000 in
set_option maxRecDepth 100000 in
theorem c_X7_readClaim (l : Launch) (G : mG) (E0 : mE) {t : Nat} {B : Nat → Int} {L a : Nat} {v kd k n rd : Int} (hP : tp G E0 t B L a v kd k n rd) (hT : okT B L) (ha : a ≤ L) (hk0 : 0 ≤ k) (hk1 : k ≤ 99) : mm_Ci l yX7_readClaim (.code yX7_readClaim cX7_readClaim 2 (some .int) :: wsG) rX7_readClaim G [.ref (t)] E0 (fun z E => z = clZ B L a ∧ (∃ (a9 : Nat) (v9 kd9 k9 n9 rd9 : Int), tp G E t B L a9 v9 kd9 k9 n9 rd9 ∧ a9 ≤ L ∧ (0 ≤ k9 ∧ k9 ≤ 99) ∧ (z = 0 → a9 = rnE B L (clP5 B L a) ∧ v9 = rnV B L a ∧ kd9 = clD B L a ∧ (3 ≤ clD B L a → k9 = rnV B L (clP2 B L a + 1)) ∧ n9 = rnV B L (clP5 B L a))) ∧ ∀ q : Nat, q ≠ t → E q = E0 q) := by
  refine mm_of_i (by decide +kernel) (Nat.le_of_ble_eq_true rfl) ?_
  intro p e s m args below meth c ls C0 hr hlk hM hl hS
  have hl : lv_has ls 2 [(0, .ref (t))] := hl
  have hfr : ∀ q : Nat, q ≠ t → E0 q = E0 q := fun _ _ => rfl
  have hL := hT.1
  refine lv_aload_n C0.1 C0.2.1 dX7_readClaim_0 rfl (lv_at hl 0 rfl) ?_
  refine lv_lconst (v := zL 0) C0.1 C0.2.1 dX7_readClaim_1 rfl ?_
  refine mm_ldc2 (z := 999999999999999999) C0 tw_736 rfl dX7_readClaim_2 ?_
  refine mm_callVi (As := [.long (zL (0)), .long (zL (999999999999999999))]) C0 vw_X7_readNumber tw_737 (c_X7_readNumber l G _ hP hT ha ⟨by omega, by omega⟩ ⟨by omega, by omega⟩) hM (hP.1) rfl rfl hl.1 rfl (Nat.le_of_ble_eq_true rfl) ⟨rfl, rfl, Nat.le_of_ble_eq_true rfl, Nat.le_of_ble_eq_true rfl, Nat.zero_le _, Nat.zero_le _⟩ dX7_readClaim_5 hS (fun z5 E1 H locs hp hM hS => ?_)
  obtain ⟨hz5, hP, hE9, hv9, fr⟩ := hp
  have hfr := (fun q h => (fr q (by omega)).trans (hfr q h) : ∀ q : Nat, q ≠ t → E1 q = E0 q)
  have hsa := skp_b (B := B) ha
  have hse := skp_b (B := B) hE9
  have hzc := rnZ_c B L a 0 999999999999999999
  have hzb : -200 ≤ z5 ∧ z5 ≤ 0 := by rcases hzc with ⟨-, h⟩ | ⟨-, h⟩ <;> omega
  obtain ⟨hzb1, hzb2⟩ := hzb
  refine lv_istore_n (lv' := [(1, .int (zI (z5))), (0, .ref (t))]) C0.1 C0.2.1 dX7_readClaim_8 rfl hl (by decide) rfl (fun ls hl => ?_)
  refine lv_iload_n C0.1 C0.2.1 dX7_readClaim_9 rfl (lv_at hl 0 rfl) ?_
  refine z_if_eq (tgt := 15) C0.1 C0.2.1 dX7_readClaim_10 (by decide) ⟨by omega, by omega⟩ (fun c_10 => ?_) (fun c_10 => ?_)
  · skip
    have hX9 : ¬ rnX B L a 0 999999999999999999 := hzc.elim (fun h => by omega) (fun h => h.1)
    refine lv_aload_n C0.1 C0.2.1 dX7_readClaim_15 rfl (lv_at hl 1 rfl) ?_
    refine lv_aload_n C0.1 C0.2.1 dX7_readClaim_16 rfl (lv_at hl 1 rfl) ?_
    refine mm_get (fs := [.ref (t + 1), .int (zI ((L : Int))), .int (zI ((rnE B L a : Int))), .long (zL (v)), .int (zI (kd)), .int (zI (k)), .long (zL (n)), .long (zL ((rnV B L a)))]) C0 (C := RX7) (T := TX7) (N := 8) iG_X7 hM (hP.1) rfl 7 (by decide) tw_49 rfl rfl dX7_readClaim_17 ?_
    refine mm_put (v := .long (zL ((rnV B L a)))) (fs := [.ref (t + 1), .int (zI ((L : Int))), .int (zI ((rnE B L a : Int))), .long (zL (v)), .int (zI (kd)), .int (zI (k)), .long (zL (n)), .long (zL ((rnV B L a)))]) C0 (C := RX7) (T := TX7) (N := 8) iG_X7 tyX7 tyX7_ok nmX7 hM hS (hP.1) rfl 3 (by decide) tw_41 rfl rfl (ty := tyX7 3) (tyX7_ok 3 (by decide)) rfl rfl (Nat.le_of_ble_eq_true rfl) dX7_readClaim_20 (fun H locs hM hS hsz => ?_)
    obtain ⟨E2, hE2⟩ : ∃ X : mE, X = mm_up E1 (t) (.inr (6, [.ref (t + 1), .int (zI ((L : Int))), .int (zI ((rnE B L a : Int))), .long (zL ((rnV B L a))), .int (zI (kd)), .int (zI (k)), .long (zL (n)), .long (zL ((rnV B L a)))])) := ⟨_, rfl⟩
    replace hM : mm_M G E2 H := by rw [hE2]; exact hM
    have frs : ∀ q : Nat, q ≠ t → E2 q = E1 q := fun q h => by rw [hE2]; exact mm_up_n _ _ h
    have hat : E2 (t) = some (.inr (6, [.ref (t + 1), .int (zI ((L : Int))), .int (zI ((rnE B L a : Int))), .long (zL ((rnV B L a))), .int (zI (kd)), .int (zI (k)), .long (zL (n)), .long (zL ((rnV B L a)))])) := by rw [hE2]; exact mm_up_s _ _ _
    have hP : tp G E2 t B L (rnE B L a) (rnV B L a) kd k n (rnV B L a) := ⟨hat, (frs _ (by omega)).trans hP.2⟩
    have hfr := (fun q h => (frs q (by omega)).trans (hfr q h) : ∀ q : Nat, q ≠ t → E2 q = E0 q)
    refine lv_aload_n C0.1 C0.2.1 dX7_readClaim_23 rfl (lv_at hl 1 rfl) ?_
    refine lv_bipush (v := zI 61) C0.1 C0.2.1 dX7_readClaim_24 rfl ?_
    refine mm_callVi (As := [.int (zI (61))]) C0 vw_X7_pass tw_746 (c_X7_pass l G _ hP hT hE9 (x := 61) ⟨by omega, by omega⟩) hM (hP.1) rfl rfl hl.1 rfl (Nat.le_of_ble_eq_true rfl) ⟨rfl, rfl, Nat.le_of_ble_eq_true rfl, Nat.le_of_ble_eq_true rfl, Nat.zero_le _, Nat.zero_le _⟩ dX7_readClaim_26 hS (fun z_26 E3 H locs hp hM hS => ?_)
    obtain ⟨hz26, fr⟩ := hp
    have hfr := (fun q h => (fr q (by omega)).trans (hfr q h) : ∀ q : Nat, q ≠ t → E3 q = E0 q)
    have hz01 : z_26 = 0 ∨ z_26 = 1 := hz26.elim (fun h => Or.inr h.1) (fun h => Or.inl h.1)
    refine z_if_ne (tgt := 37) C0.1 C0.2.1 dX7_readClaim_29 (by decide) ⟨by omega, by omega⟩ (fun c_29 => ?_) (fun c_29 => ?_)
    · skip
      have hz9 := hz26.elim (fun h => h.2) (fun h => by omega)
      have hp12 : clP1 B L a < L ∧ B (clP1 B L a) = 61 := ⟨hz9.1, hz9.2.1⟩
      have hP : tp G E3 t B L (clP1 B L a + 1) (rnV B L a) kd k n (rnV B L a) := hz9.2.2
      have hp3 : clP1 B L a + 1 ≤ L := hp12.1
      refine lv_aload_n C0.1 C0.2.1 dX7_readClaim_37 rfl (lv_at hl 1 rfl) ?_
      refine mm_callVv (As := []) C0 vw_X7_skipBlanks tw_741 (c_X7_skipBlanks l G _ hP hT hp3) hM (hP.1) rfl rfl hl.1 rfl (Nat.le_of_ble_eq_true rfl) ⟨rfl, rfl, Nat.le_of_ble_eq_true rfl, Nat.le_of_ble_eq_true rfl, Nat.zero_le _, Nat.zero_le _⟩ dX7_readClaim_38 hS (fun E4 H locs hp hM hS => ?_)
      obtain ⟨hP, fr⟩ := hp
      have hfr := (fun q h => (fr q (by omega)).trans (hfr q h) : ∀ q : Nat, q ≠ t → E4 q = E0 q)
      have hP : tp G E4 t B L (clP2 B L a) (rnV B L a) kd k n (rnV B L a) := hP
      have hs2 : clP2 B L a ≤ L ∧ clP1 B L a + 1 ≤ clP2 B L a := skp_b (B := B) hp3
      refine lv_aload_n C0.1 C0.2.1 dX7_readClaim_41 rfl (lv_at hl 1 rfl) ?_
      refine mm_ldcT C0 dX7_readClaim_42 ?_
      refine lv_aload_n C0.1 C0.2.1 dX7_readClaim_44 rfl (lv_at hl 1 rfl) ?_
      refine lv_aload_n C0.1 C0.2.1 dX7_readClaim_45 rfl (lv_at hl 1 rfl) ?_
      refine mm_get (fs := [.ref (t + 1), .int (zI ((L : Int))), .int (zI ((clP2 B L a : Int))), .long (zL ((rnV B L a))), .int (zI (kd)), .int (zI (k)), .long (zL (n)), .long (zL ((rnV B L a)))]) C0 (C := RX7) (T := TX7) (N := 8) iG_X7 hM (hP.1) rfl 2 (by decide) tw_39 rfl rfl dX7_readClaim_46 ?_
      refine mm_callVi (As := [.int (zI ((clP2 B L a : Int)))]) C0 vw_X7_byteAt tw_360 (c_X7_byteAt l G _ hP hT (clP2 B L a) (by omega)) hM (hP.1) rfl rfl hl.1 rfl (Nat.le_of_ble_eq_true rfl) ⟨rfl, rfl, Nat.le_of_ble_eq_true rfl, Nat.le_of_ble_eq_true rfl, Nat.zero_le _, Nat.zero_le _⟩ dX7_readClaim_49 hS (fun z_49 E5 H locs hp hM hS => ?_)
      obtain ⟨hz_49, hEq⟩ := hp
      rw [hEq] at hM
      refine z_asI (b := (tb B L (clP2 B L a))) (hz_49) ?_
      obtain ⟨htr1, htr2⟩ := tb_r hT (clP2 B L a)
      refine z_i2c C0.1 C0.2.1 dX7_readClaim_52 ⟨by omega, by omega⟩ ?_
      refine mm_callKi (As := [.int (zI ((tb B L (clP2 B L a))))]) C0 vw_J0_indexOf_0f7a4 tw_755 (c_J0_indexOf_0f7a4 l G _ htr1 (by omega)) hM rfl hl.1 rfl (Nat.le_of_ble_eq_true rfl) ⟨rfl, rfl, Nat.le_of_ble_eq_true rfl, Nat.le_of_ble_eq_true rfl, Nat.zero_le _, Nat.zero_le _⟩ dX7_readClaim_53 hS (fun z_53 E6 H locs hp hM hS => ?_)
      obtain ⟨hz_53, hEq⟩ := hp
      rw [hEq] at hM
      refine z_asI (b := (clD B L a)) (hz_53.trans (kd_t B L a)) ?_
      obtain ⟨hcd1, hcd2⟩ := clD_b B L a
      refine mm_put (v := .int (zI ((clD B L a)))) (fs := [.ref (t + 1), .int (zI ((L : Int))), .int (zI ((clP2 B L a : Int))), .long (zL ((rnV B L a))), .int (zI (kd)), .int (zI (k)), .long (zL (n)), .long (zL ((rnV B L a)))]) C0 (C := RX7) (T := TX7) (N := 8) iG_X7 tyX7 tyX7_ok nmX7 hM hS (hP.1) rfl 4 (by decide) tw_43 rfl rfl (ty := tyX7 4) (tyX7_ok 4 (by decide)) rfl rfl (Nat.le_of_ble_eq_true rfl) dX7_readClaim_56 (fun H locs hM hS hsz => ?_)
      obtain ⟨E7, hE7⟩ : ∃ X : mE, X = mm_up E4 (t) (.inr (6, [.ref (t + 1), .int (zI ((L : Int))), .int (zI ((clP2 B L a : Int))), .long (zL ((rnV B L a))), .int (zI ((clD B L a))), .int (zI (k)), .long (zL (n)), .long (zL ((rnV B L a)))])) := ⟨_, rfl⟩
      replace hM : mm_M G E7 H := by rw [hE7]; exact hM
      have frs : ∀ q : Nat, q ≠ t → E7 q = E4 q := fun q h => by rw [hE7]; exact mm_up_n _ _ h
      have hat : E7 (t) = some (.inr (6, [.ref (t + 1), .int (zI ((L : Int))), .int (zI ((clP2 B L a : Int))), .long (zL ((rnV B L a))), .int (zI ((clD B L a))), .int (zI (k)), .long (zL (n)), .long (zL ((rnV B L a)))])) := by rw [hE7]; exact mm_up_s _ _ _
      have hP : tp G E7 t B L (clP2 B L a) (rnV B L a) (clD B L a) k n (rnV B L a) := ⟨hat, (frs _ (by omega)).trans hP.2⟩
      have hfr := (fun q h => (frs q (by omega)).trans (hfr q h) : ∀ q : Nat, q ≠ t → E7 q = E0 q)
      refine lv_aload_n C0.1 C0.2.1 dX7_readClaim_59 rfl (lv_at hl 1 rfl) ?_
      refine mm_get (fs := [.ref (t + 1), .int (zI ((L : Int))), .int (zI ((clP2 B L a : Int))), .long (zL ((rnV B L a))), .int (zI ((clD B L a))), .int (zI (k)), .long (zL (n)), .long (zL ((rnV B L a)))]) C0 (C := RX7) (T := TX7) (N := 8) iG_X7 hM (hP.1) rfl 2 (by decide) tw_39 rfl rfl dX7_readClaim_60 ?_
      refine lv_aload_n C0.1 C0.2.1 dX7_readClaim_63 rfl (lv_at hl 1 rfl) ?_
      refine mm_get (fs := [.ref (t + 1), .int (zI ((L : Int))), .int (zI ((clP2 B L a : Int))), .long (zL ((rnV B L a))), .int (zI ((clD B L a))), .int (zI (k)), .long (zL (n)), .long (zL ((rnV B L a)))]) C0 (C := RX7) (T := TX7) (N := 8) iG_X7 hM (hP.1) rfl 1 (by decide) tw_37 rfl rfl dX7_readClaim_64 ?_
      refine z_icmp_ge (tgt := 77) C0.1 C0.2.1 dX7_readClaim_67 (by decide) ⟨by omega, by omega⟩ ⟨by omega, by omega⟩ (fun c_67 => ?_) (fun c_67 => ?_)
      · skip
        have hd9 : clD B L a < 0 := by rw [clD_n (by omega)]; omega
        refine lv_aload_n C0.1 C0.2.1 dX7_readClaim_77 rfl (lv_at hl 1 rfl) ?_
        refine mm_callVi (As := []) C0 vw_X7_faultHere tw_750 (c_X7_faultHere l G _ hP hT) hM (hP.1) rfl rfl hl.1 rfl (Nat.le_of_ble_eq_true rfl) ⟨rfl, rfl, Nat.le_of_ble_eq_true rfl, Nat.le_of_ble_eq_true rfl, Nat.zero_le _, Nat.zero_le _⟩ dX7_readClaim_78 hS (fun z_78 E8 H locs hp hM hS => ?_)
        obtain ⟨hz_78, hEq⟩ := hp
        rw [hEq] at hM
        refine z_asI (b := (-20 - (clP2 B L a : Int))) (hz_78) ?_
        exact mm_iret (z := (-20 - (clP2 B L a : Int))) C0 hr hlk hM hS dX7_readClaim_81 (⟨(clZ_3 hX9 hp12 hd9).symm, ⟨_, _, _, _, _, _, hP, hs2.1, ⟨hk0, hk1⟩, fun q => by omega⟩, hfr⟩)
      · skip
        refine lv_aload_n C0.1 C0.2.1 dX7_readClaim_70 rfl (lv_at hl 1 rfl) ?_
        refine mm_get (fs := [.ref (t + 1), .int (zI ((L : Int))), .int (zI ((clP2 B L a : Int))), .long (zL ((rnV B L a))), .int (zI ((clD B L a))), .int (zI (k)), .long (zL (n)), .long (zL ((rnV B L a)))]) C0 (C := RX7) (T := TX7) (N := 8) iG_X7 hM (hP.1) rfl 4 (by decide) tw_43 rfl rfl dX7_readClaim_71 ?_
        refine z_if_ge (tgt := 82) C0.1 C0.2.1 dX7_readClaim_74 (by decide) ⟨by omega, by omega⟩ (fun c_74 => ?_) (fun c_74 => ?_)
        · skip
          have hnd : ¬ clD B L a < 0 := by omega
          refine lv_aload_n C0.1 C0.2.1 dX7_readClaim_82 rfl (lv_at hl 1 rfl) ?_
          refine lv_dup C0.1 C0.2.1 dX7_readClaim_83 rfl ?_
          refine mm_get (fs := [.ref (t + 1), .int (zI ((L : Int))), .int (zI ((clP2 B L a : Int))), .long (zL ((rnV B L a))), .int (zI ((clD B L a))), .int (zI (k)), .long (zL (n)), .long (zL ((rnV B L a)))]) C0 (C := RX7) (T := TX7) (N := 8) iG_X7 hM (hP.1) rfl 2 (by decide) tw_39 rfl rfl dX7_readClaim_84 ?_
          refine lv_iconst (v := zI 1) C0.1 C0.2.1 dX7_readClaim_87 rfl ?_
          refine z_iadd C0.1 C0.2.1 dX7_readClaim_88 ?_
          refine z_asI (a := (((clP2 B L a : Int)) + (1))) (b := ((clP2 B L a + 1 : Nat) : Int)) (by omega) ?_
          refine mm_put (v := .int (zI (((clP2 B L a + 1 : Nat) : Int)))) (fs := [.ref (t + 1), .int (zI ((L : Int))), .int (zI ((clP2 B L a : Int))), .long (zL ((rnV B L a))), .int (zI ((clD B L a))), .int (zI (k)), .long (zL (n)), .long (zL ((rnV B L a)))]) C0 (C := RX7) (T := TX7) (N := 8) iG_X7 tyX7 tyX7_ok nmX7 hM hS (hP.1) rfl 2 (by decide) tw_39 rfl rfl (ty := tyX7 2) (tyX7_ok 2 (by decide)) rfl rfl (Nat.le_of_ble_eq_true rfl) dX7_readClaim_89 (fun H locs hM hS hsz => ?_)
          obtain ⟨E9, hE9⟩ : ∃ X : mE, X = mm_up E7 (t) (.inr (6, [.ref (t + 1), .int (zI ((L : Int))), .int (zI (((clP2 B L a + 1 : Nat) : Int))), .long (zL ((rnV B L a))), .int (zI ((clD B L a))), .int (zI (k)), .long (zL (n)), .long (zL ((rnV B L a)))])) := ⟨_, rfl⟩
          replace hM : mm_M G E9 H := by rw [hE9]; exact hM
          have frs : ∀ q : Nat, q ≠ t → E9 q = E7 q := fun q h => by rw [hE9]; exact mm_up_n _ _ h
          have hat : E9 (t) = some (.inr (6, [.ref (t + 1), .int (zI ((L : Int))), .int (zI (((clP2 B L a + 1 : Nat) : Int))), .long (zL ((rnV B L a))), .int (zI ((clD B L a))), .int (zI (k)), .long (zL (n)), .long (zL ((rnV B L a)))])) := by rw [hE9]; exact mm_up_s _ _ _
          have hP : tp G E9 t B L (clP2 B L a + 1) (rnV B L a) (clD B L a) k n (rnV B L a) := ⟨hat, (frs _ (by omega)).trans hP.2⟩
          have hfr := (fun q h => (frs q (by omega)).trans (hfr q h) : ∀ q : Nat, q ≠ t → E9 q = E0 q)
          refine lv_aload_n C0.1 C0.2.1 dX7_readClaim_92 rfl (lv_at hl 1 rfl) ?_
          refine mm_get (fs := [.ref (t + 1), .int (zI ((L : Int))), .int (zI (((clP2 B L a + 1 : Nat) : Int))), .long (zL ((rnV B L a))), .int (zI ((clD B L a))), .int (zI (k)), .long (zL (n)), .long (zL ((rnV B L a)))]) C0 (C := RX7) (T := TX7) (N := 8) iG_X7 hM (hP.1) rfl 4 (by decide) tw_43 rfl rfl dX7_readClaim_93 ?_
          refine lv_iconst (v := zI 3) C0.1 C0.2.1 dX7_readClaim_96 rfl ?_
          refine z_icmp_lt (tgt := 107) C0.1 C0.2.1 dX7_readClaim_97 (by decide) ⟨by omega, by omega⟩ ⟨by omega, by omega⟩ (fun c_97 => ?_) (fun c_97 => ?_)
          · skip
            refine lv_iconst (v := zI 0) C0.1 C0.2.1 dX7_readClaim_107 rfl ?_
            refine lv_istore_n (lv' := [(1, .int (zI (0))), (0, .ref (t))]) C0.1 C0.2.1 dX7_readClaim_108 rfl hl (by decide) rfl (fun ls hl => ?_)
            refine lv_iload_n C0.1 C0.2.1 dX7_readClaim_109 rfl (lv_at hl 0 rfl) ?_
            refine z_if_eq (tgt := 115) C0.1 C0.2.1 dX7_readClaim_110 (by decide) ⟨by omega, by omega⟩ (fun c_110 => ?_) (fun c_110 => ?_)
            · skip
              have h5 : clP5 B L a = clP2 B L a + 1 := by unfold clP5; rw [if_neg (by omega)]
              have h45 : 3 ≤ clD B L a → cnZ B L (clP2 B L a + 1) = 0 := fun q => by omega
              have hkk : 3 ≤ clD B L a → k = rnV B L (clP2 B L a + 1) := fun q => by omega
              have h5L : clP5 B L a ≤ L := by omega
              rw [← h5] at hP
              have hk90 := hk0
              have hk91 := hk1
              refine lv_aload_n C0.1 C0.2.1 dX7_readClaim_115 rfl (lv_at hl 1 rfl) ?_
              refine lv_lconst (v := zL 0) C0.1 C0.2.1 dX7_readClaim_116 rfl ?_
              refine mm_ldc2 (z := 999999999) C0 tw_843 rfl dX7_readClaim_117 ?_
              refine mm_callVi (As := [.long (zL (0)), .long (zL (999999999))]) C0 vw_X7_readNumber tw_737 (c_X7_readNumber l G _ hP hT h5L ⟨by omega, by omega⟩ ⟨by omega, by omega⟩) hM (hP.1) rfl rfl hl.1 rfl (Nat.le_of_ble_eq_true rfl) ⟨rfl, rfl, Nat.le_of_ble_eq_true rfl, Nat.le_of_ble_eq_true rfl, Nat.zero_le _, Nat.zero_le _⟩ dX7_readClaim_120 hS (fun z120 E10 H locs hp hM hS => ?_)
              obtain ⟨hz120, hP, hE8, hv8, fr⟩ := hp
              have hfr := (fun q h => (fr q (by omega)).trans (hfr q h) : ∀ q : Nat, q ≠ t → E10 q = E0 q)
              refine lv_istore_n (lv' := [(1, .int (zI (z120))), (0, .ref (t))]) C0.1 C0.2.1 dX7_readClaim_123 rfl hl (by decide) rfl (fun ls hl => ?_)
              refine lv_aload_n C0.1 C0.2.1 dX7_readClaim_124 rfl (lv_at hl 1 rfl) ?_
              refine lv_aload_n C0.1 C0.2.1 dX7_readClaim_125 rfl (lv_at hl 1 rfl) ?_
              refine mm_get (fs := [.ref (t + 1), .int (zI ((L : Int))), .int (zI ((rnE B L (clP5 B L a) : Int))), .long (zL ((rnV B L a))), .int (zI ((clD B L a))), .int (zI (k)), .long (zL (n)), .long (zL ((rnV B L (clP5 B L a))))]) C0 (C := RX7) (T := TX7) (N := 8) iG_X7 hM (hP.1) rfl 7 (by decide) tw_49 rfl rfl dX7_readClaim_126 ?_
              refine mm_put (v := .long (zL ((rnV B L (clP5 B L a))))) (fs := [.ref (t + 1), .int (zI ((L : Int))), .int (zI ((rnE B L (clP5 B L a) : Int))), .long (zL ((rnV B L a))), .int (zI ((clD B L a))), .int (zI (k)), .long (zL (n)), .long (zL ((rnV B L (clP5 B L a))))]) C0 (C := RX7) (T := TX7) (N := 8) iG_X7 tyX7 tyX7_ok nmX7 hM hS (hP.1) rfl 6 (by decide) tw_47 rfl rfl (ty := tyX7 6) (tyX7_ok 6 (by decide)) rfl rfl (Nat.le_of_ble_eq_true rfl) dX7_readClaim_129 (fun H locs hM hS hsz => ?_)
              obtain ⟨E11, hE11⟩ : ∃ X : mE, X = mm_up E10 (t) (.inr (6, [.ref (t + 1), .int (zI ((L : Int))), .int (zI ((rnE B L (clP5 B L a) : Int))), .long (zL ((rnV B L a))), .int (zI ((clD B L a))), .int (zI (k)), .long (zL ((rnV B L (clP5 B L a)))), .long (zL ((rnV B L (clP5 B L a))))])) := ⟨_, rfl⟩
              replace hM : mm_M G E11 H := by rw [hE11]; exact hM
              have frs : ∀ q : Nat, q ≠ t → E11 q = E10 q := fun q h => by rw [hE11]; exact mm_up_n _ _ h
              have hat : E11 (t) = some (.inr (6, [.ref (t + 1), .int (zI ((L : Int))), .int (zI ((rnE B L (clP5 B L a) : Int))), .long (zL ((rnV B L a))), .int (zI ((clD B L a))), .int (zI (k)), .long (zL ((rnV B L (clP5 B L a)))), .long (zL ((rnV B L (clP5 B L a))))])) := by rw [hE11]; exact mm_up_s _ _ _
              have hP : tp G E11 t B L (rnE B L (clP5 B L a)) (rnV B L a) (clD B L a) k (rnV B L (clP5 B L a)) (rnV B L (clP5 B L a)) := ⟨hat, (frs _ (by omega)).trans hP.2⟩
              have hfr := (fun q h => (frs q (by omega)).trans (hfr q h) : ∀ q : Nat, q ≠ t → E11 q = E0 q)
              refine lv_iload_n C0.1 C0.2.1 dX7_readClaim_132 rfl (lv_at hl 0 rfl) ?_
              exact mm_iret (z := z120) C0 hr hlk hM hS dX7_readClaim_133 (⟨hz120.trans (clZ_5 hX9 hp12 hnd h45).symm, ⟨_, _, _, _, _, _, hP, hE8, ⟨hk90, hk91⟩, fun q => ⟨rfl, rfl, rfl, hkk, rfl⟩⟩, hfr⟩)
            · skip
              omega
          · skip
            refine lv_aload_n C0.1 C0.2.1 dX7_readClaim_100 rfl (lv_at hl 1 rfl) ?_
            refine mm_callVi (As := []) C0 vw_X7_readCorners tw_837 (c_X7_readCorners l G _ hP hT (by omega) hk0 hk1) hM (hP.1) rfl rfl hl.1 rfl (Nat.le_of_ble_eq_true rfl) ⟨rfl, rfl, Nat.le_of_ble_eq_true rfl, Nat.le_of_ble_eq_true rfl, Nat.zero_le _, Nat.zero_le _⟩ dX7_readClaim_101 hS (fun z_101 E12 H locs hp hM hS => ?_)
            obtain ⟨hz101, ⟨a9, k9, rd9, hP, ha9, hk90, hk91, himp⟩, fr⟩ := hp
            have hfr := (fun q h => (fr q (by omega)).trans (hfr q h) : ∀ q : Nat, q ≠ t → E12 q = E0 q)
            have hcb := cnZ_b hT (b := clP2 B L a + 1) (by omega)
            obtain ⟨hcb1, hcb2⟩ := hcb
            refine lv_goto (tgt := 108) C0.1 C0.2.1 dX7_readClaim_104 (by decide) ?_
            refine lv_istore_n (lv' := [(1, .int (zI (z_101))), (0, .ref (t))]) C0.1 C0.2.1 dX7_readClaim_108 rfl hl (by decide) rfl (fun ls hl => ?_)
            refine lv_iload_n C0.1 C0.2.1 dX7_readClaim_109 rfl (lv_at hl 0 rfl) ?_
            refine z_if_eq (tgt := 115) C0.1 C0.2.1 dX7_readClaim_110 (by decide) ⟨by omega, by omega⟩ (fun c_110 => ?_) (fun c_110 => ?_)
            · skip
              have h9 := himp c_110
              have h5 : clP5 B L a = a9 := by unfold clP5; rw [if_pos (by omega), h9.1]
              have h45 : 3 ≤ clD B L a → cnZ B L (clP2 B L a + 1) = 0 := fun _ => hz101.symm.trans c_110
              have hkk : 3 ≤ clD B L a → k9 = rnV B L (clP2 B L a + 1) := fun _ => h9.2
              have h5L : clP5 B L a ≤ L := by omega
              rw [← h5] at hP
              refine lv_aload_n C0.1 C0.2.1 dX7_readClaim_115 rfl (lv_at hl 1 rfl) ?_
              refine lv_lconst (v := zL 0) C0.1 C0.2.1 dX7_readClaim_116 rfl ?_
              refine mm_ldc2 (z := 999999999) C0 tw_843 rfl dX7_readClaim_117 ?_
              refine mm_callVi (As := [.long (zL (0)), .long (zL (999999999))]) C0 vw_X7_readNumber tw_737 (c_X7_readNumber l G _ hP hT h5L ⟨by omega, by omega⟩ ⟨by omega, by omega⟩) hM (hP.1) rfl rfl hl.1 rfl (Nat.le_of_ble_eq_true rfl) ⟨rfl, rfl, Nat.le_of_ble_eq_true rfl, Nat.le_of_ble_eq_true rfl, Nat.zero_le _, Nat.zero_le _⟩ dX7_readClaim_120 hS (fun z120 E13 H locs hp hM hS => ?_)
              obtain ⟨hz120, hP, hE8, hv8, fr⟩ := hp
              have hfr := (fun q h => (fr q (by omega)).trans (hfr q h) : ∀ q : Nat, q ≠ t → E13 q = E0 q)
              refine lv_istore_n (lv' := [(1, .int (zI (z120))), (0, .ref (t))]) C0.1 C0.2.1 dX7_readClaim_123 rfl hl (by decide) rfl (fun ls hl => ?_)
              refine lv_aload_n C0.1 C0.2.1 dX7_readClaim_124 rfl (lv_at hl 1 rfl) ?_
              refine lv_aload_n C0.1 C0.2.1 dX7_readClaim_125 rfl (lv_at hl 1 rfl) ?_
              refine mm_get (fs := [.ref (t + 1), .int (zI ((L : Int))), .int (zI ((rnE B L (clP5 B L a) : Int))), .long (zL ((rnV B L a))), .int (zI ((clD B L a))), .int (zI (k9)), .long (zL (n)), .long (zL ((rnV B L (clP5 B L a))))]) C0 (C := RX7) (T := TX7) (N := 8) iG_X7 hM (hP.1) rfl 7 (by decide) tw_49 rfl rfl dX7_readClaim_126 ?_
              refine mm_put (v := .long (zL ((rnV B L (clP5 B L a))))) (fs := [.ref (t + 1), .int (zI ((L : Int))), .int (zI ((rnE B L (clP5 B L a) : Int))), .long (zL ((rnV B L a))), .int (zI ((clD B L a))), .int (zI (k9)), .long (zL (n)), .long (zL ((rnV B L (clP5 B L a))))]) C0 (C := RX7) (T := TX7) (N := 8) iG_X7 tyX7 tyX7_ok nmX7 hM hS (hP.1) rfl 6 (by decide) tw_47 rfl rfl (ty := tyX7 6) (tyX7_ok 6 (by decide)) rfl rfl (Nat.le_of_ble_eq_true rfl) dX7_readClaim_129 (fun H locs hM hS hsz => ?_)
              obtain ⟨E14, hE14⟩ : ∃ X : mE, X = mm_up E13 (t) (.inr (6, [.ref (t + 1), .int (zI ((L : Int))), .int (zI ((rnE B L (clP5 B L a) : Int))), .long (zL ((rnV B L a))), .int (zI ((clD B L a))), .int (zI (k9)), .long (zL ((rnV B L (clP5 B L a)))), .long (zL ((rnV B L (clP5 B L a))))])) := ⟨_, rfl⟩
              replace hM : mm_M G E14 H := by rw [hE14]; exact hM
              have frs : ∀ q : Nat, q ≠ t → E14 q = E13 q := fun q h => by rw [hE14]; exact mm_up_n _ _ h
              have hat : E14 (t) = some (.inr (6, [.ref (t + 1), .int (zI ((L : Int))), .int (zI ((rnE B L (clP5 B L a) : Int))), .long (zL ((rnV B L a))), .int (zI ((clD B L a))), .int (zI (k9)), .long (zL ((rnV B L (clP5 B L a)))), .long (zL ((rnV B L (clP5 B L a))))])) := by rw [hE14]; exact mm_up_s _ _ _
              have hP : tp G E14 t B L (rnE B L (clP5 B L a)) (rnV B L a) (clD B L a) k9 (rnV B L (clP5 B L a)) (rnV B L (clP5 B L a)) := ⟨hat, (frs _ (by omega)).trans hP.2⟩
              have hfr := (fun q h => (frs q (by omega)).trans (hfr q h) : ∀ q : Nat, q ≠ t → E14 q = E0 q)
              refine lv_iload_n C0.1 C0.2.1 dX7_readClaim_132 rfl (lv_at hl 0 rfl) ?_
              exact mm_iret (z := z120) C0 hr hlk hM hS dX7_readClaim_133 (⟨hz120.trans (clZ_5 hX9 hp12 hnd h45).symm, ⟨_, _, _, _, _, _, hP, hE8, ⟨hk90, hk91⟩, fun q => ⟨rfl, rfl, rfl, hkk, rfl⟩⟩, hfr⟩)
            · skip
              refine lv_iload_n C0.1 C0.2.1 dX7_readClaim_113 rfl (lv_at hl 0 rfl) ?_
              exact mm_iret (z := z_101) C0 hr hlk hM hS dX7_readClaim_114 (⟨hz101.trans (clZ_4 hX9 hp12 hnd ⟨by omega, fun q => c_110 (hz101.trans q)⟩).symm, ⟨_, _, _, _, _, _, hP, ha9, ⟨hk90, hk91⟩, fun q => absurd q c_110⟩, hfr⟩)
        · skip
          have hd9 : clD B L a < 0 := by omega
          refine lv_aload_n C0.1 C0.2.1 dX7_readClaim_77 rfl (lv_at hl 1 rfl) ?_
          refine mm_callVi (As := []) C0 vw_X7_faultHere tw_750 (c_X7_faultHere l G _ hP hT) hM (hP.1) rfl rfl hl.1 rfl (Nat.le_of_ble_eq_true rfl) ⟨rfl, rfl, Nat.le_of_ble_eq_true rfl, Nat.le_of_ble_eq_true rfl, Nat.zero_le _, Nat.zero_le _⟩ dX7_readClaim_78 hS (fun z_78 E15 H locs hp hM hS => ?_)
          obtain ⟨hz_78, hEq⟩ := hp
          rw [hEq] at hM
          refine z_asI (b := (-20 - (clP2 B L a : Int))) (hz_78) ?_
          exact mm_iret (z := (-20 - (clP2 B L a : Int))) C0 hr hlk hM hS dX7_readClaim_81 (⟨(clZ_3 hX9 hp12 hd9).symm, ⟨_, _, _, _, _, _, hP, hs2.1, ⟨hk0, hk1⟩, fun q => by omega⟩, hfr⟩)
    · skip
      have hz9 := hz26.elim (fun h => by omega) (fun h => h.2)
      have hp12 : ¬ (clP1 B L a < L ∧ B (clP1 B L a) = 61) := hz9.1
      have hP : tp G E3 t B L (clP1 B L a) (rnV B L a) kd k n (rnV B L a) := hz9.2
      have hs1 : clP1 B L a ≤ L := hse.1
      refine lv_aload_n C0.1 C0.2.1 dX7_readClaim_32 rfl (lv_at hl 1 rfl) ?_
      refine mm_callVi (As := []) C0 vw_X7_faultHere tw_750 (c_X7_faultHere l G _ hP hT) hM (hP.1) rfl rfl hl.1 rfl (Nat.le_of_ble_eq_true rfl) ⟨rfl, rfl, Nat.le_of_ble_eq_true rfl, Nat.le_of_ble_eq_true rfl, Nat.zero_le _, Nat.zero_le _⟩ dX7_readClaim_33 hS (fun z_33 E16 H locs hp hM hS => ?_)
      obtain ⟨hz_33, hEq⟩ := hp
      rw [hEq] at hM
      refine z_asI (b := (-20 - (clP1 B L a : Int))) (hz_33) ?_
      exact mm_iret (z := (-20 - (clP1 B L a : Int))) C0 hr hlk hM hS dX7_readClaim_36 (⟨(clZ_2 hX9 hp12).symm, ⟨_, _, _, _, _, _, hP, hs1, ⟨hk0, hk1⟩, fun q => by omega⟩, hfr⟩)
  · skip
    have hX9 : rnX B L a 0 999999999999999999 := hzc.elim (fun h => h.1) (fun h => by omega)
    refine lv_iload_n C0.1 C0.2.1 dX7_readClaim_13 rfl (lv_at hl 0 rfl) ?_
    exact mm_iret (z := z5) C0 hr hlk hM hS dX7_readClaim_14 (⟨hz5.trans ((rnZ_x hX9).trans (clZ_1 hX9).symm), ⟨_, _, _, _, _, _, hP, hE9, ⟨hk0, hk1⟩, fun q => absurd q c_10⟩, hfr⟩)
