def cl4 (G : mG) (E : mE) (h : Nat) (c1 c2 c3 c4 : Nat → Int) : Prop := E (h + 5) = some (mm_J G 8 c1) ∧ E (h + 6) = some (mm_I G 8 c2) ∧ E (h + 7) = some (mm_I G 8 c3) ∧ E (h + 8) = some (mm_I G 8 c4)
theorem cl4.kept {G : mG} {E E1 : mE} {h : Nat} {c1 c2 c3 c4 : Nat → Int} (a : cl4 G E h c1 c2 c3 c4) (fr : ∀ q, h + 5 ≤ q ∧ q ≤ h + 8 → E1 q = E q) : cl4 G E1 h c1 c2 c3 c4 := ⟨(fr _ (by omega)).trans a.1, (fr _ (by omega)).trans a.2.1, (fr _ (by omega)).trans a.2.2.1, (fr _ (by omega)).trans a.2.2.2⟩
def clAt (B : Nat → Int) (L a : Nat) (c1 c2 c3 c4 : Nat → Int) (k : Nat) : Prop := c1 k = rnV B L a ∧ c2 k = clD B L a ∧ (3 ≤ clD B L a → c3 k = rnV B L (clP2 B L a + 1)) ∧ (¬ 3 ≤ clD B L a → c3 k = 0) ∧ c4 k = rnV B L (clP5 B L a)
def clA (B : Nat → Int) (L : Nat) : Nat → Nat
  | 0 => 0
  | i + 1 => clE B L (clA B L i) + 1
def wf (B : Nat → Int) (L : Nat) : Nat → Int
  | 0 => -4
  | i + 1 => jdW B L (clA B L i) i (wf B L i)
theorem wf_st {B : Nat → Int} {L k : Nat} (h : wf B L (k + 1) = (k : Int)) : ∀ n, wf B L (k + 1 + n) = (k : Int)
  | 0 => h
  | n + 1 => by
    have ih := wf_st h n
    show jdW B L (clA B L (k + 1 + n)) (k + 1 + n) (wf B L (k + 1 + n)) = _
    rw [ih]
    exact if_neg (fun q => by have := q.1; omega)
theorem kd_no {x : Int} (h1 : ¬ x = 115) (h2 : ¬ x = 116) (h3 : ¬ x = 111) (h4 : ¬ x = 99) (h5 : ¬ x = 104) : kdO x = -1 := by
  unfold kdO
  rw [kdF_n (m := 4) rfl (fun q => h1 q.symm), kdF_n (m := 3) rfl (fun q => h2 q.symm), kdF_n (m := 2) rfl (fun q => h3 q.symm), kdF_n (m := 1) rfl (fun q => h4 q.symm), kdF_n (m := 0) rfl (fun q => h5 q.symm)]
  rfl
theorem kd_0 : kdO 115 = 0 := by decide +kernel
theorem kd_1 : kdO 116 = 1 := by decide +kernel
theorem kd_2 : kdO 111 = 2 := by decide +kernel
theorem kd_3 : kdO 99 = 3 := by decide +kernel
theorem kd_4 : kdO 104 = 4 := by decide +kernel
theorem clD_p {B : Nat → Int} {L a : Nat} {x : Int} (h : nbZ B L (clP1 B L a + 1) = x) (hx : 0 ≤ x) : clD B L a = kdO x := by
  unfold nbZ at h
  split at h
  · rename_i q; unfold clD clP2; rw [if_pos q, h]
  · omega
theorem clD_q {B : Nat → Int} {L a : Nat} (h1 : ¬ nbZ B L (clP1 B L a + 1) = 115) (h2 : ¬ nbZ B L (clP1 B L a + 1) = 116) (h3 : ¬ nbZ B L (clP1 B L a + 1) = 111) (h4 : ¬ nbZ B L (clP1 B L a + 1) = 99) (h5 : ¬ nbZ B L (clP1 B L a + 1) = 104) : clD B L a = -1 := by
  by_cases q : clP2 B L a < L
  · have e : nbZ B L (clP1 B L a + 1) = B (clP2 B L a) := nbZ_p q
    rw [e] at h1 h2 h3 h4 h5
    unfold clD; rw [if_pos q, kd_no h1 h2 h3 h4 h5]
  · exact clD_n q

def rX10_readClaimIs : Room := { frames := 2, cells := 0, slots := 0, locals := 42 }
theorem vw_X10_readClaimIs : mm_Vw RX10 yX10_readClaimIs cX10_readClaimIs 2 (some .boolean) 1 := ⟨tw_1070, tp_28, tw_10, tw_1071, by decide +kernel⟩
set_option maxHeartbeats 4000000 in
set_option maxRecDepth 100000 in
theorem c_X10_readClaimIs (l : Launch) (G : mG) (E0 : mE) {h : Nat} {B : Nat → Int} {L a : Nat} {x3 x4 x5 x6 x7 x8 : Int} (hO : ro G E0 h (L : Int) (a : Int) x3 x4 x5 x6 x7 x8) (hT : E0 (h + 4) = some (mm_I G 100 B)) (hk : okT B L) (ha : a ≤ L) {c1 c2 c3 c4 : Nat → Int} (h4c : cl4 G E0 h c1 c2 c3 c4) {kz : Int} {k : Nat} (hkz : kz = (k : Int)) (hk8 : k < 8) : mm_Ci l yX10_readClaimIs (.code yX10_readClaimIs cX10_readClaimIs 2 (some .boolean) :: wsG) rX10_readClaimIs G [.ref (h), .int (zI (kz))] E0 (fun z E => ((z = 1 ∧ skp B L a < L ∧ B (skp B L a) = 61 ∧ ro G E h (L : Int) ((skp B L a + 1 : Nat) : Int) x3 x4 x5 x6 x7 x8) ∨ (z = 0 ∧ ¬ (skp B L a < L ∧ B (skp B L a) = 61) ∧ ro G E h (L : Int) ((skp B L a : Nat) : Int) x3 x4 x5 x6 x7 x8)) ∧ cl4 G E h (zup c1 k x3) c2 c3 c4 ∧ ∀ q : Nat, (q ≠ h ∧ ¬ (h + 5 ≤ q ∧ q ≤ h + 8)) → E q = E0 q) := by
  refine mm_of_i (by decide +kernel) (Nat.le_of_ble_eq_true rfl) ?_
  intro p e s m args below meth c ls C0 hr hlk hM hl hS
  have hl : lv_has ls 2 [(0, .ref (h)), (1, .int (zI (kz)))] := hl
  have hfr : ∀ q : Nat, (q ≠ h ∧ ¬ (h + 5 ≤ q ∧ q ≤ h + 8)) → E0 q = E0 q := fun _ _ => rfl
  have hL := hk.1
  
  refine lv_aload_n C0.1 C0.2.1 dX10_readClaimIs_0 rfl (lv_at hl 0 rfl) ?_
  refine mm_get (fs := [.ref (h + 1), .ref (h + 2), .ref (h + 3), .ref (h + 4), .int (zI ((L : Int))), .int (zI ((a : Int))), .long (zL (x3)), .ref (h + 5), .ref (h + 6), .ref (h + 7), .ref (h + 8), .int (zI (x4)), .int (zI (x5)), .int (zI (x6)), .int (zI (x7)), .int (zI (x8)), .ref (h + 9), .ref (h + 10), .ref (h + 11), .ref (h + 12)]) C0 (C := RX10) (T := TX10) (N := 20) iG_X10 hM (hO) rfl 7 (by decide) tw_923 rfl rfl dX10_readClaimIs_1 ?_
  refine lv_iload_n C0.1 C0.2.1 dX10_readClaimIs_4 rfl (lv_at hl 1 rfl) ?_
  refine lv_aload_n C0.1 C0.2.1 dX10_readClaimIs_5 rfl (lv_at hl 0 rfl) ?_
  refine mm_get (fs := [.ref (h + 1), .ref (h + 2), .ref (h + 3), .ref (h + 4), .int (zI ((L : Int))), .int (zI ((a : Int))), .long (zL (x3)), .ref (h + 5), .ref (h + 6), .ref (h + 7), .ref (h + 8), .int (zI (x4)), .int (zI (x5)), .int (zI (x6)), .int (zI (x7)), .int (zI (x8)), .ref (h + 9), .ref (h + 10), .ref (h + 11), .ref (h + 12)]) C0 (C := RX10) (T := TX10) (N := 20) iG_X10 hM (hO) rfl 6 (by decide) tw_922 rfl rfl dX10_readClaimIs_6 ?_
  refine mm_last C0 hM hS (g := c1) (h4c.1) (k) (i := kz) (x := x3) (by omega) (by omega) (by decide) dX10_readClaimIs_9 (fun H locs hM hS hsz => ?_)
  obtain ⟨E1, hE1⟩ : ∃ X : mE, X = mm_up E0 (h + 5) (mm_J G 8 (zup (c1) (k) (x3))) := ⟨_, rfl⟩
  replace hM : mm_M G E1 H := by rw [hE1]; exact hM
  have frs : ∀ q : Nat, q ≠ h + 5 → E1 q = E0 q := fun q h => by rw [hE1]; exact mm_up_n _ _ h
  have hat : E1 (h + 5) = some (mm_J G 8 (zup (c1) (k) (x3))) := by rw [hE1]; exact mm_up_s _ _ _
  have h4c : cl4 G E1 h (zup c1 k x3) c2 c3 c4 := ⟨hat, (frs _ (by omega)).trans h4c.2.1, (frs _ (by omega)).trans h4c.2.2.1, (frs _ (by omega)).trans h4c.2.2.2⟩
  have hO := ro.kept hO (frs _ (by omega))
  have hT := (frs _ (by omega)).trans hT
  have hfr := (fun q h => (frs q (by omega)).trans (hfr q h) : ∀ q : Nat, (q ≠ h ∧ ¬ (h + 5 ≤ q ∧ q ≤ h + 8)) → E1 q = E0 q)
  refine lv_aload_n C0.1 C0.2.1 dX10_readClaimIs_10 rfl (lv_at hl 0 rfl) ?_
  refine lv_bipush (v := zI 61) C0.1 C0.2.1 dX10_readClaimIs_11 rfl ?_
  refine mm_callVi (As := [.int (zI (61))]) C0 vw_X10_readByte tw_1072 (c_X10_readByte l G _ hO hT hk ha (x := 61) ⟨by omega, by omega⟩) hM (hO) rfl rfl hl.1 rfl (Nat.le_of_ble_eq_true rfl) ⟨rfl, rfl, Nat.le_of_ble_eq_true rfl, Nat.le_of_ble_eq_true rfl, Nat.zero_le _, Nat.zero_le _⟩ dX10_readClaimIs_13 hS (fun z13 E2 H locs hp hM hS => ?_)
  obtain ⟨hz13, fr⟩ := hp
  have hT := (fr _ (by omega)).trans hT
  have hfr := (fun q h => (fr q (by omega)).trans (hfr q h) : ∀ q : Nat, (q ≠ h ∧ ¬ (h + 5 ≤ q ∧ q ≤ h + 8)) → E2 q = E0 q)
  have hz01 : z13 = 0 ∨ z13 = 1 := hz13.elim (fun h => Or.inr h.1) (fun h => Or.inl h.1)
  have h4c := h4c.kept (fun q hq => fr q (by omega))
  exact mm_zret (z := z13) C0 hr hlk hM hS (by omega) dX10_readClaimIs_16 (⟨hz13, h4c, hfr⟩)

def rX10_readClaim : Room := { frames := 3, cells := 0, slots := 0, locals := 63 }
theorem vw_X10_readClaim : mm_Vw RX10 yX10_readClaim cX10_readClaim 4 (some .boolean) 1 := ⟨tw_1061, tp_26, tw_10, tw_1062, by decide +kernel⟩
set_option maxHeartbeats 4000000 in
set_option maxRecDepth 100000 in
theorem c_X10_readClaim (l : Launch) (G : mG) (E0 : mE) {h : Nat} {B : Nat → Int} {L a : Nat} {x3 x4 x5 x6 x7 x8 : Int} (hO : ro G E0 h (L : Int) (a : Int) x3 x4 x5 x6 x7 x8) (hT : E0 (h + 4) = some (mm_I G 100 B)) (hk : okT B L) (ha : a ≤ L) {c1 c2 c3 c4 : Nat → Int} (h4c : cl4 G E0 h c1 c2 c3 c4) {kz : Int} {k : Nat} (hkz : kz = (k : Int)) (hk8 : k < 8) : mm_Ci l yX10_readClaim (.code yX10_readClaim cX10_readClaim 4 (some .boolean) :: wsG) rX10_readClaim G [.ref (h), .int (zI (kz))] E0 (fun z E => ((z = 1 ∧ clZ B L a = 0 ∧ (∃ y3, ro G E h (L : Int) ((rnE B L (clP5 B L a) : Nat) : Int) y3 x4 x5 x6 x7 x8) ∧ rnE B L (clP5 B L a) ≤ L ∧ ∃ d1 d2 d3 d4, cl4 G E h d1 d2 d3 d4 ∧ clAt B L a d1 d2 d3 d4 k ∧ ∀ j, j ≠ k → d1 j = c1 j ∧ d2 j = c2 j ∧ d3 j = c3 j ∧ d4 j = c4 j) ∨ (z = 0 ∧ clZ B L a ≠ 0 ∧ ∃ a9 y3, ro G E h (L : Int) ((a9 : Nat) : Int) y3 x4 x5 x6 x7 x8 ∧ clZ B L a = -20 - ((skp B L a9 : Nat) : Int) ∧ a9 ≤ L ∧ ∃ d1 d2 d3 d4, cl4 G E h d1 d2 d3 d4)) ∧ ∀ q : Nat, (q ≠ h ∧ ¬ (h + 5 ≤ q ∧ q ≤ h + 8)) → E q = E0 q) := by
  refine mm_of_i (by decide +kernel) (Nat.le_of_ble_eq_true rfl) ?_
  intro p e s m args below meth c ls C0 hr hlk hM hl hS
  have hl : lv_has ls 4 [(0, .ref (h)), (1, .int (zI (kz)))] := hl
  have hfr : ∀ q : Nat, (q ≠ h ∧ ¬ (h + 5 ≤ q ∧ q ≤ h + 8)) → E0 q = E0 q := fun _ _ => rfl
  have hL := hk.1
  
  refine lv_aload_n C0.1 C0.2.1 dX10_readClaim_0 rfl (lv_at hl 0 rfl) ?_
  refine lv_bipush (v := zI 18) C0.1 C0.2.1 dX10_readClaim_1 rfl ?_
  refine lv_lconst (v := zL 0) C0.1 C0.2.1 dX10_readClaim_3 rfl ?_
  refine mm_ldc2 (z := 999999999999999999) C0 tw_1063 rfl dX10_readClaim_4 ?_
  refine mm_callVi (As := [.int (zI (18)), .long (zL (0)), .long (zL (999999999999999999))]) C0 vw_X10_readNumber tw_1064 (c_X10_readNumber l G _ hO hT hk ha (lo := 0) (hi := 999999999999999999) ⟨by omega, by omega⟩ ⟨by omega, by omega⟩) hM (hO) rfl rfl hl.1 rfl (Nat.le_of_ble_eq_true rfl) ⟨rfl, rfl, Nat.le_of_ble_eq_true rfl, Nat.le_of_ble_eq_true rfl, Nat.zero_le _, Nat.zero_le _⟩ dX10_readClaim_7 hS (fun z7 E1 H locs hp hM hS => ?_)
  obtain ⟨hz7, fr⟩ := hp
  have hT := (fr _ (by omega)).trans hT
  have h4c := cl4.kept h4c (fun q hq => fr q (by omega))
  have hfr := (fun q h => (fr q (by omega)).trans (hfr q h) : ∀ q : Nat, (q ≠ h ∧ ¬ (h + 5 ≤ q ∧ q ≤ h + 8)) → E1 q = E0 q)
  have hz01 : z7 = 0 ∨ z7 = 1 := hz7.elim (fun h => Or.inr h.1) (fun h => Or.inl h.1)
  refine z_if_eq (tgt := 21) C0.1 C0.2.1 dX10_readClaim_10 (by decide) ⟨by omega, by omega⟩ (fun c_10 => ?_) (fun c_10 => ?_)
  · skip
    obtain ⟨hX9, y3, hO⟩ := hz7.elim (fun h => by omega) (fun h => h.2)
    have hsa := skp_b (B := B) ha
    have hsi := skp_i (B := B) ha
    refine lv_iconst (v := zI 0) C0.1 C0.2.1 dX10_readClaim_21 rfl ?_
    exact mm_zret (z := 0) C0 hr hlk hM hS (by omega) dX10_readClaim_22 (⟨Or.inr ⟨rfl, by rw [clZ_1 hX9]; omega, skp B L a, _, hO, by rw [clZ_1 hX9, hsi], by omega, _, _, _, _, h4c⟩, hfr⟩)
  · skip
    obtain ⟨hX9, hO, hLe9⟩ := hz7.elim (fun h => h.2) (fun h => by omega)
    have hse := skp_b (B := B) hLe9
    refine lv_aload_n C0.1 C0.2.1 dX10_readClaim_13 rfl (lv_at hl 0 rfl) ?_
    refine lv_iload_n C0.1 C0.2.1 dX10_readClaim_14 rfl (lv_at hl 1 rfl) ?_
    refine mm_callVi (As := [.int (zI (kz))]) C0 vw_X10_readClaimIs tw_1068 (c_X10_readClaimIs l G _ hO hT hk hLe9 h4c hkz hk8) hM (hO) rfl rfl hl.1 rfl (Nat.le_of_ble_eq_true rfl) ⟨rfl, rfl, Nat.le_of_ble_eq_true rfl, Nat.le_of_ble_eq_true rfl, Nat.zero_le _, Nat.zero_le _⟩ dX10_readClaim_15 hS (fun z15 E2 H locs hp hM hS => ?_)
    obtain ⟨hz15, h4c, fr⟩ := hp
    have hT := (fr _ (by omega)).trans hT
    have hfr := (fun q h => (fr q (by omega)).trans (hfr q h) : ∀ q : Nat, (q ≠ h ∧ ¬ (h + 5 ≤ q ∧ q ≤ h + 8)) → E2 q = E0 q)
    have hz015 : z15 = 0 ∨ z15 = 1 := hz15.elim (fun h => Or.inr h.1) (fun h => Or.inl h.1)
    refine z_if_ne (tgt := 23) C0.1 C0.2.1 dX10_readClaim_18 (by decide) ⟨by omega, by omega⟩ (fun c_18 => ?_) (fun c_18 => ?_)
    · skip
      obtain ⟨hp1, hp2, hO⟩ := hz15.elim (fun h => h.2) (fun h => by omega)
      have hp12 : clP1 B L a < L ∧ B (clP1 B L a) = 61 := ⟨hp1, hp2⟩
      have hO : ro G E2 h (L : Int) ((clP1 B L a + 1 : Nat) : Int) (rnV B L a) x4 x5 x6 x7 x8 := hO
      have hp3 : clP1 B L a + 1 ≤ L := hp1
      refine lv_aload_n C0.1 C0.2.1 dX10_readClaim_23 rfl (lv_at hl 0 rfl) ?_
      refine mm_callVi (As := []) C0 vw_X10_nextByte tw_1028 (c_X10_nextByte l G _ hO hT hk hp3) hM (hO) rfl rfl hl.1 rfl (Nat.le_of_ble_eq_true rfl) ⟨rfl, rfl, Nat.le_of_ble_eq_true rfl, Nat.le_of_ble_eq_true rfl, Nat.zero_le _, Nat.zero_le _⟩ dX10_readClaim_24 hS (fun z24 E3 H locs hp hM hS => ?_)
      obtain ⟨hz24, hO, fr⟩ := hp
      have hT := (fr _ (by omega)).trans hT
      have h4c := cl4.kept h4c (fun q hq => fr q (by omega))
      have hfr := (fun q h => (fr q (by omega)).trans (hfr q h) : ∀ q : Nat, (q ≠ h ∧ ¬ (h + 5 ≤ q ∧ q ≤ h + 8)) → E3 q = E0 q)
      obtain ⟨hnb1, hnb2⟩ := nbZ_b (a := clP1 B L a + 1) hk
      have hs2 : clP2 B L a ≤ L ∧ clP1 B L a + 1 ≤ clP2 B L a := skp_b (B := B) hp3
      have hO : ro G E3 h (L : Int) ((clP2 B L a : Nat) : Int) (rnV B L a) x4 x5 x6 x7 x8 := hO
      have hsi2 : skp B L (clP2 B L a) = clP2 B L a := skp_i (B := B) hp3
      refine lv_istore_n (lv' := [(2, .int (zI (z24))), (0, .ref (h)), (1, .int (zI (kz)))]) C0.1 C0.2.1 dX10_readClaim_27 rfl hl (by decide) rfl (fun ls hl => ?_)
      refine lv_iload_n C0.1 C0.2.1 dX10_readClaim_28 rfl (lv_at hl 0 rfl) ?_
      refine lv_bipush (v := zI 115) C0.1 C0.2.1 dX10_readClaim_29 rfl ?_
      refine z_icmp_ne (tgt := 38) C0.1 C0.2.1 dX10_readClaim_31 (by decide) ⟨by omega, by omega⟩ ⟨by omega, by omega⟩ (fun c_31 => ?_) (fun c_31 => ?_)
      · skip
        refine lv_iload_n C0.1 C0.2.1 dX10_readClaim_38 rfl (lv_at hl 0 rfl) ?_
        refine lv_bipush (v := zI 116) C0.1 C0.2.1 dX10_readClaim_39 rfl ?_
        refine z_icmp_ne (tgt := 48) C0.1 C0.2.1 dX10_readClaim_41 (by decide) ⟨by omega, by omega⟩ ⟨by omega, by omega⟩ (fun c_41 => ?_) (fun c_41 => ?_)
        · skip
          refine lv_iload_n C0.1 C0.2.1 dX10_readClaim_48 rfl (lv_at hl 0 rfl) ?_
          refine lv_bipush (v := zI 111) C0.1 C0.2.1 dX10_readClaim_49 rfl ?_
          refine z_icmp_ne (tgt := 58) C0.1 C0.2.1 dX10_readClaim_51 (by decide) ⟨by omega, by omega⟩ ⟨by omega, by omega⟩ (fun c_51 => ?_) (fun c_51 => ?_)
          · skip
            refine lv_iload_n C0.1 C0.2.1 dX10_readClaim_58 rfl (lv_at hl 0 rfl) ?_
            refine lv_bipush (v := zI 99) C0.1 C0.2.1 dX10_readClaim_59 rfl ?_
            refine z_icmp_ne (tgt := 68) C0.1 C0.2.1 dX10_readClaim_61 (by decide) ⟨by omega, by omega⟩ ⟨by omega, by omega⟩ (fun c_61 => ?_) (fun c_61 => ?_)
            · skip
              refine lv_iload_n C0.1 C0.2.1 dX10_readClaim_68 rfl (lv_at hl 0 rfl) ?_
              refine lv_bipush (v := zI 104) C0.1 C0.2.1 dX10_readClaim_69 rfl ?_
              refine z_icmp_ne (tgt := 78) C0.1 C0.2.1 dX10_readClaim_71 (by decide) ⟨by omega, by omega⟩ ⟨by omega, by omega⟩ (fun c_71 => ?_) (fun c_71 => ?_)
              · skip
                have h9d : clD B L a = -1 := clD_q (by omega) (by omega) (by omega) (by omega) (by omega)
                refine lv_iconst (v := zI (-1)) C0.1 C0.2.1 dX10_readClaim_78 rfl ?_
                refine lv_istore_n (lv' := [(3, .int (zI ((-1)))), (2, .int (zI (z24))), (0, .ref (h)), (1, .int (zI (kz)))]) C0.1 C0.2.1 dX10_readClaim_79 rfl hl (by decide) rfl (fun ls hl => ?_)
                refine lv_iload_n C0.1 C0.2.1 dX10_readClaim_80 rfl (lv_at hl 0 rfl) ?_
                refine z_if_ge (tgt := 86) C0.1 C0.2.1 dX10_readClaim_81 (by decide) ⟨by omega, by omega⟩ (fun c_81 => ?_) (fun c_81 => ?_)
                · skip
                  omega
                · skip
                  refine lv_iconst (v := zI 0) C0.1 C0.2.1 dX10_readClaim_84 rfl ?_
                  exact mm_zret (z := 0) C0 hr hlk hM hS (by omega) dX10_readClaim_85 (⟨Or.inr ⟨rfl, by rw [clZ_3 hX9 hp12 (by omega)]; omega, clP2 B L a, _, hO, by rw [clZ_3 hX9 hp12 (by omega), hsi2], by omega, _, _, _, _, h4c⟩, hfr⟩)
              · skip
                have h9d : clD B L a = 4 := by rw [clD_p (x := 104) (by omega) (by omega)]; exact kd_4
                refine lv_iconst (v := zI 4) C0.1 C0.2.1 dX10_readClaim_74 rfl ?_
                refine lv_goto (tgt := 79) C0.1 C0.2.1 dX10_readClaim_75 (by decide) ?_
                refine lv_istore_n (lv' := [(3, .int (zI (4))), (2, .int (zI (z24))), (0, .ref (h)), (1, .int (zI (kz)))]) C0.1 C0.2.1 dX10_readClaim_79 rfl hl (by decide) rfl (fun ls hl => ?_)
                refine lv_iload_n C0.1 C0.2.1 dX10_readClaim_80 rfl (lv_at hl 0 rfl) ?_
                refine z_if_ge (tgt := 86) C0.1 C0.2.1 dX10_readClaim_81 (by decide) ⟨by omega, by omega⟩ (fun c_81 => ?_) (fun c_81 => ?_)
                · skip
                  have hnd : ¬ clD B L a < 0 := by omega
                  have hcl2 : clP2 B L a < L := Classical.byContradiction fun q => by rw [clD_n q] at h9d; omega
                  refine lv_aload_n C0.1 C0.2.1 dX10_readClaim_86 rfl (lv_at hl 2 rfl) ?_
                  refine lv_dup C0.1 C0.2.1 dX10_readClaim_87 rfl ?_
                  refine mm_get (fs := [.ref (h + 1), .ref (h + 2), .ref (h + 3), .ref (h + 4), .int (zI ((L : Int))), .int (zI (((clP2 B L a : Nat) : Int))), .long (zL ((rnV B L a))), .ref (h + 5), .ref (h + 6), .ref (h + 7), .ref (h + 8), .int (zI (x4)), .int (zI (x5)), .int (zI (x6)), .int (zI (x7)), .int (zI (x8)), .ref (h + 9), .ref (h + 10), .ref (h + 11), .ref (h + 12)]) C0 (C := RX10) (T := TX10) (N := 20) iG_X10 hM (hO) rfl 5 (by decide) tw_921 rfl rfl dX10_readClaim_88 ?_
                  refine lv_iconst (v := zI 1) C0.1 C0.2.1 dX10_readClaim_91 rfl ?_
                  refine z_iadd C0.1 C0.2.1 dX10_readClaim_92 ?_
                  refine z_asI (a := ((((clP2 B L a : Nat) : Int)) + (1))) (b := ((clP2 B L a + 1 : Nat) : Int)) (by omega) ?_
                  refine mm_put (v := .int (zI (((clP2 B L a + 1 : Nat) : Int)))) (fs := [.ref (h + 1), .ref (h + 2), .ref (h + 3), .ref (h + 4), .int (zI ((L : Int))), .int (zI (((clP2 B L a : Nat) : Int))), .long (zL ((rnV B L a))), .ref (h + 5), .ref (h + 6), .ref (h + 7), .ref (h + 8), .int (zI (x4)), .int (zI (x5)), .int (zI (x6)), .int (zI (x7)), .int (zI (x8)), .ref (h + 9), .ref (h + 10), .ref (h + 11), .ref (h + 12)]) C0 (C := RX10) (T := TX10) (N := 20) iG_X10 tyX10 tyX10_ok nmX10 hM hS (hO) rfl 5 (by decide) tw_921 rfl rfl (ty := tyX10 5) (tyX10_ok 5 (by decide)) rfl rfl (Nat.le_of_ble_eq_true rfl) dX10_readClaim_93 (fun H locs hM hS hsz => ?_)
                  obtain ⟨E4, hE4⟩ : ∃ X : mE, X = mm_up E3 (h) (.inr (9, [.ref (h + 1), .ref (h + 2), .ref (h + 3), .ref (h + 4), .int (zI ((L : Int))), .int (zI (((clP2 B L a + 1 : Nat) : Int))), .long (zL ((rnV B L a))), .ref (h + 5), .ref (h + 6), .ref (h + 7), .ref (h + 8), .int (zI (x4)), .int (zI (x5)), .int (zI (x6)), .int (zI (x7)), .int (zI (x8)), .ref (h + 9), .ref (h + 10), .ref (h + 11), .ref (h + 12)])) := ⟨_, rfl⟩
                  replace hM : mm_M G E4 H := by rw [hE4]; exact hM
                  have frs : ∀ q : Nat, q ≠ h → E4 q = E3 q := fun q h => by rw [hE4]; exact mm_up_n _ _ h
                  have hat : E4 (h) = some (.inr (9, [.ref (h + 1), .ref (h + 2), .ref (h + 3), .ref (h + 4), .int (zI ((L : Int))), .int (zI (((clP2 B L a + 1 : Nat) : Int))), .long (zL ((rnV B L a))), .ref (h + 5), .ref (h + 6), .ref (h + 7), .ref (h + 8), .int (zI (x4)), .int (zI (x5)), .int (zI (x6)), .int (zI (x7)), .int (zI (x8)), .ref (h + 9), .ref (h + 10), .ref (h + 11), .ref (h + 12)])) := by rw [hE4]; exact mm_up_s _ _ _
                  have hO : ro G E4 h (L : Int) ((clP2 B L a + 1 : Nat) : Int) (rnV B L a) x4 x5 x6 x7 x8 := hat
                  have hT := (frs _ (by omega)).trans hT
                  have h4c := cl4.kept h4c (fun q hq => frs q (by omega))
                  have hfr := (fun q h => (frs q (by omega)).trans (hfr q h) : ∀ q : Nat, (q ≠ h ∧ ¬ (h + 5 ≤ q ∧ q ≤ h + 8)) → E4 q = E0 q)
                  refine lv_aload_n C0.1 C0.2.1 dX10_readClaim_96 rfl (lv_at hl 2 rfl) ?_
                  refine mm_get (fs := [.ref (h + 1), .ref (h + 2), .ref (h + 3), .ref (h + 4), .int (zI ((L : Int))), .int (zI (((clP2 B L a + 1 : Nat) : Int))), .long (zL ((rnV B L a))), .ref (h + 5), .ref (h + 6), .ref (h + 7), .ref (h + 8), .int (zI (x4)), .int (zI (x5)), .int (zI (x6)), .int (zI (x7)), .int (zI (x8)), .ref (h + 9), .ref (h + 10), .ref (h + 11), .ref (h + 12)]) C0 (C := RX10) (T := TX10) (N := 20) iG_X10 hM (hO) rfl 8 (by decide) tw_924 rfl rfl dX10_readClaim_97 ?_
                  refine lv_iload_n C0.1 C0.2.1 dX10_readClaim_100 rfl (lv_at hl 3 rfl) ?_
                  refine lv_iload_n C0.1 C0.2.1 dX10_readClaim_101 rfl (lv_at hl 0 rfl) ?_
                  refine z_asI (a := 4) (b := (clD B L a)) (by omega) ?_
                  refine mm_iast C0 hM hS (g := c2) (h4c.2.1) (k) (i := kz) (x := (clD B L a)) (by omega) (by omega) (by decide) dX10_readClaim_102 (fun H locs hM hS hsz => ?_)
                  obtain ⟨E5, hE5⟩ : ∃ X : mE, X = mm_up E4 (h + 6) (mm_I G 8 (zup (c2) (k) ((clD B L a)))) := ⟨_, rfl⟩
                  replace hM : mm_M G E5 H := by rw [hE5]; exact hM
                  have frs : ∀ q : Nat, q ≠ h + 6 → E5 q = E4 q := fun q h => by rw [hE5]; exact mm_up_n _ _ h
                  have hat : E5 (h + 6) = some (mm_I G 8 (zup (c2) (k) ((clD B L a)))) := by rw [hE5]; exact mm_up_s _ _ _
                  have hO := hO.kept (frs _ (by omega))
                  have h4c : cl4 G E5 h (zup c1 k (rnV B L a)) (zup c2 k (clD B L a)) c3 c4 := ⟨(frs _ (by omega)).trans h4c.1, hat, (frs _ (by omega)).trans h4c.2.2.1, (frs _ (by omega)).trans h4c.2.2.2⟩
                  have hT := (frs _ (by omega)).trans hT
                  have hfr := (fun q h => (frs q (by omega)).trans (hfr q h) : ∀ q : Nat, (q ≠ h ∧ ¬ (h + 5 ≤ q ∧ q ≤ h + 8)) → E5 q = E0 q)
                  refine lv_aload_n C0.1 C0.2.1 dX10_readClaim_103 rfl (lv_at hl 2 rfl) ?_
                  refine mm_get (fs := [.ref (h + 1), .ref (h + 2), .ref (h + 3), .ref (h + 4), .int (zI ((L : Int))), .int (zI (((clP2 B L a + 1 : Nat) : Int))), .long (zL ((rnV B L a))), .ref (h + 5), .ref (h + 6), .ref (h + 7), .ref (h + 8), .int (zI (x4)), .int (zI (x5)), .int (zI (x6)), .int (zI (x7)), .int (zI (x8)), .ref (h + 9), .ref (h + 10), .ref (h + 11), .ref (h + 12)]) C0 (C := RX10) (T := TX10) (N := 20) iG_X10 hM (hO) rfl 9 (by decide) tw_925 rfl rfl dX10_readClaim_104 ?_
                  refine lv_iload_n C0.1 C0.2.1 dX10_readClaim_107 rfl (lv_at hl 3 rfl) ?_
                  refine lv_iconst (v := zI 0) C0.1 C0.2.1 dX10_readClaim_108 rfl ?_
                  refine mm_iast C0 hM hS (g := c3) (h4c.2.2.1) (k) (i := kz) (x := 0) (by omega) (by omega) (by decide) dX10_readClaim_109 (fun H locs hM hS hsz => ?_)
                  obtain ⟨E6, hE6⟩ : ∃ X : mE, X = mm_up E5 (h + 7) (mm_I G 8 (zup (c3) (k) (0))) := ⟨_, rfl⟩
                  replace hM : mm_M G E6 H := by rw [hE6]; exact hM
                  have frs : ∀ q : Nat, q ≠ h + 7 → E6 q = E5 q := fun q h => by rw [hE6]; exact mm_up_n _ _ h
                  have hat : E6 (h + 7) = some (mm_I G 8 (zup (c3) (k) (0))) := by rw [hE6]; exact mm_up_s _ _ _
                  have hO := hO.kept (frs _ (by omega))
                  have h4c : cl4 G E6 h (zup c1 k (rnV B L a)) (zup c2 k (clD B L a)) (zup c3 k 0) c4 := ⟨(frs _ (by omega)).trans h4c.1, (frs _ (by omega)).trans h4c.2.1, hat, (frs _ (by omega)).trans h4c.2.2.2⟩
                  have hT := (frs _ (by omega)).trans hT
                  have hfr := (fun q h => (frs q (by omega)).trans (hfr q h) : ∀ q : Nat, (q ≠ h ∧ ¬ (h + 5 ≤ q ∧ q ≤ h + 8)) → E6 q = E0 q)
                  refine lv_iload_n C0.1 C0.2.1 dX10_readClaim_110 rfl (lv_at hl 0 rfl) ?_
                  refine lv_iconst (v := zI 2) C0.1 C0.2.1 dX10_readClaim_111 rfl ?_
                  refine z_icmp_le (tgt := 154) C0.1 C0.2.1 dX10_readClaim_112 (by decide) ⟨by omega, by omega⟩ ⟨by omega, by omega⟩ (fun c_112 => ?_) (fun c_112 => ?_)
                  · skip
                    omega
                  · skip
                    refine lv_aload_n C0.1 C0.2.1 dX10_readClaim_115 rfl (lv_at hl 2 rfl) ?_
                    refine lv_bipush (v := zI 18) C0.1 C0.2.1 dX10_readClaim_116 rfl ?_
                    refine mm_ldc2 (z := 3) C0 tw_1006 rfl dX10_readClaim_118 ?_
                    refine mm_ldc2 (z := 99) C0 tw_1007 rfl dX10_readClaim_121 ?_
                    refine mm_callVi (As := [.int (zI (18)), .long (zL (3)), .long (zL (99))]) C0 vw_X10_readNumber tw_1064 (c_X10_readNumber l G _ (a := clP2 B L a + 1) hO hT hk (by omega) (lo := 3) (hi := 99) ⟨by omega, by omega⟩ ⟨by omega, by omega⟩) hM (hO) rfl rfl hl.1 rfl (Nat.le_of_ble_eq_true rfl) ⟨rfl, rfl, Nat.le_of_ble_eq_true rfl, Nat.le_of_ble_eq_true rfl, Nat.zero_le _, Nat.zero_le _⟩ dX10_readClaim_124 hS (fun z124 E7 H locs hp hM hS => ?_)
                    obtain ⟨hz124, fr⟩ := hp
                    have hT := (fr _ (by omega)).trans hT
                    have h4c := cl4.kept h4c (fun q hq => fr q (by omega))
                    have hfr := (fun q h => (fr q (by omega)).trans (hfr q h) : ∀ q : Nat, (q ≠ h ∧ ¬ (h + 5 ≤ q ∧ q ≤ h + 8)) → E7 q = E0 q)
                    have hz0124 : z124 = 0 ∨ z124 = 1 := hz124.elim (fun h => Or.inr h.1) (fun h => Or.inl h.1)
                    refine z_if_ne (tgt := 132) C0.1 C0.2.1 dX10_readClaim_127 (by decide) ⟨by omega, by omega⟩ (fun c_127 => ?_) (fun c_127 => ?_)
                    · skip
                      obtain ⟨hY9, hO, hLe8⟩ := hz124.elim (fun h => h.2) (fun h => by omega)
                      obtain ⟨hrk1, hrk2⟩ := rn_k hY9
                      refine lv_aload_n C0.1 C0.2.1 dX10_readClaim_132 rfl (lv_at hl 2 rfl) ?_
                      refine mm_get (fs := [.ref (h + 1), .ref (h + 2), .ref (h + 3), .ref (h + 4), .int (zI ((L : Int))), .int (zI (((rnE B L (clP2 B L a + 1) : Nat) : Int))), .long (zL ((rnV B L (clP2 B L a + 1)))), .ref (h + 5), .ref (h + 6), .ref (h + 7), .ref (h + 8), .int (zI (x4)), .int (zI (x5)), .int (zI (x6)), .int (zI (x7)), .int (zI (x8)), .ref (h + 9), .ref (h + 10), .ref (h + 11), .ref (h + 12)]) C0 (C := RX10) (T := TX10) (N := 20) iG_X10 hM (hO) rfl 9 (by decide) tw_925 rfl rfl dX10_readClaim_133 ?_
                      refine lv_iload_n C0.1 C0.2.1 dX10_readClaim_136 rfl (lv_at hl 3 rfl) ?_
                      refine lv_aload_n C0.1 C0.2.1 dX10_readClaim_137 rfl (lv_at hl 2 rfl) ?_
                      refine mm_get (fs := [.ref (h + 1), .ref (h + 2), .ref (h + 3), .ref (h + 4), .int (zI ((L : Int))), .int (zI (((rnE B L (clP2 B L a + 1) : Nat) : Int))), .long (zL ((rnV B L (clP2 B L a + 1)))), .ref (h + 5), .ref (h + 6), .ref (h + 7), .ref (h + 8), .int (zI (x4)), .int (zI (x5)), .int (zI (x6)), .int (zI (x7)), .int (zI (x8)), .ref (h + 9), .ref (h + 10), .ref (h + 11), .ref (h + 12)]) C0 (C := RX10) (T := TX10) (N := 20) iG_X10 hM (hO) rfl 6 (by decide) tw_922 rfl rfl dX10_readClaim_138 ?_
                      refine z_l2i C0.1 C0.2.1 dX10_readClaim_141 ?_
                      refine z_asI (a := (rnV B L (clP2 B L a + 1))) (b := (rnV B L (clP2 B L a + 1))) (rfl) ?_
                      refine mm_iast C0 hM hS (g := (zup c3 k 0)) (h4c.2.2.1) (k) (i := kz) (x := (rnV B L (clP2 B L a + 1))) (by omega) (by omega) (by decide) dX10_readClaim_142 (fun H locs hM hS hsz => ?_)
                      obtain ⟨E8, hE8⟩ : ∃ X : mE, X = mm_up E7 (h + 7) (mm_I G 8 (zup ((zup c3 k 0)) (k) ((rnV B L (clP2 B L a + 1))))) := ⟨_, rfl⟩
                      replace hM : mm_M G E8 H := by rw [hE8]; exact hM
                      have frs : ∀ q : Nat, q ≠ h + 7 → E8 q = E7 q := fun q h => by rw [hE8]; exact mm_up_n _ _ h
                      have hat : E8 (h + 7) = some (mm_I G 8 (zup ((zup c3 k 0)) (k) ((rnV B L (clP2 B L a + 1))))) := by rw [hE8]; exact mm_up_s _ _ _
                      have hO := hO.kept (frs _ (by omega))
                      have h4c : cl4 G E8 h (zup c1 k (rnV B L a)) (zup c2 k (clD B L a)) (zup (zup c3 k 0) k (rnV B L (clP2 B L a + 1))) c4 := ⟨(frs _ (by omega)).trans h4c.1, (frs _ (by omega)).trans h4c.2.1, hat, (frs _ (by omega)).trans h4c.2.2.2⟩
                      have hT := (frs _ (by omega)).trans hT
                      have hfr := (fun q h => (frs q (by omega)).trans (hfr q h) : ∀ q : Nat, (q ≠ h ∧ ¬ (h + 5 ≤ q ∧ q ≤ h + 8)) → E8 q = E0 q)
                      refine lv_aload_n C0.1 C0.2.1 dX10_readClaim_143 rfl (lv_at hl 2 rfl) ?_
                      refine lv_bipush (v := zI 58) C0.1 C0.2.1 dX10_readClaim_144 rfl ?_
                      refine mm_callVi (As := [.int (zI (58))]) C0 vw_X10_readByte tw_1072 (c_X10_readByte l G _ hO hT hk hLe8 (x := 58) ⟨by omega, by omega⟩) hM (hO) rfl rfl hl.1 rfl (Nat.le_of_ble_eq_true rfl) ⟨rfl, rfl, Nat.le_of_ble_eq_true rfl, Nat.le_of_ble_eq_true rfl, Nat.zero_le _, Nat.zero_le _⟩ dX10_readClaim_146 hS (fun z146 E9 H locs hp hM hS => ?_)
                      obtain ⟨hz146, fr⟩ := hp
                      have hT := (fr _ (by omega)).trans hT
                      have h4c := cl4.kept h4c (fun q hq => fr q (by omega))
                      have hfr := (fun q h => (fr q (by omega)).trans (hfr q h) : ∀ q : Nat, (q ≠ h ∧ ¬ (h + 5 ≤ q ∧ q ≤ h + 8)) → E9 q = E0 q)
                      have hz0146 : z146 = 0 ∨ z146 = 1 := hz146.elim (fun h => Or.inr h.1) (fun h => Or.inl h.1)
                      refine z_if_ne (tgt := 154) C0.1 C0.2.1 dX10_readClaim_149 (by decide) ⟨by omega, by omega⟩ (fun c_149 => ?_) (fun c_149 => ?_)
                      · skip
                        obtain ⟨hp5, hp6, hO⟩ := hz146.elim (fun h => h.2) (fun h => by omega)
                        have h5 : clP5 B L a = skp B L (rnE B L (clP2 B L a + 1)) + 1 := by unfold clP5; rw [if_pos (by omega)]
                        have h45 : 3 ≤ clD B L a → cnZ B L (clP2 B L a + 1) = 0 := fun _ => cn_3 hY9 ⟨hp5, hp6⟩
                        have h5L : clP5 B L a ≤ L := by omega
                        rw [← h5] at hO
                        have hcA : clAt B L a (zup c1 k (rnV B L a)) (zup c2 k (clD B L a)) (zup (zup c3 k 0) k (rnV B L (clP2 B L a + 1))) (zup c4 k (rnV B L (clP5 B L a))) k := ⟨zup_s _ _ _, zup_s _ _ _, fun _ => zup_s _ _ _, fun q => by omega, zup_s _ _ _⟩
                        have hcB : ∀ j, j ≠ k → (zup (zup c3 k 0) k (rnV B L (clP2 B L a + 1))) j = c3 j := fun j hj => by rw [zup_n _ _ hj, zup_n _ _ hj]
                        refine lv_aload_n C0.1 C0.2.1 dX10_readClaim_154 rfl (lv_at hl 2 rfl) ?_
                        refine lv_bipush (v := zI 18) C0.1 C0.2.1 dX10_readClaim_155 rfl ?_
                        refine lv_lconst (v := zL 0) C0.1 C0.2.1 dX10_readClaim_157 rfl ?_
                        refine mm_ldc2 (z := 999999999) C0 tw_1076 rfl dX10_readClaim_158 ?_
                        refine mm_callVi (As := [.int (zI (18)), .long (zL (0)), .long (zL (999999999))]) C0 vw_X10_readNumber tw_1064 (c_X10_readNumber l G _ hO hT hk h5L (lo := 0) (hi := 999999999) ⟨by omega, by omega⟩ ⟨by omega, by omega⟩) hM (hO) rfl rfl hl.1 rfl (Nat.le_of_ble_eq_true rfl) ⟨rfl, rfl, Nat.le_of_ble_eq_true rfl, Nat.le_of_ble_eq_true rfl, Nat.zero_le _, Nat.zero_le _⟩ dX10_readClaim_161 hS (fun z161 E10 H locs hp hM hS => ?_)
                        obtain ⟨hz161, fr⟩ := hp
                        have hT := (fr _ (by omega)).trans hT
                        have h4c := cl4.kept h4c (fun q hq => fr q (by omega))
                        have hfr := (fun q h => (fr q (by omega)).trans (hfr q h) : ∀ q : Nat, (q ≠ h ∧ ¬ (h + 5 ≤ q ∧ q ≤ h + 8)) → E10 q = E0 q)
                        have hz0161 : z161 = 0 ∨ z161 = 1 := hz161.elim (fun h => Or.inr h.1) (fun h => Or.inl h.1)
                        refine z_if_ne (tgt := 169) C0.1 C0.2.1 dX10_readClaim_164 (by decide) ⟨by omega, by omega⟩ (fun c_164 => ?_) (fun c_164 => ?_)
                        · skip
                          obtain ⟨hZ9, hO, hLe7⟩ := hz161.elim (fun h => h.2) (fun h => by omega)
                          obtain ⟨hrk3, hrk4⟩ := rn_k hZ9
                          have hfin : clZ B L a = 0 := by rw [clZ_5 hX9 hp12 hnd h45]; exact rnZ_0 hZ9
                          refine lv_aload_n C0.1 C0.2.1 dX10_readClaim_169 rfl (lv_at hl 2 rfl) ?_
                          refine mm_get (fs := [.ref (h + 1), .ref (h + 2), .ref (h + 3), .ref (h + 4), .int (zI ((L : Int))), .int (zI (((rnE B L (clP5 B L a) : Nat) : Int))), .long (zL ((rnV B L (clP5 B L a)))), .ref (h + 5), .ref (h + 6), .ref (h + 7), .ref (h + 8), .int (zI (x4)), .int (zI (x5)), .int (zI (x6)), .int (zI (x7)), .int (zI (x8)), .ref (h + 9), .ref (h + 10), .ref (h + 11), .ref (h + 12)]) C0 (C := RX10) (T := TX10) (N := 20) iG_X10 hM (hO) rfl 10 (by decide) tw_926 rfl rfl dX10_readClaim_170 ?_
                          refine lv_iload_n C0.1 C0.2.1 dX10_readClaim_173 rfl (lv_at hl 3 rfl) ?_
                          refine lv_aload_n C0.1 C0.2.1 dX10_readClaim_174 rfl (lv_at hl 2 rfl) ?_
                          refine mm_get (fs := [.ref (h + 1), .ref (h + 2), .ref (h + 3), .ref (h + 4), .int (zI ((L : Int))), .int (zI (((rnE B L (clP5 B L a) : Nat) : Int))), .long (zL ((rnV B L (clP5 B L a)))), .ref (h + 5), .ref (h + 6), .ref (h + 7), .ref (h + 8), .int (zI (x4)), .int (zI (x5)), .int (zI (x6)), .int (zI (x7)), .int (zI (x8)), .ref (h + 9), .ref (h + 10), .ref (h + 11), .ref (h + 12)]) C0 (C := RX10) (T := TX10) (N := 20) iG_X10 hM (hO) rfl 6 (by decide) tw_922 rfl rfl dX10_readClaim_175 ?_
                          refine z_l2i C0.1 C0.2.1 dX10_readClaim_178 ?_
                          refine z_asI (a := (rnV B L (clP5 B L a))) (b := (rnV B L (clP5 B L a))) (rfl) ?_
                          refine mm_iast C0 hM hS (g := c4) (h4c.2.2.2) (k) (i := kz) (x := (rnV B L (clP5 B L a))) (by omega) (by omega) (by decide) dX10_readClaim_179 (fun H locs hM hS hsz => ?_)
                          obtain ⟨E11, hE11⟩ : ∃ X : mE, X = mm_up E10 (h + 8) (mm_I G 8 (zup (c4) (k) ((rnV B L (clP5 B L a))))) := ⟨_, rfl⟩
                          replace hM : mm_M G E11 H := by rw [hE11]; exact hM
                          have frs : ∀ q : Nat, q ≠ h + 8 → E11 q = E10 q := fun q h => by rw [hE11]; exact mm_up_n _ _ h
                          have hat : E11 (h + 8) = some (mm_I G 8 (zup (c4) (k) ((rnV B L (clP5 B L a))))) := by rw [hE11]; exact mm_up_s _ _ _
                          have hO := hO.kept (frs _ (by omega))
                          have h4c : cl4 G E11 h _ _ _ (zup c4 k (rnV B L (clP5 B L a))) := ⟨(frs _ (by omega)).trans h4c.1, (frs _ (by omega)).trans h4c.2.1, (frs _ (by omega)).trans h4c.2.2.1, hat⟩
                          have hT := (frs _ (by omega)).trans hT
                          have hfr := (fun q h => (frs q (by omega)).trans (hfr q h) : ∀ q : Nat, (q ≠ h ∧ ¬ (h + 5 ≤ q ∧ q ≤ h + 8)) → E11 q = E0 q)
                          refine lv_iconst (v := zI 1) C0.1 C0.2.1 dX10_readClaim_180 rfl ?_
                          exact mm_zret (z := 1) C0 hr hlk hM hS (by omega) dX10_readClaim_181 (⟨Or.inl ⟨rfl, hfin, ⟨_, hO⟩, hLe7, _, _, _, _, h4c, hcA, fun j hj => ⟨zup_n _ _ hj, zup_n _ _ hj, hcB j hj, zup_n _ _ hj⟩⟩, hfr⟩)
                        · skip
                          obtain ⟨hZ9, y3, hO⟩ := hz161.elim (fun h => by omega) (fun h => h.2)
                          have hsb := skp_b (B := B) h5L
                          have hsi := skp_i (B := B) h5L
                          have hfin : clZ B L a = -20 - ((skp B L (clP5 B L a) : Nat) : Int) := by rw [clZ_5 hX9 hp12 hnd h45]; exact rnZ_x hZ9
                          refine lv_iconst (v := zI 0) C0.1 C0.2.1 dX10_readClaim_167 rfl ?_
                          exact mm_zret (z := 0) C0 hr hlk hM hS (by omega) dX10_readClaim_168 (⟨Or.inr ⟨rfl, by omega, skp B L (clP5 B L a), _, hO, by rw [hfin, hsi], by omega, _, _, _, _, h4c⟩, hfr⟩)
                      · skip
                        obtain ⟨hp5, hO⟩ := hz146.elim (fun h => by omega) (fun h => h.2)
                        have hsb := skp_b (B := B) hLe8
                        have hsi := skp_i (B := B) hLe8
                        have hcn := cn_2 hY9 hp5
                        have hc4 := clZ_4 hX9 hp12 hnd ⟨by omega, fun q => by omega⟩
                        refine lv_iconst (v := zI 0) C0.1 C0.2.1 dX10_readClaim_152 rfl ?_
                        exact mm_zret (z := 0) C0 hr hlk hM hS (by omega) dX10_readClaim_153 (⟨Or.inr ⟨rfl, by rw [hc4, hcn]; omega, skp B L (rnE B L (clP2 B L a + 1)), _, hO, by rw [hc4, hcn, hsi], by omega, _, _, _, _, h4c⟩, hfr⟩)
                    · skip
                      obtain ⟨hY9, y3, hO⟩ := hz124.elim (fun h => by omega) (fun h => h.2)
                      have hsb := skp_b (B := B) (show clP2 B L a + 1 ≤ L by omega)
                      have hsi := skp_i (B := B) (show clP2 B L a + 1 ≤ L by omega)
                      have hcn := cn_1 hY9
                      have hc4 := clZ_4 hX9 hp12 hnd ⟨by omega, fun q => by omega⟩
                      refine lv_iconst (v := zI 0) C0.1 C0.2.1 dX10_readClaim_130 rfl ?_
                      exact mm_zret (z := 0) C0 hr hlk hM hS (by omega) dX10_readClaim_131 (⟨Or.inr ⟨rfl, by rw [hc4, hcn]; omega, skp B L (clP2 B L a + 1), _, hO, by rw [hc4, hcn, hsi], by omega, _, _, _, _, h4c⟩, hfr⟩)
                · skip
                  omega
            · skip
              have h9d : clD B L a = 3 := by rw [clD_p (x := 99) (by omega) (by omega)]; exact kd_3
              refine lv_iconst (v := zI 3) C0.1 C0.2.1 dX10_readClaim_64 rfl ?_
              refine lv_goto (tgt := 79) C0.1 C0.2.1 dX10_readClaim_65 (by decide) ?_
              refine lv_istore_n (lv' := [(3, .int (zI (3))), (2, .int (zI (z24))), (0, .ref (h)), (1, .int (zI (kz)))]) C0.1 C0.2.1 dX10_readClaim_79 rfl hl (by decide) rfl (fun ls hl => ?_)
              refine lv_iload_n C0.1 C0.2.1 dX10_readClaim_80 rfl (lv_at hl 0 rfl) ?_
              refine z_if_ge (tgt := 86) C0.1 C0.2.1 dX10_readClaim_81 (by decide) ⟨by omega, by omega⟩ (fun c_81 => ?_) (fun c_81 => ?_)
              · skip
                have hnd : ¬ clD B L a < 0 := by omega
                have hcl2 : clP2 B L a < L := Classical.byContradiction fun q => by rw [clD_n q] at h9d; omega
                refine lv_aload_n C0.1 C0.2.1 dX10_readClaim_86 rfl (lv_at hl 2 rfl) ?_
                refine lv_dup C0.1 C0.2.1 dX10_readClaim_87 rfl ?_
                refine mm_get (fs := [.ref (h + 1), .ref (h + 2), .ref (h + 3), .ref (h + 4), .int (zI ((L : Int))), .int (zI (((clP2 B L a : Nat) : Int))), .long (zL ((rnV B L a))), .ref (h + 5), .ref (h + 6), .ref (h + 7), .ref (h + 8), .int (zI (x4)), .int (zI (x5)), .int (zI (x6)), .int (zI (x7)), .int (zI (x8)), .ref (h + 9), .ref (h + 10), .ref (h + 11), .ref (h + 12)]) C0 (C := RX10) (T := TX10) (N := 20) iG_X10 hM (hO) rfl 5 (by decide) tw_921 rfl rfl dX10_readClaim_88 ?_
                refine lv_iconst (v := zI 1) C0.1 C0.2.1 dX10_readClaim_91 rfl ?_
                refine z_iadd C0.1 C0.2.1 dX10_readClaim_92 ?_
                refine z_asI (a := ((((clP2 B L a : Nat) : Int)) + (1))) (b := ((clP2 B L a + 1 : Nat) : Int)) (by omega) ?_
                refine mm_put (v := .int (zI (((clP2 B L a + 1 : Nat) : Int)))) (fs := [.ref (h + 1), .ref (h + 2), .ref (h + 3), .ref (h + 4), .int (zI ((L : Int))), .int (zI (((clP2 B L a : Nat) : Int))), .long (zL ((rnV B L a))), .ref (h + 5), .ref (h + 6), .ref (h + 7), .ref (h + 8), .int (zI (x4)), .int (zI (x5)), .int (zI (x6)), .int (zI (x7)), .int (zI (x8)), .ref (h + 9), .ref (h + 10), .ref (h + 11), .ref (h + 12)]) C0 (C := RX10) (T := TX10) (N := 20) iG_X10 tyX10 tyX10_ok nmX10 hM hS (hO) rfl 5 (by decide) tw_921 rfl rfl (ty := tyX10 5) (tyX10_ok 5 (by decide)) rfl rfl (Nat.le_of_ble_eq_true rfl) dX10_readClaim_93 (fun H locs hM hS hsz => ?_)
                obtain ⟨E12, hE12⟩ : ∃ X : mE, X = mm_up E3 (h) (.inr (9, [.ref (h + 1), .ref (h + 2), .ref (h + 3), .ref (h + 4), .int (zI ((L : Int))), .int (zI (((clP2 B L a + 1 : Nat) : Int))), .long (zL ((rnV B L a))), .ref (h + 5), .ref (h + 6), .ref (h + 7), .ref (h + 8), .int (zI (x4)), .int (zI (x5)), .int (zI (x6)), .int (zI (x7)), .int (zI (x8)), .ref (h + 9), .ref (h + 10), .ref (h + 11), .ref (h + 12)])) := ⟨_, rfl⟩
                replace hM : mm_M G E12 H := by rw [hE12]; exact hM
                have frs : ∀ q : Nat, q ≠ h → E12 q = E3 q := fun q h => by rw [hE12]; exact mm_up_n _ _ h
                have hat : E12 (h) = some (.inr (9, [.ref (h + 1), .ref (h + 2), .ref (h + 3), .ref (h + 4), .int (zI ((L : Int))), .int (zI (((clP2 B L a + 1 : Nat) : Int))), .long (zL ((rnV B L a))), .ref (h + 5), .ref (h + 6), .ref (h + 7), .ref (h + 8), .int (zI (x4)), .int (zI (x5)), .int (zI (x6)), .int (zI (x7)), .int (zI (x8)), .ref (h + 9), .ref (h + 10), .ref (h + 11), .ref (h + 12)])) := by rw [hE12]; exact mm_up_s _ _ _
                have hO : ro G E12 h (L : Int) ((clP2 B L a + 1 : Nat) : Int) (rnV B L a) x4 x5 x6 x7 x8 := hat
                have hT := (frs _ (by omega)).trans hT
                have h4c := cl4.kept h4c (fun q hq => frs q (by omega))
                have hfr := (fun q h => (frs q (by omega)).trans (hfr q h) : ∀ q : Nat, (q ≠ h ∧ ¬ (h + 5 ≤ q ∧ q ≤ h + 8)) → E12 q = E0 q)
                refine lv_aload_n C0.1 C0.2.1 dX10_readClaim_96 rfl (lv_at hl 2 rfl) ?_
                refine mm_get (fs := [.ref (h + 1), .ref (h + 2), .ref (h + 3), .ref (h + 4), .int (zI ((L : Int))), .int (zI (((clP2 B L a + 1 : Nat) : Int))), .long (zL ((rnV B L a))), .ref (h + 5), .ref (h + 6), .ref (h + 7), .ref (h + 8), .int (zI (x4)), .int (zI (x5)), .int (zI (x6)), .int (zI (x7)), .int (zI (x8)), .ref (h + 9), .ref (h + 10), .ref (h + 11), .ref (h + 12)]) C0 (C := RX10) (T := TX10) (N := 20) iG_X10 hM (hO) rfl 8 (by decide) tw_924 rfl rfl dX10_readClaim_97 ?_
                refine lv_iload_n C0.1 C0.2.1 dX10_readClaim_100 rfl (lv_at hl 3 rfl) ?_
                refine lv_iload_n C0.1 C0.2.1 dX10_readClaim_101 rfl (lv_at hl 0 rfl) ?_
                refine z_asI (a := 3) (b := (clD B L a)) (by omega) ?_
                refine mm_iast C0 hM hS (g := c2) (h4c.2.1) (k) (i := kz) (x := (clD B L a)) (by omega) (by omega) (by decide) dX10_readClaim_102 (fun H locs hM hS hsz => ?_)
                obtain ⟨E13, hE13⟩ : ∃ X : mE, X = mm_up E12 (h + 6) (mm_I G 8 (zup (c2) (k) ((clD B L a)))) := ⟨_, rfl⟩
                replace hM : mm_M G E13 H := by rw [hE13]; exact hM
                have frs : ∀ q : Nat, q ≠ h + 6 → E13 q = E12 q := fun q h => by rw [hE13]; exact mm_up_n _ _ h
                have hat : E13 (h + 6) = some (mm_I G 8 (zup (c2) (k) ((clD B L a)))) := by rw [hE13]; exact mm_up_s _ _ _
                have hO := hO.kept (frs _ (by omega))
                have h4c : cl4 G E13 h (zup c1 k (rnV B L a)) (zup c2 k (clD B L a)) c3 c4 := ⟨(frs _ (by omega)).trans h4c.1, hat, (frs _ (by omega)).trans h4c.2.2.1, (frs _ (by omega)).trans h4c.2.2.2⟩
                have hT := (frs _ (by omega)).trans hT
                have hfr := (fun q h => (frs q (by omega)).trans (hfr q h) : ∀ q : Nat, (q ≠ h ∧ ¬ (h + 5 ≤ q ∧ q ≤ h + 8)) → E13 q = E0 q)
                refine lv_aload_n C0.1 C0.2.1 dX10_readClaim_103 rfl (lv_at hl 2 rfl) ?_
                refine mm_get (fs := [.ref (h + 1), .ref (h + 2), .ref (h + 3), .ref (h + 4), .int (zI ((L : Int))), .int (zI (((clP2 B L a + 1 : Nat) : Int))), .long (zL ((rnV B L a))), .ref (h + 5), .ref (h + 6), .ref (h + 7), .ref (h + 8), .int (zI (x4)), .int (zI (x5)), .int (zI (x6)), .int (zI (x7)), .int (zI (x8)), .ref (h + 9), .ref (h + 10), .ref (h + 11), .ref (h + 12)]) C0 (C := RX10) (T := TX10) (N := 20) iG_X10 hM (hO) rfl 9 (by decide) tw_925 rfl rfl dX10_readClaim_104 ?_
                refine lv_iload_n C0.1 C0.2.1 dX10_readClaim_107 rfl (lv_at hl 3 rfl) ?_
                refine lv_iconst (v := zI 0) C0.1 C0.2.1 dX10_readClaim_108 rfl ?_
                refine mm_iast C0 hM hS (g := c3) (h4c.2.2.1) (k) (i := kz) (x := 0) (by omega) (by omega) (by decide) dX10_readClaim_109 (fun H locs hM hS hsz => ?_)
                obtain ⟨E14, hE14⟩ : ∃ X : mE, X = mm_up E13 (h + 7) (mm_I G 8 (zup (c3) (k) (0))) := ⟨_, rfl⟩
                replace hM : mm_M G E14 H := by rw [hE14]; exact hM
                have frs : ∀ q : Nat, q ≠ h + 7 → E14 q = E13 q := fun q h => by rw [hE14]; exact mm_up_n _ _ h
                have hat : E14 (h + 7) = some (mm_I G 8 (zup (c3) (k) (0))) := by rw [hE14]; exact mm_up_s _ _ _
                have hO := hO.kept (frs _ (by omega))
                have h4c : cl4 G E14 h (zup c1 k (rnV B L a)) (zup c2 k (clD B L a)) (zup c3 k 0) c4 := ⟨(frs _ (by omega)).trans h4c.1, (frs _ (by omega)).trans h4c.2.1, hat, (frs _ (by omega)).trans h4c.2.2.2⟩
                have hT := (frs _ (by omega)).trans hT
                have hfr := (fun q h => (frs q (by omega)).trans (hfr q h) : ∀ q : Nat, (q ≠ h ∧ ¬ (h + 5 ≤ q ∧ q ≤ h + 8)) → E14 q = E0 q)
                refine lv_iload_n C0.1 C0.2.1 dX10_readClaim_110 rfl (lv_at hl 0 rfl) ?_
                refine lv_iconst (v := zI 2) C0.1 C0.2.1 dX10_readClaim_111 rfl ?_
                refine z_icmp_le (tgt := 154) C0.1 C0.2.1 dX10_readClaim_112 (by decide) ⟨by omega, by omega⟩ ⟨by omega, by omega⟩ (fun c_112 => ?_) (fun c_112 => ?_)
                · skip
                  omega
                · skip
                  refine lv_aload_n C0.1 C0.2.1 dX10_readClaim_115 rfl (lv_at hl 2 rfl) ?_
                  refine lv_bipush (v := zI 18) C0.1 C0.2.1 dX10_readClaim_116 rfl ?_
                  refine mm_ldc2 (z := 3) C0 tw_1006 rfl dX10_readClaim_118 ?_
                  refine mm_ldc2 (z := 99) C0 tw_1007 rfl dX10_readClaim_121 ?_
                  refine mm_callVi (As := [.int (zI (18)), .long (zL (3)), .long (zL (99))]) C0 vw_X10_readNumber tw_1064 (c_X10_readNumber l G _ (a := clP2 B L a + 1) hO hT hk (by omega) (lo := 3) (hi := 99) ⟨by omega, by omega⟩ ⟨by omega, by omega⟩) hM (hO) rfl rfl hl.1 rfl (Nat.le_of_ble_eq_true rfl) ⟨rfl, rfl, Nat.le_of_ble_eq_true rfl, Nat.le_of_ble_eq_true rfl, Nat.zero_le _, Nat.zero_le _⟩ dX10_readClaim_124 hS (fun z124 E15 H locs hp hM hS => ?_)
                  obtain ⟨hz124, fr⟩ := hp
                  have hT := (fr _ (by omega)).trans hT
                  have h4c := cl4.kept h4c (fun q hq => fr q (by omega))
                  have hfr := (fun q h => (fr q (by omega)).trans (hfr q h) : ∀ q : Nat, (q ≠ h ∧ ¬ (h + 5 ≤ q ∧ q ≤ h + 8)) → E15 q = E0 q)
                  have hz0124 : z124 = 0 ∨ z124 = 1 := hz124.elim (fun h => Or.inr h.1) (fun h => Or.inl h.1)
                  refine z_if_ne (tgt := 132) C0.1 C0.2.1 dX10_readClaim_127 (by decide) ⟨by omega, by omega⟩ (fun c_127 => ?_) (fun c_127 => ?_)
                  · skip
                    obtain ⟨hY9, hO, hLe8⟩ := hz124.elim (fun h => h.2) (fun h => by omega)
                    obtain ⟨hrk1, hrk2⟩ := rn_k hY9
                    refine lv_aload_n C0.1 C0.2.1 dX10_readClaim_132 rfl (lv_at hl 2 rfl) ?_
                    refine mm_get (fs := [.ref (h + 1), .ref (h + 2), .ref (h + 3), .ref (h + 4), .int (zI ((L : Int))), .int (zI (((rnE B L (clP2 B L a + 1) : Nat) : Int))), .long (zL ((rnV B L (clP2 B L a + 1)))), .ref (h + 5), .ref (h + 6), .ref (h + 7), .ref (h + 8), .int (zI (x4)), .int (zI (x5)), .int (zI (x6)), .int (zI (x7)), .int (zI (x8)), .ref (h + 9), .ref (h + 10), .ref (h + 11), .ref (h + 12)]) C0 (C := RX10) (T := TX10) (N := 20) iG_X10 hM (hO) rfl 9 (by decide) tw_925 rfl rfl dX10_readClaim_133 ?_
                    refine lv_iload_n C0.1 C0.2.1 dX10_readClaim_136 rfl (lv_at hl 3 rfl) ?_
                    refine lv_aload_n C0.1 C0.2.1 dX10_readClaim_137 rfl (lv_at hl 2 rfl) ?_
                    refine mm_get (fs := [.ref (h + 1), .ref (h + 2), .ref (h + 3), .ref (h + 4), .int (zI ((L : Int))), .int (zI (((rnE B L (clP2 B L a + 1) : Nat) : Int))), .long (zL ((rnV B L (clP2 B L a + 1)))), .ref (h + 5), .ref (h + 6), .ref (h + 7), .ref (h + 8), .int (zI (x4)), .int (zI (x5)), .int (zI (x6)), .int (zI (x7)), .int (zI (x8)), .ref (h + 9), .ref (h + 10), .ref (h + 11), .ref (h + 12)]) C0 (C := RX10) (T := TX10) (N := 20) iG_X10 hM (hO) rfl 6 (by decide) tw_922 rfl rfl dX10_readClaim_138 ?_
                    refine z_l2i C0.1 C0.2.1 dX10_readClaim_141 ?_
                    refine z_asI (a := (rnV B L (clP2 B L a + 1))) (b := (rnV B L (clP2 B L a + 1))) (rfl) ?_
                    refine mm_iast C0 hM hS (g := (zup c3 k 0)) (h4c.2.2.1) (k) (i := kz) (x := (rnV B L (clP2 B L a + 1))) (by omega) (by omega) (by decide) dX10_readClaim_142 (fun H locs hM hS hsz => ?_)
                    obtain ⟨E16, hE16⟩ : ∃ X : mE, X = mm_up E15 (h + 7) (mm_I G 8 (zup ((zup c3 k 0)) (k) ((rnV B L (clP2 B L a + 1))))) := ⟨_, rfl⟩
                    replace hM : mm_M G E16 H := by rw [hE16]; exact hM
                    have frs : ∀ q : Nat, q ≠ h + 7 → E16 q = E15 q := fun q h => by rw [hE16]; exact mm_up_n _ _ h
                    have hat : E16 (h + 7) = some (mm_I G 8 (zup ((zup c3 k 0)) (k) ((rnV B L (clP2 B L a + 1))))) := by rw [hE16]; exact mm_up_s _ _ _
                    have hO := hO.kept (frs _ (by omega))
                    have h4c : cl4 G E16 h (zup c1 k (rnV B L a)) (zup c2 k (clD B L a)) (zup (zup c3 k 0) k (rnV B L (clP2 B L a + 1))) c4 := ⟨(frs _ (by omega)).trans h4c.1, (frs _ (by omega)).trans h4c.2.1, hat, (frs _ (by omega)).trans h4c.2.2.2⟩
                    have hT := (frs _ (by omega)).trans hT
                    have hfr := (fun q h => (frs q (by omega)).trans (hfr q h) : ∀ q : Nat, (q ≠ h ∧ ¬ (h + 5 ≤ q ∧ q ≤ h + 8)) → E16 q = E0 q)
                    refine lv_aload_n C0.1 C0.2.1 dX10_readClaim_143 rfl (lv_at hl 2 rfl) ?_
                    refine lv_bipush (v := zI 58) C0.1 C0.2.1 dX10_readClaim_144 rfl ?_
                    refine mm_callVi (As := [.int (zI (58))]) C0 vw_X10_readByte tw_1072 (c_X10_readByte l G _ hO hT hk hLe8 (x := 58) ⟨by omega, by omega⟩) hM (hO) rfl rfl hl.1 rfl (Nat.le_of_ble_eq_true rfl) ⟨rfl, rfl, Nat.le_of_ble_eq_true rfl, Nat.le_of_ble_eq_true rfl, Nat.zero_le _, Nat.zero_le _⟩ dX10_readClaim_146 hS (fun z146 E17 H locs hp hM hS => ?_)
                    obtain ⟨hz146, fr⟩ := hp
                    have hT := (fr _ (by omega)).trans hT
                    have h4c := cl4.kept h4c (fun q hq => fr q (by omega))
                    have hfr := (fun q h => (fr q (by omega)).trans (hfr q h) : ∀ q : Nat, (q ≠ h ∧ ¬ (h + 5 ≤ q ∧ q ≤ h + 8)) → E17 q = E0 q)
                    have hz0146 : z146 = 0 ∨ z146 = 1 := hz146.elim (fun h => Or.inr h.1) (fun h => Or.inl h.1)
                    refine z_if_ne (tgt := 154) C0.1 C0.2.1 dX10_readClaim_149 (by decide) ⟨by omega, by omega⟩ (fun c_149 => ?_) (fun c_149 => ?_)
                    · skip
                      obtain ⟨hp5, hp6, hO⟩ := hz146.elim (fun h => h.2) (fun h => by omega)
                      have h5 : clP5 B L a = skp B L (rnE B L (clP2 B L a + 1)) + 1 := by unfold clP5; rw [if_pos (by omega)]
                      have h45 : 3 ≤ clD B L a → cnZ B L (clP2 B L a + 1) = 0 := fun _ => cn_3 hY9 ⟨hp5, hp6⟩
                      have h5L : clP5 B L a ≤ L := by omega
                      rw [← h5] at hO
                      have hcA : clAt B L a (zup c1 k (rnV B L a)) (zup c2 k (clD B L a)) (zup (zup c3 k 0) k (rnV B L (clP2 B L a + 1))) (zup c4 k (rnV B L (clP5 B L a))) k := ⟨zup_s _ _ _, zup_s _ _ _, fun _ => zup_s _ _ _, fun q => by omega, zup_s _ _ _⟩
                      have hcB : ∀ j, j ≠ k → (zup (zup c3 k 0) k (rnV B L (clP2 B L a + 1))) j = c3 j := fun j hj => by rw [zup_n _ _ hj, zup_n _ _ hj]
                      refine lv_aload_n C0.1 C0.2.1 dX10_readClaim_154 rfl (lv_at hl 2 rfl) ?_
                      refine lv_bipush (v := zI 18) C0.1 C0.2.1 dX10_readClaim_155 rfl ?_
                      refine lv_lconst (v := zL 0) C0.1 C0.2.1 dX10_readClaim_157 rfl ?_
                      refine mm_ldc2 (z := 999999999) C0 tw_1076 rfl dX10_readClaim_158 ?_
                      refine mm_callVi (As := [.int (zI (18)), .long (zL (0)), .long (zL (999999999))]) C0 vw_X10_readNumber tw_1064 (c_X10_readNumber l G _ hO hT hk h5L (lo := 0) (hi := 999999999) ⟨by omega, by omega⟩ ⟨by omega, by omega⟩) hM (hO) rfl rfl hl.1 rfl (Nat.le_of_ble_eq_true rfl) ⟨rfl, rfl, Nat.le_of_ble_eq_true rfl, Nat.le_of_ble_eq_true rfl, Nat.zero_le _, Nat.zero_le _⟩ dX10_readClaim_161 hS (fun z161 E18 H locs hp hM hS => ?_)
                      obtain ⟨hz161, fr⟩ := hp
                      have hT := (fr _ (by omega)).trans hT
                      have h4c := cl4.kept h4c (fun q hq => fr q (by omega))
                      have hfr := (fun q h => (fr q (by omega)).trans (hfr q h) : ∀ q : Nat, (q ≠ h ∧ ¬ (h + 5 ≤ q ∧ q ≤ h + 8)) → E18 q = E0 q)
                      have hz0161 : z161 = 0 ∨ z161 = 1 := hz161.elim (fun h => Or.inr h.1) (fun h => Or.inl h.1)
                      refine z_if_ne (tgt := 169) C0.1 C0.2.1 dX10_readClaim_164 (by decide) ⟨by omega, by omega⟩ (fun c_164 => ?_) (fun c_164 => ?_)
                      · skip
                        obtain ⟨hZ9, hO, hLe7⟩ := hz161.elim (fun h => h.2) (fun h => by omega)
                        obtain ⟨hrk3, hrk4⟩ := rn_k hZ9
                        have hfin : clZ B L a = 0 := by rw [clZ_5 hX9 hp12 hnd h45]; exact rnZ_0 hZ9
                        refine lv_aload_n C0.1 C0.2.1 dX10_readClaim_169 rfl (lv_at hl 2 rfl) ?_
                        refine mm_get (fs := [.ref (h + 1), .ref (h + 2), .ref (h + 3), .ref (h + 4), .int (zI ((L : Int))), .int (zI (((rnE B L (clP5 B L a) : Nat) : Int))), .long (zL ((rnV B L (clP5 B L a)))), .ref (h + 5), .ref (h + 6), .ref (h + 7), .ref (h + 8), .int (zI (x4)), .int (zI (x5)), .int (zI (x6)), .int (zI (x7)), .int (zI (x8)), .ref (h + 9), .ref (h + 10), .ref (h + 11), .ref (h + 12)]) C0 (C := RX10) (T := TX10) (N := 20) iG_X10 hM (hO) rfl 10 (by decide) tw_926 rfl rfl dX10_readClaim_170 ?_
                        refine lv_iload_n C0.1 C0.2.1 dX10_readClaim_173 rfl (lv_at hl 3 rfl) ?_
                        refine lv_aload_n C0.1 C0.2.1 dX10_readClaim_174 rfl (lv_at hl 2 rfl) ?_
                        refine mm_get (fs := [.ref (h + 1), .ref (h + 2), .ref (h + 3), .ref (h + 4), .int (zI ((L : Int))), .int (zI (((rnE B L (clP5 B L a) : Nat) : Int))), .long (zL ((rnV B L (clP5 B L a)))), .ref (h + 5), .ref (h + 6), .ref (h + 7), .ref (h + 8), .int (zI (x4)), .int (zI (x5)), .int (zI (x6)), .int (zI (x7)), .int (zI (x8)), .ref (h + 9), .ref (h + 10), .ref (h + 11), .ref (h + 12)]) C0 (C := RX10) (T := TX10) (N := 20) iG_X10 hM (hO) rfl 6 (by decide) tw_922 rfl rfl dX10_readClaim_175 ?_
                        refine z_l2i C0.1 C0.2.1 dX10_readClaim_178 ?_
                        refine z_asI (a := (rnV B L (clP5 B L a))) (b := (rnV B L (clP5 B L a))) (rfl) ?_
                        refine mm_iast C0 hM hS (g := c4) (h4c.2.2.2) (k) (i := kz) (x := (rnV B L (clP5 B L a))) (by omega) (by omega) (by decide) dX10_readClaim_179 (fun H locs hM hS hsz => ?_)
                        obtain ⟨E19, hE19⟩ : ∃ X : mE, X = mm_up E18 (h + 8) (mm_I G 8 (zup (c4) (k) ((rnV B L (clP5 B L a))))) := ⟨_, rfl⟩
                        replace hM : mm_M G E19 H := by rw [hE19]; exact hM
                        have frs : ∀ q : Nat, q ≠ h + 8 → E19 q = E18 q := fun q h => by rw [hE19]; exact mm_up_n _ _ h
                        have hat : E19 (h + 8) = some (mm_I G 8 (zup (c4) (k) ((rnV B L (clP5 B L a))))) := by rw [hE19]; exact mm_up_s _ _ _
                        have hO := hO.kept (frs _ (by omega))
                        have h4c : cl4 G E19 h _ _ _ (zup c4 k (rnV B L (clP5 B L a))) := ⟨(frs _ (by omega)).trans h4c.1, (frs _ (by omega)).trans h4c.2.1, (frs _ (by omega)).trans h4c.2.2.1, hat⟩
                        have hT := (frs _ (by omega)).trans hT
                        have hfr := (fun q h => (frs q (by omega)).trans (hfr q h) : ∀ q : Nat, (q ≠ h ∧ ¬ (h + 5 ≤ q ∧ q ≤ h + 8)) → E19 q = E0 q)
                        refine lv_iconst (v := zI 1) C0.1 C0.2.1 dX10_readClaim_180 rfl ?_
                        exact mm_zret (z := 1) C0 hr hlk hM hS (by omega) dX10_readClaim_181 (⟨Or.inl ⟨rfl, hfin, ⟨_, hO⟩, hLe7, _, _, _, _, h4c, hcA, fun j hj => ⟨zup_n _ _ hj, zup_n _ _ hj, hcB j hj, zup_n _ _ hj⟩⟩, hfr⟩)
                      · skip
                        obtain ⟨hZ9, y3, hO⟩ := hz161.elim (fun h => by omega) (fun h => h.2)
                        have hsb := skp_b (B := B) h5L
                        have hsi := skp_i (B := B) h5L
                        have hfin : clZ B L a = -20 - ((skp B L (clP5 B L a) : Nat) : Int) := by rw [clZ_5 hX9 hp12 hnd h45]; exact rnZ_x hZ9
                        refine lv_iconst (v := zI 0) C0.1 C0.2.1 dX10_readClaim_167 rfl ?_
                        exact mm_zret (z := 0) C0 hr hlk hM hS (by omega) dX10_readClaim_168 (⟨Or.inr ⟨rfl, by omega, skp B L (clP5 B L a), _, hO, by rw [hfin, hsi], by omega, _, _, _, _, h4c⟩, hfr⟩)
                    · skip
                      obtain ⟨hp5, hO⟩ := hz146.elim (fun h => by omega) (fun h => h.2)
                      have hsb := skp_b (B := B) hLe8
                      have hsi := skp_i (B := B) hLe8
                      have hcn := cn_2 hY9 hp5
                      have hc4 := clZ_4 hX9 hp12 hnd ⟨by omega, fun q => by omega⟩
                      refine lv_iconst (v := zI 0) C0.1 C0.2.1 dX10_readClaim_152 rfl ?_
                      exact mm_zret (z := 0) C0 hr hlk hM hS (by omega) dX10_readClaim_153 (⟨Or.inr ⟨rfl, by rw [hc4, hcn]; omega, skp B L (rnE B L (clP2 B L a + 1)), _, hO, by rw [hc4, hcn, hsi], by omega, _, _, _, _, h4c⟩, hfr⟩)
                  · skip
                    obtain ⟨hY9, y3, hO⟩ := hz124.elim (fun h => by omega) (fun h => h.2)
                    have hsb := skp_b (B := B) (show clP2 B L a + 1 ≤ L by omega)
                    have hsi := skp_i (B := B) (show clP2 B L a + 1 ≤ L by omega)
                    have hcn := cn_1 hY9
                    have hc4 := clZ_4 hX9 hp12 hnd ⟨by omega, fun q => by omega⟩
                    refine lv_iconst (v := zI 0) C0.1 C0.2.1 dX10_readClaim_130 rfl ?_
                    exact mm_zret (z := 0) C0 hr hlk hM hS (by omega) dX10_readClaim_131 (⟨Or.inr ⟨rfl, by rw [hc4, hcn]; omega, skp B L (clP2 B L a + 1), _, hO, by rw [hc4, hcn, hsi], by omega, _, _, _, _, h4c⟩, hfr⟩)
              · skip
                omega
          · skip
            have h9d : clD B L a = 2 := by rw [clD_p (x := 111) (by omega) (by omega)]; exact kd_2
            refine lv_iconst (v := zI 2) C0.1 C0.2.1 dX10_readClaim_54 rfl ?_
            refine lv_goto (tgt := 79) C0.1 C0.2.1 dX10_readClaim_55 (by decide) ?_
            refine lv_istore_n (lv' := [(3, .int (zI (2))), (2, .int (zI (z24))), (0, .ref (h)), (1, .int (zI (kz)))]) C0.1 C0.2.1 dX10_readClaim_79 rfl hl (by decide) rfl (fun ls hl => ?_)
            refine lv_iload_n C0.1 C0.2.1 dX10_readClaim_80 rfl (lv_at hl 0 rfl) ?_
            refine z_if_ge (tgt := 86) C0.1 C0.2.1 dX10_readClaim_81 (by decide) ⟨by omega, by omega⟩ (fun c_81 => ?_) (fun c_81 => ?_)
            · skip
              have hnd : ¬ clD B L a < 0 := by omega
              have hcl2 : clP2 B L a < L := Classical.byContradiction fun q => by rw [clD_n q] at h9d; omega
              refine lv_aload_n C0.1 C0.2.1 dX10_readClaim_86 rfl (lv_at hl 2 rfl) ?_
              refine lv_dup C0.1 C0.2.1 dX10_readClaim_87 rfl ?_
              refine mm_get (fs := [.ref (h + 1), .ref (h + 2), .ref (h + 3), .ref (h + 4), .int (zI ((L : Int))), .int (zI (((clP2 B L a : Nat) : Int))), .long (zL ((rnV B L a))), .ref (h + 5), .ref (h + 6), .ref (h + 7), .ref (h + 8), .int (zI (x4)), .int (zI (x5)), .int (zI (x6)), .int (zI (x7)), .int (zI (x8)), .ref (h + 9), .ref (h + 10), .ref (h + 11), .ref (h + 12)]) C0 (C := RX10) (T := TX10) (N := 20) iG_X10 hM (hO) rfl 5 (by decide) tw_921 rfl rfl dX10_readClaim_88 ?_
              refine lv_iconst (v := zI 1) C0.1 C0.2.1 dX10_readClaim_91 rfl ?_
              refine z_iadd C0.1 C0.2.1 dX10_readClaim_92 ?_
              refine z_asI (a := ((((clP2 B L a : Nat) : Int)) + (1))) (b := ((clP2 B L a + 1 : Nat) : Int)) (by omega) ?_
              refine mm_put (v := .int (zI (((clP2 B L a + 1 : Nat) : Int)))) (fs := [.ref (h + 1), .ref (h + 2), .ref (h + 3), .ref (h + 4), .int (zI ((L : Int))), .int (zI (((clP2 B L a : Nat) : Int))), .long (zL ((rnV B L a))), .ref (h + 5), .ref (h + 6), .ref (h + 7), .ref (h + 8), .int (zI (x4)), .int (zI (x5)), .int (zI (x6)), .int (zI (x7)), .int (zI (x8)), .ref (h + 9), .ref (h + 10), .ref (h + 11), .ref (h + 12)]) C0 (C := RX10) (T := TX10) (N := 20) iG_X10 tyX10 tyX10_ok nmX10 hM hS (hO) rfl 5 (by decide) tw_921 rfl rfl (ty := tyX10 5) (tyX10_ok 5 (by decide)) rfl rfl (Nat.le_of_ble_eq_true rfl) dX10_readClaim_93 (fun H locs hM hS hsz => ?_)
              obtain ⟨E20, hE20⟩ : ∃ X : mE, X = mm_up E3 (h) (.inr (9, [.ref (h + 1), .ref (h + 2), .ref (h + 3), .ref (h + 4), .int (zI ((L : Int))), .int (zI (((clP2 B L a + 1 : Nat) : Int))), .long (zL ((rnV B L a))), .ref (h + 5), .ref (h + 6), .ref (h + 7), .ref (h + 8), .int (zI (x4)), .int (zI (x5)), .int (zI (x6)), .int (zI (x7)), .int (zI (x8)), .ref (h + 9), .ref (h + 10), .ref (h + 11), .ref (h + 12)])) := ⟨_, rfl⟩
              replace hM : mm_M G E20 H := by rw [hE20]; exact hM
              have frs : ∀ q : Nat, q ≠ h → E20 q = E3 q := fun q h => by rw [hE20]; exact mm_up_n _ _ h
              have hat : E20 (h) = some (.inr (9, [.ref (h + 1), .ref (h + 2), .ref (h + 3), .ref (h + 4), .int (zI ((L : Int))), .int (zI (((clP2 B L a + 1 : Nat) : Int))), .long (zL ((rnV B L a))), .ref (h + 5), .ref (h + 6), .ref (h + 7), .ref (h + 8), .int (zI (x4)), .int (zI (x5)), .int (zI (x6)), .int (zI (x7)), .int (zI (x8)), .ref (h + 9), .ref (h + 10), .ref (h + 11), .ref (h + 12)])) := by rw [hE20]; exact mm_up_s _ _ _
              have hO : ro G E20 h (L : Int) ((clP2 B L a + 1 : Nat) : Int) (rnV B L a) x4 x5 x6 x7 x8 := hat
              have hT := (frs _ (by omega)).trans hT
              have h4c := cl4.kept h4c (fun q hq => frs q (by omega))
              have hfr := (fun q h => (frs q (by omega)).trans (hfr q h) : ∀ q : Nat, (q ≠ h ∧ ¬ (h + 5 ≤ q ∧ q ≤ h + 8)) → E20 q = E0 q)
              refine lv_aload_n C0.1 C0.2.1 dX10_readClaim_96 rfl (lv_at hl 2 rfl) ?_
              refine mm_get (fs := [.ref (h + 1), .ref (h + 2), .ref (h + 3), .ref (h + 4), .int (zI ((L : Int))), .int (zI (((clP2 B L a + 1 : Nat) : Int))), .long (zL ((rnV B L a))), .ref (h + 5), .ref (h + 6), .ref (h + 7), .ref (h + 8), .int (zI (x4)), .int (zI (x5)), .int (zI (x6)), .int (zI (x7)), .int (zI (x8)), .ref (h + 9), .ref (h + 10), .ref (h + 11), .ref (h + 12)]) C0 (C := RX10) (T := TX10) (N := 20) iG_X10 hM (hO) rfl 8 (by decide) tw_924 rfl rfl dX10_readClaim_97 ?_
              refine lv_iload_n C0.1 C0.2.1 dX10_readClaim_100 rfl (lv_at hl 3 rfl) ?_
              refine lv_iload_n C0.1 C0.2.1 dX10_readClaim_101 rfl (lv_at hl 0 rfl) ?_
              refine z_asI (a := 2) (b := (clD B L a)) (by omega) ?_
              refine mm_iast C0 hM hS (g := c2) (h4c.2.1) (k) (i := kz) (x := (clD B L a)) (by omega) (by omega) (by decide) dX10_readClaim_102 (fun H locs hM hS hsz => ?_)
              obtain ⟨E21, hE21⟩ : ∃ X : mE, X = mm_up E20 (h + 6) (mm_I G 8 (zup (c2) (k) ((clD B L a)))) := ⟨_, rfl⟩
              replace hM : mm_M G E21 H := by rw [hE21]; exact hM
              have frs : ∀ q : Nat, q ≠ h + 6 → E21 q = E20 q := fun q h => by rw [hE21]; exact mm_up_n _ _ h
              have hat : E21 (h + 6) = some (mm_I G 8 (zup (c2) (k) ((clD B L a)))) := by rw [hE21]; exact mm_up_s _ _ _
              have hO := hO.kept (frs _ (by omega))
              have h4c : cl4 G E21 h (zup c1 k (rnV B L a)) (zup c2 k (clD B L a)) c3 c4 := ⟨(frs _ (by omega)).trans h4c.1, hat, (frs _ (by omega)).trans h4c.2.2.1, (frs _ (by omega)).trans h4c.2.2.2⟩
              have hT := (frs _ (by omega)).trans hT
              have hfr := (fun q h => (frs q (by omega)).trans (hfr q h) : ∀ q : Nat, (q ≠ h ∧ ¬ (h + 5 ≤ q ∧ q ≤ h + 8)) → E21 q = E0 q)
              refine lv_aload_n C0.1 C0.2.1 dX10_readClaim_103 rfl (lv_at hl 2 rfl) ?_
              refine mm_get (fs := [.ref (h + 1), .ref (h + 2), .ref (h + 3), .ref (h + 4), .int (zI ((L : Int))), .int (zI (((clP2 B L a + 1 : Nat) : Int))), .long (zL ((rnV B L a))), .ref (h + 5), .ref (h + 6), .ref (h + 7), .ref (h + 8), .int (zI (x4)), .int (zI (x5)), .int (zI (x6)), .int (zI (x7)), .int (zI (x8)), .ref (h + 9), .ref (h + 10), .ref (h + 11), .ref (h + 12)]) C0 (C := RX10) (T := TX10) (N := 20) iG_X10 hM (hO) rfl 9 (by decide) tw_925 rfl rfl dX10_readClaim_104 ?_
              refine lv_iload_n C0.1 C0.2.1 dX10_readClaim_107 rfl (lv_at hl 3 rfl) ?_
              refine lv_iconst (v := zI 0) C0.1 C0.2.1 dX10_readClaim_108 rfl ?_
              refine mm_iast C0 hM hS (g := c3) (h4c.2.2.1) (k) (i := kz) (x := 0) (by omega) (by omega) (by decide) dX10_readClaim_109 (fun H locs hM hS hsz => ?_)
              obtain ⟨E22, hE22⟩ : ∃ X : mE, X = mm_up E21 (h + 7) (mm_I G 8 (zup (c3) (k) (0))) := ⟨_, rfl⟩
              replace hM : mm_M G E22 H := by rw [hE22]; exact hM
              have frs : ∀ q : Nat, q ≠ h + 7 → E22 q = E21 q := fun q h => by rw [hE22]; exact mm_up_n _ _ h
              have hat : E22 (h + 7) = some (mm_I G 8 (zup (c3) (k) (0))) := by rw [hE22]; exact mm_up_s _ _ _
              have hO := hO.kept (frs _ (by omega))
              have h4c : cl4 G E22 h (zup c1 k (rnV B L a)) (zup c2 k (clD B L a)) (zup c3 k 0) c4 := ⟨(frs _ (by omega)).trans h4c.1, (frs _ (by omega)).trans h4c.2.1, hat, (frs _ (by omega)).trans h4c.2.2.2⟩
              have hT := (frs _ (by omega)).trans hT
              have hfr := (fun q h => (frs q (by omega)).trans (hfr q h) : ∀ q : Nat, (q ≠ h ∧ ¬ (h + 5 ≤ q ∧ q ≤ h + 8)) → E22 q = E0 q)
              refine lv_iload_n C0.1 C0.2.1 dX10_readClaim_110 rfl (lv_at hl 0 rfl) ?_
              refine lv_iconst (v := zI 2) C0.1 C0.2.1 dX10_readClaim_111 rfl ?_
              refine z_icmp_le (tgt := 154) C0.1 C0.2.1 dX10_readClaim_112 (by decide) ⟨by omega, by omega⟩ ⟨by omega, by omega⟩ (fun c_112 => ?_) (fun c_112 => ?_)
              · skip
                have h5 : clP5 B L a = clP2 B L a + 1 := by unfold clP5; rw [if_neg (by omega)]
                have h45 : 3 ≤ clD B L a → cnZ B L (clP2 B L a + 1) = 0 := fun q => by omega
                have h5L : clP5 B L a ≤ L := by omega
                rw [← h5] at hO
                have hcA : clAt B L a (zup c1 k (rnV B L a)) (zup c2 k (clD B L a)) (zup c3 k 0) (zup c4 k (rnV B L (clP5 B L a))) k := ⟨zup_s _ _ _, zup_s _ _ _, fun q => by omega, fun _ => zup_s _ _ _, zup_s _ _ _⟩
                have hcB : ∀ j, j ≠ k → (zup c3 k 0) j = c3 j := fun j hj => zup_n _ _ hj
                refine lv_aload_n C0.1 C0.2.1 dX10_readClaim_154 rfl (lv_at hl 2 rfl) ?_
                refine lv_bipush (v := zI 18) C0.1 C0.2.1 dX10_readClaim_155 rfl ?_
                refine lv_lconst (v := zL 0) C0.1 C0.2.1 dX10_readClaim_157 rfl ?_
                refine mm_ldc2 (z := 999999999) C0 tw_1076 rfl dX10_readClaim_158 ?_
                refine mm_callVi (As := [.int (zI (18)), .long (zL (0)), .long (zL (999999999))]) C0 vw_X10_readNumber tw_1064 (c_X10_readNumber l G _ hO hT hk h5L (lo := 0) (hi := 999999999) ⟨by omega, by omega⟩ ⟨by omega, by omega⟩) hM (hO) rfl rfl hl.1 rfl (Nat.le_of_ble_eq_true rfl) ⟨rfl, rfl, Nat.le_of_ble_eq_true rfl, Nat.le_of_ble_eq_true rfl, Nat.zero_le _, Nat.zero_le _⟩ dX10_readClaim_161 hS (fun z161 E23 H locs hp hM hS => ?_)
                obtain ⟨hz161, fr⟩ := hp
                have hT := (fr _ (by omega)).trans hT
                have h4c := cl4.kept h4c (fun q hq => fr q (by omega))
                have hfr := (fun q h => (fr q (by omega)).trans (hfr q h) : ∀ q : Nat, (q ≠ h ∧ ¬ (h + 5 ≤ q ∧ q ≤ h + 8)) → E23 q = E0 q)
                have hz0161 : z161 = 0 ∨ z161 = 1 := hz161.elim (fun h => Or.inr h.1) (fun h => Or.inl h.1)
                refine z_if_ne (tgt := 169) C0.1 C0.2.1 dX10_readClaim_164 (by decide) ⟨by omega, by omega⟩ (fun c_164 => ?_) (fun c_164 => ?_)
                · skip
                  obtain ⟨hZ9, hO, hLe7⟩ := hz161.elim (fun h => h.2) (fun h => by omega)
                  obtain ⟨hrk3, hrk4⟩ := rn_k hZ9
                  have hfin : clZ B L a = 0 := by rw [clZ_5 hX9 hp12 hnd h45]; exact rnZ_0 hZ9
                  refine lv_aload_n C0.1 C0.2.1 dX10_readClaim_169 rfl (lv_at hl 2 rfl) ?_
                  refine mm_get (fs := [.ref (h + 1), .ref (h + 2), .ref (h + 3), .ref (h + 4), .int (zI ((L : Int))), .int (zI (((rnE B L (clP5 B L a) : Nat) : Int))), .long (zL ((rnV B L (clP5 B L a)))), .ref (h + 5), .ref (h + 6), .ref (h + 7), .ref (h + 8), .int (zI (x4)), .int (zI (x5)), .int (zI (x6)), .int (zI (x7)), .int (zI (x8)), .ref (h + 9), .ref (h + 10), .ref (h + 11), .ref (h + 12)]) C0 (C := RX10) (T := TX10) (N := 20) iG_X10 hM (hO) rfl 10 (by decide) tw_926 rfl rfl dX10_readClaim_170 ?_
                  refine lv_iload_n C0.1 C0.2.1 dX10_readClaim_173 rfl (lv_at hl 3 rfl) ?_
                  refine lv_aload_n C0.1 C0.2.1 dX10_readClaim_174 rfl (lv_at hl 2 rfl) ?_
                  refine mm_get (fs := [.ref (h + 1), .ref (h + 2), .ref (h + 3), .ref (h + 4), .int (zI ((L : Int))), .int (zI (((rnE B L (clP5 B L a) : Nat) : Int))), .long (zL ((rnV B L (clP5 B L a)))), .ref (h + 5), .ref (h + 6), .ref (h + 7), .ref (h + 8), .int (zI (x4)), .int (zI (x5)), .int (zI (x6)), .int (zI (x7)), .int (zI (x8)), .ref (h + 9), .ref (h + 10), .ref (h + 11), .ref (h + 12)]) C0 (C := RX10) (T := TX10) (N := 20) iG_X10 hM (hO) rfl 6 (by decide) tw_922 rfl rfl dX10_readClaim_175 ?_
                  refine z_l2i C0.1 C0.2.1 dX10_readClaim_178 ?_
                  refine z_asI (a := (rnV B L (clP5 B L a))) (b := (rnV B L (clP5 B L a))) (rfl) ?_
                  refine mm_iast C0 hM hS (g := c4) (h4c.2.2.2) (k) (i := kz) (x := (rnV B L (clP5 B L a))) (by omega) (by omega) (by decide) dX10_readClaim_179 (fun H locs hM hS hsz => ?_)
                  obtain ⟨E24, hE24⟩ : ∃ X : mE, X = mm_up E23 (h + 8) (mm_I G 8 (zup (c4) (k) ((rnV B L (clP5 B L a))))) := ⟨_, rfl⟩
                  replace hM : mm_M G E24 H := by rw [hE24]; exact hM
                  have frs : ∀ q : Nat, q ≠ h + 8 → E24 q = E23 q := fun q h => by rw [hE24]; exact mm_up_n _ _ h
                  have hat : E24 (h + 8) = some (mm_I G 8 (zup (c4) (k) ((rnV B L (clP5 B L a))))) := by rw [hE24]; exact mm_up_s _ _ _
                  have hO := hO.kept (frs _ (by omega))
                  have h4c : cl4 G E24 h _ _ _ (zup c4 k (rnV B L (clP5 B L a))) := ⟨(frs _ (by omega)).trans h4c.1, (frs _ (by omega)).trans h4c.2.1, (frs _ (by omega)).trans h4c.2.2.1, hat⟩
                  have hT := (frs _ (by omega)).trans hT
                  have hfr := (fun q h => (frs q (by omega)).trans (hfr q h) : ∀ q : Nat, (q ≠ h ∧ ¬ (h + 5 ≤ q ∧ q ≤ h + 8)) → E24 q = E0 q)
                  refine lv_iconst (v := zI 1) C0.1 C0.2.1 dX10_readClaim_180 rfl ?_
                  exact mm_zret (z := 1) C0 hr hlk hM hS (by omega) dX10_readClaim_181 (⟨Or.inl ⟨rfl, hfin, ⟨_, hO⟩, hLe7, _, _, _, _, h4c, hcA, fun j hj => ⟨zup_n _ _ hj, zup_n _ _ hj, hcB j hj, zup_n _ _ hj⟩⟩, hfr⟩)
                · skip
                  obtain ⟨hZ9, y3, hO⟩ := hz161.elim (fun h => by omega) (fun h => h.2)
                  have hsb := skp_b (B := B) h5L
                  have hsi := skp_i (B := B) h5L
                  have hfin : clZ B L a = -20 - ((skp B L (clP5 B L a) : Nat) : Int) := by rw [clZ_5 hX9 hp12 hnd h45]; exact rnZ_x hZ9
                  refine lv_iconst (v := zI 0) C0.1 C0.2.1 dX10_readClaim_167 rfl ?_
                  exact mm_zret (z := 0) C0 hr hlk hM hS (by omega) dX10_readClaim_168 (⟨Or.inr ⟨rfl, by omega, skp B L (clP5 B L a), _, hO, by rw [hfin, hsi], by omega, _, _, _, _, h4c⟩, hfr⟩)
              · skip
                omega
            · skip
              omega
        · skip
          have h9d : clD B L a = 1 := by rw [clD_p (x := 116) (by omega) (by omega)]; exact kd_1
          refine lv_iconst (v := zI 1) C0.1 C0.2.1 dX10_readClaim_44 rfl ?_
          refine lv_goto (tgt := 79) C0.1 C0.2.1 dX10_readClaim_45 (by decide) ?_
          refine lv_istore_n (lv' := [(3, .int (zI (1))), (2, .int (zI (z24))), (0, .ref (h)), (1, .int (zI (kz)))]) C0.1 C0.2.1 dX10_readClaim_79 rfl hl (by decide) rfl (fun ls hl => ?_)
          refine lv_iload_n C0.1 C0.2.1 dX10_readClaim_80 rfl (lv_at hl 0 rfl) ?_
          refine z_if_ge (tgt := 86) C0.1 C0.2.1 dX10_readClaim_81 (by decide) ⟨by omega, by omega⟩ (fun c_81 => ?_) (fun c_81 => ?_)
          · skip
            have hnd : ¬ clD B L a < 0 := by omega
            have hcl2 : clP2 B L a < L := Classical.byContradiction fun q => by rw [clD_n q] at h9d; omega
            refine lv_aload_n C0.1 C0.2.1 dX10_readClaim_86 rfl (lv_at hl 2 rfl) ?_
            refine lv_dup C0.1 C0.2.1 dX10_readClaim_87 rfl ?_
            refine mm_get (fs := [.ref (h + 1), .ref (h + 2), .ref (h + 3), .ref (h + 4), .int (zI ((L : Int))), .int (zI (((clP2 B L a : Nat) : Int))), .long (zL ((rnV B L a))), .ref (h + 5), .ref (h + 6), .ref (h + 7), .ref (h + 8), .int (zI (x4)), .int (zI (x5)), .int (zI (x6)), .int (zI (x7)), .int (zI (x8)), .ref (h + 9), .ref (h + 10), .ref (h + 11), .ref (h + 12)]) C0 (C := RX10) (T := TX10) (N := 20) iG_X10 hM (hO) rfl 5 (by decide) tw_921 rfl rfl dX10_readClaim_88 ?_
            refine lv_iconst (v := zI 1) C0.1 C0.2.1 dX10_readClaim_91 rfl ?_
            refine z_iadd C0.1 C0.2.1 dX10_readClaim_92 ?_
            refine z_asI (a := ((((clP2 B L a : Nat) : Int)) + (1))) (b := ((clP2 B L a + 1 : Nat) : Int)) (by omega) ?_
            refine mm_put (v := .int (zI (((clP2 B L a + 1 : Nat) : Int)))) (fs := [.ref (h + 1), .ref (h + 2), .ref (h + 3), .ref (h + 4), .int (zI ((L : Int))), .int (zI (((clP2 B L a : Nat) : Int))), .long (zL ((rnV B L a))), .ref (h + 5), .ref (h + 6), .ref (h + 7), .ref (h + 8), .int (zI (x4)), .int (zI (x5)), .int (zI (x6)), .int (zI (x7)), .int (zI (x8)), .ref (h + 9), .ref (h + 10), .ref (h + 11), .ref (h + 12)]) C0 (C := RX10) (T := TX10) (N := 20) iG_X10 tyX10 tyX10_ok nmX10 hM hS (hO) rfl 5 (by decide) tw_921 rfl rfl (ty := tyX10 5) (tyX10_ok 5 (by decide)) rfl rfl (Nat.le_of_ble_eq_true rfl) dX10_readClaim_93 (fun H locs hM hS hsz => ?_)
            obtain ⟨E25, hE25⟩ : ∃ X : mE, X = mm_up E3 (h) (.inr (9, [.ref (h + 1), .ref (h + 2), .ref (h + 3), .ref (h + 4), .int (zI ((L : Int))), .int (zI (((clP2 B L a + 1 : Nat) : Int))), .long (zL ((rnV B L a))), .ref (h + 5), .ref (h + 6), .ref (h + 7), .ref (h + 8), .int (zI (x4)), .int (zI (x5)), .int (zI (x6)), .int (zI (x7)), .int (zI (x8)), .ref (h + 9), .ref (h + 10), .ref (h + 11), .ref (h + 12)])) := ⟨_, rfl⟩
            replace hM : mm_M G E25 H := by rw [hE25]; exact hM
            have frs : ∀ q : Nat, q ≠ h → E25 q = E3 q := fun q h => by rw [hE25]; exact mm_up_n _ _ h
            have hat : E25 (h) = some (.inr (9, [.ref (h + 1), .ref (h + 2), .ref (h + 3), .ref (h + 4), .int (zI ((L : Int))), .int (zI (((clP2 B L a + 1 : Nat) : Int))), .long (zL ((rnV B L a))), .ref (h + 5), .ref (h + 6), .ref (h + 7), .ref (h + 8), .int (zI (x4)), .int (zI (x5)), .int (zI (x6)), .int (zI (x7)), .int (zI (x8)), .ref (h + 9), .ref (h + 10), .ref (h + 11), .ref (h + 12)])) := by rw [hE25]; exact mm_up_s _ _ _
            have hO : ro G E25 h (L : Int) ((clP2 B L a + 1 : Nat) : Int) (rnV B L a) x4 x5 x6 x7 x8 := hat
            have hT := (frs _ (by omega)).trans hT
            have h4c := cl4.kept h4c (fun q hq => frs q (by omega))
            have hfr := (fun q h => (frs q (by omega)).trans (hfr q h) : ∀ q : Nat, (q ≠ h ∧ ¬ (h + 5 ≤ q ∧ q ≤ h + 8)) → E25 q = E0 q)
            refine lv_aload_n C0.1 C0.2.1 dX10_readClaim_96 rfl (lv_at hl 2 rfl) ?_
            refine mm_get (fs := [.ref (h + 1), .ref (h + 2), .ref (h + 3), .ref (h + 4), .int (zI ((L : Int))), .int (zI (((clP2 B L a + 1 : Nat) : Int))), .long (zL ((rnV B L a))), .ref (h + 5), .ref (h + 6), .ref (h + 7), .ref (h + 8), .int (zI (x4)), .int (zI (x5)), .int (zI (x6)), .int (zI (x7)), .int (zI (x8)), .ref (h + 9), .ref (h + 10), .ref (h + 11), .ref (h + 12)]) C0 (C := RX10) (T := TX10) (N := 20) iG_X10 hM (hO) rfl 8 (by decide) tw_924 rfl rfl dX10_readClaim_97 ?_
            refine lv_iload_n C0.1 C0.2.1 dX10_readClaim_100 rfl (lv_at hl 3 rfl) ?_
            refine lv_iload_n C0.1 C0.2.1 dX10_readClaim_101 rfl (lv_at hl 0 rfl) ?_
            refine z_asI (a := 1) (b := (clD B L a)) (by omega) ?_
            refine mm_iast C0 hM hS (g := c2) (h4c.2.1) (k) (i := kz) (x := (clD B L a)) (by omega) (by omega) (by decide) dX10_readClaim_102 (fun H locs hM hS hsz => ?_)
            obtain ⟨E26, hE26⟩ : ∃ X : mE, X = mm_up E25 (h + 6) (mm_I G 8 (zup (c2) (k) ((clD B L a)))) := ⟨_, rfl⟩
            replace hM : mm_M G E26 H := by rw [hE26]; exact hM
            have frs : ∀ q : Nat, q ≠ h + 6 → E26 q = E25 q := fun q h => by rw [hE26]; exact mm_up_n _ _ h
            have hat : E26 (h + 6) = some (mm_I G 8 (zup (c2) (k) ((clD B L a)))) := by rw [hE26]; exact mm_up_s _ _ _
            have hO := hO.kept (frs _ (by omega))
            have h4c : cl4 G E26 h (zup c1 k (rnV B L a)) (zup c2 k (clD B L a)) c3 c4 := ⟨(frs _ (by omega)).trans h4c.1, hat, (frs _ (by omega)).trans h4c.2.2.1, (frs _ (by omega)).trans h4c.2.2.2⟩
            have hT := (frs _ (by omega)).trans hT
            have hfr := (fun q h => (frs q (by omega)).trans (hfr q h) : ∀ q : Nat, (q ≠ h ∧ ¬ (h + 5 ≤ q ∧ q ≤ h + 8)) → E26 q = E0 q)
            refine lv_aload_n C0.1 C0.2.1 dX10_readClaim_103 rfl (lv_at hl 2 rfl) ?_
            refine mm_get (fs := [.ref (h + 1), .ref (h + 2), .ref (h + 3), .ref (h + 4), .int (zI ((L : Int))), .int (zI (((clP2 B L a + 1 : Nat) : Int))), .long (zL ((rnV B L a))), .ref (h + 5), .ref (h + 6), .ref (h + 7), .ref (h + 8), .int (zI (x4)), .int (zI (x5)), .int (zI (x6)), .int (zI (x7)), .int (zI (x8)), .ref (h + 9), .ref (h + 10), .ref (h + 11), .ref (h + 12)]) C0 (C := RX10) (T := TX10) (N := 20) iG_X10 hM (hO) rfl 9 (by decide) tw_925 rfl rfl dX10_readClaim_104 ?_
            refine lv_iload_n C0.1 C0.2.1 dX10_readClaim_107 rfl (lv_at hl 3 rfl) ?_
            refine lv_iconst (v := zI 0) C0.1 C0.2.1 dX10_readClaim_108 rfl ?_
            refine mm_iast C0 hM hS (g := c3) (h4c.2.2.1) (k) (i := kz) (x := 0) (by omega) (by omega) (by decide) dX10_readClaim_109 (fun H locs hM hS hsz => ?_)
            obtain ⟨E27, hE27⟩ : ∃ X : mE, X = mm_up E26 (h + 7) (mm_I G 8 (zup (c3) (k) (0))) := ⟨_, rfl⟩
            replace hM : mm_M G E27 H := by rw [hE27]; exact hM
            have frs : ∀ q : Nat, q ≠ h + 7 → E27 q = E26 q := fun q h => by rw [hE27]; exact mm_up_n _ _ h
            have hat : E27 (h + 7) = some (mm_I G 8 (zup (c3) (k) (0))) := by rw [hE27]; exact mm_up_s _ _ _
            have hO := hO.kept (frs _ (by omega))
            have h4c : cl4 G E27 h (zup c1 k (rnV B L a)) (zup c2 k (clD B L a)) (zup c3 k 0) c4 := ⟨(frs _ (by omega)).trans h4c.1, (frs _ (by omega)).trans h4c.2.1, hat, (frs _ (by omega)).trans h4c.2.2.2⟩
            have hT := (frs _ (by omega)).trans hT
            have hfr := (fun q h => (frs q (by omega)).trans (hfr q h) : ∀ q : Nat, (q ≠ h ∧ ¬ (h + 5 ≤ q ∧ q ≤ h + 8)) → E27 q = E0 q)
            refine lv_iload_n C0.1 C0.2.1 dX10_readClaim_110 rfl (lv_at hl 0 rfl) ?_
            refine lv_iconst (v := zI 2) C0.1 C0.2.1 dX10_readClaim_111 rfl ?_
            refine z_icmp_le (tgt := 154) C0.1 C0.2.1 dX10_readClaim_112 (by decide) ⟨by omega, by omega⟩ ⟨by omega, by omega⟩ (fun c_112 => ?_) (fun c_112 => ?_)
            · skip
              have h5 : clP5 B L a = clP2 B L a + 1 := by unfold clP5; rw [if_neg (by omega)]
              have h45 : 3 ≤ clD B L a → cnZ B L (clP2 B L a + 1) = 0 := fun q => by omega
              have h5L : clP5 B L a ≤ L := by omega
              rw [← h5] at hO
              have hcA : clAt B L a (zup c1 k (rnV B L a)) (zup c2 k (clD B L a)) (zup c3 k 0) (zup c4 k (rnV B L (clP5 B L a))) k := ⟨zup_s _ _ _, zup_s _ _ _, fun q => by omega, fun _ => zup_s _ _ _, zup_s _ _ _⟩
              have hcB : ∀ j, j ≠ k → (zup c3 k 0) j = c3 j := fun j hj => zup_n _ _ hj
              refine lv_aload_n C0.1 C0.2.1 dX10_readClaim_154 rfl (lv_at hl 2 rfl) ?_
              refine lv_bipush (v := zI 18) C0.1 C0.2.1 dX10_readClaim_155 rfl ?_
              refine lv_lconst (v := zL 0) C0.1 C0.2.1 dX10_readClaim_157 rfl ?_
              refine mm_ldc2 (z := 999999999) C0 tw_1076 rfl dX10_readClaim_158 ?_
              refine mm_callVi (As := [.int (zI (18)), .long (zL (0)), .long (zL (999999999))]) C0 vw_X10_readNumber tw_1064 (c_X10_readNumber l G _ hO hT hk h5L (lo := 0) (hi := 999999999) ⟨by omega, by omega⟩ ⟨by omega, by omega⟩) hM (hO) rfl rfl hl.1 rfl (Nat.le_of_ble_eq_true rfl) ⟨rfl, rfl, Nat.le_of_ble_eq_true rfl, Nat.le_of_ble_eq_true rfl, Nat.zero_le _, Nat.zero_le _⟩ dX10_readClaim_161 hS (fun z161 E28 H locs hp hM hS => ?_)
              obtain ⟨hz161, fr⟩ := hp
              have hT := (fr _ (by omega)).trans hT
              have h4c := cl4.kept h4c (fun q hq => fr q (by omega))
              have hfr := (fun q h => (fr q (by omega)).trans (hfr q h) : ∀ q : Nat, (q ≠ h ∧ ¬ (h + 5 ≤ q ∧ q ≤ h + 8)) → E28 q = E0 q)
              have hz0161 : z161 = 0 ∨ z161 = 1 := hz161.elim (fun h => Or.inr h.1) (fun h => Or.inl h.1)
              refine z_if_ne (tgt := 169) C0.1 C0.2.1 dX10_readClaim_164 (by decide) ⟨by omega, by omega⟩ (fun c_164 => ?_) (fun c_164 => ?_)
              · skip
                obtain ⟨hZ9, hO, hLe7⟩ := hz161.elim (fun h => h.2) (fun h => by omega)
                obtain ⟨hrk3, hrk4⟩ := rn_k hZ9
                have hfin : clZ B L a = 0 := by rw [clZ_5 hX9 hp12 hnd h45]; exact rnZ_0 hZ9
                refine lv_aload_n C0.1 C0.2.1 dX10_readClaim_169 rfl (lv_at hl 2 rfl) ?_
                refine mm_get (fs := [.ref (h + 1), .ref (h + 2), .ref (h + 3), .ref (h + 4), .int (zI ((L : Int))), .int (zI (((rnE B L (clP5 B L a) : Nat) : Int))), .long (zL ((rnV B L (clP5 B L a)))), .ref (h + 5), .ref (h + 6), .ref (h + 7), .ref (h + 8), .int (zI (x4)), .int (zI (x5)), .int (zI (x6)), .int (zI (x7)), .int (zI (x8)), .ref (h + 9), .ref (h + 10), .ref (h + 11), .ref (h + 12)]) C0 (C := RX10) (T := TX10) (N := 20) iG_X10 hM (hO) rfl 10 (by decide) tw_926 rfl rfl dX10_readClaim_170 ?_
                refine lv_iload_n C0.1 C0.2.1 dX10_readClaim_173 rfl (lv_at hl 3 rfl) ?_
                refine lv_aload_n C0.1 C0.2.1 dX10_readClaim_174 rfl (lv_at hl 2 rfl) ?_
                refine mm_get (fs := [.ref (h + 1), .ref (h + 2), .ref (h + 3), .ref (h + 4), .int (zI ((L : Int))), .int (zI (((rnE B L (clP5 B L a) : Nat) : Int))), .long (zL ((rnV B L (clP5 B L a)))), .ref (h + 5), .ref (h + 6), .ref (h + 7), .ref (h + 8), .int (zI (x4)), .int (zI (x5)), .int (zI (x6)), .int (zI (x7)), .int (zI (x8)), .ref (h + 9), .ref (h + 10), .ref (h + 11), .ref (h + 12)]) C0 (C := RX10) (T := TX10) (N := 20) iG_X10 hM (hO) rfl 6 (by decide) tw_922 rfl rfl dX10_readClaim_175 ?_
                refine z_l2i C0.1 C0.2.1 dX10_readClaim_178 ?_
                refine z_asI (a := (rnV B L (clP5 B L a))) (b := (rnV B L (clP5 B L a))) (rfl) ?_
                refine mm_iast C0 hM hS (g := c4) (h4c.2.2.2) (k) (i := kz) (x := (rnV B L (clP5 B L a))) (by omega) (by omega) (by decide) dX10_readClaim_179 (fun H locs hM hS hsz => ?_)
                obtain ⟨E29, hE29⟩ : ∃ X : mE, X = mm_up E28 (h + 8) (mm_I G 8 (zup (c4) (k) ((rnV B L (clP5 B L a))))) := ⟨_, rfl⟩
                replace hM : mm_M G E29 H := by rw [hE29]; exact hM
                have frs : ∀ q : Nat, q ≠ h + 8 → E29 q = E28 q := fun q h => by rw [hE29]; exact mm_up_n _ _ h
                have hat : E29 (h + 8) = some (mm_I G 8 (zup (c4) (k) ((rnV B L (clP5 B L a))))) := by rw [hE29]; exact mm_up_s _ _ _
                have hO := hO.kept (frs _ (by omega))
                have h4c : cl4 G E29 h _ _ _ (zup c4 k (rnV B L (clP5 B L a))) := ⟨(frs _ (by omega)).trans h4c.1, (frs _ (by omega)).trans h4c.2.1, (frs _ (by omega)).trans h4c.2.2.1, hat⟩
                have hT := (frs _ (by omega)).trans hT
                have hfr := (fun q h => (frs q (by omega)).trans (hfr q h) : ∀ q : Nat, (q ≠ h ∧ ¬ (h + 5 ≤ q ∧ q ≤ h + 8)) → E29 q = E0 q)
                refine lv_iconst (v := zI 1) C0.1 C0.2.1 dX10_readClaim_180 rfl ?_
                exact mm_zret (z := 1) C0 hr hlk hM hS (by omega) dX10_readClaim_181 (⟨Or.inl ⟨rfl, hfin, ⟨_, hO⟩, hLe7, _, _, _, _, h4c, hcA, fun j hj => ⟨zup_n _ _ hj, zup_n _ _ hj, hcB j hj, zup_n _ _ hj⟩⟩, hfr⟩)
              · skip
                obtain ⟨hZ9, y3, hO⟩ := hz161.elim (fun h => by omega) (fun h => h.2)
                have hsb := skp_b (B := B) h5L
                have hsi := skp_i (B := B) h5L
                have hfin : clZ B L a = -20 - ((skp B L (clP5 B L a) : Nat) : Int) := by rw [clZ_5 hX9 hp12 hnd h45]; exact rnZ_x hZ9
                refine lv_iconst (v := zI 0) C0.1 C0.2.1 dX10_readClaim_167 rfl ?_
                exact mm_zret (z := 0) C0 hr hlk hM hS (by omega) dX10_readClaim_168 (⟨Or.inr ⟨rfl, by omega, skp B L (clP5 B L a), _, hO, by rw [hfin, hsi], by omega, _, _, _, _, h4c⟩, hfr⟩)
            · skip
              omega
          · skip
            omega
      · skip
        have h9d : clD B L a = 0 := by rw [clD_p (x := 115) (by omega) (by omega)]; exact kd_0
        refine lv_iconst (v := zI 0) C0.1 C0.2.1 dX10_readClaim_34 rfl ?_
        refine lv_goto (tgt := 79) C0.1 C0.2.1 dX10_readClaim_35 (by decide) ?_
        refine lv_istore_n (lv' := [(3, .int (zI (0))), (2, .int (zI (z24))), (0, .ref (h)), (1, .int (zI (kz)))]) C0.1 C0.2.1 dX10_readClaim_79 rfl hl (by decide) rfl (fun ls hl => ?_)
        refine lv_iload_n C0.1 C0.2.1 dX10_readClaim_80 rfl (lv_at hl 0 rfl) ?_
        refine z_if_ge (tgt := 86) C0.1 C0.2.1 dX10_readClaim_81 (by decide) ⟨by omega, by omega⟩ (fun c_81 => ?_) (fun c_81 => ?_)
        · skip
          have hnd : ¬ clD B L a < 0 := by omega
          have hcl2 : clP2 B L a < L := Classical.byContradiction fun q => by rw [clD_n q] at h9d; omega
          refine lv_aload_n C0.1 C0.2.1 dX10_readClaim_86 rfl (lv_at hl 2 rfl) ?_
          refine lv_dup C0.1 C0.2.1 dX10_readClaim_87 rfl ?_
          refine mm_get (fs := [.ref (h + 1), .ref (h + 2), .ref (h + 3), .ref (h + 4), .int (zI ((L : Int))), .int (zI (((clP2 B L a : Nat) : Int))), .long (zL ((rnV B L a))), .ref (h + 5), .ref (h + 6), .ref (h + 7), .ref (h + 8), .int (zI (x4)), .int (zI (x5)), .int (zI (x6)), .int (zI (x7)), .int (zI (x8)), .ref (h + 9), .ref (h + 10), .ref (h + 11), .ref (h + 12)]) C0 (C := RX10) (T := TX10) (N := 20) iG_X10 hM (hO) rfl 5 (by decide) tw_921 rfl rfl dX10_readClaim_88 ?_
          refine lv_iconst (v := zI 1) C0.1 C0.2.1 dX10_readClaim_91 rfl ?_
          refine z_iadd C0.1 C0.2.1 dX10_readClaim_92 ?_
          refine z_asI (a := ((((clP2 B L a : Nat) : Int)) + (1))) (b := ((clP2 B L a + 1 : Nat) : Int)) (by omega) ?_
          refine mm_put (v := .int (zI (((clP2 B L a + 1 : Nat) : Int)))) (fs := [.ref (h + 1), .ref (h + 2), .ref (h + 3), .ref (h + 4), .int (zI ((L : Int))), .int (zI (((clP2 B L a : Nat) : Int))), .long (zL ((rnV B L a))), .ref (h + 5), .ref (h + 6), .ref (h + 7), .ref (h + 8), .int (zI (x4)), .int (zI (x5)), .int (zI (x6)), .int (zI (x7)), .int (zI (x8)), .ref (h + 9), .ref (h + 10), .ref (h + 11), .ref (h + 12)]) C0 (C := RX10) (T := TX10) (N := 20) iG_X10 tyX10 tyX10_ok nmX10 hM hS (hO) rfl 5 (by decide) tw_921 rfl rfl (ty := tyX10 5) (tyX10_ok 5 (by decide)) rfl rfl (Nat.le_of_ble_eq_true rfl) dX10_readClaim_93 (fun H locs hM hS hsz => ?_)
          obtain ⟨E30, hE30⟩ : ∃ X : mE, X = mm_up E3 (h) (.inr (9, [.ref (h + 1), .ref (h + 2), .ref (h + 3), .ref (h + 4), .int (zI ((L : Int))), .int (zI (((clP2 B L a + 1 : Nat) : Int))), .long (zL ((rnV B L a))), .ref (h + 5), .ref (h + 6), .ref (h + 7), .ref (h + 8), .int (zI (x4)), .int (zI (x5)), .int (zI (x6)), .int (zI (x7)), .int (zI (x8)), .ref (h + 9), .ref (h + 10), .ref (h + 11), .ref (h + 12)])) := ⟨_, rfl⟩
          replace hM : mm_M G E30 H := by rw [hE30]; exact hM
          have frs : ∀ q : Nat, q ≠ h → E30 q = E3 q := fun q h => by rw [hE30]; exact mm_up_n _ _ h
          have hat : E30 (h) = some (.inr (9, [.ref (h + 1), .ref (h + 2), .ref (h + 3), .ref (h + 4), .int (zI ((L : Int))), .int (zI (((clP2 B L a + 1 : Nat) : Int))), .long (zL ((rnV B L a))), .ref (h + 5), .ref (h + 6), .ref (h + 7), .ref (h + 8), .int (zI (x4)), .int (zI (x5)), .int (zI (x6)), .int (zI (x7)), .int (zI (x8)), .ref (h + 9), .ref (h + 10), .ref (h + 11), .ref (h + 12)])) := by rw [hE30]; exact mm_up_s _ _ _
          have hO : ro G E30 h (L : Int) ((clP2 B L a + 1 : Nat) : Int) (rnV B L a) x4 x5 x6 x7 x8 := hat
          have hT := (frs _ (by omega)).trans hT
          have h4c := cl4.kept h4c (fun q hq => frs q (by omega))
          have hfr := (fun q h => (frs q (by omega)).trans (hfr q h) : ∀ q : Nat, (q ≠ h ∧ ¬ (h + 5 ≤ q ∧ q ≤ h + 8)) → E30 q = E0 q)
          refine lv_aload_n C0.1 C0.2.1 dX10_readClaim_96 rfl (lv_at hl 2 rfl) ?_
          refine mm_get (fs := [.ref (h + 1), .ref (h + 2), .ref (h + 3), .ref (h + 4), .int (zI ((L : Int))), .int (zI (((clP2 B L a + 1 : Nat) : Int))), .long (zL ((rnV B L a))), .ref (h + 5), .ref (h + 6), .ref (h + 7), .ref (h + 8), .int (zI (x4)), .int (zI (x5)), .int (zI (x6)), .int (zI (x7)), .int (zI (x8)), .ref (h + 9), .ref (h + 10), .ref (h + 11), .ref (h + 12)]) C0 (C := RX10) (T := TX10) (N := 20) iG_X10 hM (hO) rfl 8 (by decide) tw_924 rfl rfl dX10_readClaim_97 ?_
          refine lv_iload_n C0.1 C0.2.1 dX10_readClaim_100 rfl (lv_at hl 3 rfl) ?_
          refine lv_iload_n C0.1 C0.2.1 dX10_readClaim_101 rfl (lv_at hl 0 rfl) ?_
          refine z_asI (a := 0) (b := (clD B L a)) (by omega) ?_
          refine mm_iast C0 hM hS (g := c2) (h4c.2.1) (k) (i := kz) (x := (clD B L a)) (by omega) (by omega) (by decide) dX10_readClaim_102 (fun H locs hM hS hsz => ?_)
          obtain ⟨E31, hE31⟩ : ∃ X : mE, X = mm_up E30 (h + 6) (mm_I G 8 (zup (c2) (k) ((clD B L a)))) := ⟨_, rfl⟩
          replace hM : mm_M G E31 H := by rw [hE31]; exact hM
          have frs : ∀ q : Nat, q ≠ h + 6 → E31 q = E30 q := fun q h => by rw [hE31]; exact mm_up_n _ _ h
          have hat : E31 (h + 6) = some (mm_I G 8 (zup (c2) (k) ((clD B L a)))) := by rw [hE31]; exact mm_up_s _ _ _
          have hO := hO.kept (frs _ (by omega))
          have h4c : cl4 G E31 h (zup c1 k (rnV B L a)) (zup c2 k (clD B L a)) c3 c4 := ⟨(frs _ (by omega)).trans h4c.1, hat, (frs _ (by omega)).trans h4c.2.2.1, (frs _ (by omega)).trans h4c.2.2.2⟩
          have hT := (frs _ (by omega)).trans hT
          have hfr := (fun q h => (frs q (by omega)).trans (hfr q h) : ∀ q : Nat, (q ≠ h ∧ ¬ (h + 5 ≤ q ∧ q ≤ h + 8)) → E31 q = E0 q)
          refine lv_aload_n C0.1 C0.2.1 dX10_readClaim_103 rfl (lv_at hl 2 rfl) ?_
          refine mm_get (fs := [.ref (h + 1), .ref (h + 2), .ref (h + 3), .ref (h + 4), .int (zI ((L : Int))), .int (zI (((clP2 B L a + 1 : Nat) : Int))), .long (zL ((rnV B L a))), .ref (h + 5), .ref (h + 6), .ref (h + 7), .ref (h + 8), .int (zI (x4)), .int (zI (x5)), .int (zI (x6)), .int (zI (x7)), .int (zI (x8)), .ref (h + 9), .ref (h + 10), .ref (h + 11), .ref (h + 12)]) C0 (C := RX10) (T := TX10) (N := 20) iG_X10 hM (hO) rfl 9 (by decide) tw_925 rfl rfl dX10_readClaim_104 ?_
          refine lv_iload_n C0.1 C0.2.1 dX10_readClaim_107 rfl (lv_at hl 3 rfl) ?_
          refine lv_iconst (v := zI 0) C0.1 C0.2.1 dX10_readClaim_108 rfl ?_
          refine mm_iast C0 hM hS (g := c3) (h4c.2.2.1) (k) (i := kz) (x := 0) (by omega) (by omega) (by decide) dX10_readClaim_109 (fun H locs hM hS hsz => ?_)
          obtain ⟨E32, hE32⟩ : ∃ X : mE, X = mm_up E31 (h + 7) (mm_I G 8 (zup (c3) (k) (0))) := ⟨_, rfl⟩
          replace hM : mm_M G E32 H := by rw [hE32]; exact hM
          have frs : ∀ q : Nat, q ≠ h + 7 → E32 q = E31 q := fun q h => by rw [hE32]; exact mm_up_n _ _ h
          have hat : E32 (h + 7) = some (mm_I G 8 (zup (c3) (k) (0))) := by rw [hE32]; exact mm_up_s _ _ _
          have hO := hO.kept (frs _ (by omega))
          have h4c : cl4 G E32 h (zup c1 k (rnV B L a)) (zup c2 k (clD B L a)) (zup c3 k 0) c4 := ⟨(frs _ (by omega)).trans h4c.1, (frs _ (by omega)).trans h4c.2.1, hat, (frs _ (by omega)).trans h4c.2.2.2⟩
          have hT := (frs _ (by omega)).trans hT
          have hfr := (fun q h => (frs q (by omega)).trans (hfr q h) : ∀ q : Nat, (q ≠ h ∧ ¬ (h + 5 ≤ q ∧ q ≤ h + 8)) → E32 q = E0 q)
          refine lv_iload_n C0.1 C0.2.1 dX10_readClaim_110 rfl (lv_at hl 0 rfl) ?_
          refine lv_iconst (v := zI 2) C0.1 C0.2.1 dX10_readClaim_111 rfl ?_
          refine z_icmp_le (tgt := 154) C0.1 C0.2.1 dX10_readClaim_112 (by decide) ⟨by omega, by omega⟩ ⟨by omega, by omega⟩ (fun c_112 => ?_) (fun c_112 => ?_)
          · skip
            have h5 : clP5 B L a = clP2 B L a + 1 := by unfold clP5; rw [if_neg (by omega)]
            have h45 : 3 ≤ clD B L a → cnZ B L (clP2 B L a + 1) = 0 := fun q => by omega
            have h5L : clP5 B L a ≤ L := by omega
            rw [← h5] at hO
            have hcA : clAt B L a (zup c1 k (rnV B L a)) (zup c2 k (clD B L a)) (zup c3 k 0) (zup c4 k (rnV B L (clP5 B L a))) k := ⟨zup_s _ _ _, zup_s _ _ _, fun q => by omega, fun _ => zup_s _ _ _, zup_s _ _ _⟩
            have hcB : ∀ j, j ≠ k → (zup c3 k 0) j = c3 j := fun j hj => zup_n _ _ hj
            refine lv_aload_n C0.1 C0.2.1 dX10_readClaim_154 rfl (lv_at hl 2 rfl) ?_
            refine lv_bipush (v := zI 18) C0.1 C0.2.1 dX10_readClaim_155 rfl ?_
            refine lv_lconst (v := zL 0) C0.1 C0.2.1 dX10_readClaim_157 rfl ?_
            refine mm_ldc2 (z := 999999999) C0 tw_1076 rfl dX10_readClaim_158 ?_
            refine mm_callVi (As := [.int (zI (18)), .long (zL (0)), .long (zL (999999999))]) C0 vw_X10_readNumber tw_1064 (c_X10_readNumber l G _ hO hT hk h5L (lo := 0) (hi := 999999999) ⟨by omega, by omega⟩ ⟨by omega, by omega⟩) hM (hO) rfl rfl hl.1 rfl (Nat.le_of_ble_eq_true rfl) ⟨rfl, rfl, Nat.le_of_ble_eq_true rfl, Nat.le_of_ble_eq_true rfl, Nat.zero_le _, Nat.zero_le _⟩ dX10_readClaim_161 hS (fun z161 E33 H locs hp hM hS => ?_)
            obtain ⟨hz161, fr⟩ := hp
            have hT := (fr _ (by omega)).trans hT
            have h4c := cl4.kept h4c (fun q hq => fr q (by omega))
            have hfr := (fun q h => (fr q (by omega)).trans (hfr q h) : ∀ q : Nat, (q ≠ h ∧ ¬ (h + 5 ≤ q ∧ q ≤ h + 8)) → E33 q = E0 q)
            have hz0161 : z161 = 0 ∨ z161 = 1 := hz161.elim (fun h => Or.inr h.1) (fun h => Or.inl h.1)
            refine z_if_ne (tgt := 169) C0.1 C0.2.1 dX10_readClaim_164 (by decide) ⟨by omega, by omega⟩ (fun c_164 => ?_) (fun c_164 => ?_)
            · skip
              obtain ⟨hZ9, hO, hLe7⟩ := hz161.elim (fun h => h.2) (fun h => by omega)
              obtain ⟨hrk3, hrk4⟩ := rn_k hZ9
              have hfin : clZ B L a = 0 := by rw [clZ_5 hX9 hp12 hnd h45]; exact rnZ_0 hZ9
              refine lv_aload_n C0.1 C0.2.1 dX10_readClaim_169 rfl (lv_at hl 2 rfl) ?_
              refine mm_get (fs := [.ref (h + 1), .ref (h + 2), .ref (h + 3), .ref (h + 4), .int (zI ((L : Int))), .int (zI (((rnE B L (clP5 B L a) : Nat) : Int))), .long (zL ((rnV B L (clP5 B L a)))), .ref (h + 5), .ref (h + 6), .ref (h + 7), .ref (h + 8), .int (zI (x4)), .int (zI (x5)), .int (zI (x6)), .int (zI (x7)), .int (zI (x8)), .ref (h + 9), .ref (h + 10), .ref (h + 11), .ref (h + 12)]) C0 (C := RX10) (T := TX10) (N := 20) iG_X10 hM (hO) rfl 10 (by decide) tw_926 rfl rfl dX10_readClaim_170 ?_
              refine lv_iload_n C0.1 C0.2.1 dX10_readClaim_173 rfl (lv_at hl 3 rfl) ?_
              refine lv_aload_n C0.1 C0.2.1 dX10_readClaim_174 rfl (lv_at hl 2 rfl) ?_
              refine mm_get (fs := [.ref (h + 1), .ref (h + 2), .ref (h + 3), .ref (h + 4), .int (zI ((L : Int))), .int (zI (((rnE B L (clP5 B L a) : Nat) : Int))), .long (zL ((rnV B L (clP5 B L a)))), .ref (h + 5), .ref (h + 6), .ref (h + 7), .ref (h + 8), .int (zI (x4)), .int (zI (x5)), .int (zI (x6)), .int (zI (x7)), .int (zI (x8)), .ref (h + 9), .ref (h + 10), .ref (h + 11), .ref (h + 12)]) C0 (C := RX10) (T := TX10) (N := 20) iG_X10 hM (hO) rfl 6 (by decide) tw_922 rfl rfl dX10_readClaim_175 ?_
              refine z_l2i C0.1 C0.2.1 dX10_readClaim_178 ?_
              refine z_asI (a := (rnV B L (clP5 B L a))) (b := (rnV B L (clP5 B L a))) (rfl) ?_
              refine mm_iast C0 hM hS (g := c4) (h4c.2.2.2) (k) (i := kz) (x := (rnV B L (clP5 B L a))) (by omega) (by omega) (by decide) dX10_readClaim_179 (fun H locs hM hS hsz => ?_)
              obtain ⟨E34, hE34⟩ : ∃ X : mE, X = mm_up E33 (h + 8) (mm_I G 8 (zup (c4) (k) ((rnV B L (clP5 B L a))))) := ⟨_, rfl⟩
              replace hM : mm_M G E34 H := by rw [hE34]; exact hM
              have frs : ∀ q : Nat, q ≠ h + 8 → E34 q = E33 q := fun q h => by rw [hE34]; exact mm_up_n _ _ h
              have hat : E34 (h + 8) = some (mm_I G 8 (zup (c4) (k) ((rnV B L (clP5 B L a))))) := by rw [hE34]; exact mm_up_s _ _ _
              have hO := hO.kept (frs _ (by omega))
              have h4c : cl4 G E34 h _ _ _ (zup c4 k (rnV B L (clP5 B L a))) := ⟨(frs _ (by omega)).trans h4c.1, (frs _ (by omega)).trans h4c.2.1, (frs _ (by omega)).trans h4c.2.2.1, hat⟩
              have hT := (frs _ (by omega)).trans hT
              have hfr := (fun q h => (frs q (by omega)).trans (hfr q h) : ∀ q : Nat, (q ≠ h ∧ ¬ (h + 5 ≤ q ∧ q ≤ h + 8)) → E34 q = E0 q)
              refine lv_iconst (v := zI 1) C0.1 C0.2.1 dX10_readClaim_180 rfl ?_
              exact mm_zret (z := 1) C0 hr hlk hM hS (by omega) dX10_readClaim_181 (⟨Or.inl ⟨rfl, hfin, ⟨_, hO⟩, hLe7, _, _, _, _, h4c, hcA, fun j hj => ⟨zup_n _ _ hj, zup_n _ _ hj, hcB j hj, zup_n _ _ hj⟩⟩, hfr⟩)
            · skip
              obtain ⟨hZ9, y3, hO⟩ := hz161.elim (fun h => by omega) (fun h => h.2)
              have hsb := skp_b (B := B) h5L
              have hsi := skp_i (B := B) h5L
              have hfin : clZ B L a = -20 - ((skp B L (clP5 B L a) : Nat) : Int) := by rw [clZ_5 hX9 hp12 hnd h45]; exact rnZ_x hZ9
              refine lv_iconst (v := zI 0) C0.1 C0.2.1 dX10_readClaim_167 rfl ?_
              exact mm_zret (z := 0) C0 hr hlk hM hS (by omega) dX10_readClaim_168 (⟨Or.inr ⟨rfl, by omega, skp B L (clP5 B L a), _, hO, by rw [hfin, hsi], by omega, _, _, _, _, h4c⟩, hfr⟩)
          · skip
            omega
        · skip
          omega
    · skip
      obtain ⟨hp12, hO⟩ := hz15.elim (fun h => by omega) (fun h => h.2)
      have hp12 : ¬ (clP1 B L a < L ∧ B (clP1 B L a) = 61) := hp12
      have hO : ro G E2 h (L : Int) ((clP1 B L a : Nat) : Int) (rnV B L a) x4 x5 x6 x7 x8 := hO
      have hsi : skp B L (clP1 B L a) = clP1 B L a := skp_i (B := B) hLe9
      have hs1 : clP1 B L a ≤ L := hse.1
      refine lv_iconst (v := zI 0) C0.1 C0.2.1 dX10_readClaim_21 rfl ?_
      exact mm_zret (z := 0) C0 hr hlk hM hS (by omega) dX10_readClaim_22 (⟨Or.inr ⟨rfl, by rw [clZ_2 hX9 hp12]; omega, clP1 B L a, _, hO, by rw [clZ_2 hX9 hp12, hsi], by omega, _, _, _, _, h4c⟩, hfr⟩)
