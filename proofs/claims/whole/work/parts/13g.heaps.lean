def isRt (d : Int) : Prop := 2 ≤ d ∧ d ≤ 9999 ∧ ¬ sq d
noncomputable def pf_both (S : mST) (i t : Int) : Int × mST := if (0 ≤ i ∧ i ≤ 200) ∧ inP t then (lanZ ((lad 0 i.toNat).1 * (lad 0 i.toNat).1), lanS S t.toNat ((lad 0 i.toNat).1 * (lad 0 i.toNat).1)) else (-1, S)
noncomputable def pf_side (S : mST) (i w t : Int) : Int × mST := if (0 ≤ i ∧ i ≤ 200) ∧ (0 ≤ w ∧ w ≤ 1) ∧ inP t then (lanZ (lad (2 * w.toNat) i.toNat).1, lanS S t.toNat (lad (2 * w.toNat) i.toNat).1) else (-1, S)
noncomputable def pf_less (S : mST) (d : Int) : Int × mST := if bq (isRt d) = true then (((rnL d.toNat % 2 : Nat) : Int), S) else (-1, S)
noncomputable def pf_round (S : mST) (d i : Int) : Int × mST := if bq (isRt d) = true ∧ -1 ≤ i ∧ i ≤ 9999 then (if i = -1 then (rnL d.toNat : Int) else ((cf d.toNat (rtL d.toNat) i.toNat).2.2 : Int), S) else (-1, S)
noncomputable def two_ (S : mST) (a b A B : Nat) : Int × mST := if 24 < nl A then (-3, S) else (lanZ A, lanS (lanS S b B) a A)
noncomputable def pf_near (S : mST) (d i a b : Int) : Int × mST := if bq (isRt d) = true ∧ (0 ≤ i ∧ i ≤ 200) ∧ (inP a ∧ inP b ∧ a ≠ b) then two_ S a.toNat b.toNat (cvp d.toNat (rtL d.toNat) i.toNat) (cvq d.toNat (rtL d.toNat) i.toNat) else (-1, S)
noncomputable def pf_one (S : mST) (d n a b : Int) : Int × mST := if bq (isRt d) = true ∧ (1 ≤ n ∧ n ≤ 99) ∧ (inP a ∧ inP b ∧ a ≠ b) then two_ S a.toNat b.toNat (onA d.toNat (rtL d.toNat) (rnL d.toNat) n.toNat) (onB d.toNat (rtL d.toNat) (rnL d.toNat) n.toNat) else (-1, S)
noncomputable def pf_off (S : mST) (d f i : Int) : Int × mST := if bq (isRt d) = true ∧ (-99 ≤ f ∧ f ≤ 99) ∧ (-1 ≤ i ∧ i ≤ 9999) then (scan (fun y => bq (sq (d * (y : Int) * (y : Int) + f))) (fun y => (y : Int)) i 0 0 10000, S) else (-1, S)
def rX9_both : Room := { frames := 5, cells := 0, slots := 0, locals := 110 }
theorem vw_X9_both : mm_Vw RX9 yX9_both cX9_both 3 (some .int) 2 := ⟨tw_535, tw_536, tw_1, tw_537, by decide +kernel⟩
set_option maxHeartbeats 4000000 in
set_option maxRecDepth 100000 in
theorem c_X9_both (l : Launch) (G : mG) (E0 : mE) {h : Nat} {S : mST} (hS9 : st G E0 h S) {i t : Int} (hr_i : rI i) (hr_t : rI t) : mm_Ci l yX9_both (.code yX9_both cX9_both 3 (some .int) :: wsG) rX9_both G [.ref (h), .int (zI (i)), .int (zI (t))] E0 (fun z E => z = (pf_both S i t).1 ∧ st G E h (pf_both S i t).2 ∧ ∀ q : Nat, (q < h ∨ h + 106 ≤ q) → E q = E0 q) := by
  refine mm_of_i (by decide +kernel) (Nat.le_of_ble_eq_true rfl) ?_
  intro p e s m args below meth c ls C0 hr hlk hM hl hS
  have hl : lv_has ls 3 [(0, .ref (h)), (1, .int (zI (i))), (2, .int (zI (t)))] := hl
  obtain ⟨hr_i1, hr_i2⟩ := hr_i
  obtain ⟨hr_t1, hr_t2⟩ := hr_t
  have hSo := hS9
  obtain ⟨⟨hO1, ⟨f1, f2, f3, hr1, hr2, hr3, hf1, hf2, hf3⟩, ⟨hTp, hTk⟩, ⟨hPl, hPk⟩, ⟨hKl, hKk⟩, ⟨hSh, hSk⟩⟩, hSc⟩ := hS9
  obtain ⟨hd0, hd1, hd2, hd3, hd4, hd5, hd6, hd7⟩ := hSo.2.2.2.2.1
  obtain ⟨pd0, pf0, pm0, pD0, pa0, hpt⟩ := hSo.2.2.2.1
  obtain ⟨hR46, hR48⟩ := hSo.2.2.2.2.2
  have hfr : ∀ q : Nat, (q < h + 30 ∨ h + 50 ≤ q) → E0 q = E0 q := fun _ _ => rfl
  refine lv_iload_n C0.1 C0.2.1 dX9_both_0 rfl (lv_at hl 1 rfl) ?_
  refine z_if_lt (tgt := 18) C0.1 C0.2.1 dX9_both_1 (by decide) ⟨by omega, by omega⟩ (fun c_1 => ?_) (fun c_1 => ?_)
  · skip
    refine lv_iconst (v := zI (-1)) C0.1 C0.2.1 dX9_both_18 rfl ?_
    exact mm_iret (z := (-1)) C0 hr hlk hM hS dX9_both_19 (by have he : pf_both S i t = ((-1), S) := (by unfold pf_both; rw [if_neg (by omega)]); rw [he]; exact ⟨rfl, hSo, (fun _ _ => rfl)⟩)
  · skip
    refine lv_iload_n C0.1 C0.2.1 dX9_both_4 rfl (lv_at hl 1 rfl) ?_
    refine lv_sipush (v := zI 200) C0.1 C0.2.1 dX9_both_5 rfl ?_
    refine z_icmp_gt (tgt := 18) C0.1 C0.2.1 dX9_both_8 (by decide) ⟨by omega, by omega⟩ ⟨by omega, by omega⟩ (fun c_8 => ?_) (fun c_8 => ?_)
    · skip
      refine lv_iconst (v := zI (-1)) C0.1 C0.2.1 dX9_both_18 rfl ?_
      exact mm_iret (z := (-1)) C0 hr hlk hM hS dX9_both_19 (by have he : pf_both S i t = ((-1), S) := (by unfold pf_both; rw [if_neg (by omega)]); rw [he]; exact ⟨rfl, hSo, (fun _ _ => rfl)⟩)
    · skip
      refine lv_iload_n C0.1 C0.2.1 dX9_both_11 rfl (lv_at hl 2 rfl) ?_
      refine mm_callSi (As := [.int (zI (t))]) C0 sw_X9_isPlace tw_274 (c_X9_isPlace l G _ (i := t) ⟨by omega, by omega⟩) hM rfl hl.1 rfl (Nat.le_of_ble_eq_true rfl) ⟨rfl, rfl, Nat.le_of_ble_eq_true rfl, Nat.le_of_ble_eq_true rfl, Nat.zero_le _, Nat.zero_le _⟩ dX9_both_12 hS (fun z_12 E1 H locs hp hM hS => ?_)
      obtain ⟨hz_12, hEq⟩ := hp
      rw [hEq] at hM
      have hz_12b := if01 hz_12
      refine z_if_ne (tgt := 20) C0.1 C0.2.1 dX9_both_15 (by decide) ⟨by omega, by omega⟩ (fun c_15 => ?_) (fun c_15 => ?_)
      · skip
        obtain ⟨u, hpu⟩ : ∃ u : Nat, t = (u : Int) := ⟨(t).toNat, by omega⟩
        have hi_u : u < 8 := by omega
        have ht_u : (t).toNat = u := by omega
        refine lv_aload_n C0.1 C0.2.1 dX9_both_20 rfl (lv_at hl 0 rfl) ?_
        refine mm_get (fs := [.ref (h + 1), .ref (h + 2), .ref (h + 3), .ref (h + 4), .ref (h + 6), .ref (h + 17), .ref (h + 30), .ref (h + 31), .ref (h + 46), .ref (h + 48), .int (zI (S.1.1))]) C0 (C := RX9) (T := TX9) (N := 11) iG_X9 hM (hO1) rfl 7 (by decide) tw_243 rfl rfl dX9_both_21 ?_
        refine lv_iload_n C0.1 C0.2.1 dX9_both_24 rfl (lv_at hl 1 rfl) ?_
        refine z_asI (a := i) (b := (i.toNat : Int)) (by omega) ?_
        refine lv_iconst (v := zI 0) C0.1 C0.2.1 dX9_both_25 rfl ?_
        refine z_asI (a := 0) (b := ((0 : Nat) : Int)) (rfl) ?_
        refine lv_aload_n C0.1 C0.2.1 dX9_both_26 rfl (lv_at hl 0 rfl) ?_
        refine mm_get (fs := [.ref (h + 1), .ref (h + 2), .ref (h + 3), .ref (h + 4), .ref (h + 6), .ref (h + 17), .ref (h + 30), .ref (h + 31), .ref (h + 46), .ref (h + 48), .int (zI (S.1.1))]) C0 (C := RX9) (T := TX9) (N := 11) iG_X9 hM (hO1) rfl 9 (by decide) tw_245 rfl rfl dX9_both_27 ?_
        refine mm_callVv (As := [.int (zI ((i.toNat : Int))), .int (zI (((0 : Nat) : Int))), .ref (h + 48)]) C0 vw_X1_climb tw_538 (c_X1_climb l G _ hd0 hd1 hd2 hd7 hR48 (by omega) (by omega) (by omega)) hM (hd0) rfl rfl hl.1 rfl (Nat.le_of_ble_eq_true rfl) ⟨rfl, rfl, Nat.le_of_ble_eq_true rfl, Nat.le_of_ble_eq_true rfl, Nat.zero_le _, Nat.zero_le _⟩ dX9_both_30 hS (fun E2 H locs hp hM hS => ?_)
        obtain ⟨hX, hnl, hd1, hd2, hd7, fr⟩ := hp
        have hO1 := hO.kept hO1 (fr _ (by omega))
        have hR46 := isV.kept hR46 (fr _ (by omega)) (fr _ (by omega))
        have hfr := (fun q h => (fr q (by omega)).trans (hfr q h) : ∀ q : Nat, (q < h + 30 ∨ h + 50 ≤ q) → E2 q = E0 q)
        have hd0 := fx.kept hd0 (fr _ (by omega))
        have hpt := pt.kept hpt (fr _ (by omega))
        have hd3 := isV.kept hd3 (fr _ (by omega)) (fr _ (by omega))
        have hd4 := isV.kept hd4 (fr _ (by omega)) (fr _ (by omega))
        have hd5 := isV.kept hd5 (fr _ (by omega)) (fr _ (by omega))
        have hd6 := isV.kept hd6 (fr _ (by omega)) (fr _ (by omega))
        refine lv_aload_n C0.1 C0.2.1 dX9_both_33 rfl (lv_at hl 0 rfl) ?_
        refine mm_get (fs := [.ref (h + 1), .ref (h + 2), .ref (h + 3), .ref (h + 4), .ref (h + 6), .ref (h + 17), .ref (h + 30), .ref (h + 31), .ref (h + 46), .ref (h + 48), .int (zI (S.1.1))]) C0 (C := RX9) (T := TX9) (N := 11) iG_X9 hM (hO1) rfl 8 (by decide) tw_244 rfl rfl dX9_both_34 ?_
        refine lv_aload_n C0.1 C0.2.1 dX9_both_37 rfl (lv_at hl 0 rfl) ?_
        refine mm_get (fs := [.ref (h + 1), .ref (h + 2), .ref (h + 3), .ref (h + 4), .ref (h + 6), .ref (h + 17), .ref (h + 30), .ref (h + 31), .ref (h + 46), .ref (h + 48), .int (zI (S.1.1))]) C0 (C := RX9) (T := TX9) (N := 11) iG_X9 hM (hO1) rfl 9 (by decide) tw_245 rfl rfl dX9_both_38 ?_
        refine lv_aload_n C0.1 C0.2.1 dX9_both_41 rfl (lv_at hl 0 rfl) ?_
        refine mm_get (fs := [.ref (h + 1), .ref (h + 2), .ref (h + 3), .ref (h + 4), .ref (h + 6), .ref (h + 17), .ref (h + 30), .ref (h + 31), .ref (h + 46), .ref (h + 48), .int (zI (S.1.1))]) C0 (C := RX9) (T := TX9) (N := 11) iG_X9 hM (hO1) rfl 9 (by decide) tw_245 rfl rfl dX9_both_42 ?_
        refine mm_callVv (As := [.ref (h + 48), .ref (h + 48)]) C0 vw_X8_setProduct tw_410 (c_X8_setProduct l G _ hR46 hX hX (by omega) (by omega) (by omega)) hM ((hR46.obj).choose_spec) rfl rfl hl.1 rfl (Nat.le_of_ble_eq_true rfl) ⟨rfl, rfl, Nat.le_of_ble_eq_true rfl, Nat.le_of_ble_eq_true rfl, Nat.zero_le _, Nat.zero_le _⟩ dX9_both_45 hS (fun E3 H locs hp hM hS => ?_)
        obtain ⟨hW, fr⟩ := hp
        have hO1 := hO.kept hO1 (fr _ (by omega))
        have hfr := (fun q h => (fr q (by omega)).trans (hfr q h) : ∀ q : Nat, (q < h + 30 ∨ h + 50 ≤ q) → E3 q = E0 q)
        have hd0 := fx.kept hd0 (fr _ (by omega))
        have hpt := pt.kept hpt (fr _ (by omega))
        have hd1 := isV.kept hd1 (fr _ (by omega)) (fr _ (by omega))
        have hd2 := isV.kept hd2 (fr _ (by omega)) (fr _ (by omega))
        have hd3 := isV.kept hd3 (fr _ (by omega)) (fr _ (by omega))
        have hd4 := isV.kept hd4 (fr _ (by omega)) (fr _ (by omega))
        have hd5 := isV.kept hd5 (fr _ (by omega)) (fr _ (by omega))
        have hd6 := isV.kept hd6 (fr _ (by omega)) (fr _ (by omega))
        have hd7 := isV.kept hd7 (fr _ (by omega)) (fr _ (by omega))
        have hX := isW.kept hX (fr _ (by omega)) (fr _ (by omega))
        have hS1 : st G E3 h S := stD_ hSo ⟨_, _, _, _, _, hpt⟩ ⟨hd0, hd1, hd2, hd3, hd4, hd5, hd6, hd7⟩ ⟨hW.v, hX.v⟩ (fun q h => hfr q (by omega))
        have hg := hfr
        refine lv_aload_n C0.1 C0.2.1 dX9_both_48 rfl (lv_at hl 0 rfl) ?_
        refine lv_iload_n C0.1 C0.2.1 dX9_both_49 rfl (lv_at hl 2 rfl) ?_
        refine lv_aload_n C0.1 C0.2.1 dX9_both_50 rfl (lv_at hl 0 rfl) ?_
        refine mm_get (fs := [.ref (h + 1), .ref (h + 2), .ref (h + 3), .ref (h + 4), .ref (h + 6), .ref (h + 17), .ref (h + 30), .ref (h + 31), .ref (h + 46), .ref (h + 48), .int (zI (S.1.1))]) C0 (C := RX9) (T := TX9) (N := 11) iG_X9 hM (hO1) rfl 8 (by decide) tw_244 rfl rfl dX9_both_51 ?_
        refine mm_callVi (As := [.int (zI (t)), .ref (h + 46)]) C0 vw_X9_land tw_296 (c_X9_land l G _ hS1 u hpu hi_u hW (by omega)) hM (hO1) rfl rfl hl.1 rfl (Nat.le_of_ble_eq_true rfl) ⟨rfl, rfl, Nat.le_of_ble_eq_true rfl, Nat.le_of_ble_eq_true rfl, Nat.zero_le _, Nat.zero_le _⟩ dX9_both_54 hS (fun z9 E4 H locs hp hM hS => ?_)
        obtain ⟨hz9, hS2, -, fr⟩ := hp
        have hO1 := hO.kept hO1 (fr _ (by omega))
        have hd0 := fx.kept hd0 (fr _ (by omega))
        have hpt := pt.kept hpt (fr _ (by omega))
        have hd1 := isV.kept hd1 (fr _ (by omega)) (fr _ (by omega))
        have hd2 := isV.kept hd2 (fr _ (by omega)) (fr _ (by omega))
        have hd3 := isV.kept hd3 (fr _ (by omega)) (fr _ (by omega))
        have hd4 := isV.kept hd4 (fr _ (by omega)) (fr _ (by omega))
        have hd5 := isV.kept hd5 (fr _ (by omega)) (fr _ (by omega))
        have hd6 := isV.kept hd6 (fr _ (by omega)) (fr _ (by omega))
        have hd7 := isV.kept hd7 (fr _ (by omega)) (fr _ (by omega))
        have hX := isW.kept hX (fr _ (by omega)) (fr _ (by omega))
        exact mm_iret (z := z9) C0 hr hlk hM hS dX9_both_57 (by have he : pf_both S i t = (lanZ ((lad 0 i.toNat).1 * (lad 0 i.toNat).1), lanS S u ((lad 0 i.toNat).1 * (lad 0 i.toNat).1)) := (by unfold pf_both; rw [if_pos (by omega), ht_u]); rw [he]; exact ⟨hz9, hS2, fun q h => (fr q (by omega)).trans (hg q (by omega))⟩)
      · skip
        refine lv_iconst (v := zI (-1)) C0.1 C0.2.1 dX9_both_18 rfl ?_
        exact mm_iret (z := (-1)) C0 hr hlk hM hS dX9_both_19 (by have he : pf_both S i t = ((-1), S) := (by unfold pf_both; rw [if_neg (by omega)]); rw [he]; exact ⟨rfl, hSo, (fun _ _ => rfl)⟩)

def rX9_side : Room := { frames := 5, cells := 0, slots := 0, locals := 110 }
theorem vw_X9_side : mm_Vw RX9 yX9_side cX9_side 4 (some .int) 3 := ⟨tw_548, tw_549, tw_1, tw_550, by decide +kernel⟩
set_option maxHeartbeats 4000000 in
set_option maxRecDepth 100000 in
theorem c_X9_side (l : Launch) (G : mG) (E0 : mE) {h : Nat} {S : mST} (hS9 : st G E0 h S) {i w t : Int} (hr_i : rI i) (hr_w : rI w) (hr_t : rI t) : mm_Ci l yX9_side (.code yX9_side cX9_side 4 (some .int) :: wsG) rX9_side G [.ref (h), .int (zI (i)), .int (zI (w)), .int (zI (t))] E0 (fun z E => z = (pf_side S i w t).1 ∧ st G E h (pf_side S i w t).2 ∧ ∀ q : Nat, (q < h ∨ h + 106 ≤ q) → E q = E0 q) := by
  refine mm_of_i (by decide +kernel) (Nat.le_of_ble_eq_true rfl) ?_
  intro p e s m args below meth c ls C0 hr hlk hM hl hS
  have hl : lv_has ls 4 [(0, .ref (h)), (1, .int (zI (i))), (2, .int (zI (w))), (3, .int (zI (t)))] := hl
  obtain ⟨hr_i1, hr_i2⟩ := hr_i
  obtain ⟨hr_w1, hr_w2⟩ := hr_w
  obtain ⟨hr_t1, hr_t2⟩ := hr_t
  have hSo := hS9
  obtain ⟨⟨hO1, ⟨f1, f2, f3, hr1, hr2, hr3, hf1, hf2, hf3⟩, ⟨hTp, hTk⟩, ⟨hPl, hPk⟩, ⟨hKl, hKk⟩, ⟨hSh, hSk⟩⟩, hSc⟩ := hS9
  obtain ⟨hd0, hd1, hd2, hd3, hd4, hd5, hd6, hd7⟩ := hSo.2.2.2.2.1
  obtain ⟨pd0, pf0, pm0, pD0, pa0, hpt⟩ := hSo.2.2.2.1
  obtain ⟨hR46, hR48⟩ := hSo.2.2.2.2.2
  have hfr : ∀ q : Nat, (q < h + 30 ∨ h + 50 ≤ q) → E0 q = E0 q := fun _ _ => rfl
  refine lv_iload_n C0.1 C0.2.1 dX9_side_0 rfl (lv_at hl 1 rfl) ?_
  refine z_if_lt (tgt := 27) C0.1 C0.2.1 dX9_side_1 (by decide) ⟨by omega, by omega⟩ (fun c_1 => ?_) (fun c_1 => ?_)
  · skip
    refine lv_iconst (v := zI (-1)) C0.1 C0.2.1 dX9_side_27 rfl ?_
    exact mm_iret (z := (-1)) C0 hr hlk hM hS dX9_side_28 (by have he : pf_side S i w t = ((-1), S) := (by unfold pf_side; rw [if_neg (by omega)]); rw [he]; exact ⟨rfl, hSo, (fun _ _ => rfl)⟩)
  · skip
    refine lv_iload_n C0.1 C0.2.1 dX9_side_4 rfl (lv_at hl 1 rfl) ?_
    refine lv_sipush (v := zI 200) C0.1 C0.2.1 dX9_side_5 rfl ?_
    refine z_icmp_gt (tgt := 27) C0.1 C0.2.1 dX9_side_8 (by decide) ⟨by omega, by omega⟩ ⟨by omega, by omega⟩ (fun c_8 => ?_) (fun c_8 => ?_)
    · skip
      refine lv_iconst (v := zI (-1)) C0.1 C0.2.1 dX9_side_27 rfl ?_
      exact mm_iret (z := (-1)) C0 hr hlk hM hS dX9_side_28 (by have he : pf_side S i w t = ((-1), S) := (by unfold pf_side; rw [if_neg (by omega)]); rw [he]; exact ⟨rfl, hSo, (fun _ _ => rfl)⟩)
    · skip
      refine lv_iload_n C0.1 C0.2.1 dX9_side_11 rfl (lv_at hl 2 rfl) ?_
      refine z_if_lt (tgt := 27) C0.1 C0.2.1 dX9_side_12 (by decide) ⟨by omega, by omega⟩ (fun c_12 => ?_) (fun c_12 => ?_)
      · skip
        refine lv_iconst (v := zI (-1)) C0.1 C0.2.1 dX9_side_27 rfl ?_
        exact mm_iret (z := (-1)) C0 hr hlk hM hS dX9_side_28 (by have he : pf_side S i w t = ((-1), S) := (by unfold pf_side; rw [if_neg (by omega)]); rw [he]; exact ⟨rfl, hSo, (fun _ _ => rfl)⟩)
      · skip
        refine lv_iload_n C0.1 C0.2.1 dX9_side_15 rfl (lv_at hl 2 rfl) ?_
        refine lv_iconst (v := zI 1) C0.1 C0.2.1 dX9_side_16 rfl ?_
        refine z_icmp_gt (tgt := 27) C0.1 C0.2.1 dX9_side_17 (by decide) ⟨by omega, by omega⟩ ⟨by omega, by omega⟩ (fun c_17 => ?_) (fun c_17 => ?_)
        · skip
          refine lv_iconst (v := zI (-1)) C0.1 C0.2.1 dX9_side_27 rfl ?_
          exact mm_iret (z := (-1)) C0 hr hlk hM hS dX9_side_28 (by have he : pf_side S i w t = ((-1), S) := (by unfold pf_side; rw [if_neg (by omega)]); rw [he]; exact ⟨rfl, hSo, (fun _ _ => rfl)⟩)
        · skip
          refine lv_iload_n C0.1 C0.2.1 dX9_side_20 rfl (lv_at hl 3 rfl) ?_
          refine mm_callSi (As := [.int (zI (t))]) C0 sw_X9_isPlace tw_274 (c_X9_isPlace l G _ (i := t) ⟨by omega, by omega⟩) hM rfl hl.1 rfl (Nat.le_of_ble_eq_true rfl) ⟨rfl, rfl, Nat.le_of_ble_eq_true rfl, Nat.le_of_ble_eq_true rfl, Nat.zero_le _, Nat.zero_le _⟩ dX9_side_21 hS (fun z_21 E1 H locs hp hM hS => ?_)
          obtain ⟨hz_21, hEq⟩ := hp
          rw [hEq] at hM
          have hz_21b := if01 hz_21
          refine z_if_ne (tgt := 29) C0.1 C0.2.1 dX9_side_24 (by decide) ⟨by omega, by omega⟩ (fun c_24 => ?_) (fun c_24 => ?_)
          · skip
            obtain ⟨u, hpu⟩ : ∃ u : Nat, t = (u : Int) := ⟨(t).toNat, by omega⟩
            have hi_u : u < 8 := by omega
            have ht_u : (t).toNat = u := by omega
            refine lv_aload_n C0.1 C0.2.1 dX9_side_29 rfl (lv_at hl 0 rfl) ?_
            refine mm_get (fs := [.ref (h + 1), .ref (h + 2), .ref (h + 3), .ref (h + 4), .ref (h + 6), .ref (h + 17), .ref (h + 30), .ref (h + 31), .ref (h + 46), .ref (h + 48), .int (zI (S.1.1))]) C0 (C := RX9) (T := TX9) (N := 11) iG_X9 hM (hO1) rfl 7 (by decide) tw_243 rfl rfl dX9_side_30 ?_
            refine lv_iload_n C0.1 C0.2.1 dX9_side_33 rfl (lv_at hl 1 rfl) ?_
            refine z_asI (a := i) (b := (i.toNat : Int)) (by omega) ?_
            refine lv_iconst (v := zI 2) C0.1 C0.2.1 dX9_side_34 rfl ?_
            refine lv_iload_n C0.1 C0.2.1 dX9_side_35 rfl (lv_at hl 2 rfl) ?_
            refine z_imul C0.1 C0.2.1 dX9_side_36 ?_
            refine z_asI (a := ((2) * (w))) (b := ((2 * w.toNat : Nat) : Int)) (by omega) ?_
            refine lv_aload_n C0.1 C0.2.1 dX9_side_37 rfl (lv_at hl 0 rfl) ?_
            refine mm_get (fs := [.ref (h + 1), .ref (h + 2), .ref (h + 3), .ref (h + 4), .ref (h + 6), .ref (h + 17), .ref (h + 30), .ref (h + 31), .ref (h + 46), .ref (h + 48), .int (zI (S.1.1))]) C0 (C := RX9) (T := TX9) (N := 11) iG_X9 hM (hO1) rfl 8 (by decide) tw_244 rfl rfl dX9_side_38 ?_
            refine mm_callVv (As := [.int (zI ((i.toNat : Int))), .int (zI (((2 * w.toNat : Nat) : Int))), .ref (h + 46)]) C0 vw_X1_climb tw_538 (c_X1_climb l G _ hd0 hd1 hd2 hd7 hR46 (by omega) (by omega) (by omega)) hM (hd0) rfl rfl hl.1 rfl (Nat.le_of_ble_eq_true rfl) ⟨rfl, rfl, Nat.le_of_ble_eq_true rfl, Nat.le_of_ble_eq_true rfl, Nat.zero_le _, Nat.zero_le _⟩ dX9_side_41 hS (fun E2 H locs hp hM hS => ?_)
            obtain ⟨hW, hnl, hd1, hd2, hd7, fr⟩ := hp
            have hO1 := hO.kept hO1 (fr _ (by omega))
            have hR48 := isV.kept hR48 (fr _ (by omega)) (fr _ (by omega))
            have hfr := (fun q h => (fr q (by omega)).trans (hfr q h) : ∀ q : Nat, (q < h + 30 ∨ h + 50 ≤ q) → E2 q = E0 q)
            have hd0 := fx.kept hd0 (fr _ (by omega))
            have hpt := pt.kept hpt (fr _ (by omega))
            have hd3 := isV.kept hd3 (fr _ (by omega)) (fr _ (by omega))
            have hd4 := isV.kept hd4 (fr _ (by omega)) (fr _ (by omega))
            have hd5 := isV.kept hd5 (fr _ (by omega)) (fr _ (by omega))
            have hd6 := isV.kept hd6 (fr _ (by omega)) (fr _ (by omega))
            have hS1 : st G E2 h S := stD_ hSo ⟨_, _, _, _, _, hpt⟩ ⟨hd0, hd1, hd2, hd3, hd4, hd5, hd6, hd7⟩ ⟨hW.v, hR48⟩ (fun q h => hfr q (by omega))
            have hg := hfr
            refine lv_aload_n C0.1 C0.2.1 dX9_side_44 rfl (lv_at hl 0 rfl) ?_
            refine lv_iload_n C0.1 C0.2.1 dX9_side_45 rfl (lv_at hl 3 rfl) ?_
            refine lv_aload_n C0.1 C0.2.1 dX9_side_46 rfl (lv_at hl 0 rfl) ?_
            refine mm_get (fs := [.ref (h + 1), .ref (h + 2), .ref (h + 3), .ref (h + 4), .ref (h + 6), .ref (h + 17), .ref (h + 30), .ref (h + 31), .ref (h + 46), .ref (h + 48), .int (zI (S.1.1))]) C0 (C := RX9) (T := TX9) (N := 11) iG_X9 hM (hO1) rfl 8 (by decide) tw_244 rfl rfl dX9_side_47 ?_
            refine mm_callVi (As := [.int (zI (t)), .ref (h + 46)]) C0 vw_X9_land tw_296 (c_X9_land l G _ hS1 u hpu hi_u hW (by omega)) hM (hO1) rfl rfl hl.1 rfl (Nat.le_of_ble_eq_true rfl) ⟨rfl, rfl, Nat.le_of_ble_eq_true rfl, Nat.le_of_ble_eq_true rfl, Nat.zero_le _, Nat.zero_le _⟩ dX9_side_50 hS (fun z9 E3 H locs hp hM hS => ?_)
            obtain ⟨hz9, hS2, -, fr⟩ := hp
            have hO1 := hO.kept hO1 (fr _ (by omega))
            have hR48 := isV.kept hR48 (fr _ (by omega)) (fr _ (by omega))
            have hd0 := fx.kept hd0 (fr _ (by omega))
            have hpt := pt.kept hpt (fr _ (by omega))
            have hd1 := isV.kept hd1 (fr _ (by omega)) (fr _ (by omega))
            have hd2 := isV.kept hd2 (fr _ (by omega)) (fr _ (by omega))
            have hd3 := isV.kept hd3 (fr _ (by omega)) (fr _ (by omega))
            have hd4 := isV.kept hd4 (fr _ (by omega)) (fr _ (by omega))
            have hd5 := isV.kept hd5 (fr _ (by omega)) (fr _ (by omega))
            have hd6 := isV.kept hd6 (fr _ (by omega)) (fr _ (by omega))
            have hd7 := isV.kept hd7 (fr _ (by omega)) (fr _ (by omega))
            exact mm_iret (z := z9) C0 hr hlk hM hS dX9_side_53 (by have he : pf_side S i w t = (lanZ (lad (2 * w.toNat) i.toNat).1, lanS S u (lad (2 * w.toNat) i.toNat).1) := (by unfold pf_side; rw [if_pos (by omega), ht_u]); rw [he]; exact ⟨hz9, hS2, fun q h => (fr q (by omega)).trans (hg q (by omega))⟩)
          · skip
            refine lv_iconst (v := zI (-1)) C0.1 C0.2.1 dX9_side_27 rfl ?_
            exact mm_iret (z := (-1)) C0 hr hlk hM hS dX9_side_28 (by have he : pf_side S i w t = ((-1), S) := (by unfold pf_side; rw [if_neg (by omega)]); rw [he]; exact ⟨rfl, hSo, (fun _ _ => rfl)⟩)

def rX9_less : Room := { frames := 3, cells := 0, slots := 0, locals := 69 }
theorem vw_X9_less : mm_Vw RX9 yX9_less cX9_less 2 (some .int) 1 := ⟨tw_605, tw_606, tw_1, tw_607, by decide +kernel⟩
set_option maxHeartbeats 4000000 in
set_option maxRecDepth 100000 in
theorem c_X9_less (l : Launch) (G : mG) (E0 : mE) {h : Nat} {S : mST} (hS9 : st G E0 h S) {d : Int} (hr_d : rI d) : mm_Ci l yX9_less (.code yX9_less cX9_less 2 (some .int) :: wsG) rX9_less G [.ref (h), .int (zI (d))] E0 (fun z E => z = (pf_less S d).1 ∧ st G E h (pf_less S d).2 ∧ ∀ q : Nat, (q < h ∨ h + 106 ≤ q) → E q = E0 q) := by
  refine mm_of_i (by decide +kernel) (Nat.le_of_ble_eq_true rfl) ?_
  intro p e s m args below meth c ls C0 hr hlk hM hl hS
  have hl : lv_has ls 2 [(0, .ref (h)), (1, .int (zI (d)))] := hl
  obtain ⟨hr_d1, hr_d2⟩ := hr_d
  have hSo := hS9
  obtain ⟨⟨hO1, ⟨f1, f2, f3, hr1, hr2, hr3, hf1, hf2, hf3⟩, ⟨hTp, hTk⟩, ⟨hPl, hPk⟩, ⟨hKl, hKk⟩, ⟨hSh, hSk⟩⟩, hSc⟩ := hS9
  obtain ⟨hd0, hd1, hd2, hd3, hd4, hd5, hd6, hd7⟩ := hSo.2.2.2.2.1
  obtain ⟨pd0, pf0, pm0, pD0, pa0, hpt⟩ := hSo.2.2.2.1
  obtain ⟨hR46, hR48⟩ := hSo.2.2.2.2.2
  have hfr : ∀ q : Nat, (q < h + 30 ∨ h + 50 ≤ q) → E0 q = E0 q := fun _ _ => rfl
  refine lv_iload_n C0.1 C0.2.1 dX9_less_0 rfl (lv_at hl 1 rfl) ?_
  refine mm_callSi (As := [.int (zI (d))]) C0 sw_X9_isRootless tw_555 (c_X9_isRootless l G _ (d := d) ⟨by omega, by omega⟩) hM rfl hl.1 rfl (Nat.le_of_ble_eq_true rfl) ⟨rfl, rfl, Nat.le_of_ble_eq_true rfl, Nat.le_of_ble_eq_true rfl, Nat.zero_le _, Nat.zero_le _⟩ dX9_less_1 hS (fun z_1 E1 H locs hp hM hS => ?_)
  obtain ⟨hz_1, hEq⟩ := hp
  rw [hEq] at hM
  have hz01 : z_1 = 0 ∨ z_1 = 1 := hz_1.elim (fun h => Or.inr h.1) (fun h => Or.inl h.1)
  refine z_if_ne (tgt := 9) C0.1 C0.2.1 dX9_less_4 (by decide) ⟨by omega, by omega⟩ (fun c_4 => ?_) (fun c_4 => ?_)
  · skip
    obtain ⟨hq1, hq2, hq3⟩ := hz_1.elim (fun h => h.2) (fun h => by omega)
    obtain ⟨f, hrl⟩ := rl_ex hq1 hq2 hq3
    obtain ⟨hk9, hk4⟩ := rnL_p hrl
    have hfe := rtL_e hrl
    have hyes : bq (isRt d) = true := bq_t ⟨hq1, hq2, hq3⟩
    refine lv_aload_n C0.1 C0.2.1 dX9_less_9 rfl (lv_at hl 0 rfl) ?_
    refine mm_get (fs := [.ref (h + 1), .ref (h + 2), .ref (h + 3), .ref (h + 4), .ref (h + 6), .ref (h + 17), .ref (h + 30), .ref (h + 31), .ref (h + 46), .ref (h + 48), .int (zI (S.1.1))]) C0 (C := RX9) (T := TX9) (N := 11) iG_X9 hM (hO1) rfl 6 (by decide) tw_242 rfl rfl dX9_less_10 ?_
    refine lv_iload_n C0.1 C0.2.1 dX9_less_13 rfl (lv_at hl 1 rfl) ?_
    refine z_asI (a := d) (b := (d.toNat : Int)) (by omega) ?_
    refine mm_callVi (As := [.int (zI ((d.toNat : Int)))]) C0 vw_X2_countRound tw_608 (c_X2_countRound l G _ hpt hrl hk9 (by omega)) hM (hpt) rfl rfl hl.1 rfl (Nat.le_of_ble_eq_true rfl) ⟨rfl, rfl, Nat.le_of_ble_eq_true rfl, Nat.le_of_ble_eq_true rfl, Nat.zero_le _, Nat.zero_le _⟩ dX9_less_14 hS (fun z14 E2 H locs hp hM hS => ?_)
    obtain ⟨hz14, ⟨pd0, pf0, pm0, pD0, pa0, hpt⟩, fr⟩ := hp
    have hO1 := hO.kept hO1 (fr _ (by omega))
    have hR46 := isV.kept hR46 (fr _ (by omega)) (fr _ (by omega))
    have hR48 := isV.kept hR48 (fr _ (by omega)) (fr _ (by omega))
    have hfr := (fun q h => (fr q (by omega)).trans (hfr q h) : ∀ q : Nat, (q < h + 30 ∨ h + 50 ≤ q) → E2 q = E0 q)
    have hd0 := fx.kept hd0 (fr _ (by omega))
    have hd1 := isV.kept hd1 (fr _ (by omega)) (fr _ (by omega))
    have hd2 := isV.kept hd2 (fr _ (by omega)) (fr _ (by omega))
    have hd3 := isV.kept hd3 (fr _ (by omega)) (fr _ (by omega))
    have hd4 := isV.kept hd4 (fr _ (by omega)) (fr _ (by omega))
    have hd5 := isV.kept hd5 (fr _ (by omega)) (fr _ (by omega))
    have hd6 := isV.kept hd6 (fr _ (by omega)) (fr _ (by omega))
    have hd7 := isV.kept hd7 (fr _ (by omega)) (fr _ (by omega))
    refine z_asI (b := (rnL d.toNat : Int)) (hz14) ?_
    have hS1 : st G E2 h S := stD_ hSo ⟨_, _, _, _, _, hpt⟩ ⟨hd0, hd1, hd2, hd3, hd4, hd5, hd6, hd7⟩ ⟨hR46, hR48⟩ (fun q h => hfr q (by omega))
    have hg := hfr
    refine lv_iconst (v := zI 2) C0.1 C0.2.1 dX9_less_17 rfl ?_
    refine z_iremp C0.1 C0.2.1 dX9_less_18 ⟨by omega, by omega⟩ ⟨by omega, by omega⟩ (by omega) (by omega) ?_
    refine z_asI (a := (((rnL d.toNat : Int)) % (2))) (b := ((rnL d.toNat % 2 : Nat) : Int)) (by omega) ?_
    exact mm_iret (z := ((rnL d.toNat % 2 : Nat) : Int)) C0 hr hlk hM hS dX9_less_19 (by have he : pf_less S d = (((rnL d.toNat % 2 : Nat) : Int), S) := (by unfold pf_less; rw [if_pos hyes]); rw [he]; exact ⟨rfl, hS1, fun q h => hg q (by omega)⟩)
  · skip
    have hno : ¬ isRt d := hz_1.elim (fun h => by omega) (fun h => h.2)
    refine lv_iconst (v := zI (-1)) C0.1 C0.2.1 dX9_less_7 rfl ?_
    exact mm_iret (z := (-1)) C0 hr hlk hM hS dX9_less_8 (by have he : pf_less S d = ((-1), S) := (by unfold pf_less; rw [if_neg (fun q => hno (bq_y q))]); rw [he]; exact ⟨rfl, hSo, (fun _ _ => rfl)⟩)

def rX9_round : Room := { frames := 3, cells := 0, slots := 0, locals := 70 }
theorem vw_X9_round : mm_Vw RX9 yX9_round cX9_round 3 (some .int) 2 := ⟨tw_610, tw_611, tw_1, tw_612, by decide +kernel⟩
set_option maxHeartbeats 4000000 in
set_option maxRecDepth 100000 in
theorem c_X9_round (l : Launch) (G : mG) (E0 : mE) {h : Nat} {S : mST} (hS9 : st G E0 h S) {d i : Int} (hr_d : rI d) (hr_i : rI i) : mm_Ci l yX9_round (.code yX9_round cX9_round 3 (some .int) :: wsG) rX9_round G [.ref (h), .int (zI (d)), .int (zI (i))] E0 (fun z E => z = (pf_round S d i).1 ∧ st G E h (pf_round S d i).2 ∧ ∀ q : Nat, (q < h ∨ h + 106 ≤ q) → E q = E0 q) := by
  refine mm_of_i (by decide +kernel) (Nat.le_of_ble_eq_true rfl) ?_
  intro p e s m args below meth c ls C0 hr hlk hM hl hS
  have hl : lv_has ls 3 [(0, .ref (h)), (1, .int (zI (d))), (2, .int (zI (i)))] := hl
  obtain ⟨hr_d1, hr_d2⟩ := hr_d
  obtain ⟨hr_i1, hr_i2⟩ := hr_i
  have hSo := hS9
  obtain ⟨⟨hO1, ⟨f1, f2, f3, hr1, hr2, hr3, hf1, hf2, hf3⟩, ⟨hTp, hTk⟩, ⟨hPl, hPk⟩, ⟨hKl, hKk⟩, ⟨hSh, hSk⟩⟩, hSc⟩ := hS9
  obtain ⟨hd0, hd1, hd2, hd3, hd4, hd5, hd6, hd7⟩ := hSo.2.2.2.2.1
  obtain ⟨pd0, pf0, pm0, pD0, pa0, hpt⟩ := hSo.2.2.2.1
  obtain ⟨hR46, hR48⟩ := hSo.2.2.2.2.2
  have hfr : ∀ q : Nat, (q < h + 30 ∨ h + 50 ≤ q) → E0 q = E0 q := fun _ _ => rfl
  refine lv_iload_n C0.1 C0.2.1 dX9_round_0 rfl (lv_at hl 1 rfl) ?_
  refine mm_callSi (As := [.int (zI (d))]) C0 sw_X9_isRootless tw_555 (c_X9_isRootless l G _ (d := d) ⟨by omega, by omega⟩) hM rfl hl.1 rfl (Nat.le_of_ble_eq_true rfl) ⟨rfl, rfl, Nat.le_of_ble_eq_true rfl, Nat.le_of_ble_eq_true rfl, Nat.zero_le _, Nat.zero_le _⟩ dX9_round_1 hS (fun z_1 E1 H locs hp hM hS => ?_)
  obtain ⟨hz_1, hEq⟩ := hp
  rw [hEq] at hM
  have hz01 : z_1 = 0 ∨ z_1 = 1 := hz_1.elim (fun h => Or.inr h.1) (fun h => Or.inl h.1)
  refine z_if_eq (tgt := 19) C0.1 C0.2.1 dX9_round_4 (by decide) ⟨by omega, by omega⟩ (fun c_4 => ?_) (fun c_4 => ?_)
  · skip
    have hno : ¬ isRt d := hz_1.elim (fun h => by omega) (fun h => h.2)
    refine lv_iconst (v := zI (-1)) C0.1 C0.2.1 dX9_round_19 rfl ?_
    exact mm_iret (z := (-1)) C0 hr hlk hM hS dX9_round_20 (by have he : pf_round S d i = ((-1), S) := (by unfold pf_round; rw [if_neg (fun q => hno (bq_y q.1))]); rw [he]; exact ⟨rfl, hSo, (fun _ _ => rfl)⟩)
  · skip
    obtain ⟨hq1, hq2, hq3⟩ := hz_1.elim (fun h => h.2) (fun h => by omega)
    obtain ⟨f, hrl⟩ := rl_ex hq1 hq2 hq3
    obtain ⟨hk9, hk4⟩ := rnL_p hrl
    have hfe := rtL_e hrl
    have hyes : bq (isRt d) = true := bq_t ⟨hq1, hq2, hq3⟩
    refine lv_iload_n C0.1 C0.2.1 dX9_round_7 rfl (lv_at hl 2 rfl) ?_
    refine lv_iconst (v := zI (-1)) C0.1 C0.2.1 dX9_round_8 rfl ?_
    refine z_icmp_lt (tgt := 19) C0.1 C0.2.1 dX9_round_9 (by decide) ⟨by omega, by omega⟩ ⟨by omega, by omega⟩ (fun c_9 => ?_) (fun c_9 => ?_)
    · skip
      refine lv_iconst (v := zI (-1)) C0.1 C0.2.1 dX9_round_19 rfl ?_
      exact mm_iret (z := (-1)) C0 hr hlk hM hS dX9_round_20 (by have he : pf_round S d i = ((-1), S) := (by unfold pf_round; rw [if_neg (fun q => by have q1 := q.2; omega)]); rw [he]; exact ⟨rfl, hSo, (fun _ _ => rfl)⟩)
    · skip
      refine lv_iload_n C0.1 C0.2.1 dX9_round_12 rfl (lv_at hl 2 rfl) ?_
      refine lv_sipush (v := zI 9999) C0.1 C0.2.1 dX9_round_13 rfl ?_
      refine z_icmp_le (tgt := 21) C0.1 C0.2.1 dX9_round_16 (by decide) ⟨by omega, by omega⟩ ⟨by omega, by omega⟩ (fun c_16 => ?_) (fun c_16 => ?_)
      · skip
        refine lv_iload_n C0.1 C0.2.1 dX9_round_21 rfl (lv_at hl 2 rfl) ?_
        refine lv_iconst (v := zI (-1)) C0.1 C0.2.1 dX9_round_22 rfl ?_
        refine z_icmp_ne (tgt := 37) C0.1 C0.2.1 dX9_round_23 (by decide) ⟨by omega, by omega⟩ ⟨by omega, by omega⟩ (fun c_23 => ?_) (fun c_23 => ?_)
        · skip
          refine lv_aload_n C0.1 C0.2.1 dX9_round_37 rfl (lv_at hl 0 rfl) ?_
          refine mm_get (fs := [.ref (h + 1), .ref (h + 2), .ref (h + 3), .ref (h + 4), .ref (h + 6), .ref (h + 17), .ref (h + 30), .ref (h + 31), .ref (h + 46), .ref (h + 48), .int (zI (S.1.1))]) C0 (C := RX9) (T := TX9) (N := 11) iG_X9 hM (hO1) rfl 6 (by decide) tw_242 rfl rfl dX9_round_38 ?_
          refine lv_iload_n C0.1 C0.2.1 dX9_round_41 rfl (lv_at hl 1 rfl) ?_
          refine z_asI (a := d) (b := (d.toNat : Int)) (by omega) ?_
          refine lv_iload_n C0.1 C0.2.1 dX9_round_42 rfl (lv_at hl 2 rfl) ?_
          refine z_asI (a := i) (b := (i.toNat : Int)) (by omega) ?_
          refine mm_callVi (As := [.int (zI ((d.toNat : Int))), .int (zI ((i.toNat : Int)))]) C0 vw_X2_find tw_613 (c_X2_find l G _ hpt hrl (by omega)) hM (hpt) rfl rfl hl.1 rfl (Nat.le_of_ble_eq_true rfl) ⟨rfl, rfl, Nat.le_of_ble_eq_true rfl, Nat.le_of_ble_eq_true rfl, Nat.zero_le _, Nat.zero_le _⟩ dX9_round_43 hS (fun z43 E2 H locs hp hM hS => ?_)
          obtain ⟨hz43, ⟨pd0, pf0, pm0, pD0, pa0, hpt⟩, fr⟩ := hp
          have hO1 := hO.kept hO1 (fr _ (by omega))
          have hR46 := isV.kept hR46 (fr _ (by omega)) (fr _ (by omega))
          have hR48 := isV.kept hR48 (fr _ (by omega)) (fr _ (by omega))
          have hfr := (fun q h => (fr q (by omega)).trans (hfr q h) : ∀ q : Nat, (q < h + 30 ∨ h + 50 ≤ q) → E2 q = E0 q)
          have hd0 := fx.kept hd0 (fr _ (by omega))
          have hd1 := isV.kept hd1 (fr _ (by omega)) (fr _ (by omega))
          have hd2 := isV.kept hd2 (fr _ (by omega)) (fr _ (by omega))
          have hd3 := isV.kept hd3 (fr _ (by omega)) (fr _ (by omega))
          have hd4 := isV.kept hd4 (fr _ (by omega)) (fr _ (by omega))
          have hd5 := isV.kept hd5 (fr _ (by omega)) (fr _ (by omega))
          have hd6 := isV.kept hd6 (fr _ (by omega)) (fr _ (by omega))
          have hd7 := isV.kept hd7 (fr _ (by omega)) (fr _ (by omega))
          refine z_asI (b := ((cf d.toNat f i.toNat).2.2 : Int)) (hz43) ?_
          have hS1 : st G E2 h S := stD_ hSo ⟨_, _, _, _, _, hpt⟩ ⟨hd0, hd1, hd2, hd3, hd4, hd5, hd6, hd7⟩ ⟨hR46, hR48⟩ (fun q h => hfr q (by omega))
          have hg := hfr
          exact mm_iret (z := ((cf d.toNat f i.toNat).2.2 : Int)) C0 hr hlk hM hS dX9_round_46 (by have he : pf_round S d i = (((cf d.toNat f i.toNat).2.2 : Int), S) := (by unfold pf_round; rw [if_pos ⟨hyes, by omega, by omega⟩, if_neg (by omega), hfe]); rw [he]; exact ⟨rfl, hS1, fun q h => hg q (by omega)⟩)
        · skip
          refine lv_aload_n C0.1 C0.2.1 dX9_round_26 rfl (lv_at hl 0 rfl) ?_
          refine mm_get (fs := [.ref (h + 1), .ref (h + 2), .ref (h + 3), .ref (h + 4), .ref (h + 6), .ref (h + 17), .ref (h + 30), .ref (h + 31), .ref (h + 46), .ref (h + 48), .int (zI (S.1.1))]) C0 (C := RX9) (T := TX9) (N := 11) iG_X9 hM (hO1) rfl 6 (by decide) tw_242 rfl rfl dX9_round_27 ?_
          refine lv_iload_n C0.1 C0.2.1 dX9_round_30 rfl (lv_at hl 1 rfl) ?_
          refine z_asI (a := d) (b := (d.toNat : Int)) (by omega) ?_
          refine mm_callVi (As := [.int (zI ((d.toNat : Int)))]) C0 vw_X2_countRound tw_608 (c_X2_countRound l G _ hpt hrl hk9 (by omega)) hM (hpt) rfl rfl hl.1 rfl (Nat.le_of_ble_eq_true rfl) ⟨rfl, rfl, Nat.le_of_ble_eq_true rfl, Nat.le_of_ble_eq_true rfl, Nat.zero_le _, Nat.zero_le _⟩ dX9_round_31 hS (fun z31 E3 H locs hp hM hS => ?_)
          obtain ⟨hz31, ⟨pd0, pf0, pm0, pD0, pa0, hpt⟩, fr⟩ := hp
          have hO1 := hO.kept hO1 (fr _ (by omega))
          have hR46 := isV.kept hR46 (fr _ (by omega)) (fr _ (by omega))
          have hR48 := isV.kept hR48 (fr _ (by omega)) (fr _ (by omega))
          have hfr := (fun q h => (fr q (by omega)).trans (hfr q h) : ∀ q : Nat, (q < h + 30 ∨ h + 50 ≤ q) → E3 q = E0 q)
          have hd0 := fx.kept hd0 (fr _ (by omega))
          have hd1 := isV.kept hd1 (fr _ (by omega)) (fr _ (by omega))
          have hd2 := isV.kept hd2 (fr _ (by omega)) (fr _ (by omega))
          have hd3 := isV.kept hd3 (fr _ (by omega)) (fr _ (by omega))
          have hd4 := isV.kept hd4 (fr _ (by omega)) (fr _ (by omega))
          have hd5 := isV.kept hd5 (fr _ (by omega)) (fr _ (by omega))
          have hd6 := isV.kept hd6 (fr _ (by omega)) (fr _ (by omega))
          have hd7 := isV.kept hd7 (fr _ (by omega)) (fr _ (by omega))
          refine z_asI (b := (rnL d.toNat : Int)) (hz31) ?_
          have hS1 : st G E3 h S := stD_ hSo ⟨_, _, _, _, _, hpt⟩ ⟨hd0, hd1, hd2, hd3, hd4, hd5, hd6, hd7⟩ ⟨hR46, hR48⟩ (fun q h => hfr q (by omega))
          have hg := hfr
          refine lv_goto (tgt := 46) C0.1 C0.2.1 dX9_round_34 (by decide) ?_
          exact mm_iret (z := (rnL d.toNat : Int)) C0 hr hlk hM hS dX9_round_46 (by have he : pf_round S d i = ((rnL d.toNat : Int), S) := (by unfold pf_round; rw [if_pos ⟨hyes, by omega, by omega⟩, if_pos (by omega)]); rw [he]; exact ⟨rfl, hS1, fun q h => hg q (by omega)⟩)
      · skip
        refine lv_iconst (v := zI (-1)) C0.1 C0.2.1 dX9_round_19 rfl ?_
        exact mm_iret (z := (-1)) C0 hr hlk hM hS dX9_round_20 (by have he : pf_round S d i = ((-1), S) := (by unfold pf_round; rw [if_neg (fun q => by have q1 := q.2; omega)]); rw [he]; exact ⟨rfl, hSo, (fun _ _ => rfl)⟩)

def rX9_off : Room := { frames := 3, cells := 0, slots := 0, locals := 74 }
theorem vw_X9_off : mm_Vw RX9 yX9_off cX9_off 4 (some .int) 3 := ⟨tw_623, tw_624, tw_1, tw_625, by decide +kernel⟩
set_option maxHeartbeats 4000000 in
set_option maxRecDepth 100000 in
theorem c_X9_off (l : Launch) (G : mG) (E0 : mE) {h : Nat} {S : mST} (hS9 : st G E0 h S) {d f i : Int} (hr_d : rI d) (hr_f : rI f) (hr_i : rI i) : mm_Ci l yX9_off (.code yX9_off cX9_off 4 (some .int) :: wsG) rX9_off G [.ref (h), .int (zI (d)), .int (zI (f)), .int (zI (i))] E0 (fun z E => z = (pf_off S d f i).1 ∧ st G E h (pf_off S d f i).2 ∧ ∀ q : Nat, (q < h ∨ h + 106 ≤ q) → E q = E0 q) := by
  refine mm_of_i (by decide +kernel) (Nat.le_of_ble_eq_true rfl) ?_
  intro p e s m args below meth c ls C0 hr hlk hM hl hS
  have hl : lv_has ls 4 [(0, .ref (h)), (1, .int (zI (d))), (2, .int (zI (f))), (3, .int (zI (i)))] := hl
  obtain ⟨hr_d1, hr_d2⟩ := hr_d
  obtain ⟨hr_f1, hr_f2⟩ := hr_f
  obtain ⟨hr_i1, hr_i2⟩ := hr_i
  have hSo := hS9
  refine lv_iload_n C0.1 C0.2.1 dX9_off_0 rfl (lv_at hl 1 rfl) ?_
  refine mm_callSi (As := [.int (zI (d))]) C0 sw_X9_isRootless tw_555 (c_X9_isRootless l G _ (d := d) ⟨by omega, by omega⟩) hM rfl hl.1 rfl (Nat.le_of_ble_eq_true rfl) ⟨rfl, rfl, Nat.le_of_ble_eq_true rfl, Nat.le_of_ble_eq_true rfl, Nat.zero_le _, Nat.zero_le _⟩ dX9_off_1 hS (fun z_1 E1 H locs hp hM hS => ?_)
  obtain ⟨hz_1, hEq⟩ := hp
  rw [hEq] at hM
  have hz01 : z_1 = 0 ∨ z_1 = 1 := hz_1.elim (fun h => Or.inr h.1) (fun h => Or.inl h.1)
  refine z_if_eq (tgt := 31) C0.1 C0.2.1 dX9_off_4 (by decide) ⟨by omega, by omega⟩ (fun c_4 => ?_) (fun c_4 => ?_)
  · skip
    have hno : ¬ isRt d := hz_1.elim (fun h => by omega) (fun h => h.2)
    refine lv_iconst (v := zI (-1)) C0.1 C0.2.1 dX9_off_31 rfl ?_
    exact mm_iret (z := (-1)) C0 hr hlk hM hS dX9_off_32 (by have he : pf_off S d f i = ((-1), S) := (by unfold pf_off; rw [if_neg (fun q => hno (bq_y q.1))]); rw [he]; exact ⟨rfl, hSo, (fun _ _ => rfl)⟩)
  · skip
    obtain ⟨hq1, hq2, hq3⟩ := hz_1.elim (fun h => h.2) (fun h => by omega)
    have hyes : bq (isRt d) = true := bq_t ⟨hq1, hq2, hq3⟩
    refine lv_iload_n C0.1 C0.2.1 dX9_off_7 rfl (lv_at hl 2 rfl) ?_
    refine lv_bipush (v := zI (-99)) C0.1 C0.2.1 dX9_off_8 rfl ?_
    refine z_icmp_lt (tgt := 31) C0.1 C0.2.1 dX9_off_10 (by decide) ⟨by omega, by omega⟩ ⟨by omega, by omega⟩ (fun c_10 => ?_) (fun c_10 => ?_)
    · skip
      refine lv_iconst (v := zI (-1)) C0.1 C0.2.1 dX9_off_31 rfl ?_
      exact mm_iret (z := (-1)) C0 hr hlk hM hS dX9_off_32 (by have he : pf_off S d f i = ((-1), S) := (by unfold pf_off; rw [if_neg (fun q => by have q1 := q.2; omega)]); rw [he]; exact ⟨rfl, hSo, (fun _ _ => rfl)⟩)
    · skip
      refine lv_iload_n C0.1 C0.2.1 dX9_off_13 rfl (lv_at hl 2 rfl) ?_
      refine lv_bipush (v := zI 99) C0.1 C0.2.1 dX9_off_14 rfl ?_
      refine z_icmp_gt (tgt := 31) C0.1 C0.2.1 dX9_off_16 (by decide) ⟨by omega, by omega⟩ ⟨by omega, by omega⟩ (fun c_16 => ?_) (fun c_16 => ?_)
      · skip
        refine lv_iconst (v := zI (-1)) C0.1 C0.2.1 dX9_off_31 rfl ?_
        exact mm_iret (z := (-1)) C0 hr hlk hM hS dX9_off_32 (by have he : pf_off S d f i = ((-1), S) := (by unfold pf_off; rw [if_neg (fun q => by have q1 := q.2; omega)]); rw [he]; exact ⟨rfl, hSo, (fun _ _ => rfl)⟩)
      · skip
        refine lv_iload_n C0.1 C0.2.1 dX9_off_19 rfl (lv_at hl 3 rfl) ?_
        refine lv_iconst (v := zI (-1)) C0.1 C0.2.1 dX9_off_20 rfl ?_
        refine z_icmp_lt (tgt := 31) C0.1 C0.2.1 dX9_off_21 (by decide) ⟨by omega, by omega⟩ ⟨by omega, by omega⟩ (fun c_21 => ?_) (fun c_21 => ?_)
        · skip
          refine lv_iconst (v := zI (-1)) C0.1 C0.2.1 dX9_off_31 rfl ?_
          exact mm_iret (z := (-1)) C0 hr hlk hM hS dX9_off_32 (by have he : pf_off S d f i = ((-1), S) := (by unfold pf_off; rw [if_neg (fun q => by have q1 := q.2; omega)]); rw [he]; exact ⟨rfl, hSo, (fun _ _ => rfl)⟩)
        · skip
          refine lv_iload_n C0.1 C0.2.1 dX9_off_24 rfl (lv_at hl 3 rfl) ?_
          refine lv_sipush (v := zI 9999) C0.1 C0.2.1 dX9_off_25 rfl ?_
          refine z_icmp_le (tgt := 33) C0.1 C0.2.1 dX9_off_28 (by decide) ⟨by omega, by omega⟩ ⟨by omega, by omega⟩ (fun c_28 => ?_) (fun c_28 => ?_)
          · skip
            refine lv_iload_n C0.1 C0.2.1 dX9_off_33 rfl (lv_at hl 1 rfl) ?_
            refine lv_iload_n C0.1 C0.2.1 dX9_off_34 rfl (lv_at hl 2 rfl) ?_
            refine lv_iload_n C0.1 C0.2.1 dX9_off_35 rfl (lv_at hl 3 rfl) ?_
            refine mm_callSi (As := [.int (zI (d)), .int (zI (f)), .int (zI (i))]) C0 sw_X0_offs tw_626 (c_X0_offs l G _ (by omega) (by omega) (by omega) (by omega) ⟨by omega, by omega⟩) hM rfl hl.1 rfl (Nat.le_of_ble_eq_true rfl) ⟨rfl, rfl, Nat.le_of_ble_eq_true rfl, Nat.le_of_ble_eq_true rfl, Nat.zero_le _, Nat.zero_le _⟩ dX9_off_36 hS (fun z_36 E2 H locs hp hM hS => ?_)
            obtain ⟨hz_36, hEq⟩ := hp
            rw [hEq] at hM
            refine z_asI (b := (scan (fun y => bq (sq (d * (y : Int) * (y : Int) + f))) (fun y => (y : Int)) i 0 0 10000)) (hz_36) ?_
            exact mm_iret (z := (scan (fun y => bq (sq (d * (y : Int) * (y : Int) + f))) (fun y => (y : Int)) i 0 0 10000)) C0 hr hlk hM hS dX9_off_39 (by have he : pf_off S d f i = ((scan (fun y => bq (sq (d * (y : Int) * (y : Int) + f))) (fun y => (y : Int)) i 0 0 10000), S) := (by unfold pf_off; rw [if_pos ⟨hyes, by omega, by omega⟩]); rw [he]; exact ⟨rfl, hSo, fun _ _ => rfl⟩)
          · skip
            refine lv_iconst (v := zI (-1)) C0.1 C0.2.1 dX9_off_31 rfl ?_
            exact mm_iret (z := (-1)) C0 hr hlk hM hS dX9_off_32 (by have he : pf_off S d f i = ((-1), S) := (by unfold pf_off; rw [if_neg (fun q => by have q1 := q.2; omega)]); rw [he]; exact ⟨rfl, hSo, (fun _ _ => rfl)⟩)

def rX9_near : Room := { frames := 5, cells := 0, slots := 0, locals := 121 }
theorem vw_X9_near : mm_Vw RX9 yX9_near cX9_near 5 (some .int) 4 := ⟨tw_618, tw_619, tw_1, tw_620, by decide +kernel⟩
set_option maxHeartbeats 4000000 in
set_option maxRecDepth 100000 in
theorem c_X9_near (l : Launch) (G : mG) (E0 : mE) {h : Nat} {S : mST} (hS9 : st G E0 h S) {d i1 a b : Int} (hr_d : rI d) (hr_i1 : rI i1) (hr_a : rI a) (hr_b : rI b) : mm_Ci l yX9_near (.code yX9_near cX9_near 5 (some .int) :: wsG) rX9_near G [.ref (h), .int (zI (d)), .int (zI (i1)), .int (zI (a)), .int (zI (b))] E0 (fun z E => z = (pf_near S d i1 a b).1 ∧ st G E h (pf_near S d i1 a b).2 ∧ ∀ q : Nat, (q < h ∨ h + 106 ≤ q) → E q = E0 q) := by
  refine mm_of_i (by decide +kernel) (Nat.le_of_ble_eq_true rfl) ?_
  intro p e s m args below meth c ls C0 hr hlk hM hl hS
  have hl : lv_has ls 5 [(0, .ref (h)), (1, .int (zI (d))), (2, .int (zI (i1))), (3, .int (zI (a))), (4, .int (zI (b)))] := hl
  obtain ⟨hr_d1, hr_d2⟩ := hr_d
  obtain ⟨hr_i11, hr_i12⟩ := hr_i1
  obtain ⟨hr_a1, hr_a2⟩ := hr_a
  obtain ⟨hr_b1, hr_b2⟩ := hr_b
  have hSo := hS9
  obtain ⟨⟨hO1, ⟨f1, f2, f3, hr1, hr2, hr3, hf1, hf2, hf3⟩, ⟨hTp, hTk⟩, ⟨hPl, hPk⟩, ⟨hKl, hKk⟩, ⟨hSh, hSk⟩⟩, hSc⟩ := hS9
  obtain ⟨hd0, hd1, hd2, hd3, hd4, hd5, hd6, hd7⟩ := hSo.2.2.2.2.1
  obtain ⟨pd0, pf0, pm0, pD0, pa0, hpt⟩ := hSo.2.2.2.1
  obtain ⟨hR46, hR48⟩ := hSo.2.2.2.2.2
  have hfr : ∀ q : Nat, (q < h + 30 ∨ h + 50 ≤ q) → E0 q = E0 q := fun _ _ => rfl
  refine lv_iload_n C0.1 C0.2.1 dX9_near_0 rfl (lv_at hl 1 rfl) ?_
  refine mm_callSi (As := [.int (zI (d))]) C0 sw_X9_isRootless tw_555 (c_X9_isRootless l G _ (d := d) ⟨by omega, by omega⟩) hM rfl hl.1 rfl (Nat.le_of_ble_eq_true rfl) ⟨rfl, rfl, Nat.le_of_ble_eq_true rfl, Nat.le_of_ble_eq_true rfl, Nat.zero_le _, Nat.zero_le _⟩ dX9_near_1 hS (fun z_1 E1 H locs hp hM hS => ?_)
  obtain ⟨hz_1, hEq⟩ := hp
  rw [hEq] at hM
  have hz01 : z_1 = 0 ∨ z_1 = 1 := hz_1.elim (fun h => Or.inr h.1) (fun h => Or.inl h.1)
  refine z_if_eq (tgt := 27) C0.1 C0.2.1 dX9_near_4 (by decide) ⟨by omega, by omega⟩ (fun c_4 => ?_) (fun c_4 => ?_)
  · skip
    have hno : ¬ isRt d := hz_1.elim (fun h => by omega) (fun h => h.2)
    refine lv_iconst (v := zI (-1)) C0.1 C0.2.1 dX9_near_27 rfl ?_
    exact mm_iret (z := (-1)) C0 hr hlk hM hS dX9_near_28 (by have he : pf_near S d i1 a b = ((-1), S) := (by unfold pf_near; rw [if_neg (fun q => hno (bq_y q.1))]); rw [he]; exact ⟨rfl, hSo, (fun _ _ => rfl)⟩)
  · skip
    obtain ⟨hq1, hq2, hq3⟩ := hz_1.elim (fun h => h.2) (fun h => by omega)
    obtain ⟨f, hrl⟩ := rl_ex hq1 hq2 hq3
    obtain ⟨hk9, hk4⟩ := rnL_p hrl
    have hfe := rtL_e hrl
    have hyes : bq (isRt d) = true := bq_t ⟨hq1, hq2, hq3⟩
    refine lv_iload_n C0.1 C0.2.1 dX9_near_7 rfl (lv_at hl 2 rfl) ?_
    refine z_if_lt (tgt := 27) C0.1 C0.2.1 dX9_near_8 (by decide) ⟨by omega, by omega⟩ (fun c_8 => ?_) (fun c_8 => ?_)
    · skip
      refine lv_iconst (v := zI (-1)) C0.1 C0.2.1 dX9_near_27 rfl ?_
      exact mm_iret (z := (-1)) C0 hr hlk hM hS dX9_near_28 (by have he : pf_near S d i1 a b = ((-1), S) := (by unfold pf_near; rw [if_neg (fun q => by have q1 := q.2; omega)]); rw [he]; exact ⟨rfl, hSo, (fun _ _ => rfl)⟩)
    · skip
      refine lv_iload_n C0.1 C0.2.1 dX9_near_11 rfl (lv_at hl 2 rfl) ?_
      refine lv_sipush (v := zI 200) C0.1 C0.2.1 dX9_near_12 rfl ?_
      refine z_icmp_gt (tgt := 27) C0.1 C0.2.1 dX9_near_15 (by decide) ⟨by omega, by omega⟩ ⟨by omega, by omega⟩ (fun c_15 => ?_) (fun c_15 => ?_)
      · skip
        refine lv_iconst (v := zI (-1)) C0.1 C0.2.1 dX9_near_27 rfl ?_
        exact mm_iret (z := (-1)) C0 hr hlk hM hS dX9_near_28 (by have he : pf_near S d i1 a b = ((-1), S) := (by unfold pf_near; rw [if_neg (fun q => by have q1 := q.2; omega)]); rw [he]; exact ⟨rfl, hSo, (fun _ _ => rfl)⟩)
      · skip
        refine lv_iload_n C0.1 C0.2.1 dX9_near_18 rfl (lv_at hl 3 rfl) ?_
        refine lv_iload C0.1 C0.2.1 dX9_near_19 (lv_at hl 4 rfl) ?_
        refine mm_callSi (As := [.int (zI (a)), .int (zI (b))]) C0 sw_X9_arePair tw_567 (c_X9_arePair l G _ (i := a) (j := b) ⟨by omega, by omega⟩ ⟨by omega, by omega⟩) hM rfl hl.1 rfl (Nat.le_of_ble_eq_true rfl) ⟨rfl, rfl, Nat.le_of_ble_eq_true rfl, Nat.le_of_ble_eq_true rfl, Nat.zero_le _, Nat.zero_le _⟩ dX9_near_21 hS (fun z_21 E2 H locs hp hM hS => ?_)
        obtain ⟨hz_21, hEq⟩ := hp
        rw [hEq] at hM
        have hz_21b := if01 hz_21
        refine z_if_ne (tgt := 29) C0.1 C0.2.1 dX9_near_24 (by decide) ⟨by omega, by omega⟩ (fun c_24 => ?_) (fun c_24 => ?_)
        · skip
          obtain ⟨i, hpi⟩ : ∃ i : Nat, a = (i : Int) := ⟨(a).toNat, by omega⟩
          have hi_i : i < 8 := by omega
          have ht_i : (a).toNat = i := by omega
          obtain ⟨j, hpj⟩ : ∃ j : Nat, b = (j : Int) := ⟨(b).toNat, by omega⟩
          have hi_j : j < 8 := by omega
          have ht_j : (b).toNat = j := by omega
          refine lv_aload_n C0.1 C0.2.1 dX9_near_29 rfl (lv_at hl 0 rfl) ?_
          refine mm_get (fs := [.ref (h + 1), .ref (h + 2), .ref (h + 3), .ref (h + 4), .ref (h + 6), .ref (h + 17), .ref (h + 30), .ref (h + 31), .ref (h + 46), .ref (h + 48), .int (zI (S.1.1))]) C0 (C := RX9) (T := TX9) (N := 11) iG_X9 hM (hO1) rfl 7 (by decide) tw_243 rfl rfl dX9_near_30 ?_
          refine lv_iload_n C0.1 C0.2.1 dX9_near_33 rfl (lv_at hl 1 rfl) ?_
          refine z_asI (a := d) (b := (d.toNat : Int)) (by omega) ?_
          refine lv_iload_n C0.1 C0.2.1 dX9_near_34 rfl (lv_at hl 2 rfl) ?_
          refine z_asI (a := i1) (b := (i1.toNat : Int)) (by omega) ?_
          refine mm_callVi (As := [.int (zI ((d.toNat : Int))), .int (zI ((i1.toNat : Int)))]) C0 vw_X1_walk tw_621 (c_X1_walk l G _ hd0 hpt hd1 hd2 hd3 hd4 hd7 hrl (by omega) (by omega)) hM (hd0) rfl rfl hl.1 rfl (Nat.le_of_ble_eq_true rfl) ⟨rfl, rfl, Nat.le_of_ble_eq_true rfl, Nat.le_of_ble_eq_true rfl, Nat.zero_le _, Nat.zero_le _⟩ dX9_near_35 hS (fun z_35 E3 H locs hp hM hS => ?_)
          obtain ⟨hz35, hd3, hd4, hd7, ⟨pd0, pf0, pm0, pD0, pa0, hpt⟩, fr⟩ := hp
          have hO1 := hO.kept hO1 (fr _ (by omega))
          have hR46 := isV.kept hR46 (fr _ (by omega)) (fr _ (by omega))
          have hR48 := isV.kept hR48 (fr _ (by omega)) (fr _ (by omega))
          have hfr := (fun q h => (fr q (by omega)).trans (hfr q h) : ∀ q : Nat, (q < h + 30 ∨ h + 50 ≤ q) → E3 q = E0 q)
          have hd0 := fx.kept hd0 (fr _ (by omega))
          have hd5 := isV.kept hd5 (fr _ (by omega)) (fr _ (by omega))
          have hd6 := isV.kept hd6 (fr _ (by omega)) (fr _ (by omega))
          have hz01b : z_35 = 0 ∨ z_35 = 1 := hz35.elim (fun h => Or.inr h.1) (fun h => Or.inl h.1)
          refine z_if_ne (tgt := 44) C0.1 C0.2.1 dX9_near_38 (by decide) ⟨by omega, by omega⟩ (fun c_38 => ?_) (fun c_38 => ?_)
          · skip
            obtain ⟨hX, hY, hnl⟩ : isW G E3 (h + 31 + 1) (cvp d.toNat f i1.toNat) ∧ isW G E3 (h + 31 + 3) (cvq d.toNat f i1.toNat) ∧ nl (cvp d.toNat f i1.toNat) ≤ 24 := hz35.elim (fun h => h.2) (fun h => by omega)
            have hd1 := hX.v
            have hd2 := hY.v
            have hS1 : st G E3 h S := stD_ hSo ⟨_, _, _, _, _, hpt⟩ ⟨hd0, hd1, hd2, hd3, hd4, hd5, hd6, hd7⟩ ⟨hR46, hR48⟩ (fun q h => hfr q (by omega))
            have hg := hfr
            refine lv_aload_n C0.1 C0.2.1 dX9_near_44 rfl (lv_at hl 0 rfl) ?_
            refine lv_iload C0.1 C0.2.1 dX9_near_45 (lv_at hl 4 rfl) ?_
            refine lv_aload_n C0.1 C0.2.1 dX9_near_47 rfl (lv_at hl 0 rfl) ?_
            refine mm_get (fs := [.ref (h + 1), .ref (h + 2), .ref (h + 3), .ref (h + 4), .ref (h + 6), .ref (h + 17), .ref (h + 30), .ref (h + 31), .ref (h + 46), .ref (h + 48), .int (zI (S.1.1))]) C0 (C := RX9) (T := TX9) (N := 11) iG_X9 hM (hO1) rfl 7 (by decide) tw_243 rfl rfl dX9_near_48 ?_
            refine mm_get (fs := [.ref (h + 31 + 1), .ref (h + 31 + 3), .ref (h + 30), .ref (h + 31 + 5), .ref (h + 31 + 7), .ref (h + 31 + 9), .ref (h + 31 + 11), .ref (h + 31 + 13)]) C0 (C := RX1) (T := TX1) (N := 8) iG_X1 hM (hd0) rfl 1 (by decide) tw_174 rfl rfl dX9_near_51 ?_
            refine mm_callVi (As := [.int (zI (b)), .ref (h + 31 + 3)]) C0 vw_X9_land tw_296 (c_X9_land l G _ hS1 j hpj hi_j hY (by omega)) hM (hO1) rfl rfl hl.1 rfl (Nat.le_of_ble_eq_true rfl) ⟨rfl, rfl, Nat.le_of_ble_eq_true rfl, Nat.le_of_ble_eq_true rfl, Nat.zero_le _, Nat.zero_le _⟩ dX9_near_54 hS (fun z8 E4 H locs hp hM hS => ?_)
            obtain ⟨hz8, hS2, hY, fr⟩ := hp
            have hO1 := hO.kept hO1 (fr _ (by omega))
            have hR46 := isV.kept hR46 (fr _ (by omega)) (fr _ (by omega))
            have hR48 := isV.kept hR48 (fr _ (by omega)) (fr _ (by omega))
            have hd0 := fx.kept hd0 (fr _ (by omega))
            have hpt := pt.kept hpt (fr _ (by omega))
            have hd3 := isV.kept hd3 (fr _ (by omega)) (fr _ (by omega))
            have hd4 := isV.kept hd4 (fr _ (by omega)) (fr _ (by omega))
            have hd5 := isV.kept hd5 (fr _ (by omega)) (fr _ (by omega))
            have hd6 := isV.kept hd6 (fr _ (by omega)) (fr _ (by omega))
            have hd7 := isV.kept hd7 (fr _ (by omega)) (fr _ (by omega))
            have hg2 := fr
            have hX := isW.kept hX (fr _ (by omega)) (fr _ (by omega))
            refine lv_pop C0.1 C0.2.1 dX9_near_57 rfl ?_
            refine lv_aload_n C0.1 C0.2.1 dX9_near_58 rfl (lv_at hl 0 rfl) ?_
            refine lv_iload_n C0.1 C0.2.1 dX9_near_59 rfl (lv_at hl 3 rfl) ?_
            refine lv_aload_n C0.1 C0.2.1 dX9_near_60 rfl (lv_at hl 0 rfl) ?_
            refine mm_get (fs := [.ref (h + 1), .ref (h + 2), .ref (h + 3), .ref (h + 4), .ref (h + 6), .ref (h + 17), .ref (h + 30), .ref (h + 31), .ref (h + 46), .ref (h + 48), .int (zI (S.1.1))]) C0 (C := RX9) (T := TX9) (N := 11) iG_X9 hM (hO1) rfl 7 (by decide) tw_243 rfl rfl dX9_near_61 ?_
            refine mm_get (fs := [.ref (h + 31 + 1), .ref (h + 31 + 3), .ref (h + 30), .ref (h + 31 + 5), .ref (h + 31 + 7), .ref (h + 31 + 9), .ref (h + 31 + 11), .ref (h + 31 + 13)]) C0 (C := RX1) (T := TX1) (N := 8) iG_X1 hM (hd0) rfl 0 (by decide) tw_172 rfl rfl dX9_near_64 ?_
            refine mm_callVi (As := [.int (zI (a)), .ref (h + 31 + 1)]) C0 vw_X9_land tw_296 (c_X9_land l G _ hS2 i hpi hi_i hX (by omega)) hM (hO1) rfl rfl hl.1 rfl (Nat.le_of_ble_eq_true rfl) ⟨rfl, rfl, Nat.le_of_ble_eq_true rfl, Nat.le_of_ble_eq_true rfl, Nat.zero_le _, Nat.zero_le _⟩ dX9_near_67 hS (fun z9 E5 H locs hp hM hS => ?_)
            obtain ⟨hz9, hS3, hX, fr⟩ := hp
            have hO1 := hO.kept hO1 (fr _ (by omega))
            have hR46 := isV.kept hR46 (fr _ (by omega)) (fr _ (by omega))
            have hR48 := isV.kept hR48 (fr _ (by omega)) (fr _ (by omega))
            have hd0 := fx.kept hd0 (fr _ (by omega))
            have hpt := pt.kept hpt (fr _ (by omega))
            have hd3 := isV.kept hd3 (fr _ (by omega)) (fr _ (by omega))
            have hd4 := isV.kept hd4 (fr _ (by omega)) (fr _ (by omega))
            have hd5 := isV.kept hd5 (fr _ (by omega)) (fr _ (by omega))
            have hd6 := isV.kept hd6 (fr _ (by omega)) (fr _ (by omega))
            have hd7 := isV.kept hd7 (fr _ (by omega)) (fr _ (by omega))
            exact mm_iret (z := z9) C0 hr hlk hM hS dX9_near_70 (by have he : pf_near S d i1 a b = (lanZ (cvp d.toNat f i1.toNat), lanS (lanS S j (cvq d.toNat f i1.toNat)) i (cvp d.toNat f i1.toNat)) := (by unfold pf_near; rw [if_pos ⟨hyes, by omega, by omega⟩, hfe, ht_i, ht_j]; exact if_neg (by omega)); rw [he]; exact ⟨hz9, hS3, fun q h => (fr q (by omega)).trans ((hg2 q (by omega)).trans (hg q (by omega)))⟩)
          · skip
            obtain ⟨hd1, hd2, hnl⟩ : isV G E3 (h + 31 + 1) ∧ isV G E3 (h + 31 + 3) ∧ 24 < nl (cvp d.toNat f i1.toNat) := hz35.elim (fun h => by omega) (fun h => h.2)
            have hS1 : st G E3 h S := stD_ hSo ⟨_, _, _, _, _, hpt⟩ ⟨hd0, hd1, hd2, hd3, hd4, hd5, hd6, hd7⟩ ⟨hR46, hR48⟩ (fun q h => hfr q (by omega))
            have hg := hfr
            refine lv_bipush (v := zI (-3)) C0.1 C0.2.1 dX9_near_41 rfl ?_
            exact mm_iret (z := (-3)) C0 hr hlk hM hS dX9_near_43 (by have he : pf_near S d i1 a b = ((-3), S) := (by unfold pf_near; rw [if_pos ⟨hyes, by omega, by omega⟩, hfe, ht_i, ht_j]; exact if_pos hnl); rw [he]; exact ⟨rfl, hS1, fun q h => hg q (by omega)⟩)
        · skip
          refine lv_iconst (v := zI (-1)) C0.1 C0.2.1 dX9_near_27 rfl ?_
          exact mm_iret (z := (-1)) C0 hr hlk hM hS dX9_near_28 (by have he : pf_near S d i1 a b = ((-1), S) := (by unfold pf_near; rw [if_neg (fun q => by have q1 := q.2; omega)]); rw [he]; exact ⟨rfl, hSo, (fun _ _ => rfl)⟩)

def rX9_one : Room := { frames := 6, cells := 0, slots := 0, locals := 145 }
theorem vw_X9_one : mm_Vw RX9 yX9_one cX9_one 5 (some .int) 4 := ⟨tw_552, tw_553, tw_1, tw_554, by decide +kernel⟩
set_option maxHeartbeats 4000000 in
set_option maxRecDepth 100000 in
theorem c_X9_one (l : Launch) (G : mG) (E0 : mE) {h : Nat} {S : mST} (hS9 : st G E0 h S) {d n a b : Int} (hr_d : rI d) (hr_n : rI n) (hr_a : rI a) (hr_b : rI b) : mm_Ci l yX9_one (.code yX9_one cX9_one 5 (some .int) :: wsG) rX9_one G [.ref (h), .int (zI (d)), .int (zI (n)), .int (zI (a)), .int (zI (b))] E0 (fun z E => z = (pf_one S d n a b).1 ∧ st G E h (pf_one S d n a b).2 ∧ ∀ q : Nat, (q < h ∨ h + 106 ≤ q) → E q = E0 q) := by
  refine mm_of_i (by decide +kernel) (Nat.le_of_ble_eq_true rfl) ?_
  intro p e s m args below meth c ls C0 hr hlk hM hl hS
  have hl : lv_has ls 5 [(0, .ref (h)), (1, .int (zI (d))), (2, .int (zI (n))), (3, .int (zI (a))), (4, .int (zI (b)))] := hl
  obtain ⟨hr_d1, hr_d2⟩ := hr_d
  obtain ⟨hr_n1, hr_n2⟩ := hr_n
  obtain ⟨hr_a1, hr_a2⟩ := hr_a
  obtain ⟨hr_b1, hr_b2⟩ := hr_b
  have hSo := hS9
  obtain ⟨⟨hO1, ⟨f1, f2, f3, hr1, hr2, hr3, hf1, hf2, hf3⟩, ⟨hTp, hTk⟩, ⟨hPl, hPk⟩, ⟨hKl, hKk⟩, ⟨hSh, hSk⟩⟩, hSc⟩ := hS9
  obtain ⟨hd0, hd1, hd2, hd3, hd4, hd5, hd6, hd7⟩ := hSo.2.2.2.2.1
  obtain ⟨pd0, pf0, pm0, pD0, pa0, hpt⟩ := hSo.2.2.2.1
  obtain ⟨hR46, hR48⟩ := hSo.2.2.2.2.2
  have hfr : ∀ q : Nat, (q < h + 30 ∨ h + 50 ≤ q) → E0 q = E0 q := fun _ _ => rfl
  refine lv_iload_n C0.1 C0.2.1 dX9_one_0 rfl (lv_at hl 1 rfl) ?_
  refine mm_callSi (As := [.int (zI (d))]) C0 sw_X9_isRootless tw_555 (c_X9_isRootless l G _ (d := d) ⟨by omega, by omega⟩) hM rfl hl.1 rfl (Nat.le_of_ble_eq_true rfl) ⟨rfl, rfl, Nat.le_of_ble_eq_true rfl, Nat.le_of_ble_eq_true rfl, Nat.zero_le _, Nat.zero_le _⟩ dX9_one_1 hS (fun z_1 E1 H locs hp hM hS => ?_)
  obtain ⟨hz_1, hEq⟩ := hp
  rw [hEq] at hM
  have hz01 : z_1 = 0 ∨ z_1 = 1 := hz_1.elim (fun h => Or.inr h.1) (fun h => Or.inl h.1)
  refine z_if_eq (tgt := 27) C0.1 C0.2.1 dX9_one_4 (by decide) ⟨by omega, by omega⟩ (fun c_4 => ?_) (fun c_4 => ?_)
  · skip
    have hno : ¬ isRt d := hz_1.elim (fun h => by omega) (fun h => h.2)
    refine lv_iconst (v := zI (-1)) C0.1 C0.2.1 dX9_one_27 rfl ?_
    exact mm_iret (z := (-1)) C0 hr hlk hM hS dX9_one_28 (by have he : pf_one S d n a b = ((-1), S) := (by unfold pf_one; rw [if_neg (fun q => hno (bq_y q.1))]); rw [he]; exact ⟨rfl, hSo, (fun _ _ => rfl)⟩)
  · skip
    obtain ⟨hq1, hq2, hq3⟩ := hz_1.elim (fun h => h.2) (fun h => by omega)
    obtain ⟨f, hrl⟩ := rl_ex hq1 hq2 hq3
    obtain ⟨hk9, hk4⟩ := rnL_p hrl
    have hfe := rtL_e hrl
    have hyes : bq (isRt d) = true := bq_t ⟨hq1, hq2, hq3⟩
    refine lv_iload_n C0.1 C0.2.1 dX9_one_7 rfl (lv_at hl 2 rfl) ?_
    refine lv_iconst (v := zI 1) C0.1 C0.2.1 dX9_one_8 rfl ?_
    refine z_icmp_lt (tgt := 27) C0.1 C0.2.1 dX9_one_9 (by decide) ⟨by omega, by omega⟩ ⟨by omega, by omega⟩ (fun c_9 => ?_) (fun c_9 => ?_)
    · skip
      refine lv_iconst (v := zI (-1)) C0.1 C0.2.1 dX9_one_27 rfl ?_
      exact mm_iret (z := (-1)) C0 hr hlk hM hS dX9_one_28 (by have he : pf_one S d n a b = ((-1), S) := (by unfold pf_one; rw [if_neg (fun q => by have q1 := q.2; omega)]); rw [he]; exact ⟨rfl, hSo, (fun _ _ => rfl)⟩)
    · skip
      refine lv_iload_n C0.1 C0.2.1 dX9_one_12 rfl (lv_at hl 2 rfl) ?_
      refine lv_bipush (v := zI 99) C0.1 C0.2.1 dX9_one_13 rfl ?_
      refine z_icmp_gt (tgt := 27) C0.1 C0.2.1 dX9_one_15 (by decide) ⟨by omega, by omega⟩ ⟨by omega, by omega⟩ (fun c_15 => ?_) (fun c_15 => ?_)
      · skip
        refine lv_iconst (v := zI (-1)) C0.1 C0.2.1 dX9_one_27 rfl ?_
        exact mm_iret (z := (-1)) C0 hr hlk hM hS dX9_one_28 (by have he : pf_one S d n a b = ((-1), S) := (by unfold pf_one; rw [if_neg (fun q => by have q1 := q.2; omega)]); rw [he]; exact ⟨rfl, hSo, (fun _ _ => rfl)⟩)
      · skip
        refine lv_iload_n C0.1 C0.2.1 dX9_one_18 rfl (lv_at hl 3 rfl) ?_
        refine lv_iload C0.1 C0.2.1 dX9_one_19 (lv_at hl 4 rfl) ?_
        refine mm_callSi (As := [.int (zI (a)), .int (zI (b))]) C0 sw_X9_arePair tw_567 (c_X9_arePair l G _ (i := a) (j := b) ⟨by omega, by omega⟩ ⟨by omega, by omega⟩) hM rfl hl.1 rfl (Nat.le_of_ble_eq_true rfl) ⟨rfl, rfl, Nat.le_of_ble_eq_true rfl, Nat.le_of_ble_eq_true rfl, Nat.zero_le _, Nat.zero_le _⟩ dX9_one_21 hS (fun z_21 E2 H locs hp hM hS => ?_)
        obtain ⟨hz_21, hEq⟩ := hp
        rw [hEq] at hM
        have hz_21b := if01 hz_21
        refine z_if_ne (tgt := 29) C0.1 C0.2.1 dX9_one_24 (by decide) ⟨by omega, by omega⟩ (fun c_24 => ?_) (fun c_24 => ?_)
        · skip
          obtain ⟨i, hpi⟩ : ∃ i : Nat, a = (i : Int) := ⟨(a).toNat, by omega⟩
          have hi_i : i < 8 := by omega
          have ht_i : (a).toNat = i := by omega
          obtain ⟨j, hpj⟩ : ∃ j : Nat, b = (j : Int) := ⟨(b).toNat, by omega⟩
          have hi_j : j < 8 := by omega
          have ht_j : (b).toNat = j := by omega
          refine lv_aload_n C0.1 C0.2.1 dX9_one_29 rfl (lv_at hl 0 rfl) ?_
          refine mm_get (fs := [.ref (h + 1), .ref (h + 2), .ref (h + 3), .ref (h + 4), .ref (h + 6), .ref (h + 17), .ref (h + 30), .ref (h + 31), .ref (h + 46), .ref (h + 48), .int (zI (S.1.1))]) C0 (C := RX9) (T := TX9) (N := 11) iG_X9 hM (hO1) rfl 7 (by decide) tw_243 rfl rfl dX9_one_30 ?_
          refine lv_iload_n C0.1 C0.2.1 dX9_one_33 rfl (lv_at hl 1 rfl) ?_
          refine z_asI (a := d) (b := (d.toNat : Int)) (by omega) ?_
          refine lv_iload_n C0.1 C0.2.1 dX9_one_34 rfl (lv_at hl 2 rfl) ?_
          refine z_asI (a := n) (b := (n.toNat : Int)) (by omega) ?_
          refine mm_callVi (As := [.int (zI ((d.toNat : Int))), .int (zI ((n.toNat : Int)))]) C0 vw_X1_findOne tw_570 (c_X1_findOne l G _ hd0 hpt hd1 hd2 hd3 hd4 hd5 hd6 hd7 hrl hk9 (by omega) (by omega) (by omega) (by omega)) hM (hd0) rfl rfl hl.1 rfl (Nat.le_of_ble_eq_true rfl) ⟨rfl, rfl, Nat.le_of_ble_eq_true rfl, Nat.le_of_ble_eq_true rfl, Nat.zero_le _, Nat.zero_le _⟩ dX9_one_35 hS (fun z_35 E3 H locs hp hM hS => ?_)
          obtain ⟨hz35, hd3, hd4, hd5, hd6, hd7, ⟨pd0, pf0, pm0, pD0, pa0, hpt⟩, fr⟩ := hp
          have hO1 := hO.kept hO1 (fr _ (by omega))
          have hR46 := isV.kept hR46 (fr _ (by omega)) (fr _ (by omega))
          have hR48 := isV.kept hR48 (fr _ (by omega)) (fr _ (by omega))
          have hfr := (fun q h => (fr q (by omega)).trans (hfr q h) : ∀ q : Nat, (q < h + 30 ∨ h + 50 ≤ q) → E3 q = E0 q)
          have hd0 := fx.kept hd0 (fr _ (by omega))
          have hz01b : z_35 = 0 ∨ z_35 = 1 := hz35.elim (fun h => Or.inr h.1) (fun h => Or.inl h.1)
          refine z_if_ne (tgt := 44) C0.1 C0.2.1 dX9_one_38 (by decide) ⟨by omega, by omega⟩ (fun c_38 => ?_) (fun c_38 => ?_)
          · skip
            obtain ⟨hX, hY, hnl⟩ : isW G E3 (h + 31 + 1) (onA d.toNat f (rnL d.toNat) n.toNat) ∧ isW G E3 (h + 31 + 3) (onB d.toNat f (rnL d.toNat) n.toNat) ∧ nl (onA d.toNat f (rnL d.toNat) n.toNat) ≤ 24 := hz35.elim (fun h => h.2) (fun h => by omega)
            have hd1 := hX.v
            have hd2 := hY.v
            have hS1 : st G E3 h S := stD_ hSo ⟨_, _, _, _, _, hpt⟩ ⟨hd0, hd1, hd2, hd3, hd4, hd5, hd6, hd7⟩ ⟨hR46, hR48⟩ (fun q h => hfr q (by omega))
            have hg := hfr
            refine lv_aload_n C0.1 C0.2.1 dX9_one_44 rfl (lv_at hl 0 rfl) ?_
            refine lv_iload C0.1 C0.2.1 dX9_one_45 (lv_at hl 4 rfl) ?_
            refine lv_aload_n C0.1 C0.2.1 dX9_one_47 rfl (lv_at hl 0 rfl) ?_
            refine mm_get (fs := [.ref (h + 1), .ref (h + 2), .ref (h + 3), .ref (h + 4), .ref (h + 6), .ref (h + 17), .ref (h + 30), .ref (h + 31), .ref (h + 46), .ref (h + 48), .int (zI (S.1.1))]) C0 (C := RX9) (T := TX9) (N := 11) iG_X9 hM (hO1) rfl 7 (by decide) tw_243 rfl rfl dX9_one_48 ?_
            refine mm_get (fs := [.ref (h + 31 + 1), .ref (h + 31 + 3), .ref (h + 30), .ref (h + 31 + 5), .ref (h + 31 + 7), .ref (h + 31 + 9), .ref (h + 31 + 11), .ref (h + 31 + 13)]) C0 (C := RX1) (T := TX1) (N := 8) iG_X1 hM (hd0) rfl 1 (by decide) tw_174 rfl rfl dX9_one_51 ?_
            refine mm_callVi (As := [.int (zI (b)), .ref (h + 31 + 3)]) C0 vw_X9_land tw_296 (c_X9_land l G _ hS1 j hpj hi_j hY (by omega)) hM (hO1) rfl rfl hl.1 rfl (Nat.le_of_ble_eq_true rfl) ⟨rfl, rfl, Nat.le_of_ble_eq_true rfl, Nat.le_of_ble_eq_true rfl, Nat.zero_le _, Nat.zero_le _⟩ dX9_one_54 hS (fun z8 E4 H locs hp hM hS => ?_)
            obtain ⟨hz8, hS2, hY, fr⟩ := hp
            have hO1 := hO.kept hO1 (fr _ (by omega))
            have hR46 := isV.kept hR46 (fr _ (by omega)) (fr _ (by omega))
            have hR48 := isV.kept hR48 (fr _ (by omega)) (fr _ (by omega))
            have hd0 := fx.kept hd0 (fr _ (by omega))
            have hpt := pt.kept hpt (fr _ (by omega))
            have hd3 := isV.kept hd3 (fr _ (by omega)) (fr _ (by omega))
            have hd4 := isV.kept hd4 (fr _ (by omega)) (fr _ (by omega))
            have hd5 := isV.kept hd5 (fr _ (by omega)) (fr _ (by omega))
            have hd6 := isV.kept hd6 (fr _ (by omega)) (fr _ (by omega))
            have hd7 := isV.kept hd7 (fr _ (by omega)) (fr _ (by omega))
            have hg2 := fr
            have hX := isW.kept hX (fr _ (by omega)) (fr _ (by omega))
            refine lv_pop C0.1 C0.2.1 dX9_one_57 rfl ?_
            refine lv_aload_n C0.1 C0.2.1 dX9_one_58 rfl (lv_at hl 0 rfl) ?_
            refine lv_iload_n C0.1 C0.2.1 dX9_one_59 rfl (lv_at hl 3 rfl) ?_
            refine lv_aload_n C0.1 C0.2.1 dX9_one_60 rfl (lv_at hl 0 rfl) ?_
            refine mm_get (fs := [.ref (h + 1), .ref (h + 2), .ref (h + 3), .ref (h + 4), .ref (h + 6), .ref (h + 17), .ref (h + 30), .ref (h + 31), .ref (h + 46), .ref (h + 48), .int (zI (S.1.1))]) C0 (C := RX9) (T := TX9) (N := 11) iG_X9 hM (hO1) rfl 7 (by decide) tw_243 rfl rfl dX9_one_61 ?_
            refine mm_get (fs := [.ref (h + 31 + 1), .ref (h + 31 + 3), .ref (h + 30), .ref (h + 31 + 5), .ref (h + 31 + 7), .ref (h + 31 + 9), .ref (h + 31 + 11), .ref (h + 31 + 13)]) C0 (C := RX1) (T := TX1) (N := 8) iG_X1 hM (hd0) rfl 0 (by decide) tw_172 rfl rfl dX9_one_64 ?_
            refine mm_callVi (As := [.int (zI (a)), .ref (h + 31 + 1)]) C0 vw_X9_land tw_296 (c_X9_land l G _ hS2 i hpi hi_i hX (by omega)) hM (hO1) rfl rfl hl.1 rfl (Nat.le_of_ble_eq_true rfl) ⟨rfl, rfl, Nat.le_of_ble_eq_true rfl, Nat.le_of_ble_eq_true rfl, Nat.zero_le _, Nat.zero_le _⟩ dX9_one_67 hS (fun z9 E5 H locs hp hM hS => ?_)
            obtain ⟨hz9, hS3, hX, fr⟩ := hp
            have hO1 := hO.kept hO1 (fr _ (by omega))
            have hR46 := isV.kept hR46 (fr _ (by omega)) (fr _ (by omega))
            have hR48 := isV.kept hR48 (fr _ (by omega)) (fr _ (by omega))
            have hd0 := fx.kept hd0 (fr _ (by omega))
            have hpt := pt.kept hpt (fr _ (by omega))
            have hd3 := isV.kept hd3 (fr _ (by omega)) (fr _ (by omega))
            have hd4 := isV.kept hd4 (fr _ (by omega)) (fr _ (by omega))
            have hd5 := isV.kept hd5 (fr _ (by omega)) (fr _ (by omega))
            have hd6 := isV.kept hd6 (fr _ (by omega)) (fr _ (by omega))
            have hd7 := isV.kept hd7 (fr _ (by omega)) (fr _ (by omega))
            exact mm_iret (z := z9) C0 hr hlk hM hS dX9_one_70 (by have he : pf_one S d n a b = (lanZ (onA d.toNat f (rnL d.toNat) n.toNat), lanS (lanS S j (onB d.toNat f (rnL d.toNat) n.toNat)) i (onA d.toNat f (rnL d.toNat) n.toNat)) := (by unfold pf_one; rw [if_pos ⟨hyes, by omega, by omega⟩, hfe, ht_i, ht_j]; exact if_neg (by omega)); rw [he]; exact ⟨hz9, hS3, fun q h => (fr q (by omega)).trans ((hg2 q (by omega)).trans (hg q (by omega)))⟩)
          · skip
            obtain ⟨hd1, hd2, hnl⟩ : isV G E3 (h + 31 + 1) ∧ isV G E3 (h + 31 + 3) ∧ 24 < nl (onA d.toNat f (rnL d.toNat) n.toNat) := hz35.elim (fun h => by omega) (fun h => h.2)
            have hS1 : st G E3 h S := stD_ hSo ⟨_, _, _, _, _, hpt⟩ ⟨hd0, hd1, hd2, hd3, hd4, hd5, hd6, hd7⟩ ⟨hR46, hR48⟩ (fun q h => hfr q (by omega))
            have hg := hfr
            refine lv_bipush (v := zI (-3)) C0.1 C0.2.1 dX9_one_41 rfl ?_
            exact mm_iret (z := (-3)) C0 hr hlk hM hS dX9_one_43 (by have he : pf_one S d n a b = ((-3), S) := (by unfold pf_one; rw [if_pos ⟨hyes, by omega, by omega⟩, hfe, ht_i, ht_j]; exact if_pos hnl); rw [he]; exact ⟨rfl, hS1, fun q h => hg q (by omega)⟩)
        · skip
          refine lv_iconst (v := zI (-1)) C0.1 C0.2.1 dX9_one_27 rfl ?_
          exact mm_iret (z := (-1)) C0 hr hlk hM hS dX9_one_28 (by have he : pf_one S d n a b = ((-1), S) := (by unfold pf_one; rw [if_neg (fun q => by have q1 := q.2; omega)]); rw [he]; exact ⟨rfl, hSo, (fun _ _ => rfl)⟩)
