def rX10_put : Room := { frames := 2, cells := 0, slots := 0, locals := 46 }
theorem vw_X10_put : mm_Vw RX10 yX10_put cX10_put 4 (some .int) 2 := ⟨tw_978, tw_979, tw_10, tw_980, by decide +kernel⟩
set_option maxHeartbeats 4000000 in
set_option maxRecDepth 100000 in
theorem c_X10_put (l : Launch) (G : mG) (E0 : mE) {h : Nat} {S : mST} (hF : rf G E0 h S) (hok : okR S) {pp v : Int} (hr_pp : rI pp) (hr_v : rL v) : mm_Ci l yX10_put (.code yX10_put cX10_put 4 (some .int) :: wsG) rX10_put G [.ref (h), .int (zI (pp)), .long (zL (v))] E0 (fun z E => z = (pf_put S pp v).1 ∧ rf G E h (pf_put S pp v).2 ∧ ∀ q : Nat, (q < h ∨ h + 13 ≤ q) → E q = E0 q) := by
  refine mm_of_i (by decide +kernel) (Nat.le_of_ble_eq_true rfl) ?_
  intro p e s m args below meth c ls C0 hr hlk hM hl hS
  have hl : lv_has ls 4 [(0, .ref (h)), (1, .int (zI (pp))), (2, .long (zL (v)))] := hl
  obtain ⟨hr_pp1, hr_pp2⟩ := hr_pp
  obtain ⟨hr_v1, hr_v2⟩ := hr_v
  obtain ⟨R, x2, x3, x4, x5, x6, x7, hX⟩ := hF
  have hX0 := hX
  obtain ⟨hTk, hPk, hKk, hSk⟩ := hok
  obtain ⟨hO, hR, hRp, ⟨fh, fc, hH, hC, hPa⟩, hTp, hCl, hKp, hSh, him⟩ := hX
  have hfr : ∀ q : Nat, (q < h ∨ h + 13 ≤ q) → E0 q = E0 q := fun _ _ => rfl
  refine lv_iload_n C0.1 C0.2.1 dX10_put_0 rfl (lv_at hl 1 rfl) ?_
  refine mm_callSi (As := [.int (zI (pp))]) C0 sw_X10_isPlace tw_981 (c_X10_isPlace l G _ (i := pp) ⟨by omega, by omega⟩) hM rfl hl.1 rfl (Nat.le_of_ble_eq_true rfl) ⟨rfl, rfl, Nat.le_of_ble_eq_true rfl, Nat.le_of_ble_eq_true rfl, Nat.zero_le _, Nat.zero_le _⟩ dX10_put_1 hS (fun z_1 E1 H locs hp hM hS => ?_)
  obtain ⟨hz_1, hEq⟩ := hp
  rw [hEq] at hM
  have hz_1b := if01 hz_1
  refine z_if_eq (tgt := 13) C0.1 C0.2.1 dX10_put_4 (by decide) ⟨by omega, by omega⟩ (fun c_4 => ?_) (fun c_4 => ?_)
  · skip
    refine lv_iconst (v := zI (-1)) C0.1 C0.2.1 dX10_put_13 rfl ?_
    exact mm_iret (z := (-1)) C0 hr hlk hM hS dX10_put_14 (by have he : pf_put S pp v = ((-1), S) := (by unfold pf_put; rw [if_neg (by omega)]); rw [he]; exact ⟨rfl, hX0.rf, fun _ _ => rfl⟩)
  · skip
    refine lv_lload_n C0.1 C0.2.1 dX10_put_7 rfl (lv_at hl 2 rfl) ?_
    refine lv_lconst (v := zL 0) C0.1 C0.2.1 dX10_put_8 rfl ?_
    refine z_lcmp_ge (tgt := 15) C0.1 C0.2.1 dX10_put_9 dX10_put_10 (by decide) ⟨by omega, by omega⟩ ⟨by omega, by omega⟩ (fun c_9 => ?_) (fun c_9 => ?_)
    · skip
      obtain ⟨i, hpi⟩ : ∃ i : Nat, pp = (i : Int) := ⟨(pp).toNat, by omega⟩
      have hi_i : i < 8 := by omega
      have ht_i : (pp).toNat = i := by omega
      obtain ⟨ho_i1, ho_i2, ho_i3, ho_i4⟩ := hPk i hi_i
      obtain ⟨hh_i, hc_i⟩ := hPa i hi_i
      have hv_i := hRp i hi_i
      refine lv_aload_n C0.1 C0.2.1 dX10_put_15 rfl (lv_at hl 0 rfl) ?_
      refine lv_iload_n C0.1 C0.2.1 dX10_put_16 rfl (lv_at hl 1 rfl) ?_
      refine lv_lload_n C0.1 C0.2.1 dX10_put_17 rfl (lv_at hl 2 rfl) ?_
      refine mm_callVv (As := [.int (zI (pp)), .long (zL (v))]) C0 vw_X10_set tw_988 (c_X10_set l G _ hO hR hpi (by omega) v.toNat (by omega) (by omega)) hM (hO) rfl rfl hl.1 rfl (Nat.le_of_ble_eq_true rfl) ⟨rfl, rfl, Nat.le_of_ble_eq_true rfl, Nat.le_of_ble_eq_true rfl, Nat.zero_le _, Nat.zero_le _⟩ dX10_put_18 hS (fun E2 H locs hp hM hS => ?_)
      obtain ⟨⟨R1, hR1, vt, kr⟩, fr⟩ := hp
      have hO := ro.kept hO (fr _ (by omega))
      have hH := (fr _ (by omega)).trans hH
      have hC := (fr _ (by omega)).trans hC
      have hfr := (fun q h => (fr q (by omega)).trans (hfr q h) : ∀ q : Nat, (q < h ∨ h + 13 ≤ q) → E2 q = E0 q)
      have hvn : nl v.toNat ≤ 3 := nlL (by omega)
      refine lv_aload_n C0.1 C0.2.1 dX10_put_21 rfl (lv_at hl 0 rfl) ?_
      refine mm_get (fs := [.ref (h + 1), .ref (h + 2), .ref (h + 3), .ref (h + 4), .int (zI (((S.1.2.2 : Nat) : Int))), .int (zI (x2)), .long (zL (x3)), .ref (h + 5), .ref (h + 6), .ref (h + 7), .ref (h + 8), .int (zI (x4)), .int (zI (x5)), .int (zI (x6)), .int (zI (x7)), .int (zI (S.1.1)), .ref (h + 9), .ref (h + 10), .ref (h + 11), .ref (h + 12)]) C0 (C := RX10) (T := TX10) (N := 20) iG_X10 hM (hO) rfl 1 (by decide) tw_917 rfl rfl dX10_put_22 ?_
      refine lv_iload_n C0.1 C0.2.1 dX10_put_25 rfl (lv_at hl 1 rfl) ?_
      refine lv_iconst (v := zI 1) C0.1 C0.2.1 dX10_put_26 rfl ?_
      refine mm_iast C0 hM hS (g := fh) (hH) (i) (i := pp) (x := 1) (by omega) (by omega) (by decide) dX10_put_27 (fun H locs hM hS hsz => ?_)
      obtain ⟨E3, hE3⟩ : ∃ X : mE, X = mm_up E2 (h + 2) (mm_I G 8 (zup (fh) (i) (1))) := ⟨_, rfl⟩
      replace hM : mm_M G E3 H := by rw [hE3]; exact hM
      have frs : ∀ q : Nat, q ≠ h + 2 → E3 q = E2 q := fun q h => by rw [hE3]; exact mm_up_n _ _ h
      have hat : E3 (h + 2) = some (mm_I G 8 (zup (fh) (i) (1))) := by rw [hE3]; exact mm_up_s _ _ _
      have hH1 := hat
      have hO := ro.kept hO (frs _ (by omega))
      have hC := (frs _ (by omega)).trans hC
      have hfr := (fun q h => (frs q (by omega)).trans (hfr q h) : ∀ q : Nat, (q < h ∨ h + 13 ≤ q) → E3 q = E0 q)
      have hR1 := rg.kept hR1 (frs _ (by omega))
      refine lv_aload_n C0.1 C0.2.1 dX10_put_28 rfl (lv_at hl 0 rfl) ?_
      refine lv_iload_n C0.1 C0.2.1 dX10_put_29 rfl (lv_at hl 1 rfl) ?_
      refine mm_callVi (As := [.int (zI (pp))]) C0 vw_X10_figuresOf tw_993 (c_X10_figuresOf l G _ hO hR1 hpi (by omega) vt) hM (hO) rfl rfl hl.1 rfl (Nat.le_of_ble_eq_true rfl) ⟨rfl, rfl, Nat.le_of_ble_eq_true rfl, Nat.le_of_ble_eq_true rfl, Nat.zero_le _, Nat.zero_le _⟩ dX10_put_30 hS (fun z_30 E4 H locs hp hM hS => ?_)
      obtain ⟨hz_30, hEq⟩ := hp
      rw [hEq] at hM
      refine z_asI (b := (fgs v.toNat : Int)) (hz_30) ?_
      exact mm_iret (z := (fgs v.toNat : Int)) C0 hr hlk hM hS dX10_put_33 (by have he : pf_put S pp v = ((fgs v.toNat : Int), sPut S i 1 (S.2.1.2.1 i) v.toNat) := (by unfold pf_put lanZ lanS; rw [if_pos (by omega), if_neg (by omega), if_neg (by omega), ht_i]); rw [he]; exact ⟨rfl, (hX0.put (w := 1) (k := S.2.1.2.1 i) hi_i hR1 vt kr hH1 (zupN rfl (fun i hi => (hPa i hi).1)) hC (upN_id (fun i hi => (hPa i hi).2)) (fun q h => (frs q (by omega)).trans (fr q (by omega)))).rf, hfr⟩)
    · skip
      refine lv_iconst (v := zI (-1)) C0.1 C0.2.1 dX10_put_13 rfl ?_
      exact mm_iret (z := (-1)) C0 hr hlk hM hS dX10_put_14 (by have he : pf_put S pp v = ((-1), S) := (by unfold pf_put; rw [if_neg (by omega)]); rw [he]; exact ⟨rfl, hX0.rf, fun _ _ => rfl⟩)

def rX10_shape : Room := { frames := 2, cells := 0, slots := 0, locals := 45 }
theorem vw_X10_shape : mm_Vw RX10 yX10_shape cX10_shape 4 (some .int) 3 := ⟨tw_1002, tw_1003, tw_10, tw_1004, by decide +kernel⟩
set_option maxHeartbeats 4000000 in
set_option maxRecDepth 100000 in
theorem c_X10_shape (l : Launch) (G : mG) (E0 : mE) {h : Nat} {S : mST} (hF : rf G E0 h S) (hok : okR S) {pp kd k : Int} (hr_pp : rI pp) (hr_kd : rI kd) (hr_k : rI k) : mm_Ci l yX10_shape (.code yX10_shape cX10_shape 4 (some .int) :: wsG) rX10_shape G [.ref (h), .int (zI (pp)), .int (zI (kd)), .int (zI (k))] E0 (fun z E => z = (pf_shape S pp kd k).1 ∧ rf G E h (pf_shape S pp kd k).2 ∧ ∀ q : Nat, (q < h ∨ h + 13 ≤ q) → E q = E0 q) := by
  refine mm_of_i (by decide +kernel) (Nat.le_of_ble_eq_true rfl) ?_
  intro p e s m args below meth c ls C0 hr hlk hM hl hS
  have hl : lv_has ls 4 [(0, .ref (h)), (1, .int (zI (pp))), (2, .int (zI (kd))), (3, .int (zI (k)))] := hl
  obtain ⟨hr_pp1, hr_pp2⟩ := hr_pp
  obtain ⟨hr_kd1, hr_kd2⟩ := hr_kd
  obtain ⟨hr_k1, hr_k2⟩ := hr_k
  obtain ⟨R, x2, x3, x4, x5, x6, x7, hX⟩ := hF
  have hX0 := hX
  obtain ⟨hTk, hPk, hKk, hSk⟩ := hok
  obtain ⟨hO, hR, hRp, ⟨fh, fc, hH, hC, hPa⟩, hTp, hCl, hKp, hSh, him⟩ := hX
  have hfr : ∀ q : Nat, (q < h ∨ h + 13 ≤ q) → E0 q = E0 q := fun _ _ => rfl
  refine lv_iload_n C0.1 C0.2.1 dX10_shape_0 rfl (lv_at hl 1 rfl) ?_
  refine mm_callSi (As := [.int (zI (pp))]) C0 sw_X10_isPlace tw_981 (c_X10_isPlace l G _ (i := pp) ⟨by omega, by omega⟩) hM rfl hl.1 rfl (Nat.le_of_ble_eq_true rfl) ⟨rfl, rfl, Nat.le_of_ble_eq_true rfl, Nat.le_of_ble_eq_true rfl, Nat.zero_le _, Nat.zero_le _⟩ dX10_shape_1 hS (fun z_1 E1 H locs hp hM hS => ?_)
  obtain ⟨hz_1, hEq⟩ := hp
  rw [hEq] at hM
  have hz_1b := if01 hz_1
  refine z_if_eq (tgt := 45) C0.1 C0.2.1 dX10_shape_4 (by decide) ⟨by omega, by omega⟩ (fun c_4 => ?_) (fun c_4 => ?_)
  · skip
    refine lv_iconst (v := zI (-1)) C0.1 C0.2.1 dX10_shape_45 rfl ?_
    exact mm_iret (z := (-1)) C0 hr hlk hM hS dX10_shape_46 (by have he : pf_shape S pp kd k = ((-1), S) := (by unfold pf_shape; rw [if_neg (fun q => by have q9 := bq_y q.2; unfold okSh at q9; omega)]); rw [he]; exact ⟨rfl, hX0.rf, fun _ _ => rfl⟩)
  · skip
    refine lv_iload_n C0.1 C0.2.1 dX10_shape_7 rfl (lv_at hl 2 rfl) ?_
    refine z_i2l C0.1 C0.2.1 dX10_shape_8 ⟨by omega, by omega⟩ ?_
    refine lv_lconst (v := zL 0) C0.1 C0.2.1 dX10_shape_9 rfl ?_
    refine mm_ldc2 (z := 4) C0 tw_1005 rfl dX10_shape_10 ?_
    refine mm_callSi (As := [.long (zL (kd)), .long (zL (0)), .long (zL (4))]) C0 sw_X10_in tw_985 (c_X10_in l G _ (v := kd) (lo := 0) (hi := 4) ⟨by omega, by omega⟩ ⟨by omega, by omega⟩ ⟨by omega, by omega⟩) hM rfl hl.1 rfl (Nat.le_of_ble_eq_true rfl) ⟨rfl, rfl, Nat.le_of_ble_eq_true rfl, Nat.le_of_ble_eq_true rfl, Nat.zero_le _, Nat.zero_le _⟩ dX10_shape_13 hS (fun z_13 E2 H locs hp hM hS => ?_)
    obtain ⟨hz_13, hEq⟩ := hp
    rw [hEq] at hM
    have hz_13b := if01 hz_13
    refine z_if_eq (tgt := 45) C0.1 C0.2.1 dX10_shape_16 (by decide) ⟨by omega, by omega⟩ (fun c_16 => ?_) (fun c_16 => ?_)
    · skip
      refine lv_iconst (v := zI (-1)) C0.1 C0.2.1 dX10_shape_45 rfl ?_
      exact mm_iret (z := (-1)) C0 hr hlk hM hS dX10_shape_46 (by have he : pf_shape S pp kd k = ((-1), S) := (by unfold pf_shape; rw [if_neg (fun q => by have q9 := bq_y q.2; unfold okSh at q9; omega)]); rw [he]; exact ⟨rfl, hX0.rf, fun _ _ => rfl⟩)
    · skip
      refine lv_iload_n C0.1 C0.2.1 dX10_shape_19 rfl (lv_at hl 2 rfl) ?_
      refine lv_iconst (v := zI 3) C0.1 C0.2.1 dX10_shape_20 rfl ?_
      refine z_icmp_ge (tgt := 31) C0.1 C0.2.1 dX10_shape_21 (by decide) ⟨by omega, by omega⟩ ⟨by omega, by omega⟩ (fun c_21 => ?_) (fun c_21 => ?_)
      · skip
        refine lv_iload_n C0.1 C0.2.1 dX10_shape_31 rfl (lv_at hl 3 rfl) ?_
        refine z_i2l C0.1 C0.2.1 dX10_shape_32 ⟨by omega, by omega⟩ ?_
        refine mm_ldc2 (z := 3) C0 tw_1006 rfl dX10_shape_33 ?_
        refine mm_ldc2 (z := 99) C0 tw_1007 rfl dX10_shape_36 ?_
        refine mm_callSi (As := [.long (zL (k)), .long (zL (3)), .long (zL (99))]) C0 sw_X10_in tw_985 (c_X10_in l G _ (v := k) (lo := 3) (hi := 99) ⟨by omega, by omega⟩ ⟨by omega, by omega⟩ ⟨by omega, by omega⟩) hM rfl hl.1 rfl (Nat.le_of_ble_eq_true rfl) ⟨rfl, rfl, Nat.le_of_ble_eq_true rfl, Nat.le_of_ble_eq_true rfl, Nat.zero_le _, Nat.zero_le _⟩ dX10_shape_39 hS (fun z_39 E3 H locs hp hM hS => ?_)
        obtain ⟨hz_39, hEq⟩ := hp
        rw [hEq] at hM
        have hz_39b := if01 hz_39
        refine z_if_ne (tgt := 47) C0.1 C0.2.1 dX10_shape_42 (by decide) ⟨by omega, by omega⟩ (fun c_42 => ?_) (fun c_42 => ?_)
        · skip
          obtain ⟨i, hpi⟩ : ∃ i : Nat, pp = (i : Int) := ⟨(pp).toNat, by omega⟩
          have hi_i : i < 8 := by omega
          have ht_i : (pp).toNat = i := by omega
          obtain ⟨ho_i1, ho_i2, ho_i3, ho_i4⟩ := hPk i hi_i
          obtain ⟨hh_i, hc_i⟩ := hPa i hi_i
          have hv_i := hRp i hi_i
          refine lv_aload_n C0.1 C0.2.1 dX10_shape_47 rfl (lv_at hl 0 rfl) ?_
          refine mm_get (fs := [.ref (h + 1), .ref (h + 2), .ref (h + 3), .ref (h + 4), .int (zI (((S.1.2.2 : Nat) : Int))), .int (zI (x2)), .long (zL (x3)), .ref (h + 5), .ref (h + 6), .ref (h + 7), .ref (h + 8), .int (zI (x4)), .int (zI (x5)), .int (zI (x6)), .int (zI (x7)), .int (zI (S.1.1)), .ref (h + 9), .ref (h + 10), .ref (h + 11), .ref (h + 12)]) C0 (C := RX10) (T := TX10) (N := 20) iG_X10 hM (hO) rfl 1 (by decide) tw_917 rfl rfl dX10_shape_48 ?_
          refine lv_iload_n C0.1 C0.2.1 dX10_shape_51 rfl (lv_at hl 1 rfl) ?_
          refine lv_iconst (v := zI 2) C0.1 C0.2.1 dX10_shape_52 rfl ?_
          refine lv_iload_n C0.1 C0.2.1 dX10_shape_53 rfl (lv_at hl 2 rfl) ?_
          refine z_iadd C0.1 C0.2.1 dX10_shape_54 ?_
          refine mm_iast C0 hM hS (g := fh) (hH) (i) (i := pp) (x := ((2) + (kd))) (by omega) (by omega) (by decide) dX10_shape_55 (fun H locs hM hS hsz => ?_)
          obtain ⟨E4, hE4⟩ : ∃ X : mE, X = mm_up E0 (h + 2) (mm_I G 8 (zup (fh) (i) (((2) + (kd))))) := ⟨_, rfl⟩
          replace hM : mm_M G E4 H := by rw [hE4]; exact hM
          have frs : ∀ q : Nat, q ≠ h + 2 → E4 q = E0 q := fun q h => by rw [hE4]; exact mm_up_n _ _ h
          have hat : E4 (h + 2) = some (mm_I G 8 (zup (fh) (i) (((2) + (kd))))) := by rw [hE4]; exact mm_up_s _ _ _
          have hH := hat
          have fq := frs
          have hO := ro.kept hO (frs _ (by omega))
          have hR := rg.kept hR (frs _ (by omega))
          have hC := (frs _ (by omega)).trans hC
          have hfr := (fun q h => (frs q (by omega)).trans (hfr q h) : ∀ q : Nat, (q < h ∨ h + 13 ≤ q) → E4 q = E0 q)
          refine lv_aload_n C0.1 C0.2.1 dX10_shape_56 rfl (lv_at hl 0 rfl) ?_
          refine mm_get (fs := [.ref (h + 1), .ref (h + 2), .ref (h + 3), .ref (h + 4), .int (zI (((S.1.2.2 : Nat) : Int))), .int (zI (x2)), .long (zL (x3)), .ref (h + 5), .ref (h + 6), .ref (h + 7), .ref (h + 8), .int (zI (x4)), .int (zI (x5)), .int (zI (x6)), .int (zI (x7)), .int (zI (S.1.1)), .ref (h + 9), .ref (h + 10), .ref (h + 11), .ref (h + 12)]) C0 (C := RX10) (T := TX10) (N := 20) iG_X10 hM (hO) rfl 2 (by decide) tw_918 rfl rfl dX10_shape_57 ?_
          refine lv_iload_n C0.1 C0.2.1 dX10_shape_60 rfl (lv_at hl 1 rfl) ?_
          refine lv_iload_n C0.1 C0.2.1 dX10_shape_61 rfl (lv_at hl 3 rfl) ?_
          refine mm_iast C0 hM hS (g := fc) (hC) (i) (i := pp) (x := k) (by omega) (by omega) (by decide) dX10_shape_62 (fun H locs hM hS hsz => ?_)
          obtain ⟨E5, hE5⟩ : ∃ X : mE, X = mm_up E4 (h + 3) (mm_I G 8 (zup (fc) (i) (k))) := ⟨_, rfl⟩
          replace hM : mm_M G E5 H := by rw [hE5]; exact hM
          have frs : ∀ q : Nat, q ≠ h + 3 → E5 q = E4 q := fun q h => by rw [hE5]; exact mm_up_n _ _ h
          have hat : E5 (h + 3) = some (mm_I G 8 (zup (fc) (i) (k))) := by rw [hE5]; exact mm_up_s _ _ _
          have hC := hat
          have hg9 : ∀ q, (q ≠ h + 1 ∧ q ≠ h + 2 ∧ q ≠ h + 3) → E5 q = E0 q := fun q h => (frs q (by omega)).trans (fq q (by omega))
          have hO := ro.kept hO (frs _ (by omega))
          have hR := rg.kept hR (frs _ (by omega))
          have hH := (frs _ (by omega)).trans hH
          have hfr := (fun q h => (frs q (by omega)).trans (hfr q h) : ∀ q : Nat, (q < h ∨ h + 13 ≤ q) → E5 q = E0 q)
          refine lv_iconst (v := zI 1) C0.1 C0.2.1 dX10_shape_63 rfl ?_
          exact mm_iret (z := 1) C0 hr hlk hM hS dX10_shape_64 (by have he : pf_shape S pp kd k = (1, sPut S i (2 + kd.toNat) k.toNat (S.2.1.2.2 i)) := (by unfold pf_shape; rw [if_pos ⟨by omega, bq_t (by unfold okSh; omega)⟩, ht_i]); rw [he]; exact ⟨rfl, (hX0.put (w := 2 + kd.toNat) (k := k.toNat) (n := S.2.1.2.2 i) hi_i hR hv_i (fun _ _ => rfl) hH (zupN (by omega) (fun i hi => (hPa i hi).1)) hC (zupN (by omega) (fun i hi => (hPa i hi).2)) hg9).rf, hfr⟩)
        · skip
          refine lv_iconst (v := zI (-1)) C0.1 C0.2.1 dX10_shape_45 rfl ?_
          exact mm_iret (z := (-1)) C0 hr hlk hM hS dX10_shape_46 (by have he : pf_shape S pp kd k = ((-1), S) := (by unfold pf_shape; rw [if_neg (fun q => by have q9 := bq_y q.2; unfold okSh at q9; omega)]); rw [he]; exact ⟨rfl, hX0.rf, fun _ _ => rfl⟩)
      · skip
        refine lv_iload_n C0.1 C0.2.1 dX10_shape_24 rfl (lv_at hl 3 rfl) ?_
        refine z_if_eq (tgt := 47) C0.1 C0.2.1 dX10_shape_25 (by decide) ⟨by omega, by omega⟩ (fun c_25 => ?_) (fun c_25 => ?_)
        · skip
          obtain ⟨i, hpi⟩ : ∃ i : Nat, pp = (i : Int) := ⟨(pp).toNat, by omega⟩
          have hi_i : i < 8 := by omega
          have ht_i : (pp).toNat = i := by omega
          obtain ⟨ho_i1, ho_i2, ho_i3, ho_i4⟩ := hPk i hi_i
          obtain ⟨hh_i, hc_i⟩ := hPa i hi_i
          have hv_i := hRp i hi_i
          refine lv_aload_n C0.1 C0.2.1 dX10_shape_47 rfl (lv_at hl 0 rfl) ?_
          refine mm_get (fs := [.ref (h + 1), .ref (h + 2), .ref (h + 3), .ref (h + 4), .int (zI (((S.1.2.2 : Nat) : Int))), .int (zI (x2)), .long (zL (x3)), .ref (h + 5), .ref (h + 6), .ref (h + 7), .ref (h + 8), .int (zI (x4)), .int (zI (x5)), .int (zI (x6)), .int (zI (x7)), .int (zI (S.1.1)), .ref (h + 9), .ref (h + 10), .ref (h + 11), .ref (h + 12)]) C0 (C := RX10) (T := TX10) (N := 20) iG_X10 hM (hO) rfl 1 (by decide) tw_917 rfl rfl dX10_shape_48 ?_
          refine lv_iload_n C0.1 C0.2.1 dX10_shape_51 rfl (lv_at hl 1 rfl) ?_
          refine lv_iconst (v := zI 2) C0.1 C0.2.1 dX10_shape_52 rfl ?_
          refine lv_iload_n C0.1 C0.2.1 dX10_shape_53 rfl (lv_at hl 2 rfl) ?_
          refine z_iadd C0.1 C0.2.1 dX10_shape_54 ?_
          refine mm_iast C0 hM hS (g := fh) (hH) (i) (i := pp) (x := ((2) + (kd))) (by omega) (by omega) (by decide) dX10_shape_55 (fun H locs hM hS hsz => ?_)
          obtain ⟨E6, hE6⟩ : ∃ X : mE, X = mm_up E0 (h + 2) (mm_I G 8 (zup (fh) (i) (((2) + (kd))))) := ⟨_, rfl⟩
          replace hM : mm_M G E6 H := by rw [hE6]; exact hM
          have frs : ∀ q : Nat, q ≠ h + 2 → E6 q = E0 q := fun q h => by rw [hE6]; exact mm_up_n _ _ h
          have hat : E6 (h + 2) = some (mm_I G 8 (zup (fh) (i) (((2) + (kd))))) := by rw [hE6]; exact mm_up_s _ _ _
          have hH := hat
          have fq := frs
          have hO := ro.kept hO (frs _ (by omega))
          have hR := rg.kept hR (frs _ (by omega))
          have hC := (frs _ (by omega)).trans hC
          have hfr := (fun q h => (frs q (by omega)).trans (hfr q h) : ∀ q : Nat, (q < h ∨ h + 13 ≤ q) → E6 q = E0 q)
          refine lv_aload_n C0.1 C0.2.1 dX10_shape_56 rfl (lv_at hl 0 rfl) ?_
          refine mm_get (fs := [.ref (h + 1), .ref (h + 2), .ref (h + 3), .ref (h + 4), .int (zI (((S.1.2.2 : Nat) : Int))), .int (zI (x2)), .long (zL (x3)), .ref (h + 5), .ref (h + 6), .ref (h + 7), .ref (h + 8), .int (zI (x4)), .int (zI (x5)), .int (zI (x6)), .int (zI (x7)), .int (zI (S.1.1)), .ref (h + 9), .ref (h + 10), .ref (h + 11), .ref (h + 12)]) C0 (C := RX10) (T := TX10) (N := 20) iG_X10 hM (hO) rfl 2 (by decide) tw_918 rfl rfl dX10_shape_57 ?_
          refine lv_iload_n C0.1 C0.2.1 dX10_shape_60 rfl (lv_at hl 1 rfl) ?_
          refine lv_iload_n C0.1 C0.2.1 dX10_shape_61 rfl (lv_at hl 3 rfl) ?_
          refine mm_iast C0 hM hS (g := fc) (hC) (i) (i := pp) (x := k) (by omega) (by omega) (by decide) dX10_shape_62 (fun H locs hM hS hsz => ?_)
          obtain ⟨E7, hE7⟩ : ∃ X : mE, X = mm_up E6 (h + 3) (mm_I G 8 (zup (fc) (i) (k))) := ⟨_, rfl⟩
          replace hM : mm_M G E7 H := by rw [hE7]; exact hM
          have frs : ∀ q : Nat, q ≠ h + 3 → E7 q = E6 q := fun q h => by rw [hE7]; exact mm_up_n _ _ h
          have hat : E7 (h + 3) = some (mm_I G 8 (zup (fc) (i) (k))) := by rw [hE7]; exact mm_up_s _ _ _
          have hC := hat
          have hg9 : ∀ q, (q ≠ h + 1 ∧ q ≠ h + 2 ∧ q ≠ h + 3) → E7 q = E0 q := fun q h => (frs q (by omega)).trans (fq q (by omega))
          have hO := ro.kept hO (frs _ (by omega))
          have hR := rg.kept hR (frs _ (by omega))
          have hH := (frs _ (by omega)).trans hH
          have hfr := (fun q h => (frs q (by omega)).trans (hfr q h) : ∀ q : Nat, (q < h ∨ h + 13 ≤ q) → E7 q = E0 q)
          refine lv_iconst (v := zI 1) C0.1 C0.2.1 dX10_shape_63 rfl ?_
          exact mm_iret (z := 1) C0 hr hlk hM hS dX10_shape_64 (by have he : pf_shape S pp kd k = (1, sPut S i (2 + kd.toNat) k.toNat (S.2.1.2.2 i)) := (by unfold pf_shape; rw [if_pos ⟨by omega, bq_t (by unfold okSh; omega)⟩, ht_i]); rw [he]; exact ⟨rfl, (hX0.put (w := 2 + kd.toNat) (k := k.toNat) (n := S.2.1.2.2 i) hi_i hR hv_i (fun _ _ => rfl) hH (zupN (by omega) (fun i hi => (hPa i hi).1)) hC (zupN (by omega) (fun i hi => (hPa i hi).2)) hg9).rf, hfr⟩)
        · skip
          refine lv_goto (tgt := 45) C0.1 C0.2.1 dX10_shape_28 (by decide) ?_
          refine lv_iconst (v := zI (-1)) C0.1 C0.2.1 dX10_shape_45 rfl ?_
          exact mm_iret (z := (-1)) C0 hr hlk hM hS dX10_shape_46 (by have he : pf_shape S pp kd k = ((-1), S) := (by unfold pf_shape; rw [if_neg (fun q => by have q9 := bq_y q.2; unfold okSh at q9; omega)]); rw [he]; exact ⟨rfl, hX0.rf, fun _ _ => rfl⟩)

def rX10_empty : Room := { frames := 2, cells := 0, slots := 0, locals := 45 }
theorem vw_X10_empty : mm_Vw RX10 yX10_empty cX10_empty 3 (some .int) 1 := ⟨tw_1009, tw_1010, tw_10, tw_1011, by decide +kernel⟩
set_option maxHeartbeats 4000000 in
set_option maxRecDepth 100000 in
theorem c_X10_empty (l : Launch) (G : mG) (E0 : mE) {h : Nat} {S : mST} (hF : rf G E0 h S) (hok : okR S) {pp : Int} (hr_pp : rI pp) : mm_Ci l yX10_empty (.code yX10_empty cX10_empty 3 (some .int) :: wsG) rX10_empty G [.ref (h), .int (zI (pp))] E0 (fun z E => z = (pf_empty S pp).1 ∧ rf G E h (pf_empty S pp).2 ∧ ∀ q : Nat, (q < h ∨ h + 13 ≤ q) → E q = E0 q) := by
  refine mm_of_i (by decide +kernel) (Nat.le_of_ble_eq_true rfl) ?_
  intro p e s m args below meth c ls C0 hr hlk hM hl hS
  have hl : lv_has ls 3 [(0, .ref (h)), (1, .int (zI (pp)))] := hl
  obtain ⟨hr_pp1, hr_pp2⟩ := hr_pp
  obtain ⟨R, x2, x3, x4, x5, x6, x7, hX⟩ := hF
  have hX0 := hX
  obtain ⟨hTk, hPk, hKk, hSk⟩ := hok
  obtain ⟨hO, hR, hRp, ⟨fh, fc, hH, hC, hPa⟩, hTp, hCl, hKp, hSh, him⟩ := hX
  have hfr : ∀ q : Nat, (q < h ∨ h + 13 ≤ q) → E0 q = E0 q := fun _ _ => rfl
  refine lv_iload_n C0.1 C0.2.1 dX10_empty_0 rfl (lv_at hl 1 rfl) ?_
  refine mm_callSi (As := [.int (zI (pp))]) C0 sw_X10_isPlace tw_981 (c_X10_isPlace l G _ (i := pp) ⟨by omega, by omega⟩) hM rfl hl.1 rfl (Nat.le_of_ble_eq_true rfl) ⟨rfl, rfl, Nat.le_of_ble_eq_true rfl, Nat.le_of_ble_eq_true rfl, Nat.zero_le _, Nat.zero_le _⟩ dX10_empty_1 hS (fun z_1 E1 H locs hp hM hS => ?_)
  obtain ⟨hz_1, hEq⟩ := hp
  rw [hEq] at hM
  have hz_1b := if01 hz_1
  refine z_if_ne (tgt := 9) C0.1 C0.2.1 dX10_empty_4 (by decide) ⟨by omega, by omega⟩ (fun c_4 => ?_) (fun c_4 => ?_)
  · skip
    obtain ⟨i, hpi⟩ : ∃ i : Nat, pp = (i : Int) := ⟨(pp).toNat, by omega⟩
    have hi_i : i < 8 := by omega
    have ht_i : (pp).toNat = i := by omega
    obtain ⟨ho_i1, ho_i2, ho_i3, ho_i4⟩ := hPk i hi_i
    obtain ⟨hh_i, hc_i⟩ := hPa i hi_i
    have hv_i := hRp i hi_i
    refine lv_aload_n C0.1 C0.2.1 dX10_empty_9 rfl (lv_at hl 0 rfl) ?_
    refine mm_get (fs := [.ref (h + 1), .ref (h + 2), .ref (h + 3), .ref (h + 4), .int (zI (((S.1.2.2 : Nat) : Int))), .int (zI (x2)), .long (zL (x3)), .ref (h + 5), .ref (h + 6), .ref (h + 7), .ref (h + 8), .int (zI (x4)), .int (zI (x5)), .int (zI (x6)), .int (zI (x7)), .int (zI (S.1.1)), .ref (h + 9), .ref (h + 10), .ref (h + 11), .ref (h + 12)]) C0 (C := RX10) (T := TX10) (N := 20) iG_X10 hM (hO) rfl 1 (by decide) tw_917 rfl rfl dX10_empty_10 ?_
    refine lv_iload_n C0.1 C0.2.1 dX10_empty_13 rfl (lv_at hl 1 rfl) ?_
    refine mm_iald C0 hM (g := fh) (hH) (i) (i := pp) (by omega) (by omega) (by decide) dX10_empty_14 ?_
    refine z_asI (b := (S.2.1.1 i : Int)) (hh_i) ?_
    refine lv_istore_n (lv' := [(2, .int (zI ((S.2.1.1 i : Int)))), (0, .ref (h)), (1, .int (zI (pp)))]) C0.1 C0.2.1 dX10_empty_15 rfl hl (by decide) rfl (fun ls hl => ?_)
    refine lv_aload_n C0.1 C0.2.1 dX10_empty_16 rfl (lv_at hl 1 rfl) ?_
    refine mm_get (fs := [.ref (h + 1), .ref (h + 2), .ref (h + 3), .ref (h + 4), .int (zI (((S.1.2.2 : Nat) : Int))), .int (zI (x2)), .long (zL (x3)), .ref (h + 5), .ref (h + 6), .ref (h + 7), .ref (h + 8), .int (zI (x4)), .int (zI (x5)), .int (zI (x6)), .int (zI (x7)), .int (zI (S.1.1)), .ref (h + 9), .ref (h + 10), .ref (h + 11), .ref (h + 12)]) C0 (C := RX10) (T := TX10) (N := 20) iG_X10 hM (hO) rfl 1 (by decide) tw_917 rfl rfl dX10_empty_17 ?_
    refine lv_iload_n C0.1 C0.2.1 dX10_empty_20 rfl (lv_at hl 2 rfl) ?_
    refine lv_iconst (v := zI 0) C0.1 C0.2.1 dX10_empty_21 rfl ?_
    refine mm_iast C0 hM hS (g := fh) (hH) (i) (i := pp) (x := 0) (by omega) (by omega) (by decide) dX10_empty_22 (fun H locs hM hS hsz => ?_)
    obtain ⟨E2, hE2⟩ : ∃ X : mE, X = mm_up E0 (h + 2) (mm_I G 8 (zup (fh) (i) (0))) := ⟨_, rfl⟩
    replace hM : mm_M G E2 H := by rw [hE2]; exact hM
    have frs : ∀ q : Nat, q ≠ h + 2 → E2 q = E0 q := fun q h => by rw [hE2]; exact mm_up_n _ _ h
    have hat : E2 (h + 2) = some (mm_I G 8 (zup (fh) (i) (0))) := by rw [hE2]; exact mm_up_s _ _ _
    have hH := hat
    have hO := ro.kept hO (frs _ (by omega))
    have hR := rg.kept hR (frs _ (by omega))
    have hC := (frs _ (by omega)).trans hC
    have hfr := (fun q h => (frs q (by omega)).trans (hfr q h) : ∀ q : Nat, (q < h ∨ h + 13 ≤ q) → E2 q = E0 q)
    refine lv_iload_n C0.1 C0.2.1 dX10_empty_23 rfl (lv_at hl 0 rfl) ?_
    exact mm_iret (z := (S.2.1.1 i : Int)) C0 hr hlk hM hS dX10_empty_24 (by have he : pf_empty S pp = ((S.2.1.1 i : Int), sPut S i 0 (S.2.1.2.1 i) (S.2.1.2.2 i)) := (by unfold pf_empty; rw [if_pos (by omega), ht_i]); rw [he]; exact ⟨rfl, (hX0.put (w := 0) (k := S.2.1.2.1 i) (n := S.2.1.2.2 i) hi_i hR hv_i (fun _ _ => rfl) hH (zupN rfl (fun i hi => (hPa i hi).1)) hC (upN_id (fun i hi => (hPa i hi).2)) (fun q h => frs q (by omega))).rf, hfr⟩)
  · skip
    refine lv_iconst (v := zI (-1)) C0.1 C0.2.1 dX10_empty_7 rfl ?_
    exact mm_iret (z := (-1)) C0 hr hlk hM hS dX10_empty_8 (by have he : pf_empty S pp = ((-1), S) := (by unfold pf_empty; rw [if_neg (by omega)]); rw [he]; exact ⟨rfl, hX0.rf, fun _ _ => rfl⟩)

def rX10_told : Room := { frames := 2, cells := 0, slots := 0, locals := 45 }
theorem vw_X10_told : mm_Vw RX10 yX10_told cX10_told 2 (some .int) 1 := ⟨tw_1013, tw_1014, tw_10, tw_1015, by decide +kernel⟩
set_option maxHeartbeats 4000000 in
set_option maxRecDepth 100000 in
theorem c_X10_told (l : Launch) (G : mG) (E0 : mE) {h : Nat} {S : mST} (hF : rf G E0 h S) (hok : okR S) {pp : Int} (hr_pp : rI pp) : mm_Ci l yX10_told (.code yX10_told cX10_told 2 (some .int) :: wsG) rX10_told G [.ref (h), .int (zI (pp))] E0 (fun z E => z = (pf_told S pp).1 ∧ rf G E h (pf_told S pp).2 ∧ ∀ q : Nat, (q < h ∨ h + 13 ≤ q) → E q = E0 q) := by
  refine mm_of_i (by decide +kernel) (Nat.le_of_ble_eq_true rfl) ?_
  intro p e s m args below meth c ls C0 hr hlk hM hl hS
  have hl : lv_has ls 2 [(0, .ref (h)), (1, .int (zI (pp)))] := hl
  obtain ⟨hr_pp1, hr_pp2⟩ := hr_pp
  obtain ⟨R, x2, x3, x4, x5, x6, x7, hX⟩ := hF
  have hX0 := hX
  obtain ⟨hTk, hPk, hKk, hSk⟩ := hok
  obtain ⟨hO, hR, hRp, ⟨fh, fc, hH, hC, hPa⟩, hTp, hCl, hKp, hSh, him⟩ := hX
  
  refine lv_iload_n C0.1 C0.2.1 dX10_told_0 rfl (lv_at hl 1 rfl) ?_
  refine mm_callSi (As := [.int (zI (pp))]) C0 sw_X10_isPlace tw_981 (c_X10_isPlace l G _ (i := pp) ⟨by omega, by omega⟩) hM rfl hl.1 rfl (Nat.le_of_ble_eq_true rfl) ⟨rfl, rfl, Nat.le_of_ble_eq_true rfl, Nat.le_of_ble_eq_true rfl, Nat.zero_le _, Nat.zero_le _⟩ dX10_told_1 hS (fun z_1 E1 H locs hp hM hS => ?_)
  obtain ⟨hz_1, hEq⟩ := hp
  rw [hEq] at hM
  have hz_1b := if01 hz_1
  refine z_if_eq (tgt := 16) C0.1 C0.2.1 dX10_told_4 (by decide) ⟨by omega, by omega⟩ (fun c_4 => ?_) (fun c_4 => ?_)
  · skip
    refine lv_iconst (v := zI (-1)) C0.1 C0.2.1 dX10_told_16 rfl ?_
    exact mm_iret (z := (-1)) C0 hr hlk hM hS dX10_told_17 (by have he : pf_told S pp = ((-1), S) := (by unfold pf_told; rw [if_neg (by omega)]); rw [he]; exact ⟨rfl, hX0.rf, fun _ _ => rfl⟩)
  · skip
    obtain ⟨i, hpi⟩ : ∃ i : Nat, pp = (i : Int) := ⟨(pp).toNat, by omega⟩
    have hi_i : i < 8 := by omega
    have ht_i : (pp).toNat = i := by omega
    obtain ⟨ho_i1, ho_i2, ho_i3, ho_i4⟩ := hPk i hi_i
    obtain ⟨hh_i, hc_i⟩ := hPa i hi_i
    have hv_i := hRp i hi_i
    refine lv_aload_n C0.1 C0.2.1 dX10_told_7 rfl (lv_at hl 0 rfl) ?_
    refine mm_get (fs := [.ref (h + 1), .ref (h + 2), .ref (h + 3), .ref (h + 4), .int (zI (((S.1.2.2 : Nat) : Int))), .int (zI (x2)), .long (zL (x3)), .ref (h + 5), .ref (h + 6), .ref (h + 7), .ref (h + 8), .int (zI (x4)), .int (zI (x5)), .int (zI (x6)), .int (zI (x7)), .int (zI (S.1.1)), .ref (h + 9), .ref (h + 10), .ref (h + 11), .ref (h + 12)]) C0 (C := RX10) (T := TX10) (N := 20) iG_X10 hM (hO) rfl 1 (by decide) tw_917 rfl rfl dX10_told_8 ?_
    refine lv_iload_n C0.1 C0.2.1 dX10_told_11 rfl (lv_at hl 1 rfl) ?_
    refine mm_iald C0 hM (g := fh) (hH) (i) (i := pp) (by omega) (by omega) (by decide) dX10_told_12 ?_
    refine z_asI (b := (S.2.1.1 i : Int)) (hh_i) ?_
    refine lv_goto (tgt := 17) C0.1 C0.2.1 dX10_told_13 (by decide) ?_
    exact mm_iret (z := (S.2.1.1 i : Int)) C0 hr hlk hM hS dX10_told_17 (by have he : pf_told S pp = ((S.2.1.1 i : Int), S) := (by unfold pf_told; rw [if_pos (by omega), ht_i]); rw [he]; exact ⟨rfl, hX0.rf, fun _ _ => rfl⟩)

def rX10_figures : Room := { frames := 2, cells := 0, slots := 0, locals := 46 }
theorem vw_X10_figures : mm_Vw RX10 yX10_figures cX10_figures 3 (some .int) 1 := ⟨tw_1110, tw_1111, tw_10, tw_1112, by decide +kernel⟩
set_option maxHeartbeats 4000000 in
set_option maxRecDepth 100000 in
theorem c_X10_figures (l : Launch) (G : mG) (E0 : mE) {h : Nat} {S : mST} (hF : rf G E0 h S) (hok : okR S) {pp : Int} (hr_pp : rI pp) : mm_Ci l yX10_figures (.code yX10_figures cX10_figures 3 (some .int) :: wsG) rX10_figures G [.ref (h), .int (zI (pp))] E0 (fun z E => z = (pf_figures S pp).1 ∧ rf G E h (pf_figures S pp).2 ∧ ∀ q : Nat, (q < h ∨ h + 13 ≤ q) → E q = E0 q) := by
  refine mm_of_i (by decide +kernel) (Nat.le_of_ble_eq_true rfl) ?_
  intro p e s m args below meth c ls C0 hr hlk hM hl hS
  have hl : lv_has ls 3 [(0, .ref (h)), (1, .int (zI (pp)))] := hl
  obtain ⟨hr_pp1, hr_pp2⟩ := hr_pp
  obtain ⟨R, x2, x3, x4, x5, x6, x7, hX⟩ := hF
  have hX0 := hX
  obtain ⟨hTk, hPk, hKk, hSk⟩ := hok
  obtain ⟨hO, hR, hRp, ⟨fh, fc, hH, hC, hPa⟩, hTp, hCl, hKp, hSh, him⟩ := hX
  
  refine lv_iload_n C0.1 C0.2.1 dX10_figures_0 rfl (lv_at hl 1 rfl) ?_
  refine mm_callSi (As := [.int (zI (pp))]) C0 sw_X10_isPlace tw_981 (c_X10_isPlace l G _ (i := pp) ⟨by omega, by omega⟩) hM rfl hl.1 rfl (Nat.le_of_ble_eq_true rfl) ⟨rfl, rfl, Nat.le_of_ble_eq_true rfl, Nat.le_of_ble_eq_true rfl, Nat.zero_le _, Nat.zero_le _⟩ dX10_figures_1 hS (fun z_1 E1 H locs hp hM hS => ?_)
  obtain ⟨hz_1, hEq⟩ := hp
  rw [hEq] at hM
  have hz_1b := if01 hz_1
  refine z_if_ne (tgt := 9) C0.1 C0.2.1 dX10_figures_4 (by decide) ⟨by omega, by omega⟩ (fun c_4 => ?_) (fun c_4 => ?_)
  · skip
    obtain ⟨i, hpi⟩ : ∃ i : Nat, pp = (i : Int) := ⟨(pp).toNat, by omega⟩
    have hi_i : i < 8 := by omega
    have ht_i : (pp).toNat = i := by omega
    obtain ⟨ho_i1, ho_i2, ho_i3, ho_i4⟩ := hPk i hi_i
    obtain ⟨hh_i, hc_i⟩ := hPa i hi_i
    have hv_i := hRp i hi_i
    refine lv_aload_n C0.1 C0.2.1 dX10_figures_9 rfl (lv_at hl 0 rfl) ?_
    refine lv_iload_n C0.1 C0.2.1 dX10_figures_10 rfl (lv_at hl 1 rfl) ?_
    refine lv_iconst (v := zI 0) C0.1 C0.2.1 dX10_figures_11 rfl ?_
    refine mm_callVi (As := [.int (zI (pp)), .int (zI (0))]) C0 vw_X10_lacks tw_1113 (c_X10_lacks l G _ hO hH hpi (by omega) (v := 0) (w := S.2.1.1 i) (by omega) hh_i ho_i1) hM (hO) rfl rfl hl.1 rfl (Nat.le_of_ble_eq_true rfl) ⟨rfl, rfl, Nat.le_of_ble_eq_true rfl, Nat.le_of_ble_eq_true rfl, Nat.zero_le _, Nat.zero_le _⟩ dX10_figures_12 hS (fun z_12 E2 H locs hp hM hS => ?_)
    obtain ⟨hz_12, hEq⟩ := hp
    rw [hEq] at hM
    refine z_asI (b := (nFau (S.2.1.1 i))) (hz_12.trans (if_pos rfl)) ?_
    obtain ⟨hnb_i1, hnb_i2⟩ := nFau_b (S.2.1.1 i)
    refine lv_istore_n (lv' := [(2, .int (zI ((nFau (S.2.1.1 i))))), (0, .ref (h)), (1, .int (zI (pp)))]) C0.1 C0.2.1 dX10_figures_15 rfl hl (by decide) rfl (fun ls hl => ?_)
    refine lv_iload_n C0.1 C0.2.1 dX10_figures_16 rfl (lv_at hl 0 rfl) ?_
    refine z_if_ge (tgt := 24) C0.1 C0.2.1 dX10_figures_17 (by decide) ⟨by omega, by omega⟩ (fun c_17 => ?_) (fun c_17 => ?_)
    · skip
      refine lv_aload_n C0.1 C0.2.1 dX10_figures_24 rfl (lv_at hl 1 rfl) ?_
      refine lv_iload_n C0.1 C0.2.1 dX10_figures_25 rfl (lv_at hl 2 rfl) ?_
      refine mm_callVi (As := [.int (zI (pp))]) C0 vw_X10_figuresOf tw_993 (c_X10_figuresOf l G _ hO hR hpi (by omega) hv_i) hM (hO) rfl rfl hl.1 rfl (Nat.le_of_ble_eq_true rfl) ⟨rfl, rfl, Nat.le_of_ble_eq_true rfl, Nat.le_of_ble_eq_true rfl, Nat.zero_le _, Nat.zero_le _⟩ dX10_figures_26 hS (fun z_26 E3 H locs hp hM hS => ?_)
      obtain ⟨hz_26, hEq⟩ := hp
      rw [hEq] at hM
      refine z_asI (b := (fgs (S.2.1.2.2 i) : Int)) (hz_26) ?_
      exact mm_iret (z := (fgs (S.2.1.2.2 i) : Int)) C0 hr hlk hM hS dX10_figures_29 (by have he : pf_figures S pp = ((fgs (S.2.1.2.2 i) : Int), S) := (by unfold pf_figures; rw [if_pos (by omega), ht_i, if_neg (by omega)]); rw [he]; exact ⟨rfl, hX0.rf, fun _ _ => rfl⟩)
    · skip
      refine lv_iload_n C0.1 C0.2.1 dX10_figures_20 rfl (lv_at hl 0 rfl) ?_
      refine lv_goto (tgt := 29) C0.1 C0.2.1 dX10_figures_21 (by decide) ?_
      exact mm_iret (z := (nFau (S.2.1.1 i))) C0 hr hlk hM hS dX10_figures_29 (by have he : pf_figures S pp = ((nFau (S.2.1.1 i)), S) := (by unfold pf_figures; rw [if_pos (by omega), ht_i, if_pos (by omega)]); rw [he]; exact ⟨rfl, hX0.rf, fun _ _ => rfl⟩)
  · skip
    refine lv_iconst (v := zI (-1)) C0.1 C0.2.1 dX10_figures_7 rfl ?_
    exact mm_iret (z := (-1)) C0 hr hlk hM hS dX10_figures_8 (by have he : pf_figures S pp = ((-1), S) := (by unfold pf_figures; rw [if_neg (by omega)]); rw [he]; exact ⟨rfl, hX0.rf, fun _ _ => rfl⟩)

def rX10_nine : Room := { frames := 2, cells := 0, slots := 0, locals := 45 }
theorem vw_X10_nine : mm_Vw RX10 yX10_nine cX10_nine 4 (some .int) 2 := ⟨tw_1118, tw_1119, tw_10, tw_1120, by decide +kernel⟩
set_option maxHeartbeats 4000000 in
set_option maxRecDepth 100000 in
theorem c_X10_nine (l : Launch) (G : mG) (E0 : mE) {h : Nat} {S : mST} (hF : rf G E0 h S) (hok : okR S) {pp i1 : Int} (hr_pp : rI pp) (hr_i1 : rI i1) : mm_Ci l yX10_nine (.code yX10_nine cX10_nine 4 (some .int) :: wsG) rX10_nine G [.ref (h), .int (zI (pp)), .int (zI (i1))] E0 (fun z E => z = (pf_nine S pp i1).1 ∧ rf G E h (pf_nine S pp i1).2 ∧ ∀ q : Nat, (q < h ∨ h + 13 ≤ q) → E q = E0 q) := by
  refine mm_of_i (by decide +kernel) (Nat.le_of_ble_eq_true rfl) ?_
  intro p e s m args below meth c ls C0 hr hlk hM hl hS
  have hl : lv_has ls 4 [(0, .ref (h)), (1, .int (zI (pp))), (2, .int (zI (i1)))] := hl
  obtain ⟨hr_pp1, hr_pp2⟩ := hr_pp
  obtain ⟨hr_i11, hr_i12⟩ := hr_i1
  obtain ⟨R, x2, x3, x4, x5, x6, x7, hX⟩ := hF
  have hX0 := hX
  obtain ⟨hTk, hPk, hKk, hSk⟩ := hok
  obtain ⟨hO, hR, hRp, ⟨fh, fc, hH, hC, hPa⟩, hTp, hCl, hKp, hSh, him⟩ := hX
  obtain ⟨hB9, g, hg, hR9⟩ := id hR
  refine lv_iload_n C0.1 C0.2.1 dX10_nine_0 rfl (lv_at hl 1 rfl) ?_
  refine mm_callSi (As := [.int (zI (pp))]) C0 sw_X10_isPlace tw_981 (c_X10_isPlace l G _ (i := pp) ⟨by omega, by omega⟩) hM rfl hl.1 rfl (Nat.le_of_ble_eq_true rfl) ⟨rfl, rfl, Nat.le_of_ble_eq_true rfl, Nat.le_of_ble_eq_true rfl, Nat.zero_le _, Nat.zero_le _⟩ dX10_nine_1 hS (fun z_1 E1 H locs hp hM hS => ?_)
  obtain ⟨hz_1, hEq⟩ := hp
  rw [hEq] at hM
  have hz_1b := if01 hz_1
  refine z_if_eq (tgt := 19) C0.1 C0.2.1 dX10_nine_4 (by decide) ⟨by omega, by omega⟩ (fun c_4 => ?_) (fun c_4 => ?_)
  · skip
    refine lv_iconst (v := zI (-1)) C0.1 C0.2.1 dX10_nine_19 rfl ?_
    exact mm_iret (z := (-1)) C0 hr hlk hM hS dX10_nine_20 (by have he : pf_nine S pp i1 = ((-1), S) := (by unfold pf_nine; rw [if_neg (by omega)]); rw [he]; exact ⟨rfl, hX0.rf, fun _ _ => rfl⟩)
  · skip
    refine lv_iload_n C0.1 C0.2.1 dX10_nine_7 rfl (lv_at hl 2 rfl) ?_
    refine z_i2l C0.1 C0.2.1 dX10_nine_8 ⟨by omega, by omega⟩ ?_
    refine lv_lconst (v := zL 0) C0.1 C0.2.1 dX10_nine_9 rfl ?_
    refine mm_ldc2 (z := 23) C0 tw_1121 rfl dX10_nine_10 ?_
    refine mm_callSi (As := [.long (zL (i1)), .long (zL (0)), .long (zL (23))]) C0 sw_X10_in tw_985 (c_X10_in l G _ (v := i1) (lo := 0) (hi := 23) ⟨by omega, by omega⟩ ⟨by omega, by omega⟩ ⟨by omega, by omega⟩) hM rfl hl.1 rfl (Nat.le_of_ble_eq_true rfl) ⟨rfl, rfl, Nat.le_of_ble_eq_true rfl, Nat.le_of_ble_eq_true rfl, Nat.zero_le _, Nat.zero_le _⟩ dX10_nine_13 hS (fun z_13 E2 H locs hp hM hS => ?_)
    obtain ⟨hz_13, hEq⟩ := hp
    rw [hEq] at hM
    have hz_13b := if01 hz_13
    refine z_if_ne (tgt := 21) C0.1 C0.2.1 dX10_nine_16 (by decide) ⟨by omega, by omega⟩ (fun c_16 => ?_) (fun c_16 => ?_)
    · skip
      obtain ⟨i, hpi⟩ : ∃ i : Nat, pp = (i : Int) := ⟨(pp).toNat, by omega⟩
      have hi_i : i < 8 := by omega
      have ht_i : (pp).toNat = i := by omega
      obtain ⟨ho_i1, ho_i2, ho_i3, ho_i4⟩ := hPk i hi_i
      obtain ⟨hh_i, hc_i⟩ := hPa i hi_i
      have hv_i := hRp i hi_i
      refine lv_aload_n C0.1 C0.2.1 dX10_nine_21 rfl (lv_at hl 0 rfl) ?_
      refine lv_iload_n C0.1 C0.2.1 dX10_nine_22 rfl (lv_at hl 1 rfl) ?_
      refine lv_iconst (v := zI 0) C0.1 C0.2.1 dX10_nine_23 rfl ?_
      refine mm_callVi (As := [.int (zI (pp)), .int (zI (0))]) C0 vw_X10_lacks tw_1113 (c_X10_lacks l G _ hO hH hpi (by omega) (v := 0) (w := S.2.1.1 i) (by omega) hh_i ho_i1) hM (hO) rfl rfl hl.1 rfl (Nat.le_of_ble_eq_true rfl) ⟨rfl, rfl, Nat.le_of_ble_eq_true rfl, Nat.le_of_ble_eq_true rfl, Nat.zero_le _, Nat.zero_le _⟩ dX10_nine_24 hS (fun z_24 E3 H locs hp hM hS => ?_)
      obtain ⟨hz_24, hEq⟩ := hp
      rw [hEq] at hM
      refine z_asI (b := (nFau (S.2.1.1 i))) (hz_24.trans (if_pos rfl)) ?_
      obtain ⟨hnb_i1, hnb_i2⟩ := nFau_b (S.2.1.1 i)
      refine lv_istore_n (lv' := [(3, .int (zI ((nFau (S.2.1.1 i))))), (0, .ref (h)), (1, .int (zI (pp))), (2, .int (zI (i1)))]) C0.1 C0.2.1 dX10_nine_27 rfl hl (by decide) rfl (fun ls hl => ?_)
      refine lv_iload_n C0.1 C0.2.1 dX10_nine_28 rfl (lv_at hl 0 rfl) ?_
      refine z_if_ge (tgt := 36) C0.1 C0.2.1 dX10_nine_29 (by decide) ⟨by omega, by omega⟩ (fun c_29 => ?_) (fun c_29 => ?_)
      · skip
        refine lv_aload_n C0.1 C0.2.1 dX10_nine_36 rfl (lv_at hl 1 rfl) ?_
        refine mm_get (fs := [.ref (h + 1), .ref (h + 2), .ref (h + 3), .ref (h + 4), .int (zI (((S.1.2.2 : Nat) : Int))), .int (zI (x2)), .long (zL (x3)), .ref (h + 5), .ref (h + 6), .ref (h + 7), .ref (h + 8), .int (zI (x4)), .int (zI (x5)), .int (zI (x6)), .int (zI (x7)), .int (zI (S.1.1)), .ref (h + 9), .ref (h + 10), .ref (h + 11), .ref (h + 12)]) C0 (C := RX10) (T := TX10) (N := 20) iG_X10 hM (hO) rfl 0 (by decide) tw_916 rfl rfl dX10_nine_37 ?_
        refine lv_bipush (v := zI 80) C0.1 C0.2.1 dX10_nine_40 rfl ?_
        refine lv_iload_n C0.1 C0.2.1 dX10_nine_42 rfl (lv_at hl 2 rfl) ?_
        refine z_imul C0.1 C0.2.1 dX10_nine_43 ?_
        refine lv_iload_n C0.1 C0.2.1 dX10_nine_44 rfl (lv_at hl 3 rfl) ?_
        refine z_iadd C0.1 C0.2.1 dX10_nine_45 ?_
        refine mm_iald C0 hM (g := g) (hg) (80 * i + i1.toNat) (i := ((((80) * (pp))) + (i1))) (by omega) (by omega) (by decide) dX10_nine_46 ?_
        refine z_asI (b := (dg (S.2.1.2.2 i) i1.toNat : Int)) ((hR9 i (by omega) i1.toNat (by omega)).trans (by rw [hv_i])) ?_
        exact mm_iret (z := (dg (S.2.1.2.2 i) i1.toNat : Int)) C0 hr hlk hM hS dX10_nine_47 (by have he : pf_nine S pp i1 = ((dg (S.2.1.2.2 i) i1.toNat : Int), S) := (by unfold pf_nine; rw [if_pos (by omega), ht_i, if_neg (by omega)]); rw [he]; exact ⟨rfl, hX0.rf, fun _ _ => rfl⟩)
      · skip
        refine lv_iload_n C0.1 C0.2.1 dX10_nine_32 rfl (lv_at hl 0 rfl) ?_
        refine lv_goto (tgt := 47) C0.1 C0.2.1 dX10_nine_33 (by decide) ?_
        exact mm_iret (z := (nFau (S.2.1.1 i))) C0 hr hlk hM hS dX10_nine_47 (by have he : pf_nine S pp i1 = ((nFau (S.2.1.1 i)), S) := (by unfold pf_nine; rw [if_pos (by omega), ht_i, if_pos (by omega)]); rw [he]; exact ⟨rfl, hX0.rf, fun _ _ => rfl⟩)
    · skip
      refine lv_iconst (v := zI (-1)) C0.1 C0.2.1 dX10_nine_19 rfl ?_
      exact mm_iret (z := (-1)) C0 hr hlk hM hS dX10_nine_20 (by have he : pf_nine S pp i1 = ((-1), S) := (by unfold pf_nine; rw [if_neg (by omega)]); rw [he]; exact ⟨rfl, hX0.rf, fun _ _ => rfl⟩)

def rX10_lackTwo : Room := { frames := 1, cells := 0, slots := 0, locals := 22 }
theorem vw_X10_lackTwo : mm_Vw RX10 yX10_lackTwo cX10_lackTwo 4 (some .int) 2 := ⟨tw_1128, tp_38, tw_10, tw_1129, by decide +kernel⟩
set_option maxHeartbeats 4000000 in
set_option maxRecDepth 100000 in
theorem c_X10_lackTwo (l : Launch) (G : mG) (E0 : mE) {h : Nat} {x1 x2 x3 x4 x5 x6 x7 x8 : Int} (hO : ro G E0 h x1 x2 x3 x4 x5 x6 x7 x8) {fh : Nat → Int} (hH : E0 (h + 2) = some (mm_I G 8 fh)) {a b : Int} {i j : Nat} (hpi : a = (i : Int)) (hi_i : i < 8) (hpj : b = (j : Int)) (hi_j : j < 8) {w v : Nat} (hh_i : fh i = (w : Int)) (hh_j : fh j = (v : Int)) (hw6 : w ≤ 6) (hv6 : v ≤ 6) : mm_Ci l yX10_lackTwo (.code yX10_lackTwo cX10_lackTwo 4 (some .int) :: wsG) rX10_lackTwo G [.ref (h), .int (zI (a)), .int (zI (b))] E0 (fun z E => z = fau2 (nFau w) (nFau v) ∧ E = E0) := by
  refine mm_of_i (by decide +kernel) (Nat.le_of_ble_eq_true rfl) ?_
  intro p e s m args below meth c ls C0 hr hlk hM hl hS
  have hl : lv_has ls 4 [(0, .ref (h)), (1, .int (zI (a))), (2, .int (zI (b)))] := hl
  refine lv_aload_n C0.1 C0.2.1 dX10_lackTwo_0 rfl (lv_at hl 0 rfl) ?_
  refine lv_iload_n C0.1 C0.2.1 dX10_lackTwo_1 rfl (lv_at hl 1 rfl) ?_
  refine lv_iconst (v := zI 0) C0.1 C0.2.1 dX10_lackTwo_2 rfl ?_
  refine mm_callVi (As := [.int (zI (a)), .int (zI (0))]) C0 vw_X10_lacks tw_1113 (c_X10_lacks l G _ hO hH hpi hi_i (v := 0) (w := w) (by omega) hh_i hw6) hM (hO) rfl rfl hl.1 rfl (Nat.le_of_ble_eq_true rfl) ⟨rfl, rfl, Nat.le_of_ble_eq_true rfl, Nat.le_of_ble_eq_true rfl, Nat.zero_le _, Nat.zero_le _⟩ dX10_lackTwo_3 hS (fun z_3 E1 H locs hp hM hS => ?_)
  obtain ⟨hz_3, hEq⟩ := hp
  rw [hEq] at hM
  refine z_asI (b := (nFau w)) (hz_3.trans (if_pos rfl)) ?_
  obtain ⟨hnb1, hnb2⟩ := nFau_b w
  refine lv_istore_n (lv' := [(3, .int (zI ((nFau w)))), (0, .ref (h)), (1, .int (zI (a))), (2, .int (zI (b)))]) C0.1 C0.2.1 dX10_lackTwo_6 rfl hl (by decide) rfl (fun ls hl => ?_)
  refine lv_iload_n C0.1 C0.2.1 dX10_lackTwo_7 rfl (lv_at hl 0 rfl) ?_
  refine z_if_ge (tgt := 15) C0.1 C0.2.1 dX10_lackTwo_8 (by decide) ⟨by omega, by omega⟩ (fun c_8 => ?_) (fun c_8 => ?_)
  · skip
    refine lv_aload_n C0.1 C0.2.1 dX10_lackTwo_15 rfl (lv_at hl 1 rfl) ?_
    refine lv_iload_n C0.1 C0.2.1 dX10_lackTwo_16 rfl (lv_at hl 3 rfl) ?_
    refine lv_iconst (v := zI 0) C0.1 C0.2.1 dX10_lackTwo_17 rfl ?_
    refine mm_callVi (As := [.int (zI (b)), .int (zI (0))]) C0 vw_X10_lacks tw_1113 (c_X10_lacks l G _ hO hH hpj hi_j (v := 0) (w := v) (by omega) hh_j hv6) hM (hO) rfl rfl hl.1 rfl (Nat.le_of_ble_eq_true rfl) ⟨rfl, rfl, Nat.le_of_ble_eq_true rfl, Nat.le_of_ble_eq_true rfl, Nat.zero_le _, Nat.zero_le _⟩ dX10_lackTwo_18 hS (fun z_18 E2 H locs hp hM hS => ?_)
    obtain ⟨hz_18, hEq⟩ := hp
    rw [hEq] at hM
    refine z_asI (b := (nFau v)) (hz_18.trans (if_pos rfl)) ?_
    exact mm_iret (z := (nFau v)) C0 hr hlk hM hS dX10_lackTwo_21 (⟨by unfold fau2; rw [if_pos (by omega)], rfl⟩)
  · skip
    refine lv_iload_n C0.1 C0.2.1 dX10_lackTwo_11 rfl (lv_at hl 0 rfl) ?_
    refine lv_goto (tgt := 21) C0.1 C0.2.1 dX10_lackTwo_12 (by decide) ?_
    exact mm_iret (z := (nFau w)) C0 hr hlk hM hS dX10_lackTwo_21 (⟨by unfold fau2; rw [if_neg (by omega)], rfl⟩)

def rX10_reckon : Room := { frames := 3, cells := 0, slots := 0, locals := 68 }
theorem vw_X10_reckon : mm_Vw RX10 yX10_reckon cX10_reckon 6 (some .int) 4 := ⟨tw_1123, tw_1124, tw_10, tw_1125, by decide +kernel⟩
set_option maxHeartbeats 4000000 in
set_option maxRecDepth 100000 in
theorem c_X10_reckon (l : Launch) (G : mG) (E0 : mE) {h : Nat} {S : mST} (hF : rf G E0 h S) (hok : okR S) {w a b t : Int} (hr_w : rI w) (hr_a : rI a) (hr_b : rI b) (hr_t : rI t) : mm_Ci l yX10_reckon (.code yX10_reckon cX10_reckon 6 (some .int) :: wsG) rX10_reckon G [.ref (h), .int (zI (w)), .int (zI (a)), .int (zI (b)), .int (zI (t))] E0 (fun z E => z = (pf_reckon S w a b t).1 ∧ rf G E h (pf_reckon S w a b t).2 ∧ ∀ q : Nat, (q < h ∨ h + 13 ≤ q) → E q = E0 q) := by
  refine mm_of_i (by decide +kernel) (Nat.le_of_ble_eq_true rfl) ?_
  intro p e s m args below meth c ls C0 hr hlk hM hl hS
  have hl : lv_has ls 6 [(0, .ref (h)), (1, .int (zI (w))), (2, .int (zI (a))), (3, .int (zI (b))), (4, .int (zI (t)))] := hl
  obtain ⟨hr_w1, hr_w2⟩ := hr_w
  obtain ⟨hr_a1, hr_a2⟩ := hr_a
  obtain ⟨hr_b1, hr_b2⟩ := hr_b
  obtain ⟨hr_t1, hr_t2⟩ := hr_t
  obtain ⟨R, x2, x3, x4, x5, x6, x7, hX⟩ := hF
  have hX0 := hX
  obtain ⟨hTk, hPk, hKk, hSk⟩ := hok
  obtain ⟨hO, hR, hRp, ⟨fh, fc, hH, hC, hPa⟩, hTp, hCl, hKp, hSh, him⟩ := hX
  have hfr : ∀ q : Nat, (q < h ∨ h + 13 ≤ q) → E0 q = E0 q := fun _ _ => rfl
  refine lv_iload_n C0.1 C0.2.1 dX10_reckon_0 rfl (lv_at hl 1 rfl) ?_
  refine z_i2l C0.1 C0.2.1 dX10_reckon_1 ⟨by omega, by omega⟩ ?_
  refine lv_lconst (v := zL 0) C0.1 C0.2.1 dX10_reckon_2 rfl ?_
  refine mm_ldc2 (z := 4) C0 tw_1005 rfl dX10_reckon_3 ?_
  refine mm_callSi (As := [.long (zL (w)), .long (zL (0)), .long (zL (4))]) C0 sw_X10_in tw_985 (c_X10_in l G _ (v := w) (lo := 0) (hi := 4) ⟨by omega, by omega⟩ ⟨by omega, by omega⟩ ⟨by omega, by omega⟩) hM rfl hl.1 rfl (Nat.le_of_ble_eq_true rfl) ⟨rfl, rfl, Nat.le_of_ble_eq_true rfl, Nat.le_of_ble_eq_true rfl, Nat.zero_le _, Nat.zero_le _⟩ dX10_reckon_6 hS (fun z_6 E1 H locs hp hM hS => ?_)
  obtain ⟨hz_6, hEq⟩ := hp
  rw [hEq] at hM
  have hz_6b := if01 hz_6
  refine z_if_eq (tgt := 34) C0.1 C0.2.1 dX10_reckon_9 (by decide) ⟨by omega, by omega⟩ (fun c_9 => ?_) (fun c_9 => ?_)
  · skip
    refine lv_iconst (v := zI (-1)) C0.1 C0.2.1 dX10_reckon_34 rfl ?_
    exact mm_iret (z := (-1)) C0 hr hlk hM hS dX10_reckon_35 (by have he : pf_reckon S w a b t = ((-1), S) := (by unfold pf_reckon; rw [if_neg (by omega)]); rw [he]; exact ⟨rfl, hX0.rf, fun _ _ => rfl⟩)
  · skip
    refine lv_iload_n C0.1 C0.2.1 dX10_reckon_12 rfl (lv_at hl 2 rfl) ?_
    refine mm_callSi (As := [.int (zI (a))]) C0 sw_X10_isPlace tw_981 (c_X10_isPlace l G _ (i := a) ⟨by omega, by omega⟩) hM rfl hl.1 rfl (Nat.le_of_ble_eq_true rfl) ⟨rfl, rfl, Nat.le_of_ble_eq_true rfl, Nat.le_of_ble_eq_true rfl, Nat.zero_le _, Nat.zero_le _⟩ dX10_reckon_13 hS (fun z_13 E2 H locs hp hM hS => ?_)
    obtain ⟨hz_13, hEq⟩ := hp
    rw [hEq] at hM
    have hz_13b := if01 hz_13
    refine z_if_eq (tgt := 34) C0.1 C0.2.1 dX10_reckon_16 (by decide) ⟨by omega, by omega⟩ (fun c_16 => ?_) (fun c_16 => ?_)
    · skip
      refine lv_iconst (v := zI (-1)) C0.1 C0.2.1 dX10_reckon_34 rfl ?_
      exact mm_iret (z := (-1)) C0 hr hlk hM hS dX10_reckon_35 (by have he : pf_reckon S w a b t = ((-1), S) := (by unfold pf_reckon; rw [if_neg (by omega)]); rw [he]; exact ⟨rfl, hX0.rf, fun _ _ => rfl⟩)
    · skip
      refine lv_iload_n C0.1 C0.2.1 dX10_reckon_19 rfl (lv_at hl 3 rfl) ?_
      refine mm_callSi (As := [.int (zI (b))]) C0 sw_X10_isPlace tw_981 (c_X10_isPlace l G _ (i := b) ⟨by omega, by omega⟩) hM rfl hl.1 rfl (Nat.le_of_ble_eq_true rfl) ⟨rfl, rfl, Nat.le_of_ble_eq_true rfl, Nat.le_of_ble_eq_true rfl, Nat.zero_le _, Nat.zero_le _⟩ dX10_reckon_20 hS (fun z_20 E3 H locs hp hM hS => ?_)
      obtain ⟨hz_20, hEq⟩ := hp
      rw [hEq] at hM
      have hz_20b := if01 hz_20
      refine z_if_eq (tgt := 34) C0.1 C0.2.1 dX10_reckon_23 (by decide) ⟨by omega, by omega⟩ (fun c_23 => ?_) (fun c_23 => ?_)
      · skip
        refine lv_iconst (v := zI (-1)) C0.1 C0.2.1 dX10_reckon_34 rfl ?_
        exact mm_iret (z := (-1)) C0 hr hlk hM hS dX10_reckon_35 (by have he : pf_reckon S w a b t = ((-1), S) := (by unfold pf_reckon; rw [if_neg (by omega)]); rw [he]; exact ⟨rfl, hX0.rf, fun _ _ => rfl⟩)
      · skip
        refine lv_iload C0.1 C0.2.1 dX10_reckon_26 (lv_at hl 4 rfl) ?_
        refine mm_callSi (As := [.int (zI (t))]) C0 sw_X10_isPlace tw_981 (c_X10_isPlace l G _ (i := t) ⟨by omega, by omega⟩) hM rfl hl.1 rfl (Nat.le_of_ble_eq_true rfl) ⟨rfl, rfl, Nat.le_of_ble_eq_true rfl, Nat.le_of_ble_eq_true rfl, Nat.zero_le _, Nat.zero_le _⟩ dX10_reckon_28 hS (fun z_28 E4 H locs hp hM hS => ?_)
        obtain ⟨hz_28, hEq⟩ := hp
        rw [hEq] at hM
        have hz_28b := if01 hz_28
        refine z_if_ne (tgt := 36) C0.1 C0.2.1 dX10_reckon_31 (by decide) ⟨by omega, by omega⟩ (fun c_31 => ?_) (fun c_31 => ?_)
        · skip
          obtain ⟨i, hpi⟩ : ∃ i : Nat, a = (i : Int) := ⟨(a).toNat, by omega⟩
          have hi_i : i < 8 := by omega
          have ht_i : (a).toNat = i := by omega
          obtain ⟨ho_i1, ho_i2, ho_i3, ho_i4⟩ := hPk i hi_i
          obtain ⟨hh_i, hc_i⟩ := hPa i hi_i
          have hv_i := hRp i hi_i
          obtain ⟨j, hpj⟩ : ∃ j : Nat, b = (j : Int) := ⟨(b).toNat, by omega⟩
          have hi_j : j < 8 := by omega
          have ht_j : (b).toNat = j := by omega
          obtain ⟨ho_j1, ho_j2, ho_j3, ho_j4⟩ := hPk j hi_j
          obtain ⟨hh_j, hc_j⟩ := hPa j hi_j
          have hv_j := hRp j hi_j
          obtain ⟨u, hpu⟩ : ∃ u : Nat, t = (u : Int) := ⟨(t).toNat, by omega⟩
          have hi_u : u < 8 := by omega
          have ht_u : (t).toNat = u := by omega
          have hn2 := nl_addn (n := 24) ho_i4 ho_j4
          have hn3 := nl_prod ho_i4 ho_j4
          have hz0 := nl_eq0 (N := S.2.1.2.2 j)
          refine lv_aload_n C0.1 C0.2.1 dX10_reckon_36 rfl (lv_at hl 0 rfl) ?_
          refine lv_iload_n C0.1 C0.2.1 dX10_reckon_37 rfl (lv_at hl 2 rfl) ?_
          refine lv_iload_n C0.1 C0.2.1 dX10_reckon_38 rfl (lv_at hl 3 rfl) ?_
          refine mm_callVi (As := [.int (zI (a)), .int (zI (b))]) C0 vw_X10_lackTwo tw_1126 (c_X10_lackTwo l G _ hO hH hpi hi_i hpj hi_j hh_i hh_j ho_i1 ho_j1) hM (hO) rfl rfl hl.1 rfl (Nat.le_of_ble_eq_true rfl) ⟨rfl, rfl, Nat.le_of_ble_eq_true rfl, Nat.le_of_ble_eq_true rfl, Nat.zero_le _, Nat.zero_le _⟩ dX10_reckon_39 hS (fun z_39 E5 H locs hp hM hS => ?_)
          obtain ⟨hz_39, hEq⟩ := hp
          rw [hEq] at hM
          refine z_asI (b := (fau2 (nFau (S.2.1.1 i)) (nFau (S.2.1.1 j)))) (hz_39) ?_
          obtain ⟨hfb1, hfb2⟩ := fau2_b (nFau_b (S.2.1.1 i)) (nFau_b (S.2.1.1 j))
          refine lv_istore (lv' := [(5, .int (zI ((fau2 (nFau (S.2.1.1 i)) (nFau (S.2.1.1 j)))))), (0, .ref (h)), (1, .int (zI (w))), (2, .int (zI (a))), (3, .int (zI (b))), (4, .int (zI (t)))]) C0.1 C0.2.1 dX10_reckon_42 hl (by decide) rfl (fun ls hl => ?_)
          refine lv_iload C0.1 C0.2.1 dX10_reckon_44 (lv_at hl 0 rfl) ?_
          refine z_if_ge (tgt := 52) C0.1 C0.2.1 dX10_reckon_46 (by decide) ⟨by omega, by omega⟩ (fun c_46 => ?_) (fun c_46 => ?_)
          · skip
            refine lv_iload_n C0.1 C0.2.1 dX10_reckon_52 rfl (lv_at hl 2 rfl) ?_
            refine lv_iconst (v := zI 1) C0.1 C0.2.1 dX10_reckon_53 rfl ?_
            refine z_icmp_ne (tgt := 69) C0.1 C0.2.1 dX10_reckon_54 (by decide) ⟨by omega, by omega⟩ ⟨by omega, by omega⟩ (fun c_54 => ?_) (fun c_54 => ?_)
            · skip
              refine lv_iload_n C0.1 C0.2.1 dX10_reckon_69 rfl (lv_at hl 2 rfl) ?_
              refine lv_iconst (v := zI 2) C0.1 C0.2.1 dX10_reckon_70 rfl ?_
              refine z_icmp_le (tgt := 85) C0.1 C0.2.1 dX10_reckon_71 (by decide) ⟨by omega, by omega⟩ ⟨by omega, by omega⟩ (fun c_71 => ?_) (fun c_71 => ?_)
              · skip
                refine lv_iload_n C0.1 C0.2.1 dX10_reckon_85 rfl (lv_at hl 2 rfl) ?_
                refine z_if_ne (tgt := 100) C0.1 C0.2.1 dX10_reckon_86 (by decide) ⟨by omega, by omega⟩ (fun c_86 => ?_) (fun c_86 => ?_)
                · skip
                  refine lv_iload_n C0.1 C0.2.1 dX10_reckon_100 rfl (lv_at hl 2 rfl) ?_
                  refine lv_iconst (v := zI 1) C0.1 C0.2.1 dX10_reckon_101 rfl ?_
                  refine z_icmp_ne (tgt := 116) C0.1 C0.2.1 dX10_reckon_102 (by decide) ⟨by omega, by omega⟩ ⟨by omega, by omega⟩ (fun c_102 => ?_) (fun c_102 => ?_)
                  · skip
                    refine lv_iload_n C0.1 C0.2.1 dX10_reckon_116 rfl (lv_at hl 2 rfl) ?_
                    refine lv_iconst (v := zI 2) C0.1 C0.2.1 dX10_reckon_117 rfl ?_
                    refine z_icmp_ne (tgt := 132) C0.1 C0.2.1 dX10_reckon_118 (by decide) ⟨by omega, by omega⟩ ⟨by omega, by omega⟩ (fun c_118 => ?_) (fun c_118 => ?_)
                    · skip
                      refine lv_aload_n C0.1 C0.2.1 dX10_reckon_132 rfl (lv_at hl 1 rfl) ?_
                      refine lv_bipush (v := zI 8) C0.1 C0.2.1 dX10_reckon_133 rfl ?_
                      refine lv_iload_n C0.1 C0.2.1 dX10_reckon_135 rfl (lv_at hl 3 rfl) ?_
                      refine lv_iload_n C0.1 C0.2.1 dX10_reckon_136 rfl (lv_at hl 4 rfl) ?_
                      refine mm_callVv (As := [.int (zI (8)), .int (zI (a)), .int (zI (b))]) C0 vw_X10_divideBy tw_1130 (c_X10_divideBy l G _ hO hR (t := 8) rfl (by omega) hpi (by omega) hv_i hpj (by omega) hv_j (by omega) (by omega) (by omega)) hM (hO) rfl rfl hl.1 rfl (Nat.le_of_ble_eq_true rfl) ⟨rfl, rfl, Nat.le_of_ble_eq_true rfl, Nat.le_of_ble_eq_true rfl, Nat.zero_le _, Nat.zero_le _⟩ dX10_reckon_137 hS (fun E6 H locs hp hM hS => ?_)
                      obtain ⟨⟨R0, hR0, v8, v14, kr0⟩, fr⟩ := hp
                      have hO := ro.kept hO (fr _ (by omega))
                      have hfr := (fun q h => (fr q (by omega)).trans (hfr q h) : ∀ q : Nat, (q < h ∨ h + 13 ≤ q) → E6 q = E0 q)
                      have hfr0 := fr
                      refine lv_iload_n C0.1 C0.2.1 dX10_reckon_140 rfl (lv_at hl 2 rfl) ?_
                      refine lv_iconst (v := zI 4) C0.1 C0.2.1 dX10_reckon_141 rfl ?_
                      refine z_icmp_ne (tgt := 153) C0.1 C0.2.1 dX10_reckon_142 (by decide) ⟨by omega, by omega⟩ ⟨by omega, by omega⟩ (fun c_142 => ?_) (fun c_142 => ?_)
                      · skip
                        have hR1 := hR0
                        have hc9 : R0 8 = cmb w.toNat (S.2.1.2.2 i) (S.2.1.2.2 j) := by rw [v8]; unfold cmb; rw [if_neg (by omega), if_pos (by omega)]
                        have hX1 := hX0.w hR0 (fun r hr => kr0 r (by omega) (by omega)) fr
                        refine lv_aload_n C0.1 C0.2.1 dX10_reckon_153 rfl (lv_at hl 1 rfl) ?_
                        refine lv_iload C0.1 C0.2.1 dX10_reckon_154 (lv_at hl 5 rfl) ?_
                        refine lv_bipush (v := zI 8) C0.1 C0.2.1 dX10_reckon_156 rfl ?_
                        refine mm_callVi (As := [.int (zI (t)), .int (zI (8))]) C0 vw_X10_come tw_1039 (c_X10_comeS l G _ hX1 hpu hi_u (a := 8) rfl (by omega) hc9) hM (hO) rfl rfl hl.1 rfl (Nat.le_of_ble_eq_true rfl) ⟨rfl, rfl, Nat.le_of_ble_eq_true rfl, Nat.le_of_ble_eq_true rfl, Nat.zero_le _, Nat.zero_le _⟩ dX10_reckon_158 hS (fun z9 E7 H locs hp hM hS => ?_)
                        obtain ⟨hz9, ⟨R9, hX9, kr9⟩, fr⟩ := hp
                        have hO := ro.kept hO (fr _ (by omega))
                        have hfr := (fun q h => (fr q (by omega)).trans (hfr q h) : ∀ q : Nat, (q < h ∨ h + 13 ≤ q) → E7 q = E0 q)
                        exact mm_iret (z := z9) C0 hr hlk hM hS dX10_reckon_161 (by have he : pf_reckon S w a b t = (lanZ (cmb w.toNat (S.2.1.2.2 i) (S.2.1.2.2 j)), lanS S u (cmb w.toNat (S.2.1.2.2 i) (S.2.1.2.2 j))) := (by unfold pf_reckon; rw [if_pos (by omega), ht_i, ht_j, ht_u, if_neg (by omega), if_neg (by omega), if_neg (fun q => by have q2 := nl_eq0.mpr q.2; omega)]); rw [he]; exact ⟨hz9, hX9.rf, hfr⟩)
                      · skip
                        refine lv_aload_n C0.1 C0.2.1 dX10_reckon_145 rfl (lv_at hl 1 rfl) ?_
                        refine lv_bipush (v := zI 8) C0.1 C0.2.1 dX10_reckon_146 rfl ?_
                        refine lv_bipush (v := zI 14) C0.1 C0.2.1 dX10_reckon_148 rfl ?_
                        refine mm_callVv (As := [.int (zI (8)), .int (zI (14))]) C0 vw_X10_copy tw_1047 (c_X10_copy l G _ hO hR0 (t := 8) rfl (by omega) (a := 14) rfl (by omega) v14) hM (hO) rfl rfl hl.1 rfl (Nat.le_of_ble_eq_true rfl) ⟨rfl, rfl, Nat.le_of_ble_eq_true rfl, Nat.le_of_ble_eq_true rfl, Nat.zero_le _, Nat.zero_le _⟩ dX10_reckon_150 hS (fun E8 H locs hp hM hS => ?_)
                        obtain ⟨⟨R1, hR1, v8, kr9⟩, fr9⟩ := hp
                        have hO := hO.kept (fr9 _ (by omega))
                        have fr : ∀ q, q ≠ h + 1 → E8 q = E0 q := fun q hq => (fr9 q hq).trans (fr q hq)
                        have hfr : ∀ q : Nat, (q < h ∨ h + 13 ≤ q) → E8 q = E0 q := fun q hq => fr q (by omega)
                        have kr : ∀ r, r < 13 → r ≠ 8 → R1 r = R r := fun r h1 h2 => (kr9 r h2).trans (kr0 r h1 h2)
                        have hc9 : R1 8 = cmb w.toNat (S.2.1.2.2 i) (S.2.1.2.2 j) := by rw [v8]; unfold cmb; rw [if_neg (by omega), if_neg (by omega), if_pos (by omega)]
                        have hX1 := hX0.w hR1 (fun r hr => kr r (by omega) (by omega)) fr
                        refine lv_aload_n C0.1 C0.2.1 dX10_reckon_153 rfl (lv_at hl 1 rfl) ?_
                        refine lv_iload C0.1 C0.2.1 dX10_reckon_154 (lv_at hl 5 rfl) ?_
                        refine lv_bipush (v := zI 8) C0.1 C0.2.1 dX10_reckon_156 rfl ?_
                        refine mm_callVi (As := [.int (zI (t)), .int (zI (8))]) C0 vw_X10_come tw_1039 (c_X10_comeS l G _ hX1 hpu hi_u (a := 8) rfl (by omega) hc9) hM (hO) rfl rfl hl.1 rfl (Nat.le_of_ble_eq_true rfl) ⟨rfl, rfl, Nat.le_of_ble_eq_true rfl, Nat.le_of_ble_eq_true rfl, Nat.zero_le _, Nat.zero_le _⟩ dX10_reckon_158 hS (fun z9 E9 H locs hp hM hS => ?_)
                        obtain ⟨hz9, ⟨R9, hX9, kr9⟩, fr⟩ := hp
                        have hO := ro.kept hO (fr _ (by omega))
                        have hfr := (fun q h => (fr q (by omega)).trans (hfr q h) : ∀ q : Nat, (q < h ∨ h + 13 ≤ q) → E9 q = E0 q)
                        exact mm_iret (z := z9) C0 hr hlk hM hS dX10_reckon_161 (by have he : pf_reckon S w a b t = (lanZ (cmb w.toNat (S.2.1.2.2 i) (S.2.1.2.2 j)), lanS S u (cmb w.toNat (S.2.1.2.2 i) (S.2.1.2.2 j))) := (by unfold pf_reckon; rw [if_pos (by omega), ht_i, ht_j, ht_u, if_neg (by omega), if_neg (by omega), if_neg (fun q => by have q2 := nl_eq0.mpr q.2; omega)]); rw [he]; exact ⟨hz9, hX9.rf, hfr⟩)
                    · skip
                      refine lv_aload_n C0.1 C0.2.1 dX10_reckon_121 rfl (lv_at hl 1 rfl) ?_
                      refine lv_bipush (v := zI 8) C0.1 C0.2.1 dX10_reckon_122 rfl ?_
                      refine lv_iload_n C0.1 C0.2.1 dX10_reckon_124 rfl (lv_at hl 3 rfl) ?_
                      refine lv_iload_n C0.1 C0.2.1 dX10_reckon_125 rfl (lv_at hl 4 rfl) ?_
                      refine mm_callVv (As := [.int (zI (8)), .int (zI (a)), .int (zI (b))]) C0 vw_X10_multiply tw_1081 (c_X10_multiply l G _ hO hR (t := 8) rfl (by omega) hpi (by omega) hv_i hpj (by omega) hv_j (by omega) (by omega) (by omega)) hM (hO) rfl rfl hl.1 rfl (Nat.le_of_ble_eq_true rfl) ⟨rfl, rfl, Nat.le_of_ble_eq_true rfl, Nat.le_of_ble_eq_true rfl, Nat.zero_le _, Nat.zero_le _⟩ dX10_reckon_126 hS (fun E10 H locs hp hM hS => ?_)
                      obtain ⟨⟨R1, hR1, v8, kr⟩, fr⟩ := hp
                      have hO := ro.kept hO (fr _ (by omega))
                      have hfr := (fun q h => (fr q (by omega)).trans (hfr q h) : ∀ q : Nat, (q < h ∨ h + 13 ≤ q) → E10 q = E0 q)
                      have hc9 : R1 8 = cmb w.toNat (S.2.1.2.2 i) (S.2.1.2.2 j) := by rw [v8]; unfold cmb; rw [if_pos (by omega)]
                      have hX1 := hX0.w hR1 (fun r hr => kr r (by omega)) fr
                      refine lv_goto (tgt := 153) C0.1 C0.2.1 dX10_reckon_129 (by decide) ?_
                      refine lv_aload_n C0.1 C0.2.1 dX10_reckon_153 rfl (lv_at hl 1 rfl) ?_
                      refine lv_iload C0.1 C0.2.1 dX10_reckon_154 (lv_at hl 5 rfl) ?_
                      refine lv_bipush (v := zI 8) C0.1 C0.2.1 dX10_reckon_156 rfl ?_
                      refine mm_callVi (As := [.int (zI (t)), .int (zI (8))]) C0 vw_X10_come tw_1039 (c_X10_comeS l G _ hX1 hpu hi_u (a := 8) rfl (by omega) hc9) hM (hO) rfl rfl hl.1 rfl (Nat.le_of_ble_eq_true rfl) ⟨rfl, rfl, Nat.le_of_ble_eq_true rfl, Nat.le_of_ble_eq_true rfl, Nat.zero_le _, Nat.zero_le _⟩ dX10_reckon_158 hS (fun z9 E11 H locs hp hM hS => ?_)
                      obtain ⟨hz9, ⟨R9, hX9, kr9⟩, fr⟩ := hp
                      have hO := ro.kept hO (fr _ (by omega))
                      have hfr := (fun q h => (fr q (by omega)).trans (hfr q h) : ∀ q : Nat, (q < h ∨ h + 13 ≤ q) → E11 q = E0 q)
                      exact mm_iret (z := z9) C0 hr hlk hM hS dX10_reckon_161 (by have he : pf_reckon S w a b t = (lanZ (cmb w.toNat (S.2.1.2.2 i) (S.2.1.2.2 j)), lanS S u (cmb w.toNat (S.2.1.2.2 i) (S.2.1.2.2 j))) := (by unfold pf_reckon; rw [if_pos (by omega), ht_i, ht_j, ht_u, if_neg (by omega), if_neg (by omega), if_neg (fun q => by have q2 := nl_eq0.mpr q.2; omega)]); rw [he]; exact ⟨hz9, hX9.rf, hfr⟩)
                  · skip
                    refine lv_aload_n C0.1 C0.2.1 dX10_reckon_105 rfl (lv_at hl 1 rfl) ?_
                    refine lv_bipush (v := zI 8) C0.1 C0.2.1 dX10_reckon_106 rfl ?_
                    refine lv_iload_n C0.1 C0.2.1 dX10_reckon_108 rfl (lv_at hl 3 rfl) ?_
                    refine lv_iload_n C0.1 C0.2.1 dX10_reckon_109 rfl (lv_at hl 4 rfl) ?_
                    refine mm_callVv (As := [.int (zI (8)), .int (zI (a)), .int (zI (b))]) C0 vw_X10_subtract tw_1091 (c_X10_subtract l G _ hO hR (t := 8) rfl (by omega) hpi (by omega) hv_i hpj (by omega) hv_j (by omega)) hM (hO) rfl rfl hl.1 rfl (Nat.le_of_ble_eq_true rfl) ⟨rfl, rfl, Nat.le_of_ble_eq_true rfl, Nat.le_of_ble_eq_true rfl, Nat.zero_le _, Nat.zero_le _⟩ dX10_reckon_110 hS (fun E12 H locs hp hM hS => ?_)
                    obtain ⟨⟨R1, hR1, v8, kr⟩, fr⟩ := hp
                    have hO := ro.kept hO (fr _ (by omega))
                    have hfr := (fun q h => (fr q (by omega)).trans (hfr q h) : ∀ q : Nat, (q < h ∨ h + 13 ≤ q) → E12 q = E0 q)
                    have hc9 : R1 8 = cmb w.toNat (S.2.1.2.2 i) (S.2.1.2.2 j) := by rw [v8]; unfold cmb; rw [if_neg (by omega), if_neg (by omega), if_neg (by omega), if_neg (by omega)]
                    have hX1 := hX0.w hR1 (fun r hr => kr r (by omega)) fr
                    refine lv_goto (tgt := 153) C0.1 C0.2.1 dX10_reckon_113 (by decide) ?_
                    refine lv_aload_n C0.1 C0.2.1 dX10_reckon_153 rfl (lv_at hl 1 rfl) ?_
                    refine lv_iload C0.1 C0.2.1 dX10_reckon_154 (lv_at hl 5 rfl) ?_
                    refine lv_bipush (v := zI 8) C0.1 C0.2.1 dX10_reckon_156 rfl ?_
                    refine mm_callVi (As := [.int (zI (t)), .int (zI (8))]) C0 vw_X10_come tw_1039 (c_X10_comeS l G _ hX1 hpu hi_u (a := 8) rfl (by omega) hc9) hM (hO) rfl rfl hl.1 rfl (Nat.le_of_ble_eq_true rfl) ⟨rfl, rfl, Nat.le_of_ble_eq_true rfl, Nat.le_of_ble_eq_true rfl, Nat.zero_le _, Nat.zero_le _⟩ dX10_reckon_158 hS (fun z9 E13 H locs hp hM hS => ?_)
                    obtain ⟨hz9, ⟨R9, hX9, kr9⟩, fr⟩ := hp
                    have hO := ro.kept hO (fr _ (by omega))
                    have hfr := (fun q h => (fr q (by omega)).trans (hfr q h) : ∀ q : Nat, (q < h ∨ h + 13 ≤ q) → E13 q = E0 q)
                    exact mm_iret (z := z9) C0 hr hlk hM hS dX10_reckon_161 (by have he : pf_reckon S w a b t = (lanZ (cmb w.toNat (S.2.1.2.2 i) (S.2.1.2.2 j)), lanS S u (cmb w.toNat (S.2.1.2.2 i) (S.2.1.2.2 j))) := (by unfold pf_reckon; rw [if_pos (by omega), ht_i, ht_j, ht_u, if_neg (by omega), if_neg (by omega), if_neg (fun q => by have q2 := nl_eq0.mpr q.2; omega)]); rw [he]; exact ⟨hz9, hX9.rf, hfr⟩)
                · skip
                  refine lv_aload_n C0.1 C0.2.1 dX10_reckon_89 rfl (lv_at hl 1 rfl) ?_
                  refine lv_bipush (v := zI 8) C0.1 C0.2.1 dX10_reckon_90 rfl ?_
                  refine lv_iload_n C0.1 C0.2.1 dX10_reckon_92 rfl (lv_at hl 3 rfl) ?_
                  refine lv_iload_n C0.1 C0.2.1 dX10_reckon_93 rfl (lv_at hl 4 rfl) ?_
                  refine mm_callVv (As := [.int (zI (8)), .int (zI (a)), .int (zI (b))]) C0 vw_X10_add tw_1101 (c_X10_add l G _ hO hR (t := 8) rfl (by omega) hpi (by omega) hv_i hpj (by omega) hv_j (by omega)) hM (hO) rfl rfl hl.1 rfl (Nat.le_of_ble_eq_true rfl) ⟨rfl, rfl, Nat.le_of_ble_eq_true rfl, Nat.le_of_ble_eq_true rfl, Nat.zero_le _, Nat.zero_le _⟩ dX10_reckon_94 hS (fun E14 H locs hp hM hS => ?_)
                  obtain ⟨⟨R1, hR1, v8, kr⟩, fr⟩ := hp
                  have hO := ro.kept hO (fr _ (by omega))
                  have hfr := (fun q h => (fr q (by omega)).trans (hfr q h) : ∀ q : Nat, (q < h ∨ h + 13 ≤ q) → E14 q = E0 q)
                  have hc9 : R1 8 = cmb w.toNat (S.2.1.2.2 i) (S.2.1.2.2 j) := by rw [v8]; unfold cmb; rw [if_neg (by omega), if_neg (by omega), if_neg (by omega), if_pos (by omega)]
                  have hX1 := hX0.w hR1 (fun r hr => kr r (by omega)) fr
                  refine lv_goto (tgt := 153) C0.1 C0.2.1 dX10_reckon_97 (by decide) ?_
                  refine lv_aload_n C0.1 C0.2.1 dX10_reckon_153 rfl (lv_at hl 1 rfl) ?_
                  refine lv_iload C0.1 C0.2.1 dX10_reckon_154 (lv_at hl 5 rfl) ?_
                  refine lv_bipush (v := zI 8) C0.1 C0.2.1 dX10_reckon_156 rfl ?_
                  refine mm_callVi (As := [.int (zI (t)), .int (zI (8))]) C0 vw_X10_come tw_1039 (c_X10_comeS l G _ hX1 hpu hi_u (a := 8) rfl (by omega) hc9) hM (hO) rfl rfl hl.1 rfl (Nat.le_of_ble_eq_true rfl) ⟨rfl, rfl, Nat.le_of_ble_eq_true rfl, Nat.le_of_ble_eq_true rfl, Nat.zero_le _, Nat.zero_le _⟩ dX10_reckon_158 hS (fun z9 E15 H locs hp hM hS => ?_)
                  obtain ⟨hz9, ⟨R9, hX9, kr9⟩, fr⟩ := hp
                  have hO := ro.kept hO (fr _ (by omega))
                  have hfr := (fun q h => (fr q (by omega)).trans (hfr q h) : ∀ q : Nat, (q < h ∨ h + 13 ≤ q) → E15 q = E0 q)
                  exact mm_iret (z := z9) C0 hr hlk hM hS dX10_reckon_161 (by have he : pf_reckon S w a b t = (lanZ (cmb w.toNat (S.2.1.2.2 i) (S.2.1.2.2 j)), lanS S u (cmb w.toNat (S.2.1.2.2 i) (S.2.1.2.2 j))) := (by unfold pf_reckon; rw [if_pos (by omega), ht_i, ht_j, ht_u, if_neg (by omega), if_neg (by omega), if_neg (fun q => by have q2 := nl_eq0.mpr q.2; omega)]); rw [he]; exact ⟨hz9, hX9.rf, hfr⟩)
              · skip
                refine lv_aload_n C0.1 C0.2.1 dX10_reckon_74 rfl (lv_at hl 1 rfl) ?_
                refine lv_iload_n C0.1 C0.2.1 dX10_reckon_75 rfl (lv_at hl 4 rfl) ?_
                refine mm_callVi (As := [.int (zI (b))]) C0 vw_X10_sizeOf tw_997 (c_X10_sizeOf l G _ hO hR hpj (by omega) hv_j) hM (hO) rfl rfl hl.1 rfl (Nat.le_of_ble_eq_true rfl) ⟨rfl, rfl, Nat.le_of_ble_eq_true rfl, Nat.le_of_ble_eq_true rfl, Nat.zero_le _, Nat.zero_le _⟩ dX10_reckon_76 hS (fun z_76 E16 H locs hp hM hS => ?_)
                obtain ⟨hz_76, hEq⟩ := hp
                rw [hEq] at hM
                refine z_asI (b := (nl (S.2.1.2.2 j) : Int)) (hz_76) ?_
                refine z_if_ne (tgt := 85) C0.1 C0.2.1 dX10_reckon_79 (by decide) ⟨by omega, by omega⟩ (fun c_79 => ?_) (fun c_79 => ?_)
                · skip
                  refine lv_iload_n C0.1 C0.2.1 dX10_reckon_85 rfl (lv_at hl 2 rfl) ?_
                  refine z_if_ne (tgt := 100) C0.1 C0.2.1 dX10_reckon_86 (by decide) ⟨by omega, by omega⟩ (fun c_86 => ?_) (fun c_86 => ?_)
                  · skip
                    refine lv_iload_n C0.1 C0.2.1 dX10_reckon_100 rfl (lv_at hl 2 rfl) ?_
                    refine lv_iconst (v := zI 1) C0.1 C0.2.1 dX10_reckon_101 rfl ?_
                    refine z_icmp_ne (tgt := 116) C0.1 C0.2.1 dX10_reckon_102 (by decide) ⟨by omega, by omega⟩ ⟨by omega, by omega⟩ (fun c_102 => ?_) (fun c_102 => ?_)
                    · skip
                      refine lv_iload_n C0.1 C0.2.1 dX10_reckon_116 rfl (lv_at hl 2 rfl) ?_
                      refine lv_iconst (v := zI 2) C0.1 C0.2.1 dX10_reckon_117 rfl ?_
                      refine z_icmp_ne (tgt := 132) C0.1 C0.2.1 dX10_reckon_118 (by decide) ⟨by omega, by omega⟩ ⟨by omega, by omega⟩ (fun c_118 => ?_) (fun c_118 => ?_)
                      · skip
                        refine lv_aload_n C0.1 C0.2.1 dX10_reckon_132 rfl (lv_at hl 1 rfl) ?_
                        refine lv_bipush (v := zI 8) C0.1 C0.2.1 dX10_reckon_133 rfl ?_
                        refine lv_iload_n C0.1 C0.2.1 dX10_reckon_135 rfl (lv_at hl 3 rfl) ?_
                        refine lv_iload_n C0.1 C0.2.1 dX10_reckon_136 rfl (lv_at hl 4 rfl) ?_
                        refine mm_callVv (As := [.int (zI (8)), .int (zI (a)), .int (zI (b))]) C0 vw_X10_divideBy tw_1130 (c_X10_divideBy l G _ hO hR (t := 8) rfl (by omega) hpi (by omega) hv_i hpj (by omega) hv_j (by omega) (by omega) (by omega)) hM (hO) rfl rfl hl.1 rfl (Nat.le_of_ble_eq_true rfl) ⟨rfl, rfl, Nat.le_of_ble_eq_true rfl, Nat.le_of_ble_eq_true rfl, Nat.zero_le _, Nat.zero_le _⟩ dX10_reckon_137 hS (fun E17 H locs hp hM hS => ?_)
                        obtain ⟨⟨R0, hR0, v8, v14, kr0⟩, fr⟩ := hp
                        have hO := ro.kept hO (fr _ (by omega))
                        have hfr := (fun q h => (fr q (by omega)).trans (hfr q h) : ∀ q : Nat, (q < h ∨ h + 13 ≤ q) → E17 q = E0 q)
                        have hfr0 := fr
                        refine lv_iload_n C0.1 C0.2.1 dX10_reckon_140 rfl (lv_at hl 2 rfl) ?_
                        refine lv_iconst (v := zI 4) C0.1 C0.2.1 dX10_reckon_141 rfl ?_
                        refine z_icmp_ne (tgt := 153) C0.1 C0.2.1 dX10_reckon_142 (by decide) ⟨by omega, by omega⟩ ⟨by omega, by omega⟩ (fun c_142 => ?_) (fun c_142 => ?_)
                        · skip
                          have hR1 := hR0
                          have hc9 : R0 8 = cmb w.toNat (S.2.1.2.2 i) (S.2.1.2.2 j) := by rw [v8]; unfold cmb; rw [if_neg (by omega), if_pos (by omega)]
                          have hX1 := hX0.w hR0 (fun r hr => kr0 r (by omega) (by omega)) fr
                          refine lv_aload_n C0.1 C0.2.1 dX10_reckon_153 rfl (lv_at hl 1 rfl) ?_
                          refine lv_iload C0.1 C0.2.1 dX10_reckon_154 (lv_at hl 5 rfl) ?_
                          refine lv_bipush (v := zI 8) C0.1 C0.2.1 dX10_reckon_156 rfl ?_
                          refine mm_callVi (As := [.int (zI (t)), .int (zI (8))]) C0 vw_X10_come tw_1039 (c_X10_comeS l G _ hX1 hpu hi_u (a := 8) rfl (by omega) hc9) hM (hO) rfl rfl hl.1 rfl (Nat.le_of_ble_eq_true rfl) ⟨rfl, rfl, Nat.le_of_ble_eq_true rfl, Nat.le_of_ble_eq_true rfl, Nat.zero_le _, Nat.zero_le _⟩ dX10_reckon_158 hS (fun z9 E18 H locs hp hM hS => ?_)
                          obtain ⟨hz9, ⟨R9, hX9, kr9⟩, fr⟩ := hp
                          have hO := ro.kept hO (fr _ (by omega))
                          have hfr := (fun q h => (fr q (by omega)).trans (hfr q h) : ∀ q : Nat, (q < h ∨ h + 13 ≤ q) → E18 q = E0 q)
                          exact mm_iret (z := z9) C0 hr hlk hM hS dX10_reckon_161 (by have he : pf_reckon S w a b t = (lanZ (cmb w.toNat (S.2.1.2.2 i) (S.2.1.2.2 j)), lanS S u (cmb w.toNat (S.2.1.2.2 i) (S.2.1.2.2 j))) := (by unfold pf_reckon; rw [if_pos (by omega), ht_i, ht_j, ht_u, if_neg (by omega), if_neg (by omega), if_neg (fun q => by have q2 := nl_eq0.mpr q.2; omega)]); rw [he]; exact ⟨hz9, hX9.rf, hfr⟩)
                        · skip
                          refine lv_aload_n C0.1 C0.2.1 dX10_reckon_145 rfl (lv_at hl 1 rfl) ?_
                          refine lv_bipush (v := zI 8) C0.1 C0.2.1 dX10_reckon_146 rfl ?_
                          refine lv_bipush (v := zI 14) C0.1 C0.2.1 dX10_reckon_148 rfl ?_
                          refine mm_callVv (As := [.int (zI (8)), .int (zI (14))]) C0 vw_X10_copy tw_1047 (c_X10_copy l G _ hO hR0 (t := 8) rfl (by omega) (a := 14) rfl (by omega) v14) hM (hO) rfl rfl hl.1 rfl (Nat.le_of_ble_eq_true rfl) ⟨rfl, rfl, Nat.le_of_ble_eq_true rfl, Nat.le_of_ble_eq_true rfl, Nat.zero_le _, Nat.zero_le _⟩ dX10_reckon_150 hS (fun E19 H locs hp hM hS => ?_)
                          obtain ⟨⟨R1, hR1, v8, kr9⟩, fr9⟩ := hp
                          have hO := hO.kept (fr9 _ (by omega))
                          have fr : ∀ q, q ≠ h + 1 → E19 q = E0 q := fun q hq => (fr9 q hq).trans (fr q hq)
                          have hfr : ∀ q : Nat, (q < h ∨ h + 13 ≤ q) → E19 q = E0 q := fun q hq => fr q (by omega)
                          have kr : ∀ r, r < 13 → r ≠ 8 → R1 r = R r := fun r h1 h2 => (kr9 r h2).trans (kr0 r h1 h2)
                          have hc9 : R1 8 = cmb w.toNat (S.2.1.2.2 i) (S.2.1.2.2 j) := by rw [v8]; unfold cmb; rw [if_neg (by omega), if_neg (by omega), if_pos (by omega)]
                          have hX1 := hX0.w hR1 (fun r hr => kr r (by omega) (by omega)) fr
                          refine lv_aload_n C0.1 C0.2.1 dX10_reckon_153 rfl (lv_at hl 1 rfl) ?_
                          refine lv_iload C0.1 C0.2.1 dX10_reckon_154 (lv_at hl 5 rfl) ?_
                          refine lv_bipush (v := zI 8) C0.1 C0.2.1 dX10_reckon_156 rfl ?_
                          refine mm_callVi (As := [.int (zI (t)), .int (zI (8))]) C0 vw_X10_come tw_1039 (c_X10_comeS l G _ hX1 hpu hi_u (a := 8) rfl (by omega) hc9) hM (hO) rfl rfl hl.1 rfl (Nat.le_of_ble_eq_true rfl) ⟨rfl, rfl, Nat.le_of_ble_eq_true rfl, Nat.le_of_ble_eq_true rfl, Nat.zero_le _, Nat.zero_le _⟩ dX10_reckon_158 hS (fun z9 E20 H locs hp hM hS => ?_)
                          obtain ⟨hz9, ⟨R9, hX9, kr9⟩, fr⟩ := hp
                          have hO := ro.kept hO (fr _ (by omega))
                          have hfr := (fun q h => (fr q (by omega)).trans (hfr q h) : ∀ q : Nat, (q < h ∨ h + 13 ≤ q) → E20 q = E0 q)
                          exact mm_iret (z := z9) C0 hr hlk hM hS dX10_reckon_161 (by have he : pf_reckon S w a b t = (lanZ (cmb w.toNat (S.2.1.2.2 i) (S.2.1.2.2 j)), lanS S u (cmb w.toNat (S.2.1.2.2 i) (S.2.1.2.2 j))) := (by unfold pf_reckon; rw [if_pos (by omega), ht_i, ht_j, ht_u, if_neg (by omega), if_neg (by omega), if_neg (fun q => by have q2 := nl_eq0.mpr q.2; omega)]); rw [he]; exact ⟨hz9, hX9.rf, hfr⟩)
                      · skip
                        refine lv_aload_n C0.1 C0.2.1 dX10_reckon_121 rfl (lv_at hl 1 rfl) ?_
                        refine lv_bipush (v := zI 8) C0.1 C0.2.1 dX10_reckon_122 rfl ?_
                        refine lv_iload_n C0.1 C0.2.1 dX10_reckon_124 rfl (lv_at hl 3 rfl) ?_
                        refine lv_iload_n C0.1 C0.2.1 dX10_reckon_125 rfl (lv_at hl 4 rfl) ?_
                        refine mm_callVv (As := [.int (zI (8)), .int (zI (a)), .int (zI (b))]) C0 vw_X10_multiply tw_1081 (c_X10_multiply l G _ hO hR (t := 8) rfl (by omega) hpi (by omega) hv_i hpj (by omega) hv_j (by omega) (by omega) (by omega)) hM (hO) rfl rfl hl.1 rfl (Nat.le_of_ble_eq_true rfl) ⟨rfl, rfl, Nat.le_of_ble_eq_true rfl, Nat.le_of_ble_eq_true rfl, Nat.zero_le _, Nat.zero_le _⟩ dX10_reckon_126 hS (fun E21 H locs hp hM hS => ?_)
                        obtain ⟨⟨R1, hR1, v8, kr⟩, fr⟩ := hp
                        have hO := ro.kept hO (fr _ (by omega))
                        have hfr := (fun q h => (fr q (by omega)).trans (hfr q h) : ∀ q : Nat, (q < h ∨ h + 13 ≤ q) → E21 q = E0 q)
                        have hc9 : R1 8 = cmb w.toNat (S.2.1.2.2 i) (S.2.1.2.2 j) := by rw [v8]; unfold cmb; rw [if_pos (by omega)]
                        have hX1 := hX0.w hR1 (fun r hr => kr r (by omega)) fr
                        refine lv_goto (tgt := 153) C0.1 C0.2.1 dX10_reckon_129 (by decide) ?_
                        refine lv_aload_n C0.1 C0.2.1 dX10_reckon_153 rfl (lv_at hl 1 rfl) ?_
                        refine lv_iload C0.1 C0.2.1 dX10_reckon_154 (lv_at hl 5 rfl) ?_
                        refine lv_bipush (v := zI 8) C0.1 C0.2.1 dX10_reckon_156 rfl ?_
                        refine mm_callVi (As := [.int (zI (t)), .int (zI (8))]) C0 vw_X10_come tw_1039 (c_X10_comeS l G _ hX1 hpu hi_u (a := 8) rfl (by omega) hc9) hM (hO) rfl rfl hl.1 rfl (Nat.le_of_ble_eq_true rfl) ⟨rfl, rfl, Nat.le_of_ble_eq_true rfl, Nat.le_of_ble_eq_true rfl, Nat.zero_le _, Nat.zero_le _⟩ dX10_reckon_158 hS (fun z9 E22 H locs hp hM hS => ?_)
                        obtain ⟨hz9, ⟨R9, hX9, kr9⟩, fr⟩ := hp
                        have hO := ro.kept hO (fr _ (by omega))
                        have hfr := (fun q h => (fr q (by omega)).trans (hfr q h) : ∀ q : Nat, (q < h ∨ h + 13 ≤ q) → E22 q = E0 q)
                        exact mm_iret (z := z9) C0 hr hlk hM hS dX10_reckon_161 (by have he : pf_reckon S w a b t = (lanZ (cmb w.toNat (S.2.1.2.2 i) (S.2.1.2.2 j)), lanS S u (cmb w.toNat (S.2.1.2.2 i) (S.2.1.2.2 j))) := (by unfold pf_reckon; rw [if_pos (by omega), ht_i, ht_j, ht_u, if_neg (by omega), if_neg (by omega), if_neg (fun q => by have q2 := nl_eq0.mpr q.2; omega)]); rw [he]; exact ⟨hz9, hX9.rf, hfr⟩)
                    · skip
                      refine lv_aload_n C0.1 C0.2.1 dX10_reckon_105 rfl (lv_at hl 1 rfl) ?_
                      refine lv_bipush (v := zI 8) C0.1 C0.2.1 dX10_reckon_106 rfl ?_
                      refine lv_iload_n C0.1 C0.2.1 dX10_reckon_108 rfl (lv_at hl 3 rfl) ?_
                      refine lv_iload_n C0.1 C0.2.1 dX10_reckon_109 rfl (lv_at hl 4 rfl) ?_
                      refine mm_callVv (As := [.int (zI (8)), .int (zI (a)), .int (zI (b))]) C0 vw_X10_subtract tw_1091 (c_X10_subtract l G _ hO hR (t := 8) rfl (by omega) hpi (by omega) hv_i hpj (by omega) hv_j (by omega)) hM (hO) rfl rfl hl.1 rfl (Nat.le_of_ble_eq_true rfl) ⟨rfl, rfl, Nat.le_of_ble_eq_true rfl, Nat.le_of_ble_eq_true rfl, Nat.zero_le _, Nat.zero_le _⟩ dX10_reckon_110 hS (fun E23 H locs hp hM hS => ?_)
                      obtain ⟨⟨R1, hR1, v8, kr⟩, fr⟩ := hp
                      have hO := ro.kept hO (fr _ (by omega))
                      have hfr := (fun q h => (fr q (by omega)).trans (hfr q h) : ∀ q : Nat, (q < h ∨ h + 13 ≤ q) → E23 q = E0 q)
                      have hc9 : R1 8 = cmb w.toNat (S.2.1.2.2 i) (S.2.1.2.2 j) := by rw [v8]; unfold cmb; rw [if_neg (by omega), if_neg (by omega), if_neg (by omega), if_neg (by omega)]
                      have hX1 := hX0.w hR1 (fun r hr => kr r (by omega)) fr
                      refine lv_goto (tgt := 153) C0.1 C0.2.1 dX10_reckon_113 (by decide) ?_
                      refine lv_aload_n C0.1 C0.2.1 dX10_reckon_153 rfl (lv_at hl 1 rfl) ?_
                      refine lv_iload C0.1 C0.2.1 dX10_reckon_154 (lv_at hl 5 rfl) ?_
                      refine lv_bipush (v := zI 8) C0.1 C0.2.1 dX10_reckon_156 rfl ?_
                      refine mm_callVi (As := [.int (zI (t)), .int (zI (8))]) C0 vw_X10_come tw_1039 (c_X10_comeS l G _ hX1 hpu hi_u (a := 8) rfl (by omega) hc9) hM (hO) rfl rfl hl.1 rfl (Nat.le_of_ble_eq_true rfl) ⟨rfl, rfl, Nat.le_of_ble_eq_true rfl, Nat.le_of_ble_eq_true rfl, Nat.zero_le _, Nat.zero_le _⟩ dX10_reckon_158 hS (fun z9 E24 H locs hp hM hS => ?_)
                      obtain ⟨hz9, ⟨R9, hX9, kr9⟩, fr⟩ := hp
                      have hO := ro.kept hO (fr _ (by omega))
                      have hfr := (fun q h => (fr q (by omega)).trans (hfr q h) : ∀ q : Nat, (q < h ∨ h + 13 ≤ q) → E24 q = E0 q)
                      exact mm_iret (z := z9) C0 hr hlk hM hS dX10_reckon_161 (by have he : pf_reckon S w a b t = (lanZ (cmb w.toNat (S.2.1.2.2 i) (S.2.1.2.2 j)), lanS S u (cmb w.toNat (S.2.1.2.2 i) (S.2.1.2.2 j))) := (by unfold pf_reckon; rw [if_pos (by omega), ht_i, ht_j, ht_u, if_neg (by omega), if_neg (by omega), if_neg (fun q => by have q2 := nl_eq0.mpr q.2; omega)]); rw [he]; exact ⟨hz9, hX9.rf, hfr⟩)
                  · skip
                    refine lv_aload_n C0.1 C0.2.1 dX10_reckon_89 rfl (lv_at hl 1 rfl) ?_
                    refine lv_bipush (v := zI 8) C0.1 C0.2.1 dX10_reckon_90 rfl ?_
                    refine lv_iload_n C0.1 C0.2.1 dX10_reckon_92 rfl (lv_at hl 3 rfl) ?_
                    refine lv_iload_n C0.1 C0.2.1 dX10_reckon_93 rfl (lv_at hl 4 rfl) ?_
                    refine mm_callVv (As := [.int (zI (8)), .int (zI (a)), .int (zI (b))]) C0 vw_X10_add tw_1101 (c_X10_add l G _ hO hR (t := 8) rfl (by omega) hpi (by omega) hv_i hpj (by omega) hv_j (by omega)) hM (hO) rfl rfl hl.1 rfl (Nat.le_of_ble_eq_true rfl) ⟨rfl, rfl, Nat.le_of_ble_eq_true rfl, Nat.le_of_ble_eq_true rfl, Nat.zero_le _, Nat.zero_le _⟩ dX10_reckon_94 hS (fun E25 H locs hp hM hS => ?_)
                    obtain ⟨⟨R1, hR1, v8, kr⟩, fr⟩ := hp
                    have hO := ro.kept hO (fr _ (by omega))
                    have hfr := (fun q h => (fr q (by omega)).trans (hfr q h) : ∀ q : Nat, (q < h ∨ h + 13 ≤ q) → E25 q = E0 q)
                    have hc9 : R1 8 = cmb w.toNat (S.2.1.2.2 i) (S.2.1.2.2 j) := by rw [v8]; unfold cmb; rw [if_neg (by omega), if_neg (by omega), if_neg (by omega), if_pos (by omega)]
                    have hX1 := hX0.w hR1 (fun r hr => kr r (by omega)) fr
                    refine lv_goto (tgt := 153) C0.1 C0.2.1 dX10_reckon_97 (by decide) ?_
                    refine lv_aload_n C0.1 C0.2.1 dX10_reckon_153 rfl (lv_at hl 1 rfl) ?_
                    refine lv_iload C0.1 C0.2.1 dX10_reckon_154 (lv_at hl 5 rfl) ?_
                    refine lv_bipush (v := zI 8) C0.1 C0.2.1 dX10_reckon_156 rfl ?_
                    refine mm_callVi (As := [.int (zI (t)), .int (zI (8))]) C0 vw_X10_come tw_1039 (c_X10_comeS l G _ hX1 hpu hi_u (a := 8) rfl (by omega) hc9) hM (hO) rfl rfl hl.1 rfl (Nat.le_of_ble_eq_true rfl) ⟨rfl, rfl, Nat.le_of_ble_eq_true rfl, Nat.le_of_ble_eq_true rfl, Nat.zero_le _, Nat.zero_le _⟩ dX10_reckon_158 hS (fun z9 E26 H locs hp hM hS => ?_)
                    obtain ⟨hz9, ⟨R9, hX9, kr9⟩, fr⟩ := hp
                    have hO := ro.kept hO (fr _ (by omega))
                    have hfr := (fun q h => (fr q (by omega)).trans (hfr q h) : ∀ q : Nat, (q < h ∨ h + 13 ≤ q) → E26 q = E0 q)
                    exact mm_iret (z := z9) C0 hr hlk hM hS dX10_reckon_161 (by have he : pf_reckon S w a b t = (lanZ (cmb w.toNat (S.2.1.2.2 i) (S.2.1.2.2 j)), lanS S u (cmb w.toNat (S.2.1.2.2 i) (S.2.1.2.2 j))) := (by unfold pf_reckon; rw [if_pos (by omega), ht_i, ht_j, ht_u, if_neg (by omega), if_neg (by omega), if_neg (fun q => by have q2 := nl_eq0.mpr q.2; omega)]); rw [he]; exact ⟨hz9, hX9.rf, hfr⟩)
                · skip
                  refine lv_bipush (v := zI (-15)) C0.1 C0.2.1 dX10_reckon_82 rfl ?_
                  exact mm_iret (z := (-15)) C0 hr hlk hM hS dX10_reckon_84 (by have he : pf_reckon S w a b t = ((-15), S) := (by unfold pf_reckon; rw [if_pos (by omega), ht_i, ht_j, if_neg (by omega), if_neg (by omega), if_pos ⟨by omega, nl_eq0.mp (by omega)⟩]); rw [he]; exact ⟨rfl, hX0.rf, fun _ _ => rfl⟩)
            · skip
              refine lv_aload_n C0.1 C0.2.1 dX10_reckon_57 rfl (lv_at hl 1 rfl) ?_
              refine lv_iload_n C0.1 C0.2.1 dX10_reckon_58 rfl (lv_at hl 3 rfl) ?_
              refine lv_iload_n C0.1 C0.2.1 dX10_reckon_59 rfl (lv_at hl 4 rfl) ?_
              refine mm_callVi (As := [.int (zI (a)), .int (zI (b))]) C0 vw_X10_compare tw_1105 (c_X10_compare l G _ hO hR hpi (by omega) hv_i hpj (by omega) hv_j) hM (hO) rfl rfl hl.1 rfl (Nat.le_of_ble_eq_true rfl) ⟨rfl, rfl, Nat.le_of_ble_eq_true rfl, Nat.le_of_ble_eq_true rfl, Nat.zero_le _, Nat.zero_le _⟩ dX10_reckon_60 hS (fun z_60 E27 H locs hp hM hS => ?_)
              obtain ⟨hz_60, hEq⟩ := hp
              rw [hEq] at hM
              refine z_asI (b := (cmpZ (S.2.1.2.2 i) (S.2.1.2.2 j))) (hz_60) ?_
              have hcz := cmpZ_b (S.2.1.2.2 i) (S.2.1.2.2 j)
              have hcm : (cmpZ (S.2.1.2.2 i) (S.2.1.2.2 j) = -1 ∧ S.2.1.2.2 i < S.2.1.2.2 j) ∨ (cmpZ (S.2.1.2.2 i) (S.2.1.2.2 j) = 0 ∧ S.2.1.2.2 i = S.2.1.2.2 j) ∨ (cmpZ (S.2.1.2.2 i) (S.2.1.2.2 j) = 1 ∧ S.2.1.2.2 j < S.2.1.2.2 i) := by unfold cmpZ; omega
              refine z_if_ge (tgt := 69) C0.1 C0.2.1 dX10_reckon_63 (by decide) ⟨by omega, by omega⟩ (fun c_63 => ?_) (fun c_63 => ?_)
              · skip
                refine lv_iload_n C0.1 C0.2.1 dX10_reckon_69 rfl (lv_at hl 2 rfl) ?_
                refine lv_iconst (v := zI 2) C0.1 C0.2.1 dX10_reckon_70 rfl ?_
                refine z_icmp_le (tgt := 85) C0.1 C0.2.1 dX10_reckon_71 (by decide) ⟨by omega, by omega⟩ ⟨by omega, by omega⟩ (fun c_71 => ?_) (fun c_71 => ?_)
                · skip
                  refine lv_iload_n C0.1 C0.2.1 dX10_reckon_85 rfl (lv_at hl 2 rfl) ?_
                  refine z_if_ne (tgt := 100) C0.1 C0.2.1 dX10_reckon_86 (by decide) ⟨by omega, by omega⟩ (fun c_86 => ?_) (fun c_86 => ?_)
                  · skip
                    refine lv_iload_n C0.1 C0.2.1 dX10_reckon_100 rfl (lv_at hl 2 rfl) ?_
                    refine lv_iconst (v := zI 1) C0.1 C0.2.1 dX10_reckon_101 rfl ?_
                    refine z_icmp_ne (tgt := 116) C0.1 C0.2.1 dX10_reckon_102 (by decide) ⟨by omega, by omega⟩ ⟨by omega, by omega⟩ (fun c_102 => ?_) (fun c_102 => ?_)
                    · skip
                      refine lv_iload_n C0.1 C0.2.1 dX10_reckon_116 rfl (lv_at hl 2 rfl) ?_
                      refine lv_iconst (v := zI 2) C0.1 C0.2.1 dX10_reckon_117 rfl ?_
                      refine z_icmp_ne (tgt := 132) C0.1 C0.2.1 dX10_reckon_118 (by decide) ⟨by omega, by omega⟩ ⟨by omega, by omega⟩ (fun c_118 => ?_) (fun c_118 => ?_)
                      · skip
                        refine lv_aload_n C0.1 C0.2.1 dX10_reckon_132 rfl (lv_at hl 1 rfl) ?_
                        refine lv_bipush (v := zI 8) C0.1 C0.2.1 dX10_reckon_133 rfl ?_
                        refine lv_iload_n C0.1 C0.2.1 dX10_reckon_135 rfl (lv_at hl 3 rfl) ?_
                        refine lv_iload_n C0.1 C0.2.1 dX10_reckon_136 rfl (lv_at hl 4 rfl) ?_
                        refine mm_callVv (As := [.int (zI (8)), .int (zI (a)), .int (zI (b))]) C0 vw_X10_divideBy tw_1130 (c_X10_divideBy l G _ hO hR (t := 8) rfl (by omega) hpi (by omega) hv_i hpj (by omega) hv_j (by omega) (by omega) (by omega)) hM (hO) rfl rfl hl.1 rfl (Nat.le_of_ble_eq_true rfl) ⟨rfl, rfl, Nat.le_of_ble_eq_true rfl, Nat.le_of_ble_eq_true rfl, Nat.zero_le _, Nat.zero_le _⟩ dX10_reckon_137 hS (fun E28 H locs hp hM hS => ?_)
                        obtain ⟨⟨R0, hR0, v8, v14, kr0⟩, fr⟩ := hp
                        have hO := ro.kept hO (fr _ (by omega))
                        have hfr := (fun q h => (fr q (by omega)).trans (hfr q h) : ∀ q : Nat, (q < h ∨ h + 13 ≤ q) → E28 q = E0 q)
                        have hfr0 := fr
                        refine lv_iload_n C0.1 C0.2.1 dX10_reckon_140 rfl (lv_at hl 2 rfl) ?_
                        refine lv_iconst (v := zI 4) C0.1 C0.2.1 dX10_reckon_141 rfl ?_
                        refine z_icmp_ne (tgt := 153) C0.1 C0.2.1 dX10_reckon_142 (by decide) ⟨by omega, by omega⟩ ⟨by omega, by omega⟩ (fun c_142 => ?_) (fun c_142 => ?_)
                        · skip
                          have hR1 := hR0
                          have hc9 : R0 8 = cmb w.toNat (S.2.1.2.2 i) (S.2.1.2.2 j) := by rw [v8]; unfold cmb; rw [if_neg (by omega), if_pos (by omega)]
                          have hX1 := hX0.w hR0 (fun r hr => kr0 r (by omega) (by omega)) fr
                          refine lv_aload_n C0.1 C0.2.1 dX10_reckon_153 rfl (lv_at hl 1 rfl) ?_
                          refine lv_iload C0.1 C0.2.1 dX10_reckon_154 (lv_at hl 5 rfl) ?_
                          refine lv_bipush (v := zI 8) C0.1 C0.2.1 dX10_reckon_156 rfl ?_
                          refine mm_callVi (As := [.int (zI (t)), .int (zI (8))]) C0 vw_X10_come tw_1039 (c_X10_comeS l G _ hX1 hpu hi_u (a := 8) rfl (by omega) hc9) hM (hO) rfl rfl hl.1 rfl (Nat.le_of_ble_eq_true rfl) ⟨rfl, rfl, Nat.le_of_ble_eq_true rfl, Nat.le_of_ble_eq_true rfl, Nat.zero_le _, Nat.zero_le _⟩ dX10_reckon_158 hS (fun z9 E29 H locs hp hM hS => ?_)
                          obtain ⟨hz9, ⟨R9, hX9, kr9⟩, fr⟩ := hp
                          have hO := ro.kept hO (fr _ (by omega))
                          have hfr := (fun q h => (fr q (by omega)).trans (hfr q h) : ∀ q : Nat, (q < h ∨ h + 13 ≤ q) → E29 q = E0 q)
                          exact mm_iret (z := z9) C0 hr hlk hM hS dX10_reckon_161 (by have he : pf_reckon S w a b t = (lanZ (cmb w.toNat (S.2.1.2.2 i) (S.2.1.2.2 j)), lanS S u (cmb w.toNat (S.2.1.2.2 i) (S.2.1.2.2 j))) := (by unfold pf_reckon; rw [if_pos (by omega), ht_i, ht_j, ht_u, if_neg (by omega), if_neg (by omega), if_neg (fun q => by have q2 := nl_eq0.mpr q.2; omega)]); rw [he]; exact ⟨hz9, hX9.rf, hfr⟩)
                        · skip
                          refine lv_aload_n C0.1 C0.2.1 dX10_reckon_145 rfl (lv_at hl 1 rfl) ?_
                          refine lv_bipush (v := zI 8) C0.1 C0.2.1 dX10_reckon_146 rfl ?_
                          refine lv_bipush (v := zI 14) C0.1 C0.2.1 dX10_reckon_148 rfl ?_
                          refine mm_callVv (As := [.int (zI (8)), .int (zI (14))]) C0 vw_X10_copy tw_1047 (c_X10_copy l G _ hO hR0 (t := 8) rfl (by omega) (a := 14) rfl (by omega) v14) hM (hO) rfl rfl hl.1 rfl (Nat.le_of_ble_eq_true rfl) ⟨rfl, rfl, Nat.le_of_ble_eq_true rfl, Nat.le_of_ble_eq_true rfl, Nat.zero_le _, Nat.zero_le _⟩ dX10_reckon_150 hS (fun E30 H locs hp hM hS => ?_)
                          obtain ⟨⟨R1, hR1, v8, kr9⟩, fr9⟩ := hp
                          have hO := hO.kept (fr9 _ (by omega))
                          have fr : ∀ q, q ≠ h + 1 → E30 q = E0 q := fun q hq => (fr9 q hq).trans (fr q hq)
                          have hfr : ∀ q : Nat, (q < h ∨ h + 13 ≤ q) → E30 q = E0 q := fun q hq => fr q (by omega)
                          have kr : ∀ r, r < 13 → r ≠ 8 → R1 r = R r := fun r h1 h2 => (kr9 r h2).trans (kr0 r h1 h2)
                          have hc9 : R1 8 = cmb w.toNat (S.2.1.2.2 i) (S.2.1.2.2 j) := by rw [v8]; unfold cmb; rw [if_neg (by omega), if_neg (by omega), if_pos (by omega)]
                          have hX1 := hX0.w hR1 (fun r hr => kr r (by omega) (by omega)) fr
                          refine lv_aload_n C0.1 C0.2.1 dX10_reckon_153 rfl (lv_at hl 1 rfl) ?_
                          refine lv_iload C0.1 C0.2.1 dX10_reckon_154 (lv_at hl 5 rfl) ?_
                          refine lv_bipush (v := zI 8) C0.1 C0.2.1 dX10_reckon_156 rfl ?_
                          refine mm_callVi (As := [.int (zI (t)), .int (zI (8))]) C0 vw_X10_come tw_1039 (c_X10_comeS l G _ hX1 hpu hi_u (a := 8) rfl (by omega) hc9) hM (hO) rfl rfl hl.1 rfl (Nat.le_of_ble_eq_true rfl) ⟨rfl, rfl, Nat.le_of_ble_eq_true rfl, Nat.le_of_ble_eq_true rfl, Nat.zero_le _, Nat.zero_le _⟩ dX10_reckon_158 hS (fun z9 E31 H locs hp hM hS => ?_)
                          obtain ⟨hz9, ⟨R9, hX9, kr9⟩, fr⟩ := hp
                          have hO := ro.kept hO (fr _ (by omega))
                          have hfr := (fun q h => (fr q (by omega)).trans (hfr q h) : ∀ q : Nat, (q < h ∨ h + 13 ≤ q) → E31 q = E0 q)
                          exact mm_iret (z := z9) C0 hr hlk hM hS dX10_reckon_161 (by have he : pf_reckon S w a b t = (lanZ (cmb w.toNat (S.2.1.2.2 i) (S.2.1.2.2 j)), lanS S u (cmb w.toNat (S.2.1.2.2 i) (S.2.1.2.2 j))) := (by unfold pf_reckon; rw [if_pos (by omega), ht_i, ht_j, ht_u, if_neg (by omega), if_neg (by omega), if_neg (fun q => by have q2 := nl_eq0.mpr q.2; omega)]); rw [he]; exact ⟨hz9, hX9.rf, hfr⟩)
                      · skip
                        refine lv_aload_n C0.1 C0.2.1 dX10_reckon_121 rfl (lv_at hl 1 rfl) ?_
                        refine lv_bipush (v := zI 8) C0.1 C0.2.1 dX10_reckon_122 rfl ?_
                        refine lv_iload_n C0.1 C0.2.1 dX10_reckon_124 rfl (lv_at hl 3 rfl) ?_
                        refine lv_iload_n C0.1 C0.2.1 dX10_reckon_125 rfl (lv_at hl 4 rfl) ?_
                        refine mm_callVv (As := [.int (zI (8)), .int (zI (a)), .int (zI (b))]) C0 vw_X10_multiply tw_1081 (c_X10_multiply l G _ hO hR (t := 8) rfl (by omega) hpi (by omega) hv_i hpj (by omega) hv_j (by omega) (by omega) (by omega)) hM (hO) rfl rfl hl.1 rfl (Nat.le_of_ble_eq_true rfl) ⟨rfl, rfl, Nat.le_of_ble_eq_true rfl, Nat.le_of_ble_eq_true rfl, Nat.zero_le _, Nat.zero_le _⟩ dX10_reckon_126 hS (fun E32 H locs hp hM hS => ?_)
                        obtain ⟨⟨R1, hR1, v8, kr⟩, fr⟩ := hp
                        have hO := ro.kept hO (fr _ (by omega))
                        have hfr := (fun q h => (fr q (by omega)).trans (hfr q h) : ∀ q : Nat, (q < h ∨ h + 13 ≤ q) → E32 q = E0 q)
                        have hc9 : R1 8 = cmb w.toNat (S.2.1.2.2 i) (S.2.1.2.2 j) := by rw [v8]; unfold cmb; rw [if_pos (by omega)]
                        have hX1 := hX0.w hR1 (fun r hr => kr r (by omega)) fr
                        refine lv_goto (tgt := 153) C0.1 C0.2.1 dX10_reckon_129 (by decide) ?_
                        refine lv_aload_n C0.1 C0.2.1 dX10_reckon_153 rfl (lv_at hl 1 rfl) ?_
                        refine lv_iload C0.1 C0.2.1 dX10_reckon_154 (lv_at hl 5 rfl) ?_
                        refine lv_bipush (v := zI 8) C0.1 C0.2.1 dX10_reckon_156 rfl ?_
                        refine mm_callVi (As := [.int (zI (t)), .int (zI (8))]) C0 vw_X10_come tw_1039 (c_X10_comeS l G _ hX1 hpu hi_u (a := 8) rfl (by omega) hc9) hM (hO) rfl rfl hl.1 rfl (Nat.le_of_ble_eq_true rfl) ⟨rfl, rfl, Nat.le_of_ble_eq_true rfl, Nat.le_of_ble_eq_true rfl, Nat.zero_le _, Nat.zero_le _⟩ dX10_reckon_158 hS (fun z9 E33 H locs hp hM hS => ?_)
                        obtain ⟨hz9, ⟨R9, hX9, kr9⟩, fr⟩ := hp
                        have hO := ro.kept hO (fr _ (by omega))
                        have hfr := (fun q h => (fr q (by omega)).trans (hfr q h) : ∀ q : Nat, (q < h ∨ h + 13 ≤ q) → E33 q = E0 q)
                        exact mm_iret (z := z9) C0 hr hlk hM hS dX10_reckon_161 (by have he : pf_reckon S w a b t = (lanZ (cmb w.toNat (S.2.1.2.2 i) (S.2.1.2.2 j)), lanS S u (cmb w.toNat (S.2.1.2.2 i) (S.2.1.2.2 j))) := (by unfold pf_reckon; rw [if_pos (by omega), ht_i, ht_j, ht_u, if_neg (by omega), if_neg (by omega), if_neg (fun q => by have q2 := nl_eq0.mpr q.2; omega)]); rw [he]; exact ⟨hz9, hX9.rf, hfr⟩)
                    · skip
                      refine lv_aload_n C0.1 C0.2.1 dX10_reckon_105 rfl (lv_at hl 1 rfl) ?_
                      refine lv_bipush (v := zI 8) C0.1 C0.2.1 dX10_reckon_106 rfl ?_
                      refine lv_iload_n C0.1 C0.2.1 dX10_reckon_108 rfl (lv_at hl 3 rfl) ?_
                      refine lv_iload_n C0.1 C0.2.1 dX10_reckon_109 rfl (lv_at hl 4 rfl) ?_
                      refine mm_callVv (As := [.int (zI (8)), .int (zI (a)), .int (zI (b))]) C0 vw_X10_subtract tw_1091 (c_X10_subtract l G _ hO hR (t := 8) rfl (by omega) hpi (by omega) hv_i hpj (by omega) hv_j (by omega)) hM (hO) rfl rfl hl.1 rfl (Nat.le_of_ble_eq_true rfl) ⟨rfl, rfl, Nat.le_of_ble_eq_true rfl, Nat.le_of_ble_eq_true rfl, Nat.zero_le _, Nat.zero_le _⟩ dX10_reckon_110 hS (fun E34 H locs hp hM hS => ?_)
                      obtain ⟨⟨R1, hR1, v8, kr⟩, fr⟩ := hp
                      have hO := ro.kept hO (fr _ (by omega))
                      have hfr := (fun q h => (fr q (by omega)).trans (hfr q h) : ∀ q : Nat, (q < h ∨ h + 13 ≤ q) → E34 q = E0 q)
                      have hc9 : R1 8 = cmb w.toNat (S.2.1.2.2 i) (S.2.1.2.2 j) := by rw [v8]; unfold cmb; rw [if_neg (by omega), if_neg (by omega), if_neg (by omega), if_neg (by omega)]
                      have hX1 := hX0.w hR1 (fun r hr => kr r (by omega)) fr
                      refine lv_goto (tgt := 153) C0.1 C0.2.1 dX10_reckon_113 (by decide) ?_
                      refine lv_aload_n C0.1 C0.2.1 dX10_reckon_153 rfl (lv_at hl 1 rfl) ?_
                      refine lv_iload C0.1 C0.2.1 dX10_reckon_154 (lv_at hl 5 rfl) ?_
                      refine lv_bipush (v := zI 8) C0.1 C0.2.1 dX10_reckon_156 rfl ?_
                      refine mm_callVi (As := [.int (zI (t)), .int (zI (8))]) C0 vw_X10_come tw_1039 (c_X10_comeS l G _ hX1 hpu hi_u (a := 8) rfl (by omega) hc9) hM (hO) rfl rfl hl.1 rfl (Nat.le_of_ble_eq_true rfl) ⟨rfl, rfl, Nat.le_of_ble_eq_true rfl, Nat.le_of_ble_eq_true rfl, Nat.zero_le _, Nat.zero_le _⟩ dX10_reckon_158 hS (fun z9 E35 H locs hp hM hS => ?_)
                      obtain ⟨hz9, ⟨R9, hX9, kr9⟩, fr⟩ := hp
                      have hO := ro.kept hO (fr _ (by omega))
                      have hfr := (fun q h => (fr q (by omega)).trans (hfr q h) : ∀ q : Nat, (q < h ∨ h + 13 ≤ q) → E35 q = E0 q)
                      exact mm_iret (z := z9) C0 hr hlk hM hS dX10_reckon_161 (by have he : pf_reckon S w a b t = (lanZ (cmb w.toNat (S.2.1.2.2 i) (S.2.1.2.2 j)), lanS S u (cmb w.toNat (S.2.1.2.2 i) (S.2.1.2.2 j))) := (by unfold pf_reckon; rw [if_pos (by omega), ht_i, ht_j, ht_u, if_neg (by omega), if_neg (by omega), if_neg (fun q => by have q2 := nl_eq0.mpr q.2; omega)]); rw [he]; exact ⟨hz9, hX9.rf, hfr⟩)
                  · skip
                    refine lv_aload_n C0.1 C0.2.1 dX10_reckon_89 rfl (lv_at hl 1 rfl) ?_
                    refine lv_bipush (v := zI 8) C0.1 C0.2.1 dX10_reckon_90 rfl ?_
                    refine lv_iload_n C0.1 C0.2.1 dX10_reckon_92 rfl (lv_at hl 3 rfl) ?_
                    refine lv_iload_n C0.1 C0.2.1 dX10_reckon_93 rfl (lv_at hl 4 rfl) ?_
                    refine mm_callVv (As := [.int (zI (8)), .int (zI (a)), .int (zI (b))]) C0 vw_X10_add tw_1101 (c_X10_add l G _ hO hR (t := 8) rfl (by omega) hpi (by omega) hv_i hpj (by omega) hv_j (by omega)) hM (hO) rfl rfl hl.1 rfl (Nat.le_of_ble_eq_true rfl) ⟨rfl, rfl, Nat.le_of_ble_eq_true rfl, Nat.le_of_ble_eq_true rfl, Nat.zero_le _, Nat.zero_le _⟩ dX10_reckon_94 hS (fun E36 H locs hp hM hS => ?_)
                    obtain ⟨⟨R1, hR1, v8, kr⟩, fr⟩ := hp
                    have hO := ro.kept hO (fr _ (by omega))
                    have hfr := (fun q h => (fr q (by omega)).trans (hfr q h) : ∀ q : Nat, (q < h ∨ h + 13 ≤ q) → E36 q = E0 q)
                    have hc9 : R1 8 = cmb w.toNat (S.2.1.2.2 i) (S.2.1.2.2 j) := by rw [v8]; unfold cmb; rw [if_neg (by omega), if_neg (by omega), if_neg (by omega), if_pos (by omega)]
                    have hX1 := hX0.w hR1 (fun r hr => kr r (by omega)) fr
                    refine lv_goto (tgt := 153) C0.1 C0.2.1 dX10_reckon_97 (by decide) ?_
                    refine lv_aload_n C0.1 C0.2.1 dX10_reckon_153 rfl (lv_at hl 1 rfl) ?_
                    refine lv_iload C0.1 C0.2.1 dX10_reckon_154 (lv_at hl 5 rfl) ?_
                    refine lv_bipush (v := zI 8) C0.1 C0.2.1 dX10_reckon_156 rfl ?_
                    refine mm_callVi (As := [.int (zI (t)), .int (zI (8))]) C0 vw_X10_come tw_1039 (c_X10_comeS l G _ hX1 hpu hi_u (a := 8) rfl (by omega) hc9) hM (hO) rfl rfl hl.1 rfl (Nat.le_of_ble_eq_true rfl) ⟨rfl, rfl, Nat.le_of_ble_eq_true rfl, Nat.le_of_ble_eq_true rfl, Nat.zero_le _, Nat.zero_le _⟩ dX10_reckon_158 hS (fun z9 E37 H locs hp hM hS => ?_)
                    obtain ⟨hz9, ⟨R9, hX9, kr9⟩, fr⟩ := hp
                    have hO := ro.kept hO (fr _ (by omega))
                    have hfr := (fun q h => (fr q (by omega)).trans (hfr q h) : ∀ q : Nat, (q < h ∨ h + 13 ≤ q) → E37 q = E0 q)
                    exact mm_iret (z := z9) C0 hr hlk hM hS dX10_reckon_161 (by have he : pf_reckon S w a b t = (lanZ (cmb w.toNat (S.2.1.2.2 i) (S.2.1.2.2 j)), lanS S u (cmb w.toNat (S.2.1.2.2 i) (S.2.1.2.2 j))) := (by unfold pf_reckon; rw [if_pos (by omega), ht_i, ht_j, ht_u, if_neg (by omega), if_neg (by omega), if_neg (fun q => by have q2 := nl_eq0.mpr q.2; omega)]); rw [he]; exact ⟨hz9, hX9.rf, hfr⟩)
                · skip
                  refine lv_aload_n C0.1 C0.2.1 dX10_reckon_74 rfl (lv_at hl 1 rfl) ?_
                  refine lv_iload_n C0.1 C0.2.1 dX10_reckon_75 rfl (lv_at hl 4 rfl) ?_
                  refine mm_callVi (As := [.int (zI (b))]) C0 vw_X10_sizeOf tw_997 (c_X10_sizeOf l G _ hO hR hpj (by omega) hv_j) hM (hO) rfl rfl hl.1 rfl (Nat.le_of_ble_eq_true rfl) ⟨rfl, rfl, Nat.le_of_ble_eq_true rfl, Nat.le_of_ble_eq_true rfl, Nat.zero_le _, Nat.zero_le _⟩ dX10_reckon_76 hS (fun z_76 E38 H locs hp hM hS => ?_)
                  obtain ⟨hz_76, hEq⟩ := hp
                  rw [hEq] at hM
                  refine z_asI (b := (nl (S.2.1.2.2 j) : Int)) (hz_76) ?_
                  refine z_if_ne (tgt := 85) C0.1 C0.2.1 dX10_reckon_79 (by decide) ⟨by omega, by omega⟩ (fun c_79 => ?_) (fun c_79 => ?_)
                  · skip
                    refine lv_iload_n C0.1 C0.2.1 dX10_reckon_85 rfl (lv_at hl 2 rfl) ?_
                    refine z_if_ne (tgt := 100) C0.1 C0.2.1 dX10_reckon_86 (by decide) ⟨by omega, by omega⟩ (fun c_86 => ?_) (fun c_86 => ?_)
                    · skip
                      refine lv_iload_n C0.1 C0.2.1 dX10_reckon_100 rfl (lv_at hl 2 rfl) ?_
                      refine lv_iconst (v := zI 1) C0.1 C0.2.1 dX10_reckon_101 rfl ?_
                      refine z_icmp_ne (tgt := 116) C0.1 C0.2.1 dX10_reckon_102 (by decide) ⟨by omega, by omega⟩ ⟨by omega, by omega⟩ (fun c_102 => ?_) (fun c_102 => ?_)
                      · skip
                        refine lv_iload_n C0.1 C0.2.1 dX10_reckon_116 rfl (lv_at hl 2 rfl) ?_
                        refine lv_iconst (v := zI 2) C0.1 C0.2.1 dX10_reckon_117 rfl ?_
                        refine z_icmp_ne (tgt := 132) C0.1 C0.2.1 dX10_reckon_118 (by decide) ⟨by omega, by omega⟩ ⟨by omega, by omega⟩ (fun c_118 => ?_) (fun c_118 => ?_)
                        · skip
                          refine lv_aload_n C0.1 C0.2.1 dX10_reckon_132 rfl (lv_at hl 1 rfl) ?_
                          refine lv_bipush (v := zI 8) C0.1 C0.2.1 dX10_reckon_133 rfl ?_
                          refine lv_iload_n C0.1 C0.2.1 dX10_reckon_135 rfl (lv_at hl 3 rfl) ?_
                          refine lv_iload_n C0.1 C0.2.1 dX10_reckon_136 rfl (lv_at hl 4 rfl) ?_
                          refine mm_callVv (As := [.int (zI (8)), .int (zI (a)), .int (zI (b))]) C0 vw_X10_divideBy tw_1130 (c_X10_divideBy l G _ hO hR (t := 8) rfl (by omega) hpi (by omega) hv_i hpj (by omega) hv_j (by omega) (by omega) (by omega)) hM (hO) rfl rfl hl.1 rfl (Nat.le_of_ble_eq_true rfl) ⟨rfl, rfl, Nat.le_of_ble_eq_true rfl, Nat.le_of_ble_eq_true rfl, Nat.zero_le _, Nat.zero_le _⟩ dX10_reckon_137 hS (fun E39 H locs hp hM hS => ?_)
                          obtain ⟨⟨R0, hR0, v8, v14, kr0⟩, fr⟩ := hp
                          have hO := ro.kept hO (fr _ (by omega))
                          have hfr := (fun q h => (fr q (by omega)).trans (hfr q h) : ∀ q : Nat, (q < h ∨ h + 13 ≤ q) → E39 q = E0 q)
                          have hfr0 := fr
                          refine lv_iload_n C0.1 C0.2.1 dX10_reckon_140 rfl (lv_at hl 2 rfl) ?_
                          refine lv_iconst (v := zI 4) C0.1 C0.2.1 dX10_reckon_141 rfl ?_
                          refine z_icmp_ne (tgt := 153) C0.1 C0.2.1 dX10_reckon_142 (by decide) ⟨by omega, by omega⟩ ⟨by omega, by omega⟩ (fun c_142 => ?_) (fun c_142 => ?_)
                          · skip
                            have hR1 := hR0
                            have hc9 : R0 8 = cmb w.toNat (S.2.1.2.2 i) (S.2.1.2.2 j) := by rw [v8]; unfold cmb; rw [if_neg (by omega), if_pos (by omega)]
                            have hX1 := hX0.w hR0 (fun r hr => kr0 r (by omega) (by omega)) fr
                            refine lv_aload_n C0.1 C0.2.1 dX10_reckon_153 rfl (lv_at hl 1 rfl) ?_
                            refine lv_iload C0.1 C0.2.1 dX10_reckon_154 (lv_at hl 5 rfl) ?_
                            refine lv_bipush (v := zI 8) C0.1 C0.2.1 dX10_reckon_156 rfl ?_
                            refine mm_callVi (As := [.int (zI (t)), .int (zI (8))]) C0 vw_X10_come tw_1039 (c_X10_comeS l G _ hX1 hpu hi_u (a := 8) rfl (by omega) hc9) hM (hO) rfl rfl hl.1 rfl (Nat.le_of_ble_eq_true rfl) ⟨rfl, rfl, Nat.le_of_ble_eq_true rfl, Nat.le_of_ble_eq_true rfl, Nat.zero_le _, Nat.zero_le _⟩ dX10_reckon_158 hS (fun z9 E40 H locs hp hM hS => ?_)
                            obtain ⟨hz9, ⟨R9, hX9, kr9⟩, fr⟩ := hp
                            have hO := ro.kept hO (fr _ (by omega))
                            have hfr := (fun q h => (fr q (by omega)).trans (hfr q h) : ∀ q : Nat, (q < h ∨ h + 13 ≤ q) → E40 q = E0 q)
                            exact mm_iret (z := z9) C0 hr hlk hM hS dX10_reckon_161 (by have he : pf_reckon S w a b t = (lanZ (cmb w.toNat (S.2.1.2.2 i) (S.2.1.2.2 j)), lanS S u (cmb w.toNat (S.2.1.2.2 i) (S.2.1.2.2 j))) := (by unfold pf_reckon; rw [if_pos (by omega), ht_i, ht_j, ht_u, if_neg (by omega), if_neg (by omega), if_neg (fun q => by have q2 := nl_eq0.mpr q.2; omega)]); rw [he]; exact ⟨hz9, hX9.rf, hfr⟩)
                          · skip
                            refine lv_aload_n C0.1 C0.2.1 dX10_reckon_145 rfl (lv_at hl 1 rfl) ?_
                            refine lv_bipush (v := zI 8) C0.1 C0.2.1 dX10_reckon_146 rfl ?_
                            refine lv_bipush (v := zI 14) C0.1 C0.2.1 dX10_reckon_148 rfl ?_
                            refine mm_callVv (As := [.int (zI (8)), .int (zI (14))]) C0 vw_X10_copy tw_1047 (c_X10_copy l G _ hO hR0 (t := 8) rfl (by omega) (a := 14) rfl (by omega) v14) hM (hO) rfl rfl hl.1 rfl (Nat.le_of_ble_eq_true rfl) ⟨rfl, rfl, Nat.le_of_ble_eq_true rfl, Nat.le_of_ble_eq_true rfl, Nat.zero_le _, Nat.zero_le _⟩ dX10_reckon_150 hS (fun E41 H locs hp hM hS => ?_)
                            obtain ⟨⟨R1, hR1, v8, kr9⟩, fr9⟩ := hp
                            have hO := hO.kept (fr9 _ (by omega))
                            have fr : ∀ q, q ≠ h + 1 → E41 q = E0 q := fun q hq => (fr9 q hq).trans (fr q hq)
                            have hfr : ∀ q : Nat, (q < h ∨ h + 13 ≤ q) → E41 q = E0 q := fun q hq => fr q (by omega)
                            have kr : ∀ r, r < 13 → r ≠ 8 → R1 r = R r := fun r h1 h2 => (kr9 r h2).trans (kr0 r h1 h2)
                            have hc9 : R1 8 = cmb w.toNat (S.2.1.2.2 i) (S.2.1.2.2 j) := by rw [v8]; unfold cmb; rw [if_neg (by omega), if_neg (by omega), if_pos (by omega)]
                            have hX1 := hX0.w hR1 (fun r hr => kr r (by omega) (by omega)) fr
                            refine lv_aload_n C0.1 C0.2.1 dX10_reckon_153 rfl (lv_at hl 1 rfl) ?_
                            refine lv_iload C0.1 C0.2.1 dX10_reckon_154 (lv_at hl 5 rfl) ?_
                            refine lv_bipush (v := zI 8) C0.1 C0.2.1 dX10_reckon_156 rfl ?_
                            refine mm_callVi (As := [.int (zI (t)), .int (zI (8))]) C0 vw_X10_come tw_1039 (c_X10_comeS l G _ hX1 hpu hi_u (a := 8) rfl (by omega) hc9) hM (hO) rfl rfl hl.1 rfl (Nat.le_of_ble_eq_true rfl) ⟨rfl, rfl, Nat.le_of_ble_eq_true rfl, Nat.le_of_ble_eq_true rfl, Nat.zero_le _, Nat.zero_le _⟩ dX10_reckon_158 hS (fun z9 E42 H locs hp hM hS => ?_)
                            obtain ⟨hz9, ⟨R9, hX9, kr9⟩, fr⟩ := hp
                            have hO := ro.kept hO (fr _ (by omega))
                            have hfr := (fun q h => (fr q (by omega)).trans (hfr q h) : ∀ q : Nat, (q < h ∨ h + 13 ≤ q) → E42 q = E0 q)
                            exact mm_iret (z := z9) C0 hr hlk hM hS dX10_reckon_161 (by have he : pf_reckon S w a b t = (lanZ (cmb w.toNat (S.2.1.2.2 i) (S.2.1.2.2 j)), lanS S u (cmb w.toNat (S.2.1.2.2 i) (S.2.1.2.2 j))) := (by unfold pf_reckon; rw [if_pos (by omega), ht_i, ht_j, ht_u, if_neg (by omega), if_neg (by omega), if_neg (fun q => by have q2 := nl_eq0.mpr q.2; omega)]); rw [he]; exact ⟨hz9, hX9.rf, hfr⟩)
                        · skip
                          refine lv_aload_n C0.1 C0.2.1 dX10_reckon_121 rfl (lv_at hl 1 rfl) ?_
                          refine lv_bipush (v := zI 8) C0.1 C0.2.1 dX10_reckon_122 rfl ?_
                          refine lv_iload_n C0.1 C0.2.1 dX10_reckon_124 rfl (lv_at hl 3 rfl) ?_
                          refine lv_iload_n C0.1 C0.2.1 dX10_reckon_125 rfl (lv_at hl 4 rfl) ?_
                          refine mm_callVv (As := [.int (zI (8)), .int (zI (a)), .int (zI (b))]) C0 vw_X10_multiply tw_1081 (c_X10_multiply l G _ hO hR (t := 8) rfl (by omega) hpi (by omega) hv_i hpj (by omega) hv_j (by omega) (by omega) (by omega)) hM (hO) rfl rfl hl.1 rfl (Nat.le_of_ble_eq_true rfl) ⟨rfl, rfl, Nat.le_of_ble_eq_true rfl, Nat.le_of_ble_eq_true rfl, Nat.zero_le _, Nat.zero_le _⟩ dX10_reckon_126 hS (fun E43 H locs hp hM hS => ?_)
                          obtain ⟨⟨R1, hR1, v8, kr⟩, fr⟩ := hp
                          have hO := ro.kept hO (fr _ (by omega))
                          have hfr := (fun q h => (fr q (by omega)).trans (hfr q h) : ∀ q : Nat, (q < h ∨ h + 13 ≤ q) → E43 q = E0 q)
                          have hc9 : R1 8 = cmb w.toNat (S.2.1.2.2 i) (S.2.1.2.2 j) := by rw [v8]; unfold cmb; rw [if_pos (by omega)]
                          have hX1 := hX0.w hR1 (fun r hr => kr r (by omega)) fr
                          refine lv_goto (tgt := 153) C0.1 C0.2.1 dX10_reckon_129 (by decide) ?_
                          refine lv_aload_n C0.1 C0.2.1 dX10_reckon_153 rfl (lv_at hl 1 rfl) ?_
                          refine lv_iload C0.1 C0.2.1 dX10_reckon_154 (lv_at hl 5 rfl) ?_
                          refine lv_bipush (v := zI 8) C0.1 C0.2.1 dX10_reckon_156 rfl ?_
                          refine mm_callVi (As := [.int (zI (t)), .int (zI (8))]) C0 vw_X10_come tw_1039 (c_X10_comeS l G _ hX1 hpu hi_u (a := 8) rfl (by omega) hc9) hM (hO) rfl rfl hl.1 rfl (Nat.le_of_ble_eq_true rfl) ⟨rfl, rfl, Nat.le_of_ble_eq_true rfl, Nat.le_of_ble_eq_true rfl, Nat.zero_le _, Nat.zero_le _⟩ dX10_reckon_158 hS (fun z9 E44 H locs hp hM hS => ?_)
                          obtain ⟨hz9, ⟨R9, hX9, kr9⟩, fr⟩ := hp
                          have hO := ro.kept hO (fr _ (by omega))
                          have hfr := (fun q h => (fr q (by omega)).trans (hfr q h) : ∀ q : Nat, (q < h ∨ h + 13 ≤ q) → E44 q = E0 q)
                          exact mm_iret (z := z9) C0 hr hlk hM hS dX10_reckon_161 (by have he : pf_reckon S w a b t = (lanZ (cmb w.toNat (S.2.1.2.2 i) (S.2.1.2.2 j)), lanS S u (cmb w.toNat (S.2.1.2.2 i) (S.2.1.2.2 j))) := (by unfold pf_reckon; rw [if_pos (by omega), ht_i, ht_j, ht_u, if_neg (by omega), if_neg (by omega), if_neg (fun q => by have q2 := nl_eq0.mpr q.2; omega)]); rw [he]; exact ⟨hz9, hX9.rf, hfr⟩)
                      · skip
                        refine lv_aload_n C0.1 C0.2.1 dX10_reckon_105 rfl (lv_at hl 1 rfl) ?_
                        refine lv_bipush (v := zI 8) C0.1 C0.2.1 dX10_reckon_106 rfl ?_
                        refine lv_iload_n C0.1 C0.2.1 dX10_reckon_108 rfl (lv_at hl 3 rfl) ?_
                        refine lv_iload_n C0.1 C0.2.1 dX10_reckon_109 rfl (lv_at hl 4 rfl) ?_
                        refine mm_callVv (As := [.int (zI (8)), .int (zI (a)), .int (zI (b))]) C0 vw_X10_subtract tw_1091 (c_X10_subtract l G _ hO hR (t := 8) rfl (by omega) hpi (by omega) hv_i hpj (by omega) hv_j (by omega)) hM (hO) rfl rfl hl.1 rfl (Nat.le_of_ble_eq_true rfl) ⟨rfl, rfl, Nat.le_of_ble_eq_true rfl, Nat.le_of_ble_eq_true rfl, Nat.zero_le _, Nat.zero_le _⟩ dX10_reckon_110 hS (fun E45 H locs hp hM hS => ?_)
                        obtain ⟨⟨R1, hR1, v8, kr⟩, fr⟩ := hp
                        have hO := ro.kept hO (fr _ (by omega))
                        have hfr := (fun q h => (fr q (by omega)).trans (hfr q h) : ∀ q : Nat, (q < h ∨ h + 13 ≤ q) → E45 q = E0 q)
                        have hc9 : R1 8 = cmb w.toNat (S.2.1.2.2 i) (S.2.1.2.2 j) := by rw [v8]; unfold cmb; rw [if_neg (by omega), if_neg (by omega), if_neg (by omega), if_neg (by omega)]
                        have hX1 := hX0.w hR1 (fun r hr => kr r (by omega)) fr
                        refine lv_goto (tgt := 153) C0.1 C0.2.1 dX10_reckon_113 (by decide) ?_
                        refine lv_aload_n C0.1 C0.2.1 dX10_reckon_153 rfl (lv_at hl 1 rfl) ?_
                        refine lv_iload C0.1 C0.2.1 dX10_reckon_154 (lv_at hl 5 rfl) ?_
                        refine lv_bipush (v := zI 8) C0.1 C0.2.1 dX10_reckon_156 rfl ?_
                        refine mm_callVi (As := [.int (zI (t)), .int (zI (8))]) C0 vw_X10_come tw_1039 (c_X10_comeS l G _ hX1 hpu hi_u (a := 8) rfl (by omega) hc9) hM (hO) rfl rfl hl.1 rfl (Nat.le_of_ble_eq_true rfl) ⟨rfl, rfl, Nat.le_of_ble_eq_true rfl, Nat.le_of_ble_eq_true rfl, Nat.zero_le _, Nat.zero_le _⟩ dX10_reckon_158 hS (fun z9 E46 H locs hp hM hS => ?_)
                        obtain ⟨hz9, ⟨R9, hX9, kr9⟩, fr⟩ := hp
                        have hO := ro.kept hO (fr _ (by omega))
                        have hfr := (fun q h => (fr q (by omega)).trans (hfr q h) : ∀ q : Nat, (q < h ∨ h + 13 ≤ q) → E46 q = E0 q)
                        exact mm_iret (z := z9) C0 hr hlk hM hS dX10_reckon_161 (by have he : pf_reckon S w a b t = (lanZ (cmb w.toNat (S.2.1.2.2 i) (S.2.1.2.2 j)), lanS S u (cmb w.toNat (S.2.1.2.2 i) (S.2.1.2.2 j))) := (by unfold pf_reckon; rw [if_pos (by omega), ht_i, ht_j, ht_u, if_neg (by omega), if_neg (by omega), if_neg (fun q => by have q2 := nl_eq0.mpr q.2; omega)]); rw [he]; exact ⟨hz9, hX9.rf, hfr⟩)
                    · skip
                      refine lv_aload_n C0.1 C0.2.1 dX10_reckon_89 rfl (lv_at hl 1 rfl) ?_
                      refine lv_bipush (v := zI 8) C0.1 C0.2.1 dX10_reckon_90 rfl ?_
                      refine lv_iload_n C0.1 C0.2.1 dX10_reckon_92 rfl (lv_at hl 3 rfl) ?_
                      refine lv_iload_n C0.1 C0.2.1 dX10_reckon_93 rfl (lv_at hl 4 rfl) ?_
                      refine mm_callVv (As := [.int (zI (8)), .int (zI (a)), .int (zI (b))]) C0 vw_X10_add tw_1101 (c_X10_add l G _ hO hR (t := 8) rfl (by omega) hpi (by omega) hv_i hpj (by omega) hv_j (by omega)) hM (hO) rfl rfl hl.1 rfl (Nat.le_of_ble_eq_true rfl) ⟨rfl, rfl, Nat.le_of_ble_eq_true rfl, Nat.le_of_ble_eq_true rfl, Nat.zero_le _, Nat.zero_le _⟩ dX10_reckon_94 hS (fun E47 H locs hp hM hS => ?_)
                      obtain ⟨⟨R1, hR1, v8, kr⟩, fr⟩ := hp
                      have hO := ro.kept hO (fr _ (by omega))
                      have hfr := (fun q h => (fr q (by omega)).trans (hfr q h) : ∀ q : Nat, (q < h ∨ h + 13 ≤ q) → E47 q = E0 q)
                      have hc9 : R1 8 = cmb w.toNat (S.2.1.2.2 i) (S.2.1.2.2 j) := by rw [v8]; unfold cmb; rw [if_neg (by omega), if_neg (by omega), if_neg (by omega), if_pos (by omega)]
                      have hX1 := hX0.w hR1 (fun r hr => kr r (by omega)) fr
                      refine lv_goto (tgt := 153) C0.1 C0.2.1 dX10_reckon_97 (by decide) ?_
                      refine lv_aload_n C0.1 C0.2.1 dX10_reckon_153 rfl (lv_at hl 1 rfl) ?_
                      refine lv_iload C0.1 C0.2.1 dX10_reckon_154 (lv_at hl 5 rfl) ?_
                      refine lv_bipush (v := zI 8) C0.1 C0.2.1 dX10_reckon_156 rfl ?_
                      refine mm_callVi (As := [.int (zI (t)), .int (zI (8))]) C0 vw_X10_come tw_1039 (c_X10_comeS l G _ hX1 hpu hi_u (a := 8) rfl (by omega) hc9) hM (hO) rfl rfl hl.1 rfl (Nat.le_of_ble_eq_true rfl) ⟨rfl, rfl, Nat.le_of_ble_eq_true rfl, Nat.le_of_ble_eq_true rfl, Nat.zero_le _, Nat.zero_le _⟩ dX10_reckon_158 hS (fun z9 E48 H locs hp hM hS => ?_)
                      obtain ⟨hz9, ⟨R9, hX9, kr9⟩, fr⟩ := hp
                      have hO := ro.kept hO (fr _ (by omega))
                      have hfr := (fun q h => (fr q (by omega)).trans (hfr q h) : ∀ q : Nat, (q < h ∨ h + 13 ≤ q) → E48 q = E0 q)
                      exact mm_iret (z := z9) C0 hr hlk hM hS dX10_reckon_161 (by have he : pf_reckon S w a b t = (lanZ (cmb w.toNat (S.2.1.2.2 i) (S.2.1.2.2 j)), lanS S u (cmb w.toNat (S.2.1.2.2 i) (S.2.1.2.2 j))) := (by unfold pf_reckon; rw [if_pos (by omega), ht_i, ht_j, ht_u, if_neg (by omega), if_neg (by omega), if_neg (fun q => by have q2 := nl_eq0.mpr q.2; omega)]); rw [he]; exact ⟨hz9, hX9.rf, hfr⟩)
                  · skip
                    refine lv_bipush (v := zI (-15)) C0.1 C0.2.1 dX10_reckon_82 rfl ?_
                    exact mm_iret (z := (-15)) C0 hr hlk hM hS dX10_reckon_84 (by have he : pf_reckon S w a b t = ((-15), S) := (by unfold pf_reckon; rw [if_pos (by omega), ht_i, ht_j, if_neg (by omega), if_neg (by omega), if_pos ⟨by omega, nl_eq0.mp (by omega)⟩]); rw [he]; exact ⟨rfl, hX0.rf, fun _ _ => rfl⟩)
              · skip
                refine lv_bipush (v := zI (-2)) C0.1 C0.2.1 dX10_reckon_66 rfl ?_
                exact mm_iret (z := (-2)) C0 hr hlk hM hS dX10_reckon_68 (by have he : pf_reckon S w a b t = ((-2), S) := (by unfold pf_reckon; rw [if_pos (by omega), ht_i, ht_j, if_neg (by omega), if_pos (by omega)]); rw [he]; exact ⟨rfl, hX0.rf, fun _ _ => rfl⟩)
          · skip
            refine lv_iload C0.1 C0.2.1 dX10_reckon_49 (lv_at hl 0 rfl) ?_
            exact mm_iret (z := (fau2 (nFau (S.2.1.1 i)) (nFau (S.2.1.1 j)))) C0 hr hlk hM hS dX10_reckon_51 (by have he : pf_reckon S w a b t = ((fau2 (nFau (S.2.1.1 i)) (nFau (S.2.1.1 j))), S) := (by unfold pf_reckon; rw [if_pos (by omega), ht_i, ht_j, if_pos (by omega)]); rw [he]; exact ⟨rfl, hX0.rf, fun _ _ => rfl⟩)
        · skip
          refine lv_iconst (v := zI (-1)) C0.1 C0.2.1 dX10_reckon_34 rfl ?_
          exact mm_iret (z := (-1)) C0 hr hlk hM hS dX10_reckon_35 (by have he : pf_reckon S w a b t = ((-1), S) := (by unfold pf_reckon; rw [if_neg (by omega)]); rw [he]; exact ⟨rfl, hX0.rf, fun _ _ => rfl⟩)

def rX10_root : Room := { frames := 3, cells := 0, slots := 0, locals := 77 }
theorem vw_X10_root : mm_Vw RX10 yX10_root cX10_root 5 (some .int) 2 := ⟨tw_1140, tw_1141, tw_10, tw_1142, by decide +kernel⟩
set_option maxHeartbeats 4000000 in
set_option maxRecDepth 100000 in
theorem c_X10_root (l : Launch) (G : mG) (E0 : mE) {h : Nat} {S : mST} (hF : rf G E0 h S) (hok : okR S) {a t : Int} (hr_a : rI a) (hr_t : rI t) : mm_Ci l yX10_root (.code yX10_root cX10_root 5 (some .int) :: wsG) rX10_root G [.ref (h), .int (zI (a)), .int (zI (t))] E0 (fun z E => z = (pf_root S a t).1 ∧ rf G E h (pf_root S a t).2 ∧ ∀ q : Nat, (q < h ∨ h + 13 ≤ q) → E q = E0 q) := by
  refine mm_of_i (by decide +kernel) (Nat.le_of_ble_eq_true rfl) ?_
  intro p e s m args below meth c ls C0 hr hlk hM hl hS
  have hl : lv_has ls 5 [(0, .ref (h)), (1, .int (zI (a))), (2, .int (zI (t)))] := hl
  obtain ⟨hr_a1, hr_a2⟩ := hr_a
  obtain ⟨hr_t1, hr_t2⟩ := hr_t
  obtain ⟨R, x2, x3, x4, x5, x6, x7, hX⟩ := hF
  have hX0 := hX
  obtain ⟨hTk, hPk, hKk, hSk⟩ := hok
  obtain ⟨hO, hR, hRp, ⟨fh, fc, hH, hC, hPa⟩, hTp, hCl, hKp, hSh, him⟩ := hX
  have hfr : ∀ q : Nat, (q < h ∨ h + 13 ≤ q) → E0 q = E0 q := fun _ _ => rfl
  refine lv_iload_n C0.1 C0.2.1 dX10_root_0 rfl (lv_at hl 1 rfl) ?_
  refine mm_callSi (As := [.int (zI (a))]) C0 sw_X10_isPlace tw_981 (c_X10_isPlace l G _ (i := a) ⟨by omega, by omega⟩) hM rfl hl.1 rfl (Nat.le_of_ble_eq_true rfl) ⟨rfl, rfl, Nat.le_of_ble_eq_true rfl, Nat.le_of_ble_eq_true rfl, Nat.zero_le _, Nat.zero_le _⟩ dX10_root_1 hS (fun z_1 E1 H locs hp hM hS => ?_)
  obtain ⟨hz_1, hEq⟩ := hp
  rw [hEq] at hM
  have hz_1b := if01 hz_1
  refine z_if_eq (tgt := 14) C0.1 C0.2.1 dX10_root_4 (by decide) ⟨by omega, by omega⟩ (fun c_4 => ?_) (fun c_4 => ?_)
  · skip
    refine lv_iconst (v := zI (-1)) C0.1 C0.2.1 dX10_root_14 rfl ?_
    exact mm_iret (z := (-1)) C0 hr hlk hM hS dX10_root_15 (by have he : pf_root S a t = ((-1), S) := (by unfold pf_root; rw [if_neg (by omega)]); rw [he]; exact ⟨rfl, hX0.rf, fun _ _ => rfl⟩)
  · skip
    refine lv_iload_n C0.1 C0.2.1 dX10_root_7 rfl (lv_at hl 2 rfl) ?_
    refine mm_callSi (As := [.int (zI (t))]) C0 sw_X10_isPlace tw_981 (c_X10_isPlace l G _ (i := t) ⟨by omega, by omega⟩) hM rfl hl.1 rfl (Nat.le_of_ble_eq_true rfl) ⟨rfl, rfl, Nat.le_of_ble_eq_true rfl, Nat.le_of_ble_eq_true rfl, Nat.zero_le _, Nat.zero_le _⟩ dX10_root_8 hS (fun z_8 E2 H locs hp hM hS => ?_)
    obtain ⟨hz_8, hEq⟩ := hp
    rw [hEq] at hM
    have hz_8b := if01 hz_8
    refine z_if_ne (tgt := 16) C0.1 C0.2.1 dX10_root_11 (by decide) ⟨by omega, by omega⟩ (fun c_11 => ?_) (fun c_11 => ?_)
    · skip
      obtain ⟨i, hpi⟩ : ∃ i : Nat, a = (i : Int) := ⟨(a).toNat, by omega⟩
      have hi_i : i < 8 := by omega
      have ht_i : (a).toNat = i := by omega
      obtain ⟨ho_i1, ho_i2, ho_i3, ho_i4⟩ := hPk i hi_i
      obtain ⟨hh_i, hc_i⟩ := hPa i hi_i
      have hv_i := hRp i hi_i
      obtain ⟨u, hpu⟩ : ∃ u : Nat, t = (u : Int) := ⟨(t).toNat, by omega⟩
      have hi_u : u < 8 := by omega
      have ht_u : (t).toNat = u := by omega
      refine lv_aload_n C0.1 C0.2.1 dX10_root_16 rfl (lv_at hl 0 rfl) ?_
      refine lv_iload_n C0.1 C0.2.1 dX10_root_17 rfl (lv_at hl 1 rfl) ?_
      refine lv_iconst (v := zI 0) C0.1 C0.2.1 dX10_root_18 rfl ?_
      refine mm_callVi (As := [.int (zI (a)), .int (zI (0))]) C0 vw_X10_lacks tw_1113 (c_X10_lacks l G _ hO hH hpi (by omega) (v := 0) (w := S.2.1.1 i) (by omega) hh_i ho_i1) hM (hO) rfl rfl hl.1 rfl (Nat.le_of_ble_eq_true rfl) ⟨rfl, rfl, Nat.le_of_ble_eq_true rfl, Nat.le_of_ble_eq_true rfl, Nat.zero_le _, Nat.zero_le _⟩ dX10_root_19 hS (fun z_19 E3 H locs hp hM hS => ?_)
      obtain ⟨hz_19, hEq⟩ := hp
      rw [hEq] at hM
      refine z_asI (b := (nFau (S.2.1.1 i))) (hz_19.trans (if_pos rfl)) ?_
      obtain ⟨hnb_i1, hnb_i2⟩ := nFau_b (S.2.1.1 i)
      refine lv_istore_n (lv' := [(3, .int (zI ((nFau (S.2.1.1 i))))), (0, .ref (h)), (1, .int (zI (a))), (2, .int (zI (t)))]) C0.1 C0.2.1 dX10_root_22 rfl hl (by decide) rfl (fun ls hl => ?_)
      refine lv_iload_n C0.1 C0.2.1 dX10_root_23 rfl (lv_at hl 0 rfl) ?_
      refine z_if_ge (tgt := 29) C0.1 C0.2.1 dX10_root_24 (by decide) ⟨by omega, by omega⟩ (fun c_24 => ?_) (fun c_24 => ?_)
      · skip
        refine lv_aload_n C0.1 C0.2.1 dX10_root_29 rfl (lv_at hl 1 rfl) ?_
        refine lv_bipush (v := zI 8) C0.1 C0.2.1 dX10_root_30 rfl ?_
        refine lv_iload_n C0.1 C0.2.1 dX10_root_32 rfl (lv_at hl 2 rfl) ?_
        refine mm_callVi (As := [.int (zI (8)), .int (zI (a))]) C0 vw_X10_rootOf tw_1143 (c_X10_rootOf l G _ hO hR (t := 8) rfl (by omega) hpi (by omega) hv_i (by omega) (by omega) (rtF_p _)) hM (hO) rfl rfl hl.1 rfl (Nat.le_of_ble_eq_true rfl) ⟨rfl, rfl, Nat.le_of_ble_eq_true rfl, Nat.le_of_ble_eq_true rfl, Nat.zero_le _, Nat.zero_le _⟩ dX10_root_33 hS (fun z33 E4 H locs hp hM hS => ?_)
        obtain ⟨hz33, ⟨R1, hR1, v8, kr⟩, fr⟩ := hp
        have hO := ro.kept hO (fr _ (by omega))
        have hfr := (fun q h => (fr q (by omega)).trans (hfr q h) : ∀ q : Nat, (q < h ∨ h + 13 ≤ q) → E4 q = E0 q)
        have hz33b := if01 hz33
        have hX1 := hX0.w hR1 (fun r hr => kr r (by omega) (by omega)) fr
        refine lv_istore (lv' := [(4, .int (zI (z33))), (3, .int (zI ((nFau (S.2.1.1 i))))), (0, .ref (h)), (1, .int (zI (a))), (2, .int (zI (t)))]) C0.1 C0.2.1 dX10_root_36 hl (by decide) rfl (fun ls hl => ?_)
        refine lv_aload_n C0.1 C0.2.1 dX10_root_38 rfl (lv_at hl 2 rfl) ?_
        refine lv_iload_n C0.1 C0.2.1 dX10_root_39 rfl (lv_at hl 4 rfl) ?_
        refine lv_bipush (v := zI 8) C0.1 C0.2.1 dX10_root_40 rfl ?_
        refine mm_callVi (As := [.int (zI (t)), .int (zI (8))]) C0 vw_X10_come tw_1039 (c_X10_comeS l G _ hX1 hpu hi_u (a := 8) rfl (by omega) v8) hM (hO) rfl rfl hl.1 rfl (Nat.le_of_ble_eq_true rfl) ⟨rfl, rfl, Nat.le_of_ble_eq_true rfl, Nat.le_of_ble_eq_true rfl, Nat.zero_le _, Nat.zero_le _⟩ dX10_root_42 hS (fun z9 E5 H locs hp hM hS => ?_)
        obtain ⟨hz9, ⟨R9, hX9, kr9⟩, fr⟩ := hp
        have hO := ro.kept hO (fr _ (by omega))
        have hfr := (fun q h => (fr q (by omega)).trans (hfr q h) : ∀ q : Nat, (q < h ∨ h + 13 ≤ q) → E5 q = E0 q)
        refine lv_pop C0.1 C0.2.1 dX10_root_45 rfl ?_
        refine lv_iload C0.1 C0.2.1 dX10_root_46 (lv_at hl 0 rfl) ?_
        refine z_if_eq (tgt := 55) C0.1 C0.2.1 dX10_root_48 (by decide) ⟨by omega, by omega⟩ (fun c_48 => ?_) (fun c_48 => ?_)
        · skip
          refine lv_iconst (v := zI 0) C0.1 C0.2.1 dX10_root_55 rfl ?_
          exact mm_iret (z := 0) C0 hr hlk hM hS dX10_root_56 (by have he : pf_root S a t = (0, lanS S u (rtF (S.2.1.2.2 i))) := (by unfold pf_root; rw [if_pos (by omega), ht_i, ht_u, if_neg (by omega), if_neg (by omega)]); rw [he]; exact ⟨rfl, hX9.rf, hfr⟩)
        · skip
          refine lv_iconst (v := zI 1) C0.1 C0.2.1 dX10_root_51 rfl ?_
          refine lv_goto (tgt := 56) C0.1 C0.2.1 dX10_root_52 (by decide) ?_
          exact mm_iret (z := 1) C0 hr hlk hM hS dX10_root_56 (by have he : pf_root S a t = (1, lanS S u (rtF (S.2.1.2.2 i))) := (by unfold pf_root; rw [if_pos (by omega), ht_i, ht_u, if_neg (by omega), if_pos (by omega)]); rw [he]; exact ⟨rfl, hX9.rf, hfr⟩)
      · skip
        refine lv_iload_n C0.1 C0.2.1 dX10_root_27 rfl (lv_at hl 0 rfl) ?_
        exact mm_iret (z := (nFau (S.2.1.1 i))) C0 hr hlk hM hS dX10_root_28 (by have he : pf_root S a t = ((nFau (S.2.1.1 i)), S) := (by unfold pf_root; rw [if_pos (by omega), ht_i, if_pos (by omega)]); rw [he]; exact ⟨rfl, hX0.rf, fun _ _ => rfl⟩)
    · skip
      refine lv_iconst (v := zI (-1)) C0.1 C0.2.1 dX10_root_14 rfl ?_
      exact mm_iret (z := (-1)) C0 hr hlk hM hS dX10_root_15 (by have he : pf_root S a t = ((-1), S) := (by unfold pf_root; rw [if_neg (by omega)]); rw [he]; exact ⟨rfl, hX0.rf, fun _ _ => rfl⟩)

def rX10_order : Room := { frames := 2, cells := 0, slots := 0, locals := 45 }
theorem vw_X10_order : mm_Vw RX10 yX10_order cX10_order 5 (some .int) 2 := ⟨tw_1148, tw_1149, tw_10, tw_1150, by decide +kernel⟩
set_option maxHeartbeats 4000000 in
set_option maxRecDepth 100000 in
theorem c_X10_order (l : Launch) (G : mG) (E0 : mE) {h : Nat} {S : mST} (hF : rf G E0 h S) (hok : okR S) {a b : Int} (hr_a : rI a) (hr_b : rI b) : mm_Ci l yX10_order (.code yX10_order cX10_order 5 (some .int) :: wsG) rX10_order G [.ref (h), .int (zI (a)), .int (zI (b))] E0 (fun z E => z = (pf_order S a b).1 ∧ rf G E h (pf_order S a b).2 ∧ ∀ q : Nat, (q < h ∨ h + 13 ≤ q) → E q = E0 q) := by
  refine mm_of_i (by decide +kernel) (Nat.le_of_ble_eq_true rfl) ?_
  intro p e s m args below meth c ls C0 hr hlk hM hl hS
  have hl : lv_has ls 5 [(0, .ref (h)), (1, .int (zI (a))), (2, .int (zI (b)))] := hl
  obtain ⟨hr_a1, hr_a2⟩ := hr_a
  obtain ⟨hr_b1, hr_b2⟩ := hr_b
  obtain ⟨R, x2, x3, x4, x5, x6, x7, hX⟩ := hF
  have hX0 := hX
  obtain ⟨hTk, hPk, hKk, hSk⟩ := hok
  obtain ⟨hO, hR, hRp, ⟨fh, fc, hH, hC, hPa⟩, hTp, hCl, hKp, hSh, him⟩ := hX
  
  refine lv_iload_n C0.1 C0.2.1 dX10_order_0 rfl (lv_at hl 1 rfl) ?_
  refine mm_callSi (As := [.int (zI (a))]) C0 sw_X10_isPlace tw_981 (c_X10_isPlace l G _ (i := a) ⟨by omega, by omega⟩) hM rfl hl.1 rfl (Nat.le_of_ble_eq_true rfl) ⟨rfl, rfl, Nat.le_of_ble_eq_true rfl, Nat.le_of_ble_eq_true rfl, Nat.zero_le _, Nat.zero_le _⟩ dX10_order_1 hS (fun z_1 E1 H locs hp hM hS => ?_)
  obtain ⟨hz_1, hEq⟩ := hp
  rw [hEq] at hM
  have hz_1b := if01 hz_1
  refine z_if_eq (tgt := 14) C0.1 C0.2.1 dX10_order_4 (by decide) ⟨by omega, by omega⟩ (fun c_4 => ?_) (fun c_4 => ?_)
  · skip
    refine lv_iconst (v := zI (-1)) C0.1 C0.2.1 dX10_order_14 rfl ?_
    exact mm_iret (z := (-1)) C0 hr hlk hM hS dX10_order_15 (by have he : pf_order S a b = ((-1), S) := (by unfold pf_order; rw [if_neg (by omega)]); rw [he]; exact ⟨rfl, hX0.rf, fun _ _ => rfl⟩)
  · skip
    refine lv_iload_n C0.1 C0.2.1 dX10_order_7 rfl (lv_at hl 2 rfl) ?_
    refine mm_callSi (As := [.int (zI (b))]) C0 sw_X10_isPlace tw_981 (c_X10_isPlace l G _ (i := b) ⟨by omega, by omega⟩) hM rfl hl.1 rfl (Nat.le_of_ble_eq_true rfl) ⟨rfl, rfl, Nat.le_of_ble_eq_true rfl, Nat.le_of_ble_eq_true rfl, Nat.zero_le _, Nat.zero_le _⟩ dX10_order_8 hS (fun z_8 E2 H locs hp hM hS => ?_)
    obtain ⟨hz_8, hEq⟩ := hp
    rw [hEq] at hM
    have hz_8b := if01 hz_8
    refine z_if_ne (tgt := 16) C0.1 C0.2.1 dX10_order_11 (by decide) ⟨by omega, by omega⟩ (fun c_11 => ?_) (fun c_11 => ?_)
    · skip
      obtain ⟨i, hpi⟩ : ∃ i : Nat, a = (i : Int) := ⟨(a).toNat, by omega⟩
      have hi_i : i < 8 := by omega
      have ht_i : (a).toNat = i := by omega
      obtain ⟨ho_i1, ho_i2, ho_i3, ho_i4⟩ := hPk i hi_i
      obtain ⟨hh_i, hc_i⟩ := hPa i hi_i
      have hv_i := hRp i hi_i
      obtain ⟨j, hpj⟩ : ∃ j : Nat, b = (j : Int) := ⟨(b).toNat, by omega⟩
      have hi_j : j < 8 := by omega
      have ht_j : (b).toNat = j := by omega
      obtain ⟨ho_j1, ho_j2, ho_j3, ho_j4⟩ := hPk j hi_j
      obtain ⟨hh_j, hc_j⟩ := hPa j hi_j
      have hv_j := hRp j hi_j
      refine lv_aload_n C0.1 C0.2.1 dX10_order_16 rfl (lv_at hl 0 rfl) ?_
      refine lv_iload_n C0.1 C0.2.1 dX10_order_17 rfl (lv_at hl 1 rfl) ?_
      refine lv_iload_n C0.1 C0.2.1 dX10_order_18 rfl (lv_at hl 2 rfl) ?_
      refine mm_callVi (As := [.int (zI (a)), .int (zI (b))]) C0 vw_X10_lackTwo tw_1126 (c_X10_lackTwo l G _ hO hH hpi hi_i hpj hi_j hh_i hh_j ho_i1 ho_j1) hM (hO) rfl rfl hl.1 rfl (Nat.le_of_ble_eq_true rfl) ⟨rfl, rfl, Nat.le_of_ble_eq_true rfl, Nat.le_of_ble_eq_true rfl, Nat.zero_le _, Nat.zero_le _⟩ dX10_order_19 hS (fun z_19 E3 H locs hp hM hS => ?_)
      obtain ⟨hz_19, hEq⟩ := hp
      rw [hEq] at hM
      refine z_asI (b := (fau2 (nFau (S.2.1.1 i)) (nFau (S.2.1.1 j)))) (hz_19) ?_
      obtain ⟨hfb1, hfb2⟩ := fau2_b (nFau_b (S.2.1.1 i)) (nFau_b (S.2.1.1 j))
      refine lv_istore_n (lv' := [(3, .int (zI ((fau2 (nFau (S.2.1.1 i)) (nFau (S.2.1.1 j)))))), (0, .ref (h)), (1, .int (zI (a))), (2, .int (zI (b)))]) C0.1 C0.2.1 dX10_order_22 rfl hl (by decide) rfl (fun ls hl => ?_)
      refine lv_iload_n C0.1 C0.2.1 dX10_order_23 rfl (lv_at hl 0 rfl) ?_
      refine z_if_ge (tgt := 29) C0.1 C0.2.1 dX10_order_24 (by decide) ⟨by omega, by omega⟩ (fun c_24 => ?_) (fun c_24 => ?_)
      · skip
        refine lv_aload_n C0.1 C0.2.1 dX10_order_29 rfl (lv_at hl 1 rfl) ?_
        refine lv_iload_n C0.1 C0.2.1 dX10_order_30 rfl (lv_at hl 2 rfl) ?_
        refine lv_iload_n C0.1 C0.2.1 dX10_order_31 rfl (lv_at hl 3 rfl) ?_
        refine mm_callVi (As := [.int (zI (a)), .int (zI (b))]) C0 vw_X10_compare tw_1105 (c_X10_compare l G _ hO hR hpi (by omega) hv_i hpj (by omega) hv_j) hM (hO) rfl rfl hl.1 rfl (Nat.le_of_ble_eq_true rfl) ⟨rfl, rfl, Nat.le_of_ble_eq_true rfl, Nat.le_of_ble_eq_true rfl, Nat.zero_le _, Nat.zero_le _⟩ dX10_order_32 hS (fun z_32 E4 H locs hp hM hS => ?_)
        obtain ⟨hz_32, hEq⟩ := hp
        rw [hEq] at hM
        refine z_asI (b := (cmpZ (S.2.1.2.2 i) (S.2.1.2.2 j))) (hz_32) ?_
        have hcz := cmpZ_b (S.2.1.2.2 i) (S.2.1.2.2 j)
        have hcm : (cmpZ (S.2.1.2.2 i) (S.2.1.2.2 j) = -1 ∧ S.2.1.2.2 i < S.2.1.2.2 j) ∨ (cmpZ (S.2.1.2.2 i) (S.2.1.2.2 j) = 0 ∧ S.2.1.2.2 i = S.2.1.2.2 j) ∨ (cmpZ (S.2.1.2.2 i) (S.2.1.2.2 j) = 1 ∧ S.2.1.2.2 j < S.2.1.2.2 i) := by unfold cmpZ; omega
        refine lv_istore (lv' := [(4, .int (zI ((cmpZ (S.2.1.2.2 i) (S.2.1.2.2 j))))), (3, .int (zI ((fau2 (nFau (S.2.1.1 i)) (nFau (S.2.1.1 j)))))), (0, .ref (h)), (1, .int (zI (a))), (2, .int (zI (b)))]) C0.1 C0.2.1 dX10_order_35 hl (by decide) rfl (fun ls hl => ?_)
        refine lv_iload C0.1 C0.2.1 dX10_order_37 (lv_at hl 0 rfl) ?_
        refine z_if_ge (tgt := 46) C0.1 C0.2.1 dX10_order_39 (by decide) ⟨by omega, by omega⟩ (fun c_39 => ?_) (fun c_39 => ?_)
        · skip
          refine lv_iload C0.1 C0.2.1 dX10_order_46 (lv_at hl 0 rfl) ?_
          exact mm_iret (z := (cmpZ (S.2.1.2.2 i) (S.2.1.2.2 j))) C0 hr hlk hM hS dX10_order_48 (by have he : pf_order S a b = ((cmpZ (S.2.1.2.2 i) (S.2.1.2.2 j)), S) := (by unfold pf_order; rw [if_pos (by omega), ht_i, ht_j, if_neg (by omega)]; split <;> (try split) <;> first | rfl | (exfalso; omega) | (congr 1; omega)); rw [he]; exact ⟨rfl, hX0.rf, fun _ _ => rfl⟩)
        · skip
          refine lv_iconst (v := zI 2) C0.1 C0.2.1 dX10_order_42 rfl ?_
          refine lv_goto (tgt := 48) C0.1 C0.2.1 dX10_order_43 (by decide) ?_
          exact mm_iret (z := 2) C0 hr hlk hM hS dX10_order_48 (by have he : pf_order S a b = (2, S) := (by unfold pf_order; rw [if_pos (by omega), ht_i, ht_j, if_neg (by omega)]; split <;> (try split) <;> first | rfl | (exfalso; omega) | (congr 1; omega)); rw [he]; exact ⟨rfl, hX0.rf, fun _ _ => rfl⟩)
      · skip
        refine lv_iload_n C0.1 C0.2.1 dX10_order_27 rfl (lv_at hl 0 rfl) ?_
        exact mm_iret (z := (fau2 (nFau (S.2.1.1 i)) (nFau (S.2.1.1 j)))) C0 hr hlk hM hS dX10_order_28 (by have he : pf_order S a b = ((fau2 (nFau (S.2.1.1 i)) (nFau (S.2.1.1 j))), S) := (by unfold pf_order; rw [if_pos (by omega), ht_i, ht_j, if_pos (by omega)]); rw [he]; exact ⟨rfl, hX0.rf, fun _ _ => rfl⟩)
    · skip
      refine lv_iconst (v := zI (-1)) C0.1 C0.2.1 dX10_order_14 rfl ?_
      exact mm_iret (z := (-1)) C0 hr hlk hM hS dX10_order_15 (by have he : pf_order S a b = ((-1), S) := (by unfold pf_order; rw [if_neg (by omega)]); rw [he]; exact ⟨rfl, hX0.rf, fun _ _ => rfl⟩)
