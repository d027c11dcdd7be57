theorem lane_ar (n v : Int) (h0 : 0 ≤ n) (h1 : n < 18446744073709551616) (hv : v = Int.bmod n 18446744073709551616) : Int.bmod (n * 281474976710656) 18446744073709551616 / 281474976710656 = Int.bmod v 65536 ∧ Int.bmod (n * 4294967296) 18446744073709551616 / 4294967296 = Int.bmod v 4294967296 := by
  have hb : ∀ (x : Int) (m : Nat), Int.bmod x m = if x % (m : Int) < ((m : Int) + 1) / 2 then x % (m : Int) else x % (m : Int) - (m : Int) := fun x m => rfl
  rw [hb] at hv
  rw [hb, hb, hb, hb]
  constructor
  · split at hv <;> split <;> split <;> omega
  · split at hv <;> split <;> split <;> omega
theorem lane_sh {v : Int} (hv : rL v) : (zL v <<< ((zI 48).toInt64 &&& 63)) >>> ((zI 48).toInt64 &&& 63) = zL (Int.bmod v 65536) ∧ (zL v <<< ((zI 32).toInt64 &&& 63)) >>> ((zI 32).toInt64 &&& 63) = zL (Int.bmod v 4294967296) := by
  have hn := (zL v).toBitVec.isLt
  have hv2 : v = Int.bmod ((zL v).toBitVec.toNat : Int) 18446744073709551616 := by
    rw [show (18446744073709551616 : Nat) = 2 ^ 64 by decide, ← BitVec.toInt_eq_toNat_bmod]; exact (zL_toInt hv).symm
  obtain ⟨e1, e2⟩ := lane_ar ((zL v).toBitVec.toNat : Int) v (by omega) (by omega) hv2
  have hb1 : rL (Int.bmod v 65536) := asLn_r (ln := 0) hv
  have hb2 : rL (Int.bmod v 4294967296) := asLn_r (ln := 1) hv
  constructor
  · apply Int64.toBitVec_inj.mp
    rw [Int64.toBitVec_shiftRight, Int64.toBitVec_shiftLeft]
    show ((zL v).toBitVec <<< 48).sshiftRight 48 = _
    apply BitVec.eq_of_toInt_eq
    rw [BitVec.toInt_sshiftRight, BitVec.toInt_shiftLeft, Int.shiftRight_eq_div_pow, show (zL (Int.bmod v 65536)).toBitVec.toInt = _ from zL_toInt hb1, Nat.shiftLeft_eq, Int.natCast_mul]
    exact e1
  · apply Int64.toBitVec_inj.mp
    rw [Int64.toBitVec_shiftRight, Int64.toBitVec_shiftLeft]
    show ((zL v).toBitVec <<< 32).sshiftRight 32 = _
    apply BitVec.eq_of_toInt_eq
    rw [BitVec.toInt_sshiftRight, BitVec.toInt_shiftLeft, Int.shiftRight_eq_div_pow, show (zL (Int.bmod v 4294967296)).toBitVec.toInt = _ from zL_toInt hb2, Nat.shiftLeft_eq, Int.natCast_mul]
    exact e2
theorem shR_put {T : mSh} {fl fz fi fl2 fz2 fi2 : Nat → Int} {i : Nat} {f : Nat → Int} {l n : Int} (h : shR T fl fz fi) (h1 : ∀ j, j < 4 → j ≠ i → fl2 j = fl j ∧ fz2 j = fz j ∧ ∀ x, x < 24 → fi2 (24 * j + x) = fi (24 * j + x)) (h2 : n < 0 → fl2 i = -1) (h3 : 0 ≤ n → fl2 i = l ∧ fz2 i = n ∧ ∀ x, x < 24 → fi2 (24 * i + x) = f x) : shR (upF T.1 i f, upF T.2.1 i l, upF T.2.2 i n) fl2 fz2 fi2 := fun j hj => by
  by_cases q : j = i
  · subst q; simp only [upF_s]; exact ⟨h2, h3⟩
  · simp only [upF_n _ _ q]
    obtain ⟨a, b⟩ := h j hj
    obtain ⟨c1, c2, c3⟩ := h1 j hj q
    rw [c1, c2]
    exact ⟨a, fun q2 => ⟨(b q2).1, (b q2).2.1, fun x hx => (c3 x hx).trans ((b q2).2.2 x hx)⟩⟩
theorem rfx.sht {G : mG} {E E1 : mE} {h : Nat} {S : mST} {R : Nat → Nat} {x2 x3 x4 x5 x6 x7 : Int} {i : Nat} {f : Nat → Int} {l n : Int} (a : rfx G E h S R x2 x3 x4 x5 x6 x7) (hs : rfS G E1 h (upF S.2.2.2.1 i f, upF S.2.2.2.2.1 i l, upF S.2.2.2.2.2 i n)) (fr : ∀ q, (q ≠ h + 10 ∧ q ≠ h + 11 ∧ q ≠ h + 12) → E1 q = E q) : rfx G E1 h (shPut S i f l n) R x2 x3 x4 x5 x6 x7 := by
  obtain ⟨a1, a2, a3, a4, a5, a6, a7, a8, a9⟩ := a
  exact ⟨a1.kept (fr _ (by omega)), a2.kept (fr _ (by omega)), a3, a4.kept (fr _ (by omega)) (fr _ (by omega)), (fr _ (by omega)).trans a5, a6.kept (fun q hq => fr q (by omega)), a7.kept (fr _ (by omega)), hs, a9⟩

def rX10_isSheet : Room := { frames := 1, cells := 0, slots := 0, locals := 25 }
theorem sw_X10_isSheet : mm_Sw yX10_isSheet cX10_isSheet 2 (some .boolean) 2 := ⟨tw_1302, tw_10, tw_1303, by decide +kernel⟩
set_option maxHeartbeats 4000000 in
set_option maxRecDepth 100000 in
theorem c_X10_isSheet (l : Launch) (G : mG) (E0 : mE) {i w : Int} (hi : rI i) (hw : rI w) : mm_Ci l yX10_isSheet (.code yX10_isSheet cX10_isSheet 2 (some .boolean) :: wsG) rX10_isSheet G [.int (zI (i)), .int (zI (w))] E0 (fun z E => z = (if inS i ∧ inL w then 1 else 0) ∧ E = E0) := by
  refine mm_of_i (by decide +kernel) (Nat.le_of_ble_eq_true rfl) ?_
  intro p e s m args below meth c ls C0 hr hlk hM hl hS
  have hl : lv_has ls 2 [(0, .int (zI (i))), (1, .int (zI (w)))] := hl
  obtain ⟨hi1, hi2⟩ := hi
  obtain ⟨hw1, hw2⟩ := hw
  refine lv_iload_n C0.1 C0.2.1 dX10_isSheet_0 rfl (lv_at hl 0 rfl) ?_
  refine z_i2l C0.1 C0.2.1 dX10_isSheet_1 ⟨by omega, by omega⟩ ?_
  refine lv_lconst (v := zL 0) C0.1 C0.2.1 dX10_isSheet_2 rfl ?_
  refine mm_ldc2 (z := 3) C0 tw_1006 rfl dX10_isSheet_3 ?_
  refine mm_callSi (As := [.long (zL (i)), .long (zL (0)), .long (zL (3))]) C0 sw_X10_in tw_985 (c_X10_in l G _ (v := i) (lo := 0) (hi := 3) ⟨by omega, by omega⟩ ⟨by omega, by omega⟩ ⟨by omega, by omega⟩) hM rfl hl.1 rfl (Nat.le_of_ble_eq_true rfl) ⟨rfl, rfl, Nat.le_of_ble_eq_true rfl, Nat.le_of_ble_eq_true rfl, Nat.zero_le _, Nat.zero_le _⟩ dX10_isSheet_6 hS (fun z_6 E1 H locs hp hM hS => ?_)
  obtain ⟨hz_6, hEq⟩ := hp
  rw [hEq] at hM
  have hz_6b := if01 hz_6
  refine z_if_eq (tgt := 28) C0.1 C0.2.1 dX10_isSheet_9 (by decide) ⟨by omega, by omega⟩ (fun c_9 => ?_) (fun c_9 => ?_)
  · skip
    refine lv_iconst (v := zI 0) C0.1 C0.2.1 dX10_isSheet_28 rfl ?_
    exact mm_zret (z := 0) C0 hr hlk hM hS (by omega) dX10_isSheet_29 (⟨by rw [if_neg (by omega)], rfl⟩)
  · skip
    refine lv_iload_n C0.1 C0.2.1 dX10_isSheet_12 rfl (lv_at hl 1 rfl) ?_
    refine z_i2l C0.1 C0.2.1 dX10_isSheet_13 ⟨by omega, by omega⟩ ?_
    refine lv_lconst (v := zL 0) C0.1 C0.2.1 dX10_isSheet_14 rfl ?_
    refine mm_ldc2 (z := 2) C0 tw_1089 rfl dX10_isSheet_15 ?_
    refine mm_callSi (As := [.long (zL (w)), .long (zL (0)), .long (zL (2))]) C0 sw_X10_in tw_985 (c_X10_in l G _ (v := w) (lo := 0) (hi := 2) ⟨by omega, by omega⟩ ⟨by omega, by omega⟩ ⟨by omega, by omega⟩) hM rfl hl.1 rfl (Nat.le_of_ble_eq_true rfl) ⟨rfl, rfl, Nat.le_of_ble_eq_true rfl, Nat.le_of_ble_eq_true rfl, Nat.zero_le _, Nat.zero_le _⟩ dX10_isSheet_18 hS (fun z_18 E2 H locs hp hM hS => ?_)
    obtain ⟨hz_18, hEq⟩ := hp
    rw [hEq] at hM
    have hz_18b := if01 hz_18
    refine z_if_eq (tgt := 28) C0.1 C0.2.1 dX10_isSheet_21 (by decide) ⟨by omega, by omega⟩ (fun c_21 => ?_) (fun c_21 => ?_)
    · skip
      refine lv_iconst (v := zI 0) C0.1 C0.2.1 dX10_isSheet_28 rfl ?_
      exact mm_zret (z := 0) C0 hr hlk hM hS (by omega) dX10_isSheet_29 (⟨by rw [if_neg (by omega)], rfl⟩)
    · skip
      refine lv_iconst (v := zI 1) C0.1 C0.2.1 dX10_isSheet_24 rfl ?_
      refine lv_goto (tgt := 29) C0.1 C0.2.1 dX10_isSheet_25 (by decide) ?_
      exact mm_zret (z := 1) C0 hr hlk hM hS (by omega) dX10_isSheet_29 (⟨by rw [if_pos (by omega)], rfl⟩)

def rX10_asLane : Room := { frames := 0, cells := 0, slots := 0, locals := 0 }
theorem sw_X10_asLane : mm_Sw yX10_asLane cX10_asLane 3 (some .long) 2 := ⟨tw_1317, tw_10, tw_1318, by decide +kernel⟩
set_option maxHeartbeats 4000000 in
set_option maxRecDepth 100000 in
theorem c_X10_asLane (l : Launch) (G : mG) (E0 : mE) {w v : Int} (hw0 : 0 ≤ w) (hw2 : w ≤ 2) (hv : rL v) : mm_Cl l yX10_asLane (.code yX10_asLane cX10_asLane 3 (some .long) :: wsG) rX10_asLane G [.int (zI (w)), .long (zL (v))] E0 (fun z E => z = asLn w v ∧ E = E0) := by
  refine mm_of_l (by decide +kernel) (Nat.le_of_ble_eq_true rfl) ?_
  intro p e s m args below meth c ls C0 hr hlk hM hl hS
  have hl : lv_has ls 3 [(0, .int (zI (w))), (1, .long (zL (v)))] := hl
  have hsh := lane_sh hv
  refine lv_iload_n C0.1 C0.2.1 dX10_asLane_0 rfl (lv_at hl 0 rfl) ?_
  refine z_if_ne (tgt := 14) C0.1 C0.2.1 dX10_asLane_1 (by decide) ⟨by omega, by omega⟩ (fun c_1 => ?_) (fun c_1 => ?_)
  · skip
    refine lv_iload_n C0.1 C0.2.1 dX10_asLane_14 rfl (lv_at hl 0 rfl) ?_
    refine lv_iconst (v := zI 1) C0.1 C0.2.1 dX10_asLane_15 rfl ?_
    refine z_icmp_ne (tgt := 29) C0.1 C0.2.1 dX10_asLane_16 (by decide) ⟨by omega, by omega⟩ ⟨by omega, by omega⟩ (fun c_16 => ?_) (fun c_16 => ?_)
    · skip
      refine lv_lload_n C0.1 C0.2.1 dX10_asLane_29 rfl (lv_at hl 1 rfl) ?_
      exact mm_lret (z := v) C0 hr hlk hM hS dX10_asLane_30 (⟨by unfold asLn; rw [if_neg (by omega), if_neg (by omega)], rfl⟩)
    · skip
      refine lv_lload_n C0.1 C0.2.1 dX10_asLane_19 rfl (lv_at hl 1 rfl) ?_
      refine lv_bipush (v := zI 32) C0.1 C0.2.1 dX10_asLane_20 rfl ?_
      refine lv_lshl C0.1 C0.2.1 dX10_asLane_22 rfl ?_
      refine lv_bipush (v := zI 32) C0.1 C0.2.1 dX10_asLane_23 rfl ?_
      refine lv_lshr C0.1 C0.2.1 dX10_asLane_25 (hsh.2) ?_
      refine lv_goto (tgt := 30) C0.1 C0.2.1 dX10_asLane_26 (by decide) ?_
      exact mm_lret (z := (Int.bmod v 4294967296)) C0 hr hlk hM hS dX10_asLane_30 (⟨by unfold asLn; rw [if_neg (by omega), if_pos (by omega)], rfl⟩)
  · skip
    refine lv_lload_n C0.1 C0.2.1 dX10_asLane_4 rfl (lv_at hl 1 rfl) ?_
    refine lv_bipush (v := zI 48) C0.1 C0.2.1 dX10_asLane_5 rfl ?_
    refine lv_lshl C0.1 C0.2.1 dX10_asLane_7 rfl ?_
    refine lv_bipush (v := zI 48) C0.1 C0.2.1 dX10_asLane_8 rfl ?_
    refine lv_lshr C0.1 C0.2.1 dX10_asLane_10 (hsh.1) ?_
    refine lv_goto (tgt := 30) C0.1 C0.2.1 dX10_asLane_11 (by decide) ?_
    exact mm_lret (z := (Int.bmod v 65536)) C0 hr hlk hM hS dX10_asLane_30 (⟨by unfold asLn; rw [if_pos (by omega)], rfl⟩)

def rX10_lacksRow : Room := { frames := 1, cells := 0, slots := 0, locals := 25 }
theorem vw_X10_lacksRow : mm_Vw RX10 yX10_lacksRow cX10_lacksRow 5 (some .int) 4 := ⟨tw_1314, tp_51, tw_10, tw_1315, by decide +kernel⟩
set_option maxHeartbeats 4000000 in
set_option maxRecDepth 100000 in
theorem c_X10_lacksRow (l : Launch) (G : mG) (E0 : mE) {h : Nat} {x1 x2 x3 x4 x5 x6 x7 x8 : Int} (hO : ro G E0 h x1 x2 x3 x4 x5 x6 x7 x8) {fl fz : Nat → Int} (hL : E0 (h + 10) = some (mm_I G 4 fl)) (hZ : E0 (h + 11) = some (mm_I G 4 fz)) {a w f n : Int} {i : Nat} (hpi : a = (i : Int)) (hi_i : i < 4) {ln len : Int} (hra : len < 0 → fl i = -1) (hrb : 0 ≤ len → fl i = ln ∧ fz i = len) (hln : 0 ≤ ln ∧ ln ≤ 2) (hlen : -1 ≤ len ∧ len ≤ 24) (hw : 0 ≤ w ∧ w ≤ 2) (hf : rI f) (hn : 1 ≤ n ∧ n ≤ 24) : mm_Ci l yX10_lacksRow (.code yX10_lacksRow cX10_lacksRow 5 (some .int) :: wsG) rX10_lacksRow G [.ref (h), .int (zI (a)), .int (zI (w)), .int (zI (f)), .int (zI (n))] E0 (fun z E => z = shF ln len w f n ∧ E = E0) := by
  refine mm_of_i (by decide +kernel) (Nat.le_of_ble_eq_true rfl) ?_
  intro p e s m args below meth c ls C0 hr hlk hM hl hS
  have hl : lv_has ls 5 [(0, .ref (h)), (1, .int (zI (a))), (2, .int (zI (w))), (3, .int (zI (f))), (4, .int (zI (n)))] := hl
  obtain ⟨hf1, hf2⟩ := hf
  obtain ⟨hln1, hln2⟩ := hln
  obtain ⟨hlen1, hlen2⟩ := hlen
  obtain ⟨hw1, hw2⟩ := hw
  obtain ⟨hn1, hn2⟩ := hn
  have hcs : (len < 0 ∧ fl i = -1) ∨ (0 ≤ len ∧ fl i = ln ∧ fz i = len) := by rcases Int.lt_or_le len 0 with q | q; exact Or.inl ⟨q, hra q⟩; exact Or.inr ⟨q, hrb q⟩
  refine lv_aload_n C0.1 C0.2.1 dX10_lacksRow_0 rfl (lv_at hl 0 rfl) ?_
  refine mm_get (fs := [.ref (h + 1), .ref (h + 2), .ref (h + 3), .ref (h + 4), .int (zI (x1)), .int (zI (x2)), .long (zL (x3)), .ref (h + 5), .ref (h + 6), .ref (h + 7), .ref (h + 8), .int (zI (x4)), .int (zI (x5)), .int (zI (x6)), .int (zI (x7)), .int (zI (x8)), .ref (h + 9), .ref (h + 10), .ref (h + 11), .ref (h + 12)]) C0 (C := RX10) (T := TX10) (N := 20) iG_X10 hM (hO) rfl 17 (by decide) tw_933 rfl rfl dX10_lacksRow_1 ?_
  refine lv_iload_n C0.1 C0.2.1 dX10_lacksRow_4 rfl (lv_at hl 1 rfl) ?_
  refine mm_iald C0 hM (g := fl) (hL) (i) (i := a) (by omega) (by omega) (by decide) dX10_lacksRow_5 ?_
  refine lv_iload_n C0.1 C0.2.1 dX10_lacksRow_6 rfl (lv_at hl 2 rfl) ?_
  refine z_icmp_eq (tgt := 27) C0.1 C0.2.1 dX10_lacksRow_7 (by decide) ⟨by omega, by omega⟩ ⟨by omega, by omega⟩ (fun c_7 => ?_) (fun c_7 => ?_)
  · skip
    refine lv_iload_n C0.1 C0.2.1 dX10_lacksRow_27 rfl (lv_at hl 3 rfl) ?_
    refine z_i2l C0.1 C0.2.1 dX10_lacksRow_28 ⟨by omega, by omega⟩ ?_
    refine lv_lconst (v := zL 0) C0.1 C0.2.1 dX10_lacksRow_29 rfl ?_
    refine lv_aload_n C0.1 C0.2.1 dX10_lacksRow_30 rfl (lv_at hl 0 rfl) ?_
    refine mm_get (fs := [.ref (h + 1), .ref (h + 2), .ref (h + 3), .ref (h + 4), .int (zI (x1)), .int (zI (x2)), .long (zL (x3)), .ref (h + 5), .ref (h + 6), .ref (h + 7), .ref (h + 8), .int (zI (x4)), .int (zI (x5)), .int (zI (x6)), .int (zI (x7)), .int (zI (x8)), .ref (h + 9), .ref (h + 10), .ref (h + 11), .ref (h + 12)]) C0 (C := RX10) (T := TX10) (N := 20) iG_X10 hM (hO) rfl 18 (by decide) tw_934 rfl rfl dX10_lacksRow_31 ?_
    refine lv_iload_n C0.1 C0.2.1 dX10_lacksRow_34 rfl (lv_at hl 1 rfl) ?_
    refine mm_iald C0 hM (g := fz) (hZ) (i) (i := a) (by omega) (by omega) (by decide) dX10_lacksRow_35 ?_
    refine z_asI (a := (fz) (i)) (b := len) (by omega) ?_
    refine lv_iload C0.1 C0.2.1 dX10_lacksRow_36 (lv_at hl 4 rfl) ?_
    refine z_isub C0.1 C0.2.1 dX10_lacksRow_38 ?_
    refine z_i2l C0.1 C0.2.1 dX10_lacksRow_39 ⟨by omega, by omega⟩ ?_
    refine mm_callSi (As := [.long (zL (f)), .long (zL (0)), .long (zL (((len) - (n))))]) C0 sw_X10_in tw_985 (c_X10_in l G _ (v := f) (lo := 0) (hi := len - n) ⟨by omega, by omega⟩ ⟨by omega, by omega⟩ ⟨by omega, by omega⟩) hM rfl hl.1 rfl (Nat.le_of_ble_eq_true rfl) ⟨rfl, rfl, Nat.le_of_ble_eq_true rfl, Nat.le_of_ble_eq_true rfl, Nat.zero_le _, Nat.zero_le _⟩ dX10_lacksRow_40 hS (fun z_40 E1 H locs hp hM hS => ?_)
    obtain ⟨hz_40, hEq⟩ := hp
    rw [hEq] at hM
    have hz_40b := if01 hz_40
    refine z_if_eq (tgt := 50) C0.1 C0.2.1 dX10_lacksRow_43 (by decide) ⟨by omega, by omega⟩ (fun c_43 => ?_) (fun c_43 => ?_)
    · skip
      refine lv_bipush (v := zI (-13)) C0.1 C0.2.1 dX10_lacksRow_50 rfl ?_
      exact mm_iret (z := (-13)) C0 hr hlk hM hS dX10_lacksRow_52 (⟨by unfold shF; rw [if_neg (by omega), if_neg (by omega), if_pos (by omega)], rfl⟩)
    · skip
      refine lv_iconst (v := zI 0) C0.1 C0.2.1 dX10_lacksRow_46 rfl ?_
      refine lv_goto (tgt := 52) C0.1 C0.2.1 dX10_lacksRow_47 (by decide) ?_
      exact mm_iret (z := 0) C0 hr hlk hM hS dX10_lacksRow_52 (⟨by unfold shF; rw [if_neg (by omega), if_neg (by omega), if_neg (by omega)], rfl⟩)
  · skip
    refine lv_aload_n C0.1 C0.2.1 dX10_lacksRow_10 rfl (lv_at hl 0 rfl) ?_
    refine mm_get (fs := [.ref (h + 1), .ref (h + 2), .ref (h + 3), .ref (h + 4), .int (zI (x1)), .int (zI (x2)), .long (zL (x3)), .ref (h + 5), .ref (h + 6), .ref (h + 7), .ref (h + 8), .int (zI (x4)), .int (zI (x5)), .int (zI (x6)), .int (zI (x7)), .int (zI (x8)), .ref (h + 9), .ref (h + 10), .ref (h + 11), .ref (h + 12)]) C0 (C := RX10) (T := TX10) (N := 20) iG_X10 hM (hO) rfl 17 (by decide) tw_933 rfl rfl dX10_lacksRow_11 ?_
    refine lv_iload_n C0.1 C0.2.1 dX10_lacksRow_14 rfl (lv_at hl 1 rfl) ?_
    refine mm_iald C0 hM (g := fl) (hL) (i) (i := a) (by omega) (by omega) (by decide) dX10_lacksRow_15 ?_
    refine z_if_ge (tgt := 24) C0.1 C0.2.1 dX10_lacksRow_16 (by decide) ⟨by omega, by omega⟩ (fun c_16 => ?_) (fun c_16 => ?_)
    · skip
      refine lv_bipush (v := zI (-12)) C0.1 C0.2.1 dX10_lacksRow_24 rfl ?_
      exact mm_iret (z := (-12)) C0 hr hlk hM hS dX10_lacksRow_26 (⟨by unfold shF; rw [if_neg (by omega), if_pos (by omega)], rfl⟩)
    · skip
      refine lv_bipush (v := zI (-11)) C0.1 C0.2.1 dX10_lacksRow_19 rfl ?_
      refine lv_goto (tgt := 26) C0.1 C0.2.1 dX10_lacksRow_21 (by decide) ?_
      exact mm_iret (z := (-11)) C0 hr hlk hM hS dX10_lacksRow_26 (⟨by unfold shF; rw [if_pos (by omega)], rfl⟩)

def rX10_sheet : Room := { frames := 2, cells := 0, slots := 0, locals := 46 }
theorem vw_X10_sheet : mm_Vw RX10 yX10_sheet cX10_sheet 5 (some .int) 3 := ⟨tw_1298, tw_1299, tw_10, tw_1300, by decide +kernel⟩
set_option maxHeartbeats 4000000 in
set_option maxRecDepth 100000 in
theorem c_X10_sheet (l : Launch) (G : mG) (E0 : mE) {h : Nat} {S : mST} (hF : rf G E0 h S) (hok : okR S) {a w n : Int} (hr_a : rI a) (hr_w : rI w) (hr_n : rI n) : mm_Ci l yX10_sheet (.code yX10_sheet cX10_sheet 5 (some .int) :: wsG) rX10_sheet G [.ref (h), .int (zI (a)), .int (zI (w)), .int (zI (n))] E0 (fun z E => z = (pf_sheet S a w n).1 ∧ rf G E h (pf_sheet S a w n).2 ∧ ∀ q : Nat, (q < h ∨ h + 13 ≤ q) → E q = E0 q) := by
  refine mm_of_i (by decide +kernel) (Nat.le_of_ble_eq_true rfl) ?_
  intro p e s m args below meth c ls C0 hr hlk hM hl hS
  have hl : lv_has ls 5 [(0, .ref (h)), (1, .int (zI (a))), (2, .int (zI (w))), (3, .int (zI (n)))] := hl
  obtain ⟨hr_a1, hr_a2⟩ := hr_a
  obtain ⟨hr_w1, hr_w2⟩ := hr_w
  obtain ⟨hr_n1, hr_n2⟩ := hr_n
  obtain ⟨R, x2, x3, x4, x5, x6, x7, hX⟩ := hF
  have hX0 := hX
  obtain ⟨hTk, hPk, hKk, hSk⟩ := hok
  obtain ⟨hO, hR, hRp, ⟨fh, fc, hH, hC, hPa⟩, hTp, hCl, hKp, hSh, him⟩ := hX
  obtain ⟨fl, fz, fi, hL, hZ, hI, hSR⟩ := id hSh
  refine lv_iload_n C0.1 C0.2.1 dX10_sheet_0 rfl (lv_at hl 1 rfl) ?_
  refine lv_iload_n C0.1 C0.2.1 dX10_sheet_1 rfl (lv_at hl 2 rfl) ?_
  refine mm_callSi (As := [.int (zI (a)), .int (zI (w))]) C0 sw_X10_isSheet tw_1301 (c_X10_isSheet l G _ (i := a) (w := w) ⟨by omega, by omega⟩ ⟨by omega, by omega⟩) hM rfl hl.1 rfl (Nat.le_of_ble_eq_true rfl) ⟨rfl, rfl, Nat.le_of_ble_eq_true rfl, Nat.le_of_ble_eq_true rfl, Nat.zero_le _, Nat.zero_le _⟩ dX10_sheet_2 hS (fun z_2 E1 H locs hp hM hS => ?_)
  obtain ⟨hz_2, hEq⟩ := hp
  rw [hEq] at hM
  have hz_2b := if01 hz_2
  refine z_if_eq (tgt := 14) C0.1 C0.2.1 dX10_sheet_5 (by decide) ⟨by omega, by omega⟩ (fun c_5 => ?_) (fun c_5 => ?_)
  · skip
    refine lv_iconst (v := zI (-1)) C0.1 C0.2.1 dX10_sheet_14 rfl ?_
    exact mm_iret (z := (-1)) C0 hr hlk hM hS dX10_sheet_15 (by have he : pf_sheet S a w n = ((-1), S) := (by unfold pf_sheet; rw [if_neg (by omega)]); rw [he]; exact ⟨rfl, hX0.rf, fun _ _ => rfl⟩)
  · skip
    refine lv_iload_n C0.1 C0.2.1 dX10_sheet_8 rfl (lv_at hl 3 rfl) ?_
    refine lv_bipush (v := zI 24) C0.1 C0.2.1 dX10_sheet_9 rfl ?_
    refine z_icmp_le (tgt := 16) C0.1 C0.2.1 dX10_sheet_11 (by decide) ⟨by omega, by omega⟩ ⟨by omega, by omega⟩ (fun c_11 => ?_) (fun c_11 => ?_)
    · skip
      refine lv_iload_n C0.1 C0.2.1 dX10_sheet_16 rfl (lv_at hl 3 rfl) ?_
      refine z_if_ge (tgt := 23) C0.1 C0.2.1 dX10_sheet_17 (by decide) ⟨by omega, by omega⟩ (fun c_17 => ?_) (fun c_17 => ?_)
      · skip
        obtain ⟨i, hpi⟩ : ∃ i : Nat, a = (i : Int) := ⟨(a).toNat, by omega⟩
        have hi_i : i < 4 := by omega
        have ht_i : (a).toNat = i := by omega
        obtain ⟨⟨hl_i1, hl_i2⟩, ⟨he_i1, he_i2⟩, hf_i⟩ := hSk i hi_i
        obtain ⟨hra_i, hrb_i⟩ := hSR i hi_i
        refine lv_aload_n C0.1 C0.2.1 dX10_sheet_23 rfl (lv_at hl 0 rfl) ?_
        refine mm_get (fs := [.ref (h + 1), .ref (h + 2), .ref (h + 3), .ref (h + 4), .int (zI (((S.1.2.2 : Nat) : Int))), .int (zI (x2)), .long (zL (x3)), .ref (h + 5), .ref (h + 6), .ref (h + 7), .ref (h + 8), .int (zI (x4)), .int (zI (x5)), .int (zI (x6)), .int (zI (x7)), .int (zI (S.1.1)), .ref (h + 9), .ref (h + 10), .ref (h + 11), .ref (h + 12)]) C0 (C := RX10) (T := TX10) (N := 20) iG_X10 hM (hO) rfl 17 (by decide) tw_933 rfl rfl dX10_sheet_24 ?_
        refine lv_iload_n C0.1 C0.2.1 dX10_sheet_27 rfl (lv_at hl 1 rfl) ?_
        refine lv_iload_n C0.1 C0.2.1 dX10_sheet_28 rfl (lv_at hl 2 rfl) ?_
        refine mm_iast C0 hM hS (g := fl) (hL) (i) (i := a) (x := w) (by omega) (by omega) (by decide) dX10_sheet_29 (fun H locs hM hS hsz => ?_)
        obtain ⟨E2, hE2⟩ : ∃ X : mE, X = mm_up E0 (h + 10) (mm_I G 4 (zup (fl) (i) (w))) := ⟨_, rfl⟩
        replace hM : mm_M G E2 H := by rw [hE2]; exact hM
        have frs : ∀ q : Nat, q ≠ h + 10 → E2 q = E0 q := fun q h => by rw [hE2]; exact mm_up_n _ _ h
        have hat : E2 (h + 10) = some (mm_I G 4 (zup (fl) (i) (w))) := by rw [hE2]; exact mm_up_s _ _ _
        have hL := hat
        have fq := frs
        have hO := ro.kept hO (frs _ (by omega))
        have hZ := (frs _ (by omega)).trans hZ
        have hI := (frs _ (by omega)).trans hI
        refine lv_aload_n C0.1 C0.2.1 dX10_sheet_30 rfl (lv_at hl 0 rfl) ?_
        refine mm_get (fs := [.ref (h + 1), .ref (h + 2), .ref (h + 3), .ref (h + 4), .int (zI (((S.1.2.2 : Nat) : Int))), .int (zI (x2)), .long (zL (x3)), .ref (h + 5), .ref (h + 6), .ref (h + 7), .ref (h + 8), .int (zI (x4)), .int (zI (x5)), .int (zI (x6)), .int (zI (x7)), .int (zI (S.1.1)), .ref (h + 9), .ref (h + 10), .ref (h + 11), .ref (h + 12)]) C0 (C := RX10) (T := TX10) (N := 20) iG_X10 hM (hO) rfl 18 (by decide) tw_934 rfl rfl dX10_sheet_31 ?_
        refine lv_iload_n C0.1 C0.2.1 dX10_sheet_34 rfl (lv_at hl 1 rfl) ?_
        refine lv_iload_n C0.1 C0.2.1 dX10_sheet_35 rfl (lv_at hl 3 rfl) ?_
        refine mm_iast C0 hM hS (g := fz) (hZ) (i) (i := a) (x := n) (by omega) (by omega) (by decide) dX10_sheet_36 (fun H locs hM hS hsz => ?_)
        obtain ⟨E3, hE3⟩ : ∃ X : mE, X = mm_up E2 (h + 11) (mm_I G 4 (zup (fz) (i) (n))) := ⟨_, rfl⟩
        replace hM : mm_M G E3 H := by rw [hE3]; exact hM
        have frs : ∀ q : Nat, q ≠ h + 11 → E3 q = E2 q := fun q h => by rw [hE3]; exact mm_up_n _ _ h
        have hat : E3 (h + 11) = some (mm_I G 4 (zup (fz) (i) (n))) := by rw [hE3]; exact mm_up_s _ _ _
        have hZ := hat
        have hL := (frs _ (by omega)).trans hL
        have fq : ∀ q, (q ≠ h + 10 ∧ q ≠ h + 11 ∧ q ≠ h + 12) → E3 q = E0 q := fun q h => (frs q (by omega)).trans (fq q (by omega))
        have hO := ro.kept hO (frs _ (by omega))
        have hI := (frs _ (by omega)).trans hI
        refine lv_iconst (v := zI 0) C0.1 C0.2.1 dX10_sheet_37 rfl ?_
        refine lv_istore (lv' := [(4, .int (zI (0))), (0, .ref (h)), (1, .int (zI (a))), (2, .int (zI (w))), (3, .int (zI (n)))]) C0.1 C0.2.1 dX10_sheet_38 hl (by decide) rfl (fun ls hl => ?_)
        have L40 : ∀ (k40 : Nat) (k : Nat) (fi2 : Nat → Int) (E4 : mE) (H : Heap) (locs : List Loc) (ls : Array Slot), (k ≤ 24) → (∀ x, x < k → fi2 (24 * i + x) = 0) → (∀ j, j < 4 → j ≠ i → ∀ x, x < 24 → fi2 (24 * j + x) = fi (24 * j + x)) → (ro G E4 h ((S.1.2.2 : Nat) : Int) x2 x3 x4 x5 x6 x7 S.1.1) → (E4 (h + 10) = some (mm_I G 4 (zup fl i w))) → (E4 (h + 11) = some (mm_I G 4 (zup fz i n))) → (E4 (h + 12) = some (mm_J G 96 fi2)) → (∀ q : Nat, (q ≠ h + 10 ∧ q ≠ h + 11 ∧ q ≠ h + 12) → E4 q = E0 q) → 24 - k < k40 → mm_M G E4 H → va_S (mm_A G) s.heap H locs → lv_has ls 5 [(0, .ref (h)), (1, .int (zI (a))), (3, .int (zI (n))), (4, .int (zI ((k : Int))))] → W p l e rX10_sheet s m args below meth c H locs 0 0 (mm_Zi G below args s (fun z E => z = (pf_sheet S a w n).1 ∧ rf G E h (pf_sheet S a w n).2 ∧ ∀ q : Nat, (q < h ∨ h + 13 ≤ q) → E q = E0 q)) (F0 m 40 ls []) := by
          intro k40
          induction k40 with
          | zero => intro k fi2 E4 H locs ls hk9 hz9 hz8 hO hL hZ hI fq hk hM hS hl; exact absurd hk (Nat.not_lt_zero _)
          | succ k40 ih40 =>
            intro k fi2 E4 H locs ls hk9 hz9 hz8 hO hL hZ hI fq hk40 hM hS hl
            refine lv_iload C0.1 C0.2.1 dX10_sheet_40 (lv_at hl 3 rfl) ?_
            refine lv_bipush (v := zI 24) C0.1 C0.2.1 dX10_sheet_42 rfl ?_
            refine z_icmp_ge (tgt := 66) C0.1 C0.2.1 dX10_sheet_44 (by decide) ⟨by omega, by omega⟩ ⟨by omega, by omega⟩ (fun c_44 => ?_) (fun c_44 => ?_)
            · skip
              refine lv_iload_n C0.1 C0.2.1 dX10_sheet_66 rfl (lv_at hl 2 rfl) ?_
              exact mm_iret (z := n) C0 hr hlk hM hS dX10_sheet_67 (by have he : pf_sheet S a w n = (n, shPut S i (fun _ => 0) w n) := (by unfold pf_sheet; rw [if_pos (by omega), if_neg (by omega), ht_i]); rw [he]; exact ⟨rfl, (hX0.sht ⟨_, _, _, hL, hZ, hI, shR_put hSR (fun j hj hji => ⟨zup_n _ _ hji, zup_n _ _ hji, hz8 j hj hji⟩) (fun q => by omega) (fun _ => ⟨zup_s _ _ _, zup_s _ _ _, fun x hx => hz9 x (by omega)⟩)⟩ fq).rf, fun q h => fq q (by omega)⟩)
            · skip
              refine lv_aload_n C0.1 C0.2.1 dX10_sheet_47 rfl (lv_at hl 0 rfl) ?_
              refine mm_get (fs := [.ref (h + 1), .ref (h + 2), .ref (h + 3), .ref (h + 4), .int (zI (((S.1.2.2 : Nat) : Int))), .int (zI (x2)), .long (zL (x3)), .ref (h + 5), .ref (h + 6), .ref (h + 7), .ref (h + 8), .int (zI (x4)), .int (zI (x5)), .int (zI (x6)), .int (zI (x7)), .int (zI (S.1.1)), .ref (h + 9), .ref (h + 10), .ref (h + 11), .ref (h + 12)]) C0 (C := RX10) (T := TX10) (N := 20) iG_X10 hM (hO) rfl 19 (by decide) tw_935 rfl rfl dX10_sheet_48 ?_
              refine lv_bipush (v := zI 24) C0.1 C0.2.1 dX10_sheet_51 rfl ?_
              refine lv_iload_n C0.1 C0.2.1 dX10_sheet_53 rfl (lv_at hl 1 rfl) ?_
              refine z_imul C0.1 C0.2.1 dX10_sheet_54 ?_
              refine lv_iload C0.1 C0.2.1 dX10_sheet_55 (lv_at hl 3 rfl) ?_
              refine z_iadd C0.1 C0.2.1 dX10_sheet_57 ?_
              refine lv_lconst (v := zL 0) C0.1 C0.2.1 dX10_sheet_58 rfl ?_
              refine mm_last C0 hM hS (g := fi2) (hI) (24 * i + k) (i := ((((24) * (a))) + ((k : Int)))) (x := 0) (by omega) (by omega) (by decide) dX10_sheet_59 (fun H locs hM hS hsz => ?_)
              obtain ⟨E5, hE5⟩ : ∃ X : mE, X = mm_up E4 (h + 12) (mm_J G 96 (zup (fi2) (24 * i + k) (0))) := ⟨_, rfl⟩
              replace hM : mm_M G E5 H := by rw [hE5]; exact hM
              have frs : ∀ q : Nat, q ≠ h + 12 → E5 q = E4 q := fun q h => by rw [hE5]; exact mm_up_n _ _ h
              have hat : E5 (h + 12) = some (mm_J G 96 (zup (fi2) (24 * i + k) (0))) := by rw [hE5]; exact mm_up_s _ _ _
              have hI := hat
              have hO := ro.kept hO (frs _ (by omega))
              have hL := (frs _ (by omega)).trans hL
              have hZ := (frs _ (by omega)).trans hZ
              have fq := (fun q h => (frs q (by omega)).trans (fq q h) : ∀ q : Nat, (q ≠ h + 10 ∧ q ≠ h + 11 ∧ q ≠ h + 12) → E5 q = E0 q)
              refine lv_iinc (v := zI (((k + 1 : Nat) : Int))) (lv' := [(4, .int (zI (((k + 1 : Nat) : Int)))), (0, .ref (h)), (1, .int (zI (a))), (3, .int (zI (n)))]) C0.1 C0.2.1 dX10_sheet_60 hl (k := 3) rfl (z_inc (a := (k : Int)) (n := 1) (by omega)) (by decide) rfl (fun ls hl => ?_)
              refine lv_goto (tgt := 40) C0.1 C0.2.1 dX10_sheet_63 (by decide) ?_
              exact ih40  (k + 1) (zup fi2 (24 * i + k) 0) E5 _ _ _ (by omega) (fun x hx => if q : x = k then (by subst q; exact zup_s _ _ _) else (by rw [zup_n _ _ (by omega)]; exact hz9 x (by omega))) (fun j hj hji x hx => by rw [zup_n _ _ (by omega)]; exact hz8 j hj hji x hx) (hO) (hL) (hZ) (hI) (fq) (by omega) hM hS (lv_sub hl [1, 2, 3, 0] rfl)
        exact L40 (_ + 1) 0 fi E3 _ _ _ (Nat.zero_le _) (fun x hx => absurd hx (Nat.not_lt_zero _)) (fun j _ _ x _ => rfl) (hO) (hL) (hZ) (hI) (fq) (Nat.lt_succ_self _) hM hS (lv_sub hl [1, 2, 4, 0] rfl)
      · skip
        refine lv_bipush (v := zI (-14)) C0.1 C0.2.1 dX10_sheet_20 rfl ?_
        exact mm_iret (z := (-14)) C0 hr hlk hM hS dX10_sheet_22 (by have he : pf_sheet S a w n = ((-14), S) := (by unfold pf_sheet; rw [if_pos (by omega), if_pos (by omega)]); rw [he]; exact ⟨rfl, hX0.rf, fun _ _ => rfl⟩)
    · skip
      refine lv_iconst (v := zI (-1)) C0.1 C0.2.1 dX10_sheet_14 rfl ?_
      exact mm_iret (z := (-1)) C0 hr hlk hM hS dX10_sheet_15 (by have he : pf_sheet S a w n = ((-1), S) := (by unfold pf_sheet; rw [if_neg (by omega)]); rw [he]; exact ⟨rfl, hX0.rf, fun _ _ => rfl⟩)

def rX10_drop : Room := { frames := 1, cells := 0, slots := 0, locals := 25 }
theorem vw_X10_drop : mm_Vw RX10 yX10_drop cX10_drop 2 (some .int) 1 := ⟨tw_1305, tw_1306, tw_10, tw_1307, by decide +kernel⟩
set_option maxHeartbeats 4000000 in
set_option maxRecDepth 100000 in
theorem c_X10_drop (l : Launch) (G : mG) (E0 : mE) {h : Nat} {S : mST} (hF : rf G E0 h S) (hok : okR S) {a : Int} (hr_a : rI a) : mm_Ci l yX10_drop (.code yX10_drop cX10_drop 2 (some .int) :: wsG) rX10_drop G [.ref (h), .int (zI (a))] E0 (fun z E => z = (pf_drop S a).1 ∧ rf G E h (pf_drop S a).2 ∧ ∀ q : Nat, (q < h ∨ h + 13 ≤ q) → E q = E0 q) := by
  refine mm_of_i (by decide +kernel) (Nat.le_of_ble_eq_true rfl) ?_
  intro p e s m args below meth c ls C0 hr hlk hM hl hS
  have hl : lv_has ls 2 [(0, .ref (h)), (1, .int (zI (a)))] := hl
  obtain ⟨hr_a1, hr_a2⟩ := hr_a
  obtain ⟨R, x2, x3, x4, x5, x6, x7, hX⟩ := hF
  have hX0 := hX
  obtain ⟨hTk, hPk, hKk, hSk⟩ := hok
  obtain ⟨hO, hR, hRp, ⟨fh, fc, hH, hC, hPa⟩, hTp, hCl, hKp, hSh, him⟩ := hX
  obtain ⟨fl, fz, fi, hL, hZ, hI, hSR⟩ := id hSh
  refine lv_iload_n C0.1 C0.2.1 dX10_drop_0 rfl (lv_at hl 1 rfl) ?_
  refine z_i2l C0.1 C0.2.1 dX10_drop_1 ⟨by omega, by omega⟩ ?_
  refine lv_lconst (v := zL 0) C0.1 C0.2.1 dX10_drop_2 rfl ?_
  refine mm_ldc2 (z := 3) C0 tw_1006 rfl dX10_drop_3 ?_
  refine mm_callSi (As := [.long (zL (a)), .long (zL (0)), .long (zL (3))]) C0 sw_X10_in tw_985 (c_X10_in l G _ (v := a) (lo := 0) (hi := 3) ⟨by omega, by omega⟩ ⟨by omega, by omega⟩ ⟨by omega, by omega⟩) hM rfl hl.1 rfl (Nat.le_of_ble_eq_true rfl) ⟨rfl, rfl, Nat.le_of_ble_eq_true rfl, Nat.le_of_ble_eq_true rfl, Nat.zero_le _, Nat.zero_le _⟩ dX10_drop_6 hS (fun z_6 E1 H locs hp hM hS => ?_)
  obtain ⟨hz_6, hEq⟩ := hp
  rw [hEq] at hM
  have hz_6b := if01 hz_6
  refine z_if_ne (tgt := 14) C0.1 C0.2.1 dX10_drop_9 (by decide) ⟨by omega, by omega⟩ (fun c_9 => ?_) (fun c_9 => ?_)
  · skip
    obtain ⟨i, hpi⟩ : ∃ i : Nat, a = (i : Int) := ⟨(a).toNat, by omega⟩
    have hi_i : i < 4 := by omega
    have ht_i : (a).toNat = i := by omega
    obtain ⟨⟨hl_i1, hl_i2⟩, ⟨he_i1, he_i2⟩, hf_i⟩ := hSk i hi_i
    obtain ⟨hra_i, hrb_i⟩ := hSR i hi_i
    have hcs : (S.2.2.2.2.2 i < 0 ∧ fl i = -1) ∨ (0 ≤ S.2.2.2.2.2 i ∧ fl i = S.2.2.2.2.1 i ∧ fz i = S.2.2.2.2.2 i) := by rcases Int.lt_or_le (S.2.2.2.2.2 i) 0 with q | q; exact Or.inl ⟨q, hra_i q⟩; exact Or.inr ⟨q, (hrb_i q).1, (hrb_i q).2.1⟩
    refine lv_aload_n C0.1 C0.2.1 dX10_drop_14 rfl (lv_at hl 0 rfl) ?_
    refine mm_get (fs := [.ref (h + 1), .ref (h + 2), .ref (h + 3), .ref (h + 4), .int (zI (((S.1.2.2 : Nat) : Int))), .int (zI (x2)), .long (zL (x3)), .ref (h + 5), .ref (h + 6), .ref (h + 7), .ref (h + 8), .int (zI (x4)), .int (zI (x5)), .int (zI (x6)), .int (zI (x7)), .int (zI (S.1.1)), .ref (h + 9), .ref (h + 10), .ref (h + 11), .ref (h + 12)]) C0 (C := RX10) (T := TX10) (N := 20) iG_X10 hM (hO) rfl 17 (by decide) tw_933 rfl rfl dX10_drop_15 ?_
    refine lv_iload_n C0.1 C0.2.1 dX10_drop_18 rfl (lv_at hl 1 rfl) ?_
    refine mm_iald C0 hM (g := fl) (hL) (i) (i := a) (by omega) (by omega) (by decide) dX10_drop_19 ?_
    refine z_if_ge (tgt := 26) C0.1 C0.2.1 dX10_drop_20 (by decide) ⟨by omega, by omega⟩ (fun c_20 => ?_) (fun c_20 => ?_)
    · skip
      refine lv_aload_n C0.1 C0.2.1 dX10_drop_26 rfl (lv_at hl 0 rfl) ?_
      refine mm_get (fs := [.ref (h + 1), .ref (h + 2), .ref (h + 3), .ref (h + 4), .int (zI (((S.1.2.2 : Nat) : Int))), .int (zI (x2)), .long (zL (x3)), .ref (h + 5), .ref (h + 6), .ref (h + 7), .ref (h + 8), .int (zI (x4)), .int (zI (x5)), .int (zI (x6)), .int (zI (x7)), .int (zI (S.1.1)), .ref (h + 9), .ref (h + 10), .ref (h + 11), .ref (h + 12)]) C0 (C := RX10) (T := TX10) (N := 20) iG_X10 hM (hO) rfl 17 (by decide) tw_933 rfl rfl dX10_drop_27 ?_
      refine lv_iload_n C0.1 C0.2.1 dX10_drop_30 rfl (lv_at hl 1 rfl) ?_
      refine lv_iconst (v := zI (-1)) C0.1 C0.2.1 dX10_drop_31 rfl ?_
      refine mm_iast C0 hM hS (g := fl) (hL) (i) (i := a) (x := (-1)) (by omega) (by omega) (by decide) dX10_drop_32 (fun H locs hM hS hsz => ?_)
      obtain ⟨E2, hE2⟩ : ∃ X : mE, X = mm_up E0 (h + 10) (mm_I G 4 (zup (fl) (i) ((-1)))) := ⟨_, rfl⟩
      replace hM : mm_M G E2 H := by rw [hE2]; exact hM
      have frs : ∀ q : Nat, q ≠ h + 10 → E2 q = E0 q := fun q h => by rw [hE2]; exact mm_up_n _ _ h
      have hat : E2 (h + 10) = some (mm_I G 4 (zup (fl) (i) ((-1)))) := by rw [hE2]; exact mm_up_s _ _ _
      have hL := hat
      have fq := frs
      have hO := ro.kept hO (frs _ (by omega))
      have hZ := (frs _ (by omega)).trans hZ
      have hI := (frs _ (by omega)).trans hI
      refine lv_aload_n C0.1 C0.2.1 dX10_drop_33 rfl (lv_at hl 0 rfl) ?_
      refine mm_get (fs := [.ref (h + 1), .ref (h + 2), .ref (h + 3), .ref (h + 4), .int (zI (((S.1.2.2 : Nat) : Int))), .int (zI (x2)), .long (zL (x3)), .ref (h + 5), .ref (h + 6), .ref (h + 7), .ref (h + 8), .int (zI (x4)), .int (zI (x5)), .int (zI (x6)), .int (zI (x7)), .int (zI (S.1.1)), .ref (h + 9), .ref (h + 10), .ref (h + 11), .ref (h + 12)]) C0 (C := RX10) (T := TX10) (N := 20) iG_X10 hM (hO) rfl 18 (by decide) tw_934 rfl rfl dX10_drop_34 ?_
      refine lv_iload_n C0.1 C0.2.1 dX10_drop_37 rfl (lv_at hl 1 rfl) ?_
      refine mm_iald C0 hM (g := fz) (hZ) (i) (i := a) (by omega) (by omega) (by decide) dX10_drop_38 ?_
      refine z_asI (b := (S.2.2.2.2.2 i)) (by omega) ?_
      exact mm_iret (z := (S.2.2.2.2.2 i)) C0 hr hlk hM hS dX10_drop_39 (by have he : pf_drop S a = (S.2.2.2.2.2 i, shPut S i (S.2.2.2.1 i) (S.2.2.2.2.1 i) (-1)) := (by unfold pf_drop; rw [if_pos (by omega), ht_i, if_neg (by omega)]); rw [he]; exact ⟨rfl, (hX0.sht ⟨_, _, _, hL, hZ, hI, shR_put hSR (fun j hj hji => ⟨zup_n _ _ hji, rfl, fun x hx => rfl⟩) (fun q => zup_s _ _ _) (fun q => by omega)⟩ (fun q h => fq q (by omega))).rf, fun q h => fq q (by omega)⟩)
    · skip
      refine lv_bipush (v := zI (-11)) C0.1 C0.2.1 dX10_drop_23 rfl ?_
      exact mm_iret (z := (-11)) C0 hr hlk hM hS dX10_drop_25 (by have he : pf_drop S a = ((-11), S) := (by unfold pf_drop; rw [if_pos (by omega), ht_i, if_pos (by omega)]); rw [he]; exact ⟨rfl, hX0.rf, fun _ _ => rfl⟩)
  · skip
    refine lv_iconst (v := zI (-1)) C0.1 C0.2.1 dX10_drop_12 rfl ?_
    exact mm_iret (z := (-1)) C0 hr hlk hM hS dX10_drop_13 (by have he : pf_drop S a = ((-1), S) := (by unfold pf_drop; rw [if_neg (by omega)]); rw [he]; exact ⟨rfl, hX0.rf, fun _ _ => rfl⟩)

def rX10_item : Room := { frames := 2, cells := 0, slots := 0, locals := 49 }
theorem vw_X10_item : mm_Vw RX10 yX10_item cX10_item 7 (some .int) 4 := ⟨tw_1309, tw_1310, tw_10, tw_1311, by decide +kernel⟩
set_option maxHeartbeats 4000000 in
set_option maxRecDepth 100000 in
theorem c_X10_item (l : Launch) (G : mG) (E0 : mE) {h : Nat} {S : mST} (hF : rf G E0 h S) (hok : okR S) {a w i1 v : Int} (hr_a : rI a) (hr_w : rI w) (hr_i1 : rI i1) (hr_v : rL v) : mm_Ci l yX10_item (.code yX10_item cX10_item 7 (some .int) :: wsG) rX10_item G [.ref (h), .int (zI (a)), .int (zI (w)), .int (zI (i1)), .long (zL (v))] E0 (fun z E => z = (pf_item S a w i1 v).1 ∧ rf G E h (pf_item S a w i1 v).2 ∧ ∀ q : Nat, (q < h ∨ h + 13 ≤ q) → E q = E0 q) := by
  refine mm_of_i (by decide +kernel) (Nat.le_of_ble_eq_true rfl) ?_
  intro p e s m args below meth c ls C0 hr hlk hM hl hS
  have hl : lv_has ls 7 [(0, .ref (h)), (1, .int (zI (a))), (2, .int (zI (w))), (3, .int (zI (i1))), (4, .long (zL (v)))] := hl
  obtain ⟨hr_a1, hr_a2⟩ := hr_a
  obtain ⟨hr_w1, hr_w2⟩ := hr_w
  obtain ⟨hr_i11, hr_i12⟩ := hr_i1
  obtain ⟨hr_v1, hr_v2⟩ := hr_v
  obtain ⟨R, x2, x3, x4, x5, x6, x7, hX⟩ := hF
  have hX0 := hX
  obtain ⟨hTk, hPk, hKk, hSk⟩ := hok
  obtain ⟨hO, hR, hRp, ⟨fh, fc, hH, hC, hPa⟩, hTp, hCl, hKp, hSh, him⟩ := hX
  obtain ⟨fl, fz, fi, hL, hZ, hI, hSR⟩ := id hSh
  refine lv_iload_n C0.1 C0.2.1 dX10_item_0 rfl (lv_at hl 1 rfl) ?_
  refine lv_iload_n C0.1 C0.2.1 dX10_item_1 rfl (lv_at hl 2 rfl) ?_
  refine mm_callSi (As := [.int (zI (a)), .int (zI (w))]) C0 sw_X10_isSheet tw_1301 (c_X10_isSheet l G _ (i := a) (w := w) ⟨by omega, by omega⟩ ⟨by omega, by omega⟩) hM rfl hl.1 rfl (Nat.le_of_ble_eq_true rfl) ⟨rfl, rfl, Nat.le_of_ble_eq_true rfl, Nat.le_of_ble_eq_true rfl, Nat.zero_le _, Nat.zero_le _⟩ dX10_item_2 hS (fun z_2 E1 H locs hp hM hS => ?_)
  obtain ⟨hz_2, hEq⟩ := hp
  rw [hEq] at hM
  have hz_2b := if01 hz_2
  refine z_if_ne (tgt := 10) C0.1 C0.2.1 dX10_item_5 (by decide) ⟨by omega, by omega⟩ (fun c_5 => ?_) (fun c_5 => ?_)
  · skip
    obtain ⟨i, hpi⟩ : ∃ i : Nat, a = (i : Int) := ⟨(a).toNat, by omega⟩
    have hi_i : i < 4 := by omega
    have ht_i : (a).toNat = i := by omega
    obtain ⟨⟨hl_i1, hl_i2⟩, ⟨he_i1, he_i2⟩, hf_i⟩ := hSk i hi_i
    obtain ⟨hra_i, hrb_i⟩ := hSR i hi_i
    refine lv_aload_n C0.1 C0.2.1 dX10_item_10 rfl (lv_at hl 0 rfl) ?_
    refine lv_iload_n C0.1 C0.2.1 dX10_item_11 rfl (lv_at hl 1 rfl) ?_
    refine lv_iload_n C0.1 C0.2.1 dX10_item_12 rfl (lv_at hl 2 rfl) ?_
    refine lv_iload_n C0.1 C0.2.1 dX10_item_13 rfl (lv_at hl 3 rfl) ?_
    refine lv_iconst (v := zI 1) C0.1 C0.2.1 dX10_item_14 rfl ?_
    refine mm_callVi (As := [.int (zI (a)), .int (zI (w)), .int (zI (i1)), .int (zI (1))]) C0 vw_X10_lacksRow tw_1312 (c_X10_lacksRow l G _ hO hL hZ hpi hi_i (ln := (S.2.2.2.2.1 i)) (len := (S.2.2.2.2.2 i)) hra_i (fun q => ⟨(hrb_i q).1, (hrb_i q).2.1⟩) ⟨by omega, by omega⟩ ⟨by omega, by omega⟩ ⟨by omega, by omega⟩ ⟨by omega, by omega⟩ ⟨by omega, by omega⟩) hM (hO) rfl rfl hl.1 rfl (Nat.le_of_ble_eq_true rfl) ⟨rfl, rfl, Nat.le_of_ble_eq_true rfl, Nat.le_of_ble_eq_true rfl, Nat.zero_le _, Nat.zero_le _⟩ dX10_item_15 hS (fun z_15 E2 H locs hp hM hS => ?_)
    obtain ⟨hz_15, hEq⟩ := hp
    rw [hEq] at hM
    refine z_asI (b := (shF (S.2.2.2.2.1 i) (S.2.2.2.2.2 i) w i1 1)) (hz_15) ?_
    have hfb := shF_b (ln := (S.2.2.2.2.1 i)) (len := (S.2.2.2.2.2 i)) (a := w) (i := i1) (n := 1)
    refine lv_istore (lv' := [(6, .int (zI ((shF (S.2.2.2.2.1 i) (S.2.2.2.2.2 i) w i1 1)))), (0, .ref (h)), (1, .int (zI (a))), (2, .int (zI (w))), (3, .int (zI (i1))), (4, .long (zL (v)))]) C0.1 C0.2.1 dX10_item_18 hl (by decide) rfl (fun ls hl => ?_)
    refine lv_iload C0.1 C0.2.1 dX10_item_20 (lv_at hl 0 rfl) ?_
    refine z_if_ge (tgt := 28) C0.1 C0.2.1 dX10_item_22 (by decide) ⟨by omega, by omega⟩ (fun c_22 => ?_) (fun c_22 => ?_)
    · skip
      have hf0 := shF_0 (ln := S.2.2.2.2.1 i) (len := S.2.2.2.2.2 i) (a := w) (i := i1) (n := 1) (by omega)
      refine lv_aload_n C0.1 C0.2.1 dX10_item_28 rfl (lv_at hl 1 rfl) ?_
      refine mm_get (fs := [.ref (h + 1), .ref (h + 2), .ref (h + 3), .ref (h + 4), .int (zI (((S.1.2.2 : Nat) : Int))), .int (zI (x2)), .long (zL (x3)), .ref (h + 5), .ref (h + 6), .ref (h + 7), .ref (h + 8), .int (zI (x4)), .int (zI (x5)), .int (zI (x6)), .int (zI (x7)), .int (zI (S.1.1)), .ref (h + 9), .ref (h + 10), .ref (h + 11), .ref (h + 12)]) C0 (C := RX10) (T := TX10) (N := 20) iG_X10 hM (hO) rfl 19 (by decide) tw_935 rfl rfl dX10_item_29 ?_
      refine lv_bipush (v := zI 24) C0.1 C0.2.1 dX10_item_32 rfl ?_
      refine lv_iload_n C0.1 C0.2.1 dX10_item_34 rfl (lv_at hl 2 rfl) ?_
      refine z_imul C0.1 C0.2.1 dX10_item_35 ?_
      refine lv_iload_n C0.1 C0.2.1 dX10_item_36 rfl (lv_at hl 4 rfl) ?_
      refine z_iadd C0.1 C0.2.1 dX10_item_37 ?_
      refine lv_iload_n C0.1 C0.2.1 dX10_item_38 rfl (lv_at hl 3 rfl) ?_
      refine lv_lload C0.1 C0.2.1 dX10_item_39 (lv_at hl 5 rfl) ?_
      refine mm_callSl (As := [.int (zI (w)), .long (zL (v))]) C0 sw_X10_asLane tw_1316 (c_X10_asLane l G _ (w := w) (v := v) (by omega) (by omega) ⟨by omega, by omega⟩) hM rfl hl.1 rfl (Nat.le_of_ble_eq_true rfl) ⟨rfl, rfl, Nat.le_of_ble_eq_true rfl, Nat.le_of_ble_eq_true rfl, Nat.zero_le _, Nat.zero_le _⟩ dX10_item_41 hS (fun z_41 E3 H locs hp hM hS => ?_)
      obtain ⟨hz_41, hEq⟩ := hp
      rw [hEq] at hM
      refine z_asL (b := (asLn w v)) (hz_41) ?_
      refine mm_last C0 hM hS (g := fi) (hI) (24 * i + i1.toNat) (i := ((((24) * (a))) + (i1))) (x := (asLn w v)) (by omega) (by omega) (by decide) dX10_item_44 (fun H locs hM hS hsz => ?_)
      obtain ⟨E4, hE4⟩ : ∃ X : mE, X = mm_up E0 (h + 12) (mm_J G 96 (zup (fi) (24 * i + i1.toNat) ((asLn w v)))) := ⟨_, rfl⟩
      replace hM : mm_M G E4 H := by rw [hE4]; exact hM
      have frs : ∀ q : Nat, q ≠ h + 12 → E4 q = E0 q := fun q h => by rw [hE4]; exact mm_up_n _ _ h
      have hat : E4 (h + 12) = some (mm_J G 96 (zup (fi) (24 * i + i1.toNat) ((asLn w v)))) := by rw [hE4]; exact mm_up_s _ _ _
      have hI := hat
      have fq := frs
      have hrb2 := hrb_i hf0.1
      have hL := (frs _ (by omega)).trans hL
      have hZ := (frs _ (by omega)).trans hZ
      refine lv_iconst (v := zI 1) C0.1 C0.2.1 dX10_item_45 rfl ?_
      exact mm_iret (z := 1) C0 hr hlk hM hS dX10_item_46 (by have he : pf_item S a w i1 v = (1, shPut S i (zup (S.2.2.2.1 i) i1.toNat (asLn (S.2.2.2.2.1 i) v)) (S.2.2.2.2.1 i) (S.2.2.2.2.2 i)) := (by unfold pf_item; rw [if_pos (by omega), ht_i, if_neg (by omega)]); rw [he]; exact ⟨rfl, (hX0.sht ⟨_, _, _, hL, hZ, hI, shR_put hSR (fun j hj hji => ⟨rfl, rfl, fun x hx => zup_n _ _ (by omega)⟩) (fun q => by omega) (fun _ => ⟨hrb2.1, hrb2.2.1, fun x hx => by rw [← hf0.2.1]; by_cases q : x = i1.toNat; (subst q; rw [zup_s, zup_s]); (rw [zup_n _ _ (by omega), zup_n _ _ q]; exact hrb2.2.2 x hx)⟩)⟩ (fun q h => fq q (by omega))).rf, fun q h => fq q (by omega)⟩)
    · skip
      refine lv_iload C0.1 C0.2.1 dX10_item_25 (lv_at hl 0 rfl) ?_
      exact mm_iret (z := (shF (S.2.2.2.2.1 i) (S.2.2.2.2.2 i) w i1 1)) C0 hr hlk hM hS dX10_item_27 (by have he : pf_item S a w i1 v = ((shF (S.2.2.2.2.1 i) (S.2.2.2.2.2 i) w i1 1), S) := (by unfold pf_item; rw [if_pos (by omega), ht_i, if_pos (by omega)]); rw [he]; exact ⟨rfl, hX0.rf, fun _ _ => rfl⟩)
  · skip
    refine lv_iconst (v := zI (-1)) C0.1 C0.2.1 dX10_item_8 rfl ?_
    exact mm_iret (z := (-1)) C0 hr hlk hM hS dX10_item_9 (by have he : pf_item S a w i1 v = ((-1), S) := (by unfold pf_item; rw [if_neg (by omega)]); rw [he]; exact ⟨rfl, hX0.rf, fun _ _ => rfl⟩)

def rX10_heap : Room := { frames := 3, cells := 0, slots := 0, locals := 68 }
theorem vw_X10_heap : mm_Vw RX10 yX10_heap cX10_heap 10 (some .int) 5 := ⟨tw_1320, tw_1321, tw_10, tw_1322, by decide +kernel⟩
set_option maxHeartbeats 4000000 in
set_option maxRecDepth 100000 in
theorem c_X10_heap (l : Launch) (G : mG) (E0 : mE) {h : Nat} {S : mST} (hF : rf G E0 h S) (hok : okR S) {a w f n t : Int} (hr_a : rI a) (hr_w : rI w) (hr_f : rI f) (hr_n : rI n) (hr_t : rI t) : mm_Ci l yX10_heap (.code yX10_heap cX10_heap 10 (some .int) :: wsG) rX10_heap G [.ref (h), .int (zI (a)), .int (zI (w)), .int (zI (f)), .int (zI (n)), .int (zI (t))] E0 (fun z E => z = (pf_heap S a w f n t).1 ∧ rf G E h (pf_heap S a w f n t).2 ∧ ∀ q : Nat, (q < h ∨ h + 13 ≤ q) → E q = E0 q) := by
  refine mm_of_i (by decide +kernel) (Nat.le_of_ble_eq_true rfl) ?_
  intro p e s m args below meth c ls C0 hr hlk hM hl hS
  have hl : lv_has ls 10 [(0, .ref (h)), (1, .int (zI (a))), (2, .int (zI (w))), (3, .int (zI (f))), (4, .int (zI (n))), (5, .int (zI (t)))] := hl
  obtain ⟨hr_a1, hr_a2⟩ := hr_a
  obtain ⟨hr_w1, hr_w2⟩ := hr_w
  obtain ⟨hr_f1, hr_f2⟩ := hr_f
  obtain ⟨hr_n1, hr_n2⟩ := hr_n
  obtain ⟨hr_t1, hr_t2⟩ := hr_t
  obtain ⟨R, x2, x3, x4, x5, x6, x7, hX⟩ := hF
  have hX0 := hX
  obtain ⟨hTk, hPk, hKk, hSk⟩ := hok
  obtain ⟨hO, hR, hRp, ⟨fh, fc, hH, hC, hPa⟩, hTp, hCl, hKp, hSh, him⟩ := hX
  obtain ⟨fl, fz, fi, hL, hZ, hI, hSR⟩ := id hSh
  have hfr : ∀ q : Nat, (q ≠ h + 1) → E0 q = E0 q := fun _ _ => rfl
  refine lv_iload_n C0.1 C0.2.1 dX10_heap_0 rfl (lv_at hl 1 rfl) ?_
  refine lv_iload_n C0.1 C0.2.1 dX10_heap_1 rfl (lv_at hl 2 rfl) ?_
  refine mm_callSi (As := [.int (zI (a)), .int (zI (w))]) C0 sw_X10_isSheet tw_1301 (c_X10_isSheet l G _ (i := a) (w := w) ⟨by omega, by omega⟩ ⟨by omega, by omega⟩) hM rfl hl.1 rfl (Nat.le_of_ble_eq_true rfl) ⟨rfl, rfl, Nat.le_of_ble_eq_true rfl, Nat.le_of_ble_eq_true rfl, Nat.zero_le _, Nat.zero_le _⟩ dX10_heap_2 hS (fun z_2 E1 H locs hp hM hS => ?_)
  obtain ⟨hz_2, hEq⟩ := hp
  rw [hEq] at hM
  have hz_2b := if01 hz_2
  refine z_if_eq (tgt := 29) C0.1 C0.2.1 dX10_heap_5 (by decide) ⟨by omega, by omega⟩ (fun c_5 => ?_) (fun c_5 => ?_)
  · skip
    refine lv_iconst (v := zI (-1)) C0.1 C0.2.1 dX10_heap_29 rfl ?_
    exact mm_iret (z := (-1)) C0 hr hlk hM hS dX10_heap_30 (by have he : pf_heap S a w f n t = ((-1), S) := (by unfold pf_heap; rw [if_neg (by omega)]); rw [he]; exact ⟨rfl, hX0.rf, fun _ _ => rfl⟩)
  · skip
    refine lv_iload C0.1 C0.2.1 dX10_heap_8 (lv_at hl 4 rfl) ?_
    refine z_i2l C0.1 C0.2.1 dX10_heap_10 ⟨by omega, by omega⟩ ?_
    refine lv_lconst (v := zL 1) C0.1 C0.2.1 dX10_heap_11 rfl ?_
    refine mm_ldc2 (z := 24) C0 tw_1323 rfl dX10_heap_12 ?_
    refine mm_callSi (As := [.long (zL (n)), .long (zL (1)), .long (zL (24))]) C0 sw_X10_in tw_985 (c_X10_in l G _ (v := n) (lo := 1) (hi := 24) ⟨by omega, by omega⟩ ⟨by omega, by omega⟩ ⟨by omega, by omega⟩) hM rfl hl.1 rfl (Nat.le_of_ble_eq_true rfl) ⟨rfl, rfl, Nat.le_of_ble_eq_true rfl, Nat.le_of_ble_eq_true rfl, Nat.zero_le _, Nat.zero_le _⟩ dX10_heap_15 hS (fun z_15 E2 H locs hp hM hS => ?_)
    obtain ⟨hz_15, hEq⟩ := hp
    rw [hEq] at hM
    have hz_15b := if01 hz_15
    refine z_if_eq (tgt := 29) C0.1 C0.2.1 dX10_heap_18 (by decide) ⟨by omega, by omega⟩ (fun c_18 => ?_) (fun c_18 => ?_)
    · skip
      refine lv_iconst (v := zI (-1)) C0.1 C0.2.1 dX10_heap_29 rfl ?_
      exact mm_iret (z := (-1)) C0 hr hlk hM hS dX10_heap_30 (by have he : pf_heap S a w f n t = ((-1), S) := (by unfold pf_heap; rw [if_neg (by omega)]); rw [he]; exact ⟨rfl, hX0.rf, fun _ _ => rfl⟩)
    · skip
      refine lv_iload C0.1 C0.2.1 dX10_heap_21 (lv_at hl 5 rfl) ?_
      refine mm_callSi (As := [.int (zI (t))]) C0 sw_X10_isPlace tw_981 (c_X10_isPlace l G _ (i := t) ⟨by omega, by omega⟩) hM rfl hl.1 rfl (Nat.le_of_ble_eq_true rfl) ⟨rfl, rfl, Nat.le_of_ble_eq_true rfl, Nat.le_of_ble_eq_true rfl, Nat.zero_le _, Nat.zero_le _⟩ dX10_heap_23 hS (fun z_23 E3 H locs hp hM hS => ?_)
      obtain ⟨hz_23, hEq⟩ := hp
      rw [hEq] at hM
      have hz_23b := if01 hz_23
      refine z_if_ne (tgt := 31) C0.1 C0.2.1 dX10_heap_26 (by decide) ⟨by omega, by omega⟩ (fun c_26 => ?_) (fun c_26 => ?_)
      · skip
        obtain ⟨i, hpi⟩ : ∃ i : Nat, a = (i : Int) := ⟨(a).toNat, by omega⟩
        have hi_i : i < 4 := by omega
        have ht_i : (a).toNat = i := by omega
        obtain ⟨⟨hl_i1, hl_i2⟩, ⟨he_i1, he_i2⟩, hf_i⟩ := hSk i hi_i
        obtain ⟨hra_i, hrb_i⟩ := hSR i hi_i
        obtain ⟨u, hpu⟩ : ∃ u : Nat, t = (u : Int) := ⟨(t).toNat, by omega⟩
        have hi_u : u < 8 := by omega
        have ht_u : (t).toNat = u := by omega
        refine lv_aload_n C0.1 C0.2.1 dX10_heap_31 rfl (lv_at hl 0 rfl) ?_
        refine lv_iload_n C0.1 C0.2.1 dX10_heap_32 rfl (lv_at hl 1 rfl) ?_
        refine lv_iload_n C0.1 C0.2.1 dX10_heap_33 rfl (lv_at hl 2 rfl) ?_
        refine lv_iload_n C0.1 C0.2.1 dX10_heap_34 rfl (lv_at hl 3 rfl) ?_
        refine lv_iload C0.1 C0.2.1 dX10_heap_35 (lv_at hl 4 rfl) ?_
        refine mm_callVi (As := [.int (zI (a)), .int (zI (w)), .int (zI (f)), .int (zI (n))]) C0 vw_X10_lacksRow tw_1312 (c_X10_lacksRow l G _ hO hL hZ hpi hi_i (ln := (S.2.2.2.2.1 i)) (len := (S.2.2.2.2.2 i)) hra_i (fun q => ⟨(hrb_i q).1, (hrb_i q).2.1⟩) ⟨by omega, by omega⟩ ⟨by omega, by omega⟩ ⟨by omega, by omega⟩ ⟨by omega, by omega⟩ ⟨by omega, by omega⟩) hM (hO) rfl rfl hl.1 rfl (Nat.le_of_ble_eq_true rfl) ⟨rfl, rfl, Nat.le_of_ble_eq_true rfl, Nat.le_of_ble_eq_true rfl, Nat.zero_le _, Nat.zero_le _⟩ dX10_heap_37 hS (fun z_37 E4 H locs hp hM hS => ?_)
        obtain ⟨hz_37, hEq⟩ := hp
        rw [hEq] at hM
        refine z_asI (b := (shF (S.2.2.2.2.1 i) (S.2.2.2.2.2 i) w f n)) (hz_37) ?_
        have hfb := shF_b (ln := (S.2.2.2.2.1 i)) (len := (S.2.2.2.2.2 i)) (a := w) (i := f) (n := n)
        refine lv_istore (lv' := [(6, .int (zI ((shF (S.2.2.2.2.1 i) (S.2.2.2.2.2 i) w f n)))), (0, .ref (h)), (1, .int (zI (a))), (2, .int (zI (w))), (3, .int (zI (f))), (4, .int (zI (n))), (5, .int (zI (t)))]) C0.1 C0.2.1 dX10_heap_40 hl (by decide) rfl (fun ls hl => ?_)
        refine lv_iload C0.1 C0.2.1 dX10_heap_42 (lv_at hl 0 rfl) ?_
        refine z_if_ge (tgt := 50) C0.1 C0.2.1 dX10_heap_44 (by decide) ⟨by omega, by omega⟩ (fun c_44 => ?_) (fun c_44 => ?_)
        · skip
          have hf0 := shF_0 (ln := S.2.2.2.2.1 i) (len := S.2.2.2.2.2 i) (a := w) (i := f) (n := n) (by omega)
          have hrb2 := hrb_i hf0.1
          have hb9 : ∀ k, k ≤ n.toNat → nl (smI (S.2.2.2.1 i) f.toNat k) ≤ 4 := fun k hk => smI_nl (by omega) (fun j hj => (hf_i (f.toNat + j) (by omega)).2)
          refine lv_aload_n C0.1 C0.2.1 dX10_heap_50 rfl (lv_at hl 1 rfl) ?_
          refine lv_bipush (v := zI 8) C0.1 C0.2.1 dX10_heap_51 rfl ?_
          refine lv_lconst (v := zL 0) C0.1 C0.2.1 dX10_heap_53 rfl ?_
          refine mm_callVv (As := [.int (zI (8)), .long (zL (0))]) C0 vw_X10_set tw_988 (c_X10_set l G _ hO hR (t := 8) rfl (by omega) 0 rfl (by omega)) hM (hO) rfl rfl hl.1 rfl (Nat.le_of_ble_eq_true rfl) ⟨rfl, rfl, Nat.le_of_ble_eq_true rfl, Nat.le_of_ble_eq_true rfl, Nat.zero_le _, Nat.zero_le _⟩ dX10_heap_54 hS (fun E5 H locs hp hM hS => ?_)
          obtain ⟨⟨R1, hR1, v8, kr1⟩, fr⟩ := hp
          have hO := ro.kept hO (fr _ (by omega))
          have hL := (fr _ (by omega)).trans hL
          have hZ := (fr _ (by omega)).trans hZ
          have hI := (fr _ (by omega)).trans hI
          have hfr := (fun q h => (fr q (by omega)).trans (hfr q h) : ∀ q : Nat, (q ≠ h + 1) → E5 q = E0 q)
          refine lv_iconst (v := zI 0) C0.1 C0.2.1 dX10_heap_57 rfl ?_
          refine lv_istore (lv' := [(7, .int (zI (0))), (6, .int (zI ((shF (S.2.2.2.2.1 i) (S.2.2.2.2.2 i) w f n)))), (0, .ref (h)), (1, .int (zI (a))), (2, .int (zI (w))), (3, .int (zI (f))), (4, .int (zI (n))), (5, .int (zI (t)))]) C0.1 C0.2.1 dX10_heap_58 hl (by decide) rfl (fun ls hl => ?_)
          have L60 : ∀ (k60 : Nat) (j : Nat) (R1 : Nat → Nat) (E6 : mE) (H : Heap) (locs : List Loc) (ls : Array Slot), (j ≤ n.toNat) → (∀ k, k < j → 0 ≤ S.2.2.2.1 i (f.toNat + k)) → (R1 8 = smI (S.2.2.2.1 i) f.toNat j) → (∀ r, r < 8 → R1 r = R r) → (ro G E6 h ((S.1.2.2 : Nat) : Int) x2 x3 x4 x5 x6 x7 S.1.1) → (E6 (h + 12) = some (mm_J G 96 fi)) → (rg G E6 h R1) → (∀ q : Nat, (q ≠ h + 1) → E6 q = E0 q) → n.toNat - j < k60 → mm_M G E6 H → va_S (mm_A G) s.heap H locs → lv_has ls 10 [(0, .ref (h)), (1, .int (zI (a))), (2, .int (zI (w))), (3, .int (zI (f))), (4, .int (zI (n))), (5, .int (zI (t))), (7, .int (zI ((j : Int))))] → W p l e rX10_heap s m args below meth c H locs 0 0 (mm_Zi G below args s (fun z E => z = (pf_heap S a w f n t).1 ∧ rf G E h (pf_heap S a w f n t).2 ∧ ∀ q : Nat, (q < h ∨ h + 13 ≤ q) → E q = E0 q)) (F0 m 60 ls []) := by
            intro k60
            induction k60 with
            | zero => intro j R1 E6 H locs ls hj hps v8 k1 hO hI hR1 hfr hk hM hS hl; exact absurd hk (Nat.not_lt_zero _)
            | succ k60 ih60 =>
              intro j R1 E6 H locs ls hj hps v8 k1 hO hI hR1 hfr hk60 hM hS hl
              refine lv_iload C0.1 C0.2.1 dX10_heap_60 (lv_at hl 6 rfl) ?_
              refine lv_iload C0.1 C0.2.1 dX10_heap_62 (lv_at hl 4 rfl) ?_
              refine z_icmp_ge (tgt := 117) C0.1 C0.2.1 dX10_heap_64 (by decide) ⟨by omega, by omega⟩ ⟨by omega, by omega⟩ (fun c_64 => ?_) (fun c_64 => ?_)
              · skip
                have hje : j = n.toNat := by omega
                have hX1 := hX0.w hR1 k1 hfr
                refine lv_aload_n C0.1 C0.2.1 dX10_heap_117 rfl (lv_at hl 0 rfl) ?_
                refine lv_iload C0.1 C0.2.1 dX10_heap_118 (lv_at hl 5 rfl) ?_
                refine lv_bipush (v := zI 8) C0.1 C0.2.1 dX10_heap_120 rfl ?_
                refine mm_callVi (As := [.int (zI (t)), .int (zI (8))]) C0 vw_X10_come tw_1039 (c_X10_comeS l G _ hX1 hpu hi_u (a := 8) rfl (by omega) v8) hM (hO) rfl rfl hl.1 rfl (Nat.le_of_ble_eq_true rfl) ⟨rfl, rfl, Nat.le_of_ble_eq_true rfl, Nat.le_of_ble_eq_true rfl, Nat.zero_le _, Nat.zero_le _⟩ dX10_heap_122 hS (fun z9 E7 H locs hp hM hS => ?_)
                obtain ⟨hz9, ⟨R9, hX9, kr9⟩, fr⟩ := hp
                have hO := ro.kept hO (fr _ (by omega))
                have hI := (fr _ (by omega)).trans hI
                exact mm_iret (z := z9) C0 hr hlk hM hS dX10_heap_125 (by have he : pf_heap S a w f n t = (lanZ (smI (S.2.2.2.1 i) f.toNat n.toNat), lanS S u (smI (S.2.2.2.1 i) f.toNat n.toNat)) := (by unfold pf_heap; rw [if_pos (by omega), ht_i, ht_u, if_neg (by omega), if_pos (bq_t (fun k hk => hps k (by omega)))]); rw [he]; exact ⟨by rw [← hje]; exact hz9, by rw [← hje]; exact hX9.rf, fun q h => (fr q (by omega)).trans (hfr q (by omega))⟩)
              · skip
                refine lv_aload_n C0.1 C0.2.1 dX10_heap_67 rfl (lv_at hl 0 rfl) ?_
                refine mm_get (fs := [.ref (h + 1), .ref (h + 2), .ref (h + 3), .ref (h + 4), .int (zI (((S.1.2.2 : Nat) : Int))), .int (zI (x2)), .long (zL (x3)), .ref (h + 5), .ref (h + 6), .ref (h + 7), .ref (h + 8), .int (zI (x4)), .int (zI (x5)), .int (zI (x6)), .int (zI (x7)), .int (zI (S.1.1)), .ref (h + 9), .ref (h + 10), .ref (h + 11), .ref (h + 12)]) C0 (C := RX10) (T := TX10) (N := 20) iG_X10 hM (hO) rfl 19 (by decide) tw_935 rfl rfl dX10_heap_68 ?_
                refine lv_bipush (v := zI 24) C0.1 C0.2.1 dX10_heap_71 rfl ?_
                refine lv_iload_n C0.1 C0.2.1 dX10_heap_73 rfl (lv_at hl 1 rfl) ?_
                refine z_imul C0.1 C0.2.1 dX10_heap_74 ?_
                refine lv_iload_n C0.1 C0.2.1 dX10_heap_75 rfl (lv_at hl 3 rfl) ?_
                refine z_iadd C0.1 C0.2.1 dX10_heap_76 ?_
                refine lv_iload C0.1 C0.2.1 dX10_heap_77 (lv_at hl 6 rfl) ?_
                refine z_iadd C0.1 C0.2.1 dX10_heap_79 ?_
                refine mm_lald C0 hM (g := fi) (hI) (24 * i + (f.toNat + j)) (i := ((((((24) * (a))) + (f))) + ((j : Int)))) (by omega) (by omega) (by decide) dX10_heap_80 ?_
                refine z_asL (b := (S.2.2.2.1 i (f.toNat + j))) (hrb2.2.2 _ (by omega)) ?_
                obtain ⟨hgr1, hgr2⟩ := hf_i (f.toNat + j) (by omega)
                have hb10 := hb9 j (by omega)
                have hb11 := fun q => nlL (N := (S.2.2.2.1 i (f.toNat + j)).toNat) q
                refine lv_lstore (lv' := [(8, .long (zL ((S.2.2.2.1 i (f.toNat + j))))), (0, .ref (h)), (1, .int (zI (a))), (2, .int (zI (w))), (3, .int (zI (f))), (4, .int (zI (n))), (5, .int (zI (t))), (7, .int (zI ((j : Int))))]) C0.1 C0.2.1 dX10_heap_81 hl (by decide) rfl (fun ls hl => ?_)
                refine lv_lload C0.1 C0.2.1 dX10_heap_83 (lv_at hl 0 rfl) ?_
                refine lv_lconst (v := zL 0) C0.1 C0.2.1 dX10_heap_85 rfl ?_
                refine z_lcmp_ge (tgt := 93) C0.1 C0.2.1 dX10_heap_86 dX10_heap_87 (by decide) ⟨by omega, by omega⟩ ⟨by omega, by omega⟩ (fun c_86 => ?_) (fun c_86 => ?_)
                · skip
                  refine lv_aload_n C0.1 C0.2.1 dX10_heap_93 rfl (lv_at hl 1 rfl) ?_
                  refine lv_bipush (v := zI 9) C0.1 C0.2.1 dX10_heap_94 rfl ?_
                  refine lv_lload C0.1 C0.2.1 dX10_heap_96 (lv_at hl 0 rfl) ?_
                  refine mm_callVv (As := [.int (zI (9)), .long (zL ((S.2.2.2.1 i (f.toNat + j))))]) C0 vw_X10_set tw_988 (c_X10_set l G _ hO hR1 (t := 9) rfl (by omega) (S.2.2.2.1 i (f.toNat + j)).toNat (by omega) (by omega)) hM (hO) rfl rfl hl.1 rfl (Nat.le_of_ble_eq_true rfl) ⟨rfl, rfl, Nat.le_of_ble_eq_true rfl, Nat.le_of_ble_eq_true rfl, Nat.zero_le _, Nat.zero_le _⟩ dX10_heap_98 hS (fun E8 H locs hp hM hS => ?_)
                  obtain ⟨⟨R2, hR2, v9, kr2⟩, fr⟩ := hp
                  have hO := ro.kept hO (fr _ (by omega))
                  have hI := (fr _ (by omega)).trans hI
                  have hfr := (fun q h => (fr q (by omega)).trans (hfr q h) : ∀ q : Nat, (q ≠ h + 1) → E8 q = E0 q)
                  refine lv_aload_n C0.1 C0.2.1 dX10_heap_101 rfl (lv_at hl 1 rfl) ?_
                  refine lv_bipush (v := zI 8) C0.1 C0.2.1 dX10_heap_102 rfl ?_
                  refine lv_bipush (v := zI 8) C0.1 C0.2.1 dX10_heap_104 rfl ?_
                  refine lv_bipush (v := zI 9) C0.1 C0.2.1 dX10_heap_106 rfl ?_
                  refine mm_callVv (As := [.int (zI (8)), .int (zI (8)), .int (zI (9))]) C0 vw_X10_add tw_1101 (c_X10_add l G _ hO hR2 (t := 8) rfl (by omega) (a := 8) rfl (by omega) ((kr2 8 (by omega)).trans v8) (b := 9) rfl (by omega) v9 (Nat.le_trans (nl_addn (n := 4) hb10 (by omega)) (by decide))) hM (hO) rfl rfl hl.1 rfl (Nat.le_of_ble_eq_true rfl) ⟨rfl, rfl, Nat.le_of_ble_eq_true rfl, Nat.le_of_ble_eq_true rfl, Nat.zero_le _, Nat.zero_le _⟩ dX10_heap_108 hS (fun E9 H locs hp hM hS => ?_)
                  obtain ⟨⟨R3, hR3, v8, kr3⟩, fr⟩ := hp
                  have hO := ro.kept hO (fr _ (by omega))
                  have hI := (fr _ (by omega)).trans hI
                  have hfr := (fun q h => (fr q (by omega)).trans (hfr q h) : ∀ q : Nat, (q ≠ h + 1) → E9 q = E0 q)
                  refine lv_iinc (v := zI (((j + 1 : Nat) : Int))) (lv' := [(7, .int (zI (((j + 1 : Nat) : Int)))), (8, .long (zL ((S.2.2.2.1 i (f.toNat + j))))), (0, .ref (h)), (1, .int (zI (a))), (2, .int (zI (w))), (3, .int (zI (f))), (4, .int (zI (n))), (5, .int (zI (t)))]) C0.1 C0.2.1 dX10_heap_111 hl (k := 7) rfl (z_inc (a := (j : Int)) (n := 1) (by omega)) (by decide) rfl (fun ls hl => ?_)
                  refine lv_goto (tgt := 60) C0.1 C0.2.1 dX10_heap_114 (by decide) ?_
                  exact ih60  (j + 1) R3 E9 _ _ _ (by omega) (fun k hk => if q : k = j then (by subst q; omega) else hps k (by omega)) (v8) (fun r q => (kr3 r (by omega)).trans ((kr2 r (by omega)).trans (k1 r q))) (hO) (hI) (hR3) (hfr) (by omega) hM hS (lv_sub hl [2, 3, 4, 5, 6, 7, 0] rfl)
                · skip
                  refine lv_bipush (v := zI (-2)) C0.1 C0.2.1 dX10_heap_90 rfl ?_
                  exact mm_iret (z := (-2)) C0 hr hlk hM hS dX10_heap_92 (by have he : pf_heap S a w f n t = (-2, S) := (by unfold pf_heap; rw [if_pos (by omega), ht_i, if_neg (by omega), if_neg (fun q => by have q9 := bq_y q j (by omega); omega)]); rw [he]; exact ⟨rfl, (hX0.w hR1 k1 hfr).rf, fun q h => hfr q (by omega)⟩)
          exact L60 (_ + 1) 0 R1 E5 _ _ _ (Nat.zero_le _) (fun k hk => absurd hk (Nat.not_lt_zero _)) (v8) (fun r q => kr1 r (by omega)) (hO) (hI) (hR1) (hfr) (Nat.lt_succ_self _) hM hS (lv_sub hl [2, 3, 4, 5, 6, 7, 0] rfl)
        · skip
          refine lv_iload C0.1 C0.2.1 dX10_heap_47 (lv_at hl 0 rfl) ?_
          exact mm_iret (z := (shF (S.2.2.2.2.1 i) (S.2.2.2.2.2 i) w f n)) C0 hr hlk hM hS dX10_heap_49 (by have he : pf_heap S a w f n t = ((shF (S.2.2.2.2.1 i) (S.2.2.2.2.2 i) w f n), S) := (by unfold pf_heap; rw [if_pos (by omega), ht_i, if_pos (by omega)]); rw [he]; exact ⟨rfl, hX0.rf, fun _ _ => rfl⟩)
      · skip
        refine lv_iconst (v := zI (-1)) C0.1 C0.2.1 dX10_heap_29 rfl ?_
        exact mm_iret (z := (-1)) C0 hr hlk hM hS dX10_heap_30 (by have he : pf_heap S a w f n t = ((-1), S) := (by unfold pf_heap; rw [if_neg (by omega)]); rw [he]; exact ⟨rfl, hX0.rf, fun _ _ => rfl⟩)

def rX10_film : Room := { frames := 2, cells := 0, slots := 0, locals := 49 }
theorem vw_X10_film : mm_Vw RX10 yX10_film cX10_film 8 (some .int) 4 := ⟨tw_1325, tw_1326, tw_10, tw_1327, by decide +kernel⟩
set_option maxHeartbeats 4000000 in
set_option maxRecDepth 100000 in
theorem c_X10_film (l : Launch) (G : mG) (E0 : mE) {h : Nat} {S : mST} (hF : rf G E0 h S) (hok : okR S) {pp a w f : Int} (hr_pp : rI pp) (hr_a : rI a) (hr_w : rI w) (hr_f : rI f) : mm_Ci l yX10_film (.code yX10_film cX10_film 8 (some .int) :: wsG) rX10_film G [.ref (h), .int (zI (pp)), .int (zI (a)), .int (zI (w)), .int (zI (f))] E0 (fun z E => z = (pf_film S pp a w f).1 ∧ rf G E h (pf_film S pp a w f).2 ∧ ∀ q : Nat, (q < h ∨ h + 13 ≤ q) → E q = E0 q) := by
  refine mm_of_i (by decide +kernel) (Nat.le_of_ble_eq_true rfl) ?_
  intro p e s m args below meth c ls C0 hr hlk hM hl hS
  have hl : lv_has ls 8 [(0, .ref (h)), (1, .int (zI (pp))), (2, .int (zI (a))), (3, .int (zI (w))), (4, .int (zI (f)))] := hl
  obtain ⟨hr_pp1, hr_pp2⟩ := hr_pp
  obtain ⟨hr_a1, hr_a2⟩ := hr_a
  obtain ⟨hr_w1, hr_w2⟩ := hr_w
  obtain ⟨hr_f1, hr_f2⟩ := hr_f
  obtain ⟨R, x2, x3, x4, x5, x6, x7, hX⟩ := hF
  have hX0 := hX
  obtain ⟨hTk, hPk, hKk, hSk⟩ := hok
  obtain ⟨hO, hR, hRp, ⟨fh, fc, hH, hC, hPa⟩, hTp, hCl, hKp, hSh, him⟩ := hX
  obtain ⟨fl, fz, fi, hL, hZ, hI, hSR⟩ := id hSh
  obtain ⟨hB9, g, hg, hR9⟩ := id hR
  refine lv_iload_n C0.1 C0.2.1 dX10_film_0 rfl (lv_at hl 1 rfl) ?_
  refine mm_callSi (As := [.int (zI (pp))]) C0 sw_X10_isPlace tw_981 (c_X10_isPlace l G _ (i := pp) ⟨by omega, by omega⟩) hM rfl hl.1 rfl (Nat.le_of_ble_eq_true rfl) ⟨rfl, rfl, Nat.le_of_ble_eq_true rfl, Nat.le_of_ble_eq_true rfl, Nat.zero_le _, Nat.zero_le _⟩ dX10_film_1 hS (fun z_1 E1 H locs hp hM hS => ?_)
  obtain ⟨hz_1, hEq⟩ := hp
  rw [hEq] at hM
  have hz_1b := if01 hz_1
  refine z_if_eq (tgt := 15) C0.1 C0.2.1 dX10_film_4 (by decide) ⟨by omega, by omega⟩ (fun c_4 => ?_) (fun c_4 => ?_)
  · skip
    refine lv_iconst (v := zI (-1)) C0.1 C0.2.1 dX10_film_15 rfl ?_
    exact mm_iret (z := (-1)) C0 hr hlk hM hS dX10_film_16 (by have he : pf_film S pp a w f = ((-1), S) := (by unfold pf_film; rw [if_neg (by omega)]); rw [he]; exact ⟨rfl, hX0.rf, fun _ _ => rfl⟩)
  · skip
    refine lv_iload_n C0.1 C0.2.1 dX10_film_7 rfl (lv_at hl 2 rfl) ?_
    refine lv_iload_n C0.1 C0.2.1 dX10_film_8 rfl (lv_at hl 3 rfl) ?_
    refine mm_callSi (As := [.int (zI (a)), .int (zI (w))]) C0 sw_X10_isSheet tw_1301 (c_X10_isSheet l G _ (i := a) (w := w) ⟨by omega, by omega⟩ ⟨by omega, by omega⟩) hM rfl hl.1 rfl (Nat.le_of_ble_eq_true rfl) ⟨rfl, rfl, Nat.le_of_ble_eq_true rfl, Nat.le_of_ble_eq_true rfl, Nat.zero_le _, Nat.zero_le _⟩ dX10_film_9 hS (fun z_9 E2 H locs hp hM hS => ?_)
    obtain ⟨hz_9, hEq⟩ := hp
    rw [hEq] at hM
    have hz_9b := if01 hz_9
    refine z_if_ne (tgt := 17) C0.1 C0.2.1 dX10_film_12 (by decide) ⟨by omega, by omega⟩ (fun c_12 => ?_) (fun c_12 => ?_)
    · skip
      obtain ⟨i, hpi⟩ : ∃ i : Nat, pp = (i : Int) := ⟨(pp).toNat, by omega⟩
      have hi_i : i < 8 := by omega
      have ht_i : (pp).toNat = i := by omega
      obtain ⟨ho_i1, ho_i2, ho_i3, ho_i4⟩ := hPk i hi_i
      obtain ⟨hh_i, hc_i⟩ := hPa i hi_i
      have hv_i := hRp i hi_i
      obtain ⟨j, hpj⟩ : ∃ j : Nat, a = (j : Int) := ⟨(a).toNat, by omega⟩
      have hi_j : j < 4 := by omega
      have ht_j : (a).toNat = j := by omega
      obtain ⟨⟨hl_j1, hl_j2⟩, ⟨he_j1, he_j2⟩, hf_j⟩ := hSk j hi_j
      obtain ⟨hra_j, hrb_j⟩ := hSR j hi_j
      have hfl : flN (S.2.1.2.2 i) = max 1 (nl (S.2.1.2.2 i)) := rfl
      have hfl2 : nl (S.2.1.2.2 i) ≤ 24 := ho_i4
      refine lv_aload_n C0.1 C0.2.1 dX10_film_17 rfl (lv_at hl 0 rfl) ?_
      refine lv_iload_n C0.1 C0.2.1 dX10_film_18 rfl (lv_at hl 1 rfl) ?_
      refine lv_iconst (v := zI 0) C0.1 C0.2.1 dX10_film_19 rfl ?_
      refine mm_callVi (As := [.int (zI (pp)), .int (zI (0))]) C0 vw_X10_lacks tw_1113 (c_X10_lacks l G _ hO hH hpi (by omega) (v := 0) (w := S.2.1.1 i) (by omega) hh_i ho_i1) hM (hO) rfl rfl hl.1 rfl (Nat.le_of_ble_eq_true rfl) ⟨rfl, rfl, Nat.le_of_ble_eq_true rfl, Nat.le_of_ble_eq_true rfl, Nat.zero_le _, Nat.zero_le _⟩ dX10_film_20 hS (fun z_20 E3 H locs hp hM hS => ?_)
      obtain ⟨hz_20, hEq⟩ := hp
      rw [hEq] at hM
      refine z_asI (b := (nFau (S.2.1.1 i))) (hz_20.trans (if_pos rfl)) ?_
      obtain ⟨hnb_i1, hnb_i2⟩ := nFau_b (S.2.1.1 i)
      refine lv_istore (lv' := [(5, .int (zI ((nFau (S.2.1.1 i))))), (0, .ref (h)), (1, .int (zI (pp))), (2, .int (zI (a))), (3, .int (zI (w))), (4, .int (zI (f)))]) C0.1 C0.2.1 dX10_film_23 hl (by decide) rfl (fun ls hl => ?_)
      refine lv_iload C0.1 C0.2.1 dX10_film_25 (lv_at hl 0 rfl) ?_
      refine z_if_ge (tgt := 33) C0.1 C0.2.1 dX10_film_27 (by decide) ⟨by omega, by omega⟩ (fun c_27 => ?_) (fun c_27 => ?_)
      · skip
        refine lv_aload_n C0.1 C0.2.1 dX10_film_33 rfl (lv_at hl 1 rfl) ?_
        refine lv_iload_n C0.1 C0.2.1 dX10_film_34 rfl (lv_at hl 2 rfl) ?_
        refine mm_callVi (As := [.int (zI (pp))]) C0 vw_X10_sizeOf tw_997 (c_X10_sizeOf l G _ hO hR hpi (by omega) hv_i) hM (hO) rfl rfl hl.1 rfl (Nat.le_of_ble_eq_true rfl) ⟨rfl, rfl, Nat.le_of_ble_eq_true rfl, Nat.le_of_ble_eq_true rfl, Nat.zero_le _, Nat.zero_le _⟩ dX10_film_35 hS (fun z_35 E4 H locs hp hM hS => ?_)
        obtain ⟨hz_35, hEq⟩ := hp
        rw [hEq] at hM
        refine z_asI (b := (nl (S.2.1.2.2 i) : Int)) (hz_35) ?_
        refine z_if_ne (tgt := 45) C0.1 C0.2.1 dX10_film_38 (by decide) ⟨by omega, by omega⟩ (fun c_38 => ?_) (fun c_38 => ?_)
        · skip
          refine lv_aload_n C0.1 C0.2.1 dX10_film_45 rfl (lv_at hl 1 rfl) ?_
          refine lv_iload_n C0.1 C0.2.1 dX10_film_46 rfl (lv_at hl 2 rfl) ?_
          refine mm_callVi (As := [.int (zI (pp))]) C0 vw_X10_sizeOf tw_997 (c_X10_sizeOf l G _ hO hR hpi (by omega) hv_i) hM (hO) rfl rfl hl.1 rfl (Nat.le_of_ble_eq_true rfl) ⟨rfl, rfl, Nat.le_of_ble_eq_true rfl, Nat.le_of_ble_eq_true rfl, Nat.zero_le _, Nat.zero_le _⟩ dX10_film_47 hS (fun z_47 E5 H locs hp hM hS => ?_)
          obtain ⟨hz_47, hEq⟩ := hp
          rw [hEq] at hM
          refine z_asI (b := (nl (S.2.1.2.2 i) : Int)) (hz_47) ?_
          refine z_asI (a := (nl (S.2.1.2.2 i) : Int)) (b := ((flN (S.2.1.2.2 i) : Nat) : Int)) (by omega) ?_
          refine lv_istore (lv' := [(6, .int (zI (((flN (S.2.1.2.2 i) : Nat) : Int)))), (5, .int (zI ((nFau (S.2.1.1 i))))), (0, .ref (h)), (1, .int (zI (pp))), (2, .int (zI (a))), (3, .int (zI (w))), (4, .int (zI (f)))]) C0.1 C0.2.1 dX10_film_50 hl (by decide) rfl (fun ls hl => ?_)
          refine lv_aload_n C0.1 C0.2.1 dX10_film_52 rfl (lv_at hl 2 rfl) ?_
          refine lv_iload_n C0.1 C0.2.1 dX10_film_53 rfl (lv_at hl 4 rfl) ?_
          refine lv_iload_n C0.1 C0.2.1 dX10_film_54 rfl (lv_at hl 5 rfl) ?_
          refine lv_iload C0.1 C0.2.1 dX10_film_55 (lv_at hl 6 rfl) ?_
          refine lv_iload C0.1 C0.2.1 dX10_film_57 (lv_at hl 0 rfl) ?_
          refine mm_callVi (As := [.int (zI (a)), .int (zI (w)), .int (zI (f)), .int (zI (((flN (S.2.1.2.2 i) : Nat) : Int)))]) C0 vw_X10_lacksRow tw_1312 (c_X10_lacksRow l G _ hO hL hZ hpj hi_j (ln := (S.2.2.2.2.1 j)) (len := (S.2.2.2.2.2 j)) hra_j (fun q => ⟨(hrb_j q).1, (hrb_j q).2.1⟩) ⟨by omega, by omega⟩ ⟨by omega, by omega⟩ ⟨by omega, by omega⟩ ⟨by omega, by omega⟩ ⟨by omega, by omega⟩) hM (hO) rfl rfl hl.1 rfl (Nat.le_of_ble_eq_true rfl) ⟨rfl, rfl, Nat.le_of_ble_eq_true rfl, Nat.le_of_ble_eq_true rfl, Nat.zero_le _, Nat.zero_le _⟩ dX10_film_59 hS (fun z_59 E6 H locs hp hM hS => ?_)
          obtain ⟨hz_59, hEq⟩ := hp
          rw [hEq] at hM
          refine z_asI (b := (shF (S.2.2.2.2.1 j) (S.2.2.2.2.2 j) w f ((flN (S.2.1.2.2 i) : Nat) : Int))) (hz_59) ?_
          have hfb := shF_b (ln := (S.2.2.2.2.1 j)) (len := (S.2.2.2.2.2 j)) (a := w) (i := f) (n := ((flN (S.2.1.2.2 i) : Nat) : Int))
          refine lv_istore (lv' := [(5, .int (zI ((shF (S.2.2.2.2.1 j) (S.2.2.2.2.2 j) w f ((flN (S.2.1.2.2 i) : Nat) : Int))))), (6, .int (zI (((flN (S.2.1.2.2 i) : Nat) : Int)))), (0, .ref (h)), (1, .int (zI (pp))), (2, .int (zI (a))), (3, .int (zI (w))), (4, .int (zI (f)))]) C0.1 C0.2.1 dX10_film_62 hl (by decide) rfl (fun ls hl => ?_)
          refine lv_iload C0.1 C0.2.1 dX10_film_64 (lv_at hl 0 rfl) ?_
          refine z_if_ge (tgt := 72) C0.1 C0.2.1 dX10_film_66 (by decide) ⟨by omega, by omega⟩ (fun c_66 => ?_) (fun c_66 => ?_)
          · skip
            have hf0 := shF_0 (ln := S.2.2.2.2.1 j) (len := S.2.2.2.2.2 j) (a := w) (i := f) (n := ((flN (S.2.1.2.2 i) : Nat) : Int)) (by omega)
            have hrb2 := hrb_j hf0.1
            refine lv_iconst (v := zI 0) C0.1 C0.2.1 dX10_film_72 rfl ?_
            refine lv_istore (lv' := [(7, .int (zI (0))), (5, .int (zI ((shF (S.2.2.2.2.1 j) (S.2.2.2.2.2 j) w f ((flN (S.2.1.2.2 i) : Nat) : Int))))), (6, .int (zI (((flN (S.2.1.2.2 i) : Nat) : Int)))), (0, .ref (h)), (1, .int (zI (pp))), (2, .int (zI (a))), (3, .int (zI (w))), (4, .int (zI (f)))]) C0.1 C0.2.1 dX10_film_73 hl (by decide) rfl (fun ls hl => ?_)
            have L75 : ∀ (k75 : Nat) (k : Nat) (fi2 : Nat → Int) (E7 : mE) (H : Heap) (locs : List Loc) (ls : Array Slot), (k ≤ flN (S.2.1.2.2 i)) → (∀ x, x < 24 → fi2 (24 * j + x) = flU (S.2.2.2.1 j) (S.2.2.2.2.1 j) f.toNat (S.2.1.2.2 i) k x) → (∀ x2, x2 < 4 → x2 ≠ j → ∀ x, x < 24 → fi2 (24 * x2 + x) = fi (24 * x2 + x)) → (ro G E7 h ((S.1.2.2 : Nat) : Int) x2 x3 x4 x5 x6 x7 S.1.1) → (E7 (h + 10) = some (mm_I G 4 fl)) → (E7 (h + 11) = some (mm_I G 4 fz)) → (E7 (h + 1) = some (mm_I G 1280 g)) → (E7 (h + 12) = some (mm_J G 96 fi2)) → (∀ q : Nat, (q ≠ h + 12) → E7 q = E0 q) → flN (S.2.1.2.2 i) - k < k75 → mm_M G E7 H → va_S (mm_A G) s.heap H locs → lv_has ls 8 [(0, .ref (h)), (1, .int (zI (pp))), (2, .int (zI (a))), (3, .int (zI (w))), (4, .int (zI (f))), (6, .int (zI (((flN (S.2.1.2.2 i) : Nat) : Int)))), (7, .int (zI ((k : Int))))] → W p l e rX10_film s m args below meth c H locs 0 0 (mm_Zi G below args s (fun z E => z = (pf_film S pp a w f).1 ∧ rf G E h (pf_film S pp a w f).2 ∧ ∀ q : Nat, (q < h ∨ h + 13 ≤ q) → E q = E0 q)) (F0 m 75 ls []) := by
              intro k75
              induction k75 with
              | zero => intro k fi2 E7 H locs ls hk9 hag hz8 hO hL hZ hg hI fq hk hM hS hl; exact absurd hk (Nat.not_lt_zero _)
              | succ k75 ih75 =>
                intro k fi2 E7 H locs ls hk9 hag hz8 hO hL hZ hg hI fq hk75 hM hS hl
                refine lv_iload C0.1 C0.2.1 dX10_film_75 (lv_at hl 6 rfl) ?_
                refine lv_iload C0.1 C0.2.1 dX10_film_77 (lv_at hl 5 rfl) ?_
                refine z_icmp_ge (tgt := 120) C0.1 C0.2.1 dX10_film_79 (by decide) ⟨by omega, by omega⟩ ⟨by omega, by omega⟩ (fun c_79 => ?_) (fun c_79 => ?_)
                · skip
                  have hke : k = flN (S.2.1.2.2 i) := by omega
                  refine lv_iload C0.1 C0.2.1 dX10_film_120 (lv_at hl 5 rfl) ?_
                  exact mm_iret (z := ((flN (S.2.1.2.2 i) : Nat) : Int)) C0 hr hlk hM hS dX10_film_122 (by have he : pf_film S pp a w f = (((flN (S.2.1.2.2 i) : Nat) : Int), shPut S j (flU (S.2.2.2.1 j) (S.2.2.2.2.1 j) f.toNat (S.2.1.2.2 i) (flN (S.2.1.2.2 i))) (S.2.2.2.2.1 j) (S.2.2.2.2.2 j)) := (by unfold pf_film; rw [if_pos (by omega), ht_i, ht_j, if_neg (by omega), if_neg (by omega)]); rw [he]; exact ⟨rfl, (hX0.sht ⟨_, _, _, hL, hZ, hI, shR_put hSR (fun x2 h1 h2 => ⟨rfl, rfl, hz8 x2 h1 h2⟩) (fun q => by omega) (fun _ => ⟨hrb2.1, hrb2.2.1, fun x hx => by rw [hke] at hag; exact hag x hx⟩)⟩ (fun q h => fq q (by omega))).rf, fun q h => fq q (by omega)⟩)
                · skip
                  refine lv_aload_n C0.1 C0.2.1 dX10_film_82 rfl (lv_at hl 0 rfl) ?_
                  refine mm_get (fs := [.ref (h + 1), .ref (h + 2), .ref (h + 3), .ref (h + 4), .int (zI (((S.1.2.2 : Nat) : Int))), .int (zI (x2)), .long (zL (x3)), .ref (h + 5), .ref (h + 6), .ref (h + 7), .ref (h + 8), .int (zI (x4)), .int (zI (x5)), .int (zI (x6)), .int (zI (x7)), .int (zI (S.1.1)), .ref (h + 9), .ref (h + 10), .ref (h + 11), .ref (h + 12)]) C0 (C := RX10) (T := TX10) (N := 20) iG_X10 hM (hO) rfl 19 (by decide) tw_935 rfl rfl dX10_film_83 ?_
                  refine lv_bipush (v := zI 24) C0.1 C0.2.1 dX10_film_86 rfl ?_
                  refine lv_iload_n C0.1 C0.2.1 dX10_film_88 rfl (lv_at hl 2 rfl) ?_
                  refine z_imul C0.1 C0.2.1 dX10_film_89 ?_
                  refine lv_iload C0.1 C0.2.1 dX10_film_90 (lv_at hl 4 rfl) ?_
                  refine z_iadd C0.1 C0.2.1 dX10_film_92 ?_
                  refine lv_iload C0.1 C0.2.1 dX10_film_93 (lv_at hl 6 rfl) ?_
                  refine z_iadd C0.1 C0.2.1 dX10_film_95 ?_
                  refine lv_iload_n C0.1 C0.2.1 dX10_film_96 rfl (lv_at hl 3 rfl) ?_
                  refine lv_aload_n C0.1 C0.2.1 dX10_film_97 rfl (lv_at hl 0 rfl) ?_
                  refine mm_get (fs := [.ref (h + 1), .ref (h + 2), .ref (h + 3), .ref (h + 4), .int (zI (((S.1.2.2 : Nat) : Int))), .int (zI (x2)), .long (zL (x3)), .ref (h + 5), .ref (h + 6), .ref (h + 7), .ref (h + 8), .int (zI (x4)), .int (zI (x5)), .int (zI (x6)), .int (zI (x7)), .int (zI (S.1.1)), .ref (h + 9), .ref (h + 10), .ref (h + 11), .ref (h + 12)]) C0 (C := RX10) (T := TX10) (N := 20) iG_X10 hM (hO) rfl 0 (by decide) tw_916 rfl rfl dX10_film_98 ?_
                  refine lv_bipush (v := zI 80) C0.1 C0.2.1 dX10_film_101 rfl ?_
                  refine lv_iload_n C0.1 C0.2.1 dX10_film_103 rfl (lv_at hl 1 rfl) ?_
                  refine z_imul C0.1 C0.2.1 dX10_film_104 ?_
                  refine lv_iload C0.1 C0.2.1 dX10_film_105 (lv_at hl 6 rfl) ?_
                  refine z_iadd C0.1 C0.2.1 dX10_film_107 ?_
                  refine mm_iald C0 hM (g := g) (hg) (80 * i + k) (i := ((((80) * (pp))) + ((k : Int)))) (by omega) (by omega) (by decide) dX10_film_108 ?_
                  refine z_asI (b := (dg (S.2.1.2.2 i) k : Int)) ((hR9 i (by omega) k (by omega)).trans (by rw [hv_i])) ?_
                  have hdk := dg_lt (S.2.1.2.2 i) k
                  refine z_i2l C0.1 C0.2.1 dX10_film_109 ⟨by omega, by omega⟩ ?_
                  refine mm_callSl (As := [.int (zI (w)), .long (zL ((dg (S.2.1.2.2 i) k : Int)))]) C0 sw_X10_asLane tw_1316 (c_X10_asLane l G _ (w := w) (v := (dg (S.2.1.2.2 i) k : Int)) (by omega) (by omega) ⟨by omega, by omega⟩) hM rfl hl.1 rfl (Nat.le_of_ble_eq_true rfl) ⟨rfl, rfl, Nat.le_of_ble_eq_true rfl, Nat.le_of_ble_eq_true rfl, Nat.zero_le _, Nat.zero_le _⟩ dX10_film_110 hS (fun z_110 E8 H locs hp hM hS => ?_)
                  obtain ⟨hz_110, hEq⟩ := hp
                  rw [hEq] at hM
                  refine z_asL (b := (asLn w (dg (S.2.1.2.2 i) k : Int))) (hz_110) ?_
                  refine mm_last C0 hM hS (g := fi2) (hI) (24 * j + (f.toNat + k)) (i := ((((((24) * (a))) + (f))) + ((k : Int)))) (x := (asLn w (dg (S.2.1.2.2 i) k : Int))) (by omega) (by omega) (by decide) dX10_film_113 (fun H locs hM hS hsz => ?_)
                  obtain ⟨E9, hE9⟩ : ∃ X : mE, X = mm_up E7 (h + 12) (mm_J G 96 (zup (fi2) (24 * j + (f.toNat + k)) ((asLn w (dg (S.2.1.2.2 i) k : Int))))) := ⟨_, rfl⟩
                  replace hM : mm_M G E9 H := by rw [hE9]; exact hM
                  have frs : ∀ q : Nat, q ≠ h + 12 → E9 q = E7 q := fun q h => by rw [hE9]; exact mm_up_n _ _ h
                  have hat : E9 (h + 12) = some (mm_J G 96 (zup (fi2) (24 * j + (f.toNat + k)) ((asLn w (dg (S.2.1.2.2 i) k : Int))))) := by rw [hE9]; exact mm_up_s _ _ _
                  have hI := hat
                  have hO := ro.kept hO (frs _ (by omega))
                  have hL := (frs _ (by omega)).trans hL
                  have hZ := (frs _ (by omega)).trans hZ
                  have hg := (frs _ (by omega)).trans hg
                  have fq := (fun q h => (frs q (by omega)).trans (fq q h) : ∀ q : Nat, (q ≠ h + 12) → E9 q = E0 q)
                  refine lv_iinc (v := zI (((k + 1 : Nat) : Int))) (lv' := [(7, .int (zI (((k + 1 : Nat) : Int)))), (0, .ref (h)), (1, .int (zI (pp))), (2, .int (zI (a))), (3, .int (zI (w))), (4, .int (zI (f))), (6, .int (zI (((flN (S.2.1.2.2 i) : Nat) : Int))))]) C0.1 C0.2.1 dX10_film_114 hl (k := 6) rfl (z_inc (a := (k : Int)) (n := 1) (by omega)) (by decide) rfl (fun ls hl => ?_)
                  refine lv_goto (tgt := 75) C0.1 C0.2.1 dX10_film_117 (by decide) ?_
                  exact ih75  (k + 1) (zup fi2 (24 * j + (f.toNat + k)) (asLn w (dg (S.2.1.2.2 i) k : Int))) E9 _ _ _ (by omega) (fun x hx => by rw [hf0.2.1]; show _ = zup _ _ _ x; by_cases q : x = f.toNat + k; (subst q; rw [zup_s, zup_s]); (rw [zup_n _ _ (by omega), zup_n _ _ q]; exact hag x hx)) (fun x2 h1 h2 x hx => by rw [zup_n _ _ (by omega)]; exact hz8 x2 h1 h2 x hx) (hO) (hL) (hZ) (hg) (hI) (fq) (by omega) hM hS (lv_sub hl [1, 2, 3, 4, 5, 6, 0] rfl)
            exact L75 (_ + 1) 0 fi E0 _ _ _ (Nat.zero_le _) (fun x hx => hrb2.2.2 x hx) (fun x2 _ _ x _ => rfl) (hO) (hL) (hZ) (hg) (hI) (fun _ _ => rfl) (Nat.lt_succ_self _) hM hS (lv_sub hl [3, 4, 5, 6, 7, 2, 0] rfl)
          · skip
            refine lv_iload C0.1 C0.2.1 dX10_film_69 (lv_at hl 0 rfl) ?_
            exact mm_iret (z := (shF (S.2.2.2.2.1 j) (S.2.2.2.2.2 j) w f ((flN (S.2.1.2.2 i) : Nat) : Int))) C0 hr hlk hM hS dX10_film_71 (by have he : pf_film S pp a w f = ((shF (S.2.2.2.2.1 j) (S.2.2.2.2.2 j) w f ((flN (S.2.1.2.2 i) : Nat) : Int)), S) := (by unfold pf_film; rw [if_pos (by omega), ht_i, ht_j, if_neg (by omega), if_pos (by omega)]); rw [he]; exact ⟨rfl, hX0.rf, fun _ _ => rfl⟩)
        · skip
          refine lv_iconst (v := zI 1) C0.1 C0.2.1 dX10_film_41 rfl ?_
          refine lv_goto (tgt := 50) C0.1 C0.2.1 dX10_film_42 (by decide) ?_
          refine z_asI (a := 1) (b := ((flN (S.2.1.2.2 i) : Nat) : Int)) (by omega) ?_
          refine lv_istore (lv' := [(6, .int (zI (((flN (S.2.1.2.2 i) : Nat) : Int)))), (5, .int (zI ((nFau (S.2.1.1 i))))), (0, .ref (h)), (1, .int (zI (pp))), (2, .int (zI (a))), (3, .int (zI (w))), (4, .int (zI (f)))]) C0.1 C0.2.1 dX10_film_50 hl (by decide) rfl (fun ls hl => ?_)
          refine lv_aload_n C0.1 C0.2.1 dX10_film_52 rfl (lv_at hl 2 rfl) ?_
          refine lv_iload_n C0.1 C0.2.1 dX10_film_53 rfl (lv_at hl 4 rfl) ?_
          refine lv_iload_n C0.1 C0.2.1 dX10_film_54 rfl (lv_at hl 5 rfl) ?_
          refine lv_iload C0.1 C0.2.1 dX10_film_55 (lv_at hl 6 rfl) ?_
          refine lv_iload C0.1 C0.2.1 dX10_film_57 (lv_at hl 0 rfl) ?_
          refine mm_callVi (As := [.int (zI (a)), .int (zI (w)), .int (zI (f)), .int (zI (((flN (S.2.1.2.2 i) : Nat) : Int)))]) C0 vw_X10_lacksRow tw_1312 (c_X10_lacksRow l G _ hO hL hZ hpj hi_j (ln := (S.2.2.2.2.1 j)) (len := (S.2.2.2.2.2 j)) hra_j (fun q => ⟨(hrb_j q).1, (hrb_j q).2.1⟩) ⟨by omega, by omega⟩ ⟨by omega, by omega⟩ ⟨by omega, by omega⟩ ⟨by omega, by omega⟩ ⟨by omega, by omega⟩) hM (hO) rfl rfl hl.1 rfl (Nat.le_of_ble_eq_true rfl) ⟨rfl, rfl, Nat.le_of_ble_eq_true rfl, Nat.le_of_ble_eq_true rfl, Nat.zero_le _, Nat.zero_le _⟩ dX10_film_59 hS (fun z_59 E10 H locs hp hM hS => ?_)
          obtain ⟨hz_59, hEq⟩ := hp
          rw [hEq] at hM
          refine z_asI (b := (shF (S.2.2.2.2.1 j) (S.2.2.2.2.2 j) w f ((flN (S.2.1.2.2 i) : Nat) : Int))) (hz_59) ?_
          have hfb := shF_b (ln := (S.2.2.2.2.1 j)) (len := (S.2.2.2.2.2 j)) (a := w) (i := f) (n := ((flN (S.2.1.2.2 i) : Nat) : Int))
          refine lv_istore (lv' := [(5, .int (zI ((shF (S.2.2.2.2.1 j) (S.2.2.2.2.2 j) w f ((flN (S.2.1.2.2 i) : Nat) : Int))))), (6, .int (zI (((flN (S.2.1.2.2 i) : Nat) : Int)))), (0, .ref (h)), (1, .int (zI (pp))), (2, .int (zI (a))), (3, .int (zI (w))), (4, .int (zI (f)))]) C0.1 C0.2.1 dX10_film_62 hl (by decide) rfl (fun ls hl => ?_)
          refine lv_iload C0.1 C0.2.1 dX10_film_64 (lv_at hl 0 rfl) ?_
          refine z_if_ge (tgt := 72) C0.1 C0.2.1 dX10_film_66 (by decide) ⟨by omega, by omega⟩ (fun c_66 => ?_) (fun c_66 => ?_)
          · skip
            have hf0 := shF_0 (ln := S.2.2.2.2.1 j) (len := S.2.2.2.2.2 j) (a := w) (i := f) (n := ((flN (S.2.1.2.2 i) : Nat) : Int)) (by omega)
            have hrb2 := hrb_j hf0.1
            refine lv_iconst (v := zI 0) C0.1 C0.2.1 dX10_film_72 rfl ?_
            refine lv_istore (lv' := [(7, .int (zI (0))), (5, .int (zI ((shF (S.2.2.2.2.1 j) (S.2.2.2.2.2 j) w f ((flN (S.2.1.2.2 i) : Nat) : Int))))), (6, .int (zI (((flN (S.2.1.2.2 i) : Nat) : Int)))), (0, .ref (h)), (1, .int (zI (pp))), (2, .int (zI (a))), (3, .int (zI (w))), (4, .int (zI (f)))]) C0.1 C0.2.1 dX10_film_73 hl (by decide) rfl (fun ls hl => ?_)
            have L75 : ∀ (k75 : Nat) (k : Nat) (fi2 : Nat → Int) (E11 : mE) (H : Heap) (locs : List Loc) (ls : Array Slot), (k ≤ flN (S.2.1.2.2 i)) → (∀ x, x < 24 → fi2 (24 * j + x) = flU (S.2.2.2.1 j) (S.2.2.2.2.1 j) f.toNat (S.2.1.2.2 i) k x) → (∀ x2, x2 < 4 → x2 ≠ j → ∀ x, x < 24 → fi2 (24 * x2 + x) = fi (24 * x2 + x)) → (ro G E11 h ((S.1.2.2 : Nat) : Int) x2 x3 x4 x5 x6 x7 S.1.1) → (E11 (h + 10) = some (mm_I G 4 fl)) → (E11 (h + 11) = some (mm_I G 4 fz)) → (E11 (h + 1) = some (mm_I G 1280 g)) → (E11 (h + 12) = some (mm_J G 96 fi2)) → (∀ q : Nat, (q ≠ h + 12) → E11 q = E0 q) → flN (S.2.1.2.2 i) - k < k75 → mm_M G E11 H → va_S (mm_A G) s.heap H locs → lv_has ls 8 [(0, .ref (h)), (1, .int (zI (pp))), (2, .int (zI (a))), (3, .int (zI (w))), (4, .int (zI (f))), (6, .int (zI (((flN (S.2.1.2.2 i) : Nat) : Int)))), (7, .int (zI ((k : Int))))] → W p l e rX10_film s m args below meth c H locs 0 0 (mm_Zi G below args s (fun z E => z = (pf_film S pp a w f).1 ∧ rf G E h (pf_film S pp a w f).2 ∧ ∀ q : Nat, (q < h ∨ h + 13 ≤ q) → E q = E0 q)) (F0 m 75 ls []) := by
              intro k75
              induction k75 with
              | zero => intro k fi2 E11 H locs ls hk9 hag hz8 hO hL hZ hg hI fq hk hM hS hl; exact absurd hk (Nat.not_lt_zero _)
              | succ k75 ih75 =>
                intro k fi2 E11 H locs ls hk9 hag hz8 hO hL hZ hg hI fq hk75 hM hS hl
                refine lv_iload C0.1 C0.2.1 dX10_film_75 (lv_at hl 6 rfl) ?_
                refine lv_iload C0.1 C0.2.1 dX10_film_77 (lv_at hl 5 rfl) ?_
                refine z_icmp_ge (tgt := 120) C0.1 C0.2.1 dX10_film_79 (by decide) ⟨by omega, by omega⟩ ⟨by omega, by omega⟩ (fun c_79 => ?_) (fun c_79 => ?_)
                · skip
                  have hke : k = flN (S.2.1.2.2 i) := by omega
                  refine lv_iload C0.1 C0.2.1 dX10_film_120 (lv_at hl 5 rfl) ?_
                  exact mm_iret (z := ((flN (S.2.1.2.2 i) : Nat) : Int)) C0 hr hlk hM hS dX10_film_122 (by have he : pf_film S pp a w f = (((flN (S.2.1.2.2 i) : Nat) : Int), shPut S j (flU (S.2.2.2.1 j) (S.2.2.2.2.1 j) f.toNat (S.2.1.2.2 i) (flN (S.2.1.2.2 i))) (S.2.2.2.2.1 j) (S.2.2.2.2.2 j)) := (by unfold pf_film; rw [if_pos (by omega), ht_i, ht_j, if_neg (by omega), if_neg (by omega)]); rw [he]; exact ⟨rfl, (hX0.sht ⟨_, _, _, hL, hZ, hI, shR_put hSR (fun x2 h1 h2 => ⟨rfl, rfl, hz8 x2 h1 h2⟩) (fun q => by omega) (fun _ => ⟨hrb2.1, hrb2.2.1, fun x hx => by rw [hke] at hag; exact hag x hx⟩)⟩ (fun q h => fq q (by omega))).rf, fun q h => fq q (by omega)⟩)
                · skip
                  refine lv_aload_n C0.1 C0.2.1 dX10_film_82 rfl (lv_at hl 0 rfl) ?_
                  refine mm_get (fs := [.ref (h + 1), .ref (h + 2), .ref (h + 3), .ref (h + 4), .int (zI (((S.1.2.2 : Nat) : Int))), .int (zI (x2)), .long (zL (x3)), .ref (h + 5), .ref (h + 6), .ref (h + 7), .ref (h + 8), .int (zI (x4)), .int (zI (x5)), .int (zI (x6)), .int (zI (x7)), .int (zI (S.1.1)), .ref (h + 9), .ref (h + 10), .ref (h + 11), .ref (h + 12)]) C0 (C := RX10) (T := TX10) (N := 20) iG_X10 hM (hO) rfl 19 (by decide) tw_935 rfl rfl dX10_film_83 ?_
                  refine lv_bipush (v := zI 24) C0.1 C0.2.1 dX10_film_86 rfl ?_
                  refine lv_iload_n C0.1 C0.2.1 dX10_film_88 rfl (lv_at hl 2 rfl) ?_
                  refine z_imul C0.1 C0.2.1 dX10_film_89 ?_
                  refine lv_iload C0.1 C0.2.1 dX10_film_90 (lv_at hl 4 rfl) ?_
                  refine z_iadd C0.1 C0.2.1 dX10_film_92 ?_
                  refine lv_iload C0.1 C0.2.1 dX10_film_93 (lv_at hl 6 rfl) ?_
                  refine z_iadd C0.1 C0.2.1 dX10_film_95 ?_
                  refine lv_iload_n C0.1 C0.2.1 dX10_film_96 rfl (lv_at hl 3 rfl) ?_
                  refine lv_aload_n C0.1 C0.2.1 dX10_film_97 rfl (lv_at hl 0 rfl) ?_
                  refine mm_get (fs := [.ref (h + 1), .ref (h + 2), .ref (h + 3), .ref (h + 4), .int (zI (((S.1.2.2 : Nat) : Int))), .int (zI (x2)), .long (zL (x3)), .ref (h + 5), .ref (h + 6), .ref (h + 7), .ref (h + 8), .int (zI (x4)), .int (zI (x5)), .int (zI (x6)), .int (zI (x7)), .int (zI (S.1.1)), .ref (h + 9), .ref (h + 10), .ref (h + 11), .ref (h + 12)]) C0 (C := RX10) (T := TX10) (N := 20) iG_X10 hM (hO) rfl 0 (by decide) tw_916 rfl rfl dX10_film_98 ?_
                  refine lv_bipush (v := zI 80) C0.1 C0.2.1 dX10_film_101 rfl ?_
                  refine lv_iload_n C0.1 C0.2.1 dX10_film_103 rfl (lv_at hl 1 rfl) ?_
                  refine z_imul C0.1 C0.2.1 dX10_film_104 ?_
                  refine lv_iload C0.1 C0.2.1 dX10_film_105 (lv_at hl 6 rfl) ?_
                  refine z_iadd C0.1 C0.2.1 dX10_film_107 ?_
                  refine mm_iald C0 hM (g := g) (hg) (80 * i + k) (i := ((((80) * (pp))) + ((k : Int)))) (by omega) (by omega) (by decide) dX10_film_108 ?_
                  refine z_asI (b := (dg (S.2.1.2.2 i) k : Int)) ((hR9 i (by omega) k (by omega)).trans (by rw [hv_i])) ?_
                  have hdk := dg_lt (S.2.1.2.2 i) k
                  refine z_i2l C0.1 C0.2.1 dX10_film_109 ⟨by omega, by omega⟩ ?_
                  refine mm_callSl (As := [.int (zI (w)), .long (zL ((dg (S.2.1.2.2 i) k : Int)))]) C0 sw_X10_asLane tw_1316 (c_X10_asLane l G _ (w := w) (v := (dg (S.2.1.2.2 i) k : Int)) (by omega) (by omega) ⟨by omega, by omega⟩) hM rfl hl.1 rfl (Nat.le_of_ble_eq_true rfl) ⟨rfl, rfl, Nat.le_of_ble_eq_true rfl, Nat.le_of_ble_eq_true rfl, Nat.zero_le _, Nat.zero_le _⟩ dX10_film_110 hS (fun z_110 E12 H locs hp hM hS => ?_)
                  obtain ⟨hz_110, hEq⟩ := hp
                  rw [hEq] at hM
                  refine z_asL (b := (asLn w (dg (S.2.1.2.2 i) k : Int))) (hz_110) ?_
                  refine mm_last C0 hM hS (g := fi2) (hI) (24 * j + (f.toNat + k)) (i := ((((((24) * (a))) + (f))) + ((k : Int)))) (x := (asLn w (dg (S.2.1.2.2 i) k : Int))) (by omega) (by omega) (by decide) dX10_film_113 (fun H locs hM hS hsz => ?_)
                  obtain ⟨E13, hE13⟩ : ∃ X : mE, X = mm_up E11 (h + 12) (mm_J G 96 (zup (fi2) (24 * j + (f.toNat + k)) ((asLn w (dg (S.2.1.2.2 i) k : Int))))) := ⟨_, rfl⟩
                  replace hM : mm_M G E13 H := by rw [hE13]; exact hM
                  have frs : ∀ q : Nat, q ≠ h + 12 → E13 q = E11 q := fun q h => by rw [hE13]; exact mm_up_n _ _ h
                  have hat : E13 (h + 12) = some (mm_J G 96 (zup (fi2) (24 * j + (f.toNat + k)) ((asLn w (dg (S.2.1.2.2 i) k : Int))))) := by rw [hE13]; exact mm_up_s _ _ _
                  have hI := hat
                  have hO := ro.kept hO (frs _ (by omega))
                  have hL := (frs _ (by omega)).trans hL
                  have hZ := (frs _ (by omega)).trans hZ
                  have hg := (frs _ (by omega)).trans hg
                  have fq := (fun q h => (frs q (by omega)).trans (fq q h) : ∀ q : Nat, (q ≠ h + 12) → E13 q = E0 q)
                  refine lv_iinc (v := zI (((k + 1 : Nat) : Int))) (lv' := [(7, .int (zI (((k + 1 : Nat) : Int)))), (0, .ref (h)), (1, .int (zI (pp))), (2, .int (zI (a))), (3, .int (zI (w))), (4, .int (zI (f))), (6, .int (zI (((flN (S.2.1.2.2 i) : Nat) : Int))))]) C0.1 C0.2.1 dX10_film_114 hl (k := 6) rfl (z_inc (a := (k : Int)) (n := 1) (by omega)) (by decide) rfl (fun ls hl => ?_)
                  refine lv_goto (tgt := 75) C0.1 C0.2.1 dX10_film_117 (by decide) ?_
                  exact ih75  (k + 1) (zup fi2 (24 * j + (f.toNat + k)) (asLn w (dg (S.2.1.2.2 i) k : Int))) E13 _ _ _ (by omega) (fun x hx => by rw [hf0.2.1]; show _ = zup _ _ _ x; by_cases q : x = f.toNat + k; (subst q; rw [zup_s, zup_s]); (rw [zup_n _ _ (by omega), zup_n _ _ q]; exact hag x hx)) (fun x2 h1 h2 x hx => by rw [zup_n _ _ (by omega)]; exact hz8 x2 h1 h2 x hx) (hO) (hL) (hZ) (hg) (hI) (fq) (by omega) hM hS (lv_sub hl [1, 2, 3, 4, 5, 6, 0] rfl)
            exact L75 (_ + 1) 0 fi E0 _ _ _ (Nat.zero_le _) (fun x hx => hrb2.2.2 x hx) (fun x2 _ _ x _ => rfl) (hO) (hL) (hZ) (hg) (hI) (fun _ _ => rfl) (Nat.lt_succ_self _) hM hS (lv_sub hl [3, 4, 5, 6, 7, 2, 0] rfl)
          · skip
            refine lv_iload C0.1 C0.2.1 dX10_film_69 (lv_at hl 0 rfl) ?_
            exact mm_iret (z := (shF (S.2.2.2.2.1 j) (S.2.2.2.2.2 j) w f ((flN (S.2.1.2.2 i) : Nat) : Int))) C0 hr hlk hM hS dX10_film_71 (by have he : pf_film S pp a w f = ((shF (S.2.2.2.2.1 j) (S.2.2.2.2.2 j) w f ((flN (S.2.1.2.2 i) : Nat) : Int)), S) := (by unfold pf_film; rw [if_pos (by omega), ht_i, ht_j, if_neg (by omega), if_pos (by omega)]); rw [he]; exact ⟨rfl, hX0.rf, fun _ _ => rfl⟩)
      · skip
        refine lv_iload C0.1 C0.2.1 dX10_film_30 (lv_at hl 0 rfl) ?_
        exact mm_iret (z := (nFau (S.2.1.1 i))) C0 hr hlk hM hS dX10_film_32 (by have he : pf_film S pp a w f = ((nFau (S.2.1.1 i)), S) := (by unfold pf_film; rw [if_pos (by omega), ht_i, if_pos (by omega)]); rw [he]; exact ⟨rfl, hX0.rf, fun _ _ => rfl⟩)
    · skip
      refine lv_iconst (v := zI (-1)) C0.1 C0.2.1 dX10_film_15 rfl ?_
      exact mm_iret (z := (-1)) C0 hr hlk hM hS dX10_film_16 (by have he : pf_film S pp a w f = ((-1), S) := (by unfold pf_film; rw [if_neg (by omega)]); rw [he]; exact ⟨rfl, hX0.rf, fun _ _ => rfl⟩)
