/-! what each call answers, and what then is -/
abbrev inP (p : Int) : Prop := 0 ≤ p ∧ p < 8
def cmb (w a b : Nat) : Nat := if w = 2 then a * b else if w = 3 then a / b else if w = 4 then a % b else if w = 0 then a + b else a - b
noncomputable def rtF (N : Nat) : Nat := (rt_ex (k := 2) (by omega) N).choose
theorem rtF_p (N : Nat) : rtP 2 N (rtF N) := (rt_ex (k := 2) (by omega) N).choose_spec
theorem rtF_u {N x : Nat} (h : rtP 2 N x) : rtF N = x := rt_uniq (by omega) (rtF_p N) h
def sTap (S : mST) (B : Nat → Int) (L : Nat) : mST := ((S.1.1, B, L), S.2)
theorem st.tap {G : mG} {E E1 : mE} {h : Nat} {S : mST} {B : Nat → Int} {L : Nat} (a : st G E h S) (h1 : tpS G E1 h B L) (h2 : okT B L) (fr : ∀ q, (q < h + 4 ∨ h + 4 + 2 ≤ q) → E1 q = E q) : st G E1 h (sTap S B L) := by
  obtain ⟨⟨a1, a2, -, ⟨a4, b4⟩, ⟨a5, b5⟩, ⟨a6, b6⟩⟩, a7⟩ := a
  exact ⟨⟨a1.kept (fr _ (by omega)), a2.kept (fr _ (by omega)) (fr _ (by omega)) (fr _ (by omega)), ⟨h1, h2⟩, ⟨a4.kept (fun q hq => fr _ (by obtain ⟨j, g2, g3, g4⟩ := hq; omega)), b4⟩, ⟨a5.kept (fun q hq => fr _ (by obtain ⟨j, g2, g3, g4⟩ := hq; omega)), b5⟩, ⟨a6.kept (fun q hq => fr _ (by omega)), b6⟩⟩, a7.kept (fun q hq => fr _ (by omega))⟩
noncomputable def pf_put (S : mST) (p v : Int) : Int × mST := if inP p ∧ 0 ≤ v then (lanZ v.toNat, lanS S p.toNat v.toNat) else (-1, S)
def okSh (kd k : Int) : Prop := (0 ≤ kd ∧ kd ≤ 4) ∧ ((3 ≤ kd ∧ 3 ≤ k ∧ k ≤ 99) ∨ (kd < 3 ∧ k = 0))
noncomputable def pf_shape (S : mST) (p kd k : Int) : Int × mST := if inP p ∧ bq (okSh kd k) = true then (1, sPut S p.toNat (2 + kd.toNat) k.toNat (S.2.1.2.2 p.toNat)) else (-1, S)
def pf_empty (S : mST) (p : Int) : Int × mST := if inP p then ((S.2.1.1 p.toNat : Int), sPut S p.toNat 0 (S.2.1.2.1 p.toNat) (S.2.1.2.2 p.toNat)) else (-1, S)
def pf_told (S : mST) (p : Int) : Int × mST := if inP p then ((S.2.1.1 p.toNat : Int), S) else (-1, S)
noncomputable def pf_type (S : mST) (w n : Int) : Int × mST := if (1 ≤ n ∧ n ≤ 8) ∧ bq (∀ i, i < n.toNat → okB (bt w i)) = true then (if 100 - (S.1.2.2 : Int) < n then (-3, S) else (((S.1.2.2 + n.toNat : Nat) : Int), sTap S (apB w S.1.2.1 S.1.2.2 n.toNat) (S.1.2.2 + n.toNat))) else (-1, S)
noncomputable def pf_number (S : mST) (p : Int) : Int × mST := if inP p then (if (rdT S.1.2.1 S.1.2.2 0 0 0).1 ≠ 0 then ((rdT S.1.2.1 S.1.2.2 0 0 0).1, sTap S S.1.2.1 0) else (lanZ (rdT S.1.2.1 S.1.2.2 0 0 0).2, lanS (sTap S S.1.2.1 0) p.toNat (rdT S.1.2.1 S.1.2.2 0 0 0).2)) else (-1, S)
def pf_figures (S : mST) (p : Int) : Int × mST := if inP p then (if nFau (S.2.1.1 p.toNat) ≠ 0 then (nFau (S.2.1.1 p.toNat), S) else ((fgs (S.2.1.2.2 p.toNat) : Int), S)) else (-1, S)
def pf_nine (S : mST) (p i : Int) : Int × mST := if inP p ∧ 0 ≤ i ∧ i < 24 then (if nFau (S.2.1.1 p.toNat) ≠ 0 then (nFau (S.2.1.1 p.toNat), S) else ((dg (S.2.1.2.2 p.toNat) i.toNat : Int), S)) else (-1, S)
noncomputable def pf_reckon (S : mST) (w a b t : Int) : Int × mST := if (0 ≤ w ∧ w ≤ 4) ∧ inP a ∧ inP b ∧ inP t then (if fau2 (nFau (S.2.1.1 a.toNat)) (nFau (S.2.1.1 b.toNat)) ≠ 0 then (fau2 (nFau (S.2.1.1 a.toNat)) (nFau (S.2.1.1 b.toNat)), S) else if w = 1 ∧ S.2.1.2.2 a.toNat < S.2.1.2.2 b.toNat then (-2, S) else if 3 ≤ w ∧ S.2.1.2.2 b.toNat = 0 then (-15, S) else (lanZ (cmb w.toNat (S.2.1.2.2 a.toNat) (S.2.1.2.2 b.toNat)), lanS S t.toNat (cmb w.toNat (S.2.1.2.2 a.toNat) (S.2.1.2.2 b.toNat)))) else (-1, S)
noncomputable def pf_root (S : mST) (a t : Int) : Int × mST := if inP a ∧ inP t then (if nFau (S.2.1.1 a.toNat) ≠ 0 then (nFau (S.2.1.1 a.toNat), S) else (if rtF (S.2.1.2.2 a.toNat) * rtF (S.2.1.2.2 a.toNat) = S.2.1.2.2 a.toNat then 1 else 0, lanS S t.toNat (rtF (S.2.1.2.2 a.toNat)))) else (-1, S)
def pf_order (S : mST) (a b : Int) : Int × mST := if inP a ∧ inP b then (if fau2 (nFau (S.2.1.1 a.toNat)) (nFau (S.2.1.1 b.toNat)) ≠ 0 then (fau2 (nFau (S.2.1.1 a.toNat)) (nFau (S.2.1.1 b.toNat)), S) else (if S.2.1.2.2 b.toNat < S.2.1.2.2 a.toNat then 1 else if S.2.1.2.2 a.toNat = S.2.1.2.2 b.toNat then 0 else 2, S)) else (-1, S)
noncomputable def pf_nth (S : mST) (s_ n t : Int) : Int × mST := if inP s_ ∧ inP n ∧ inP t then (if fau2 (sFau (S.2.1.1 s_.toNat)) (nFau (S.2.1.1 n.toNat)) ≠ 0 then (fau2 (sFau (S.2.1.1 s_.toNat)) (nFau (S.2.1.1 n.toNat)), S) else (lanZ (shp (S.2.1.1 s_.toNat - 2) (S.2.1.2.1 s_.toNat) (S.2.1.2.2 n.toNat)), lanS S t.toNat (shp (S.2.1.1 s_.toNat - 2) (S.2.1.2.1 s_.toNat) (S.2.1.2.2 n.toNat)))) else (-1, S)
theorem bq_y {P : Prop} (h : bq P = true) : P := Classical.byContradiction fun q => by rw [bq_f q] at h; exact absurd h (by decide)
def rX9_put : Room := { frames := 5, cells := 0, slots := 0, locals := 110 }
theorem vw_X9_put : mm_Vw RX9 yX9_put cX9_put 4 (some .int) 2 := ⟨tw_271, tw_272, tw_1, tw_273, by decide +kernel⟩
set_option maxHeartbeats 4000000 in
set_option maxRecDepth 100000 in
theorem c_X9_put (l : Launch) (G : mG) (E0 : mE) {h : Nat} {S : mST} (hS9 : st G E0 h S) {pp v : Int} (hr_pp : rI pp) (hr_v : rL v) : mm_Ci l yX9_put (.code yX9_put cX9_put 4 (some .int) :: wsG) rX9_put G [.ref (h), .int (zI (pp)), .long (zL (v))] E0 (fun z E => z = (pf_put S pp v).1 ∧ st G E h (pf_put S pp v).2 ∧ ∀ q : Nat, (q < h ∨ h + 106 ≤ q) → E q = E0 q) := by
  refine mm_of_i (by decide +kernel) (Nat.le_of_ble_eq_true rfl) ?_
  intro p e s m args below meth c ls C0 hr hlk hM hl hS
  have hl : lv_has ls 4 [(0, .ref (h)), (1, .int (zI (pp))), (2, .long (zL (v)))] := hl
  obtain ⟨hr_pp1, hr_pp2⟩ := hr_pp
  obtain ⟨hr_v1, hr_v2⟩ := hr_v
  have hSo := hS9
  obtain ⟨⟨hO1, ⟨f1, f2, f3, hr1, hr2, hr3, hf1, hf2, hf3⟩, ⟨hTp, hTk⟩, ⟨hPl, hPk⟩, ⟨hKl, hKk⟩, ⟨hSh, hSk⟩⟩, hSc⟩ := hS9
  refine lv_iload_n C0.1 C0.2.1 dX9_put_0 rfl (lv_at hl 1 rfl) ?_
  refine mm_callSi (As := [.int (zI (pp))]) C0 sw_X9_isPlace tw_274 (c_X9_isPlace l G _ (i := pp) ⟨by omega, by omega⟩) hM rfl hl.1 rfl (Nat.le_of_ble_eq_true rfl) ⟨rfl, rfl, Nat.le_of_ble_eq_true rfl, Nat.le_of_ble_eq_true rfl, Nat.zero_le _, Nat.zero_le _⟩ dX9_put_1 hS (fun z_1 E1 H locs hp hM hS => ?_)
  obtain ⟨hz_1, hEq⟩ := hp
  rw [hEq] at hM
  have hz_1b := if01 hz_1
  refine z_if_eq (tgt := 13) C0.1 C0.2.1 dX9_put_4 (by decide) ⟨by omega, by omega⟩ (fun c_4 => ?_) (fun c_4 => ?_)
  · skip
    refine lv_iconst (v := zI (-1)) C0.1 C0.2.1 dX9_put_13 rfl ?_
    exact mm_iret (z := (-1)) C0 hr hlk hM hS dX9_put_14 (by have he : pf_put S pp v = ((-1), S) := (by unfold pf_put; rw [if_neg (by omega)]); rw [he]; exact ⟨rfl, hSo, (fun _ _ => rfl)⟩)
  · skip
    refine lv_lload_n C0.1 C0.2.1 dX9_put_7 rfl (lv_at hl 2 rfl) ?_
    refine lv_lconst (v := zL 0) C0.1 C0.2.1 dX9_put_8 rfl ?_
    refine z_lcmp_ge (tgt := 15) C0.1 C0.2.1 dX9_put_9 dX9_put_10 (by decide) ⟨by omega, by omega⟩ ⟨by omega, by omega⟩ (fun c_9 => ?_) (fun c_9 => ?_)
    · skip
      refine lv_aload_n C0.1 C0.2.1 dX9_put_15 rfl (lv_at hl 0 rfl) ?_
      refine mm_get (fs := [.ref (h + 1), .ref (h + 2), .ref (h + 3), .ref (h + 4), .ref (h + 6), .ref (h + 17), .ref (h + 30), .ref (h + 31), .ref (h + 46), .ref (h + 48), .int (zI (S.1.1))]) C0 (C := RX9) (T := TX9) (N := 11) iG_X9 hM (hO1) rfl 8 (by decide) tw_244 rfl rfl dX9_put_16 ?_
      refine lv_lload_n C0.1 C0.2.1 dX9_put_19 rfl (lv_at hl 2 rfl) ?_
      refine mm_callVv (As := [.long (zL (v))]) C0 vw_X8_setLong tw_277 (c_X8_setLongV l G _ (N := v.toNat) hSc.2.2.2.2.1 (by omega) (by omega)) hM ((hSc.2.2.2.2.1.obj).choose_spec) rfl rfl hl.1 rfl (Nat.le_of_ble_eq_true rfl) ⟨rfl, rfl, Nat.le_of_ble_eq_true rfl, Nat.le_of_ble_eq_true rfl, Nat.zero_le _, Nat.zero_le _⟩ dX9_put_20 hS (fun E2 H locs hp hM hS => ?_)
      obtain ⟨hW, fr⟩ := hp
      have hO1 := hO.kept hO1 (fr _ (by omega))
      have hS1 : st G E2 h S := ⟨hSo.1.kept (fun q _ => fr q (by omega)), hSo.2.1.kept (fun q _ => fr q (by omega)), hSo.2.2.1.kept (fun q _ => fr q (by omega)), hSo.2.2.2.1.kept (fr _ (by omega)), hSo.2.2.2.2.1.kept (fun q _ => fr q (by omega)), hW.v, hSo.2.2.2.2.2.2.kept (fr _ (by omega)) (fr _ (by omega))⟩
      have hfr := fr
      refine lv_aload_n C0.1 C0.2.1 dX9_put_23 rfl (lv_at hl 0 rfl) ?_
      refine lv_iload_n C0.1 C0.2.1 dX9_put_24 rfl (lv_at hl 1 rfl) ?_
      refine lv_aload_n C0.1 C0.2.1 dX9_put_25 rfl (lv_at hl 0 rfl) ?_
      refine mm_get (fs := [.ref (h + 1), .ref (h + 2), .ref (h + 3), .ref (h + 4), .ref (h + 6), .ref (h + 17), .ref (h + 30), .ref (h + 31), .ref (h + 46), .ref (h + 48), .int (zI (S.1.1))]) C0 (C := RX9) (T := TX9) (N := 11) iG_X9 hM (hO1) rfl 8 (by decide) tw_244 rfl rfl dX9_put_26 ?_
      refine mm_callVi (As := [.int (zI (pp)), .ref (h + 46)]) C0 vw_X9_land tw_296 (c_X9_land l G _ hS1 pp.toNat (by omega) (by omega) hW (by omega)) hM (hO1) rfl rfl hl.1 rfl (Nat.le_of_ble_eq_true rfl) ⟨rfl, rfl, Nat.le_of_ble_eq_true rfl, Nat.le_of_ble_eq_true rfl, Nat.zero_le _, Nat.zero_le _⟩ dX9_put_29 hS (fun z9 E3 H locs hp hM hS => ?_)
      obtain ⟨hz9, hS2, -, fr⟩ := hp
      have hO1 := hO.kept hO1 (fr _ (by omega))
      exact mm_iret (z := z9) C0 hr hlk hM hS dX9_put_32 (by have he : pf_put S pp v = (lanZ v.toNat, lanS S pp.toNat v.toNat) := (by unfold pf_put; rw [if_pos (by omega)]); rw [he]; exact ⟨hz9, hS2, fun q h => (fr q (by omega)).trans (hfr q (by omega))⟩)
    · skip
      refine lv_iconst (v := zI (-1)) C0.1 C0.2.1 dX9_put_13 rfl ?_
      exact mm_iret (z := (-1)) C0 hr hlk hM hS dX9_put_14 (by have he : pf_put S pp v = ((-1), S) := (by unfold pf_put; rw [if_neg (by omega)]); rw [he]; exact ⟨rfl, hSo, (fun _ _ => rfl)⟩)

def rX9_shape : Room := { frames := 1, cells := 0, slots := 0, locals := 22 }
theorem vw_X9_shape : mm_Vw RX9 yX9_shape cX9_shape 4 (some .int) 3 := ⟨tw_318, tw_319, tw_1, tw_320, by decide +kernel⟩
set_option maxHeartbeats 4000000 in
set_option maxRecDepth 100000 in
theorem c_X9_shape (l : Launch) (G : mG) (E0 : mE) {h : Nat} {S : mST} (hS9 : st G E0 h S) {pp kd k : Int} (hr_pp : rI pp) (hr_kd : rI kd) (hr_k : rI k) : mm_Ci l yX9_shape (.code yX9_shape cX9_shape 4 (some .int) :: wsG) rX9_shape G [.ref (h), .int (zI (pp)), .int (zI (kd)), .int (zI (k))] E0 (fun z E => z = (pf_shape S pp kd k).1 ∧ st G E h (pf_shape S pp kd k).2 ∧ ∀ q : Nat, (q < h ∨ h + 106 ≤ q) → E q = E0 q) := by
  refine mm_of_i (by decide +kernel) (Nat.le_of_ble_eq_true rfl) ?_
  intro p e s m args below meth c ls C0 hr hlk hM hl hS
  have hl : lv_has ls 4 [(0, .ref (h)), (1, .int (zI (pp))), (2, .int (zI (kd))), (3, .int (zI (k)))] := hl
  obtain ⟨hr_pp1, hr_pp2⟩ := hr_pp
  obtain ⟨hr_kd1, hr_kd2⟩ := hr_kd
  obtain ⟨hr_k1, hr_k2⟩ := hr_k
  have hSo := hS9
  obtain ⟨⟨hO1, ⟨f1, f2, f3, hr1, hr2, hr3, hf1, hf2, hf3⟩, ⟨hTp, hTk⟩, ⟨hPl, hPk⟩, ⟨hKl, hKk⟩, ⟨hSh, hSk⟩⟩, hSc⟩ := hS9
  refine lv_iload_n C0.1 C0.2.1 dX9_shape_0 rfl (lv_at hl 1 rfl) ?_
  refine mm_callSi (As := [.int (zI (pp))]) C0 sw_X9_isPlace tw_274 (c_X9_isPlace l G _ (i := pp) ⟨by omega, by omega⟩) hM rfl hl.1 rfl (Nat.le_of_ble_eq_true rfl) ⟨rfl, rfl, Nat.le_of_ble_eq_true rfl, Nat.le_of_ble_eq_true rfl, Nat.zero_le _, Nat.zero_le _⟩ dX9_shape_1 hS (fun z_1 E1 H locs hp hM hS => ?_)
  obtain ⟨hz_1, hEq⟩ := hp
  rw [hEq] at hM
  have hz_1b := if01 hz_1
  refine z_if_eq (tgt := 16) C0.1 C0.2.1 dX9_shape_4 (by decide) ⟨by omega, by omega⟩ (fun c_4 => ?_) (fun c_4 => ?_)
  · skip
    refine lv_iconst (v := zI (-1)) C0.1 C0.2.1 dX9_shape_16 rfl ?_
    exact mm_iret (z := (-1)) C0 hr hlk hM hS dX9_shape_17 (by have he : pf_shape S pp kd k = ((-1), S) := (by unfold pf_shape; rw [if_neg (fun q => by have q9 := bq_y q.2; unfold okSh at q9; omega)]); rw [he]; exact ⟨rfl, hSo, (fun _ _ => rfl)⟩)
  · skip
    refine lv_iload_n C0.1 C0.2.1 dX9_shape_7 rfl (lv_at hl 2 rfl) ?_
    refine z_if_lt (tgt := 16) C0.1 C0.2.1 dX9_shape_8 (by decide) ⟨by omega, by omega⟩ (fun c_8 => ?_) (fun c_8 => ?_)
    · skip
      refine lv_iconst (v := zI (-1)) C0.1 C0.2.1 dX9_shape_16 rfl ?_
      exact mm_iret (z := (-1)) C0 hr hlk hM hS dX9_shape_17 (by have he : pf_shape S pp kd k = ((-1), S) := (by unfold pf_shape; rw [if_neg (fun q => by have q9 := bq_y q.2; unfold okSh at q9; omega)]); rw [he]; exact ⟨rfl, hSo, (fun _ _ => rfl)⟩)
    · skip
      refine lv_iload_n C0.1 C0.2.1 dX9_shape_11 rfl (lv_at hl 2 rfl) ?_
      refine lv_iconst (v := zI 4) C0.1 C0.2.1 dX9_shape_12 rfl ?_
      refine z_icmp_le (tgt := 18) C0.1 C0.2.1 dX9_shape_13 (by decide) ⟨by omega, by omega⟩ ⟨by omega, by omega⟩ (fun c_13 => ?_) (fun c_13 => ?_)
      · skip
        refine lv_iload_n C0.1 C0.2.1 dX9_shape_18 rfl (lv_at hl 2 rfl) ?_
        refine lv_iconst (v := zI 3) C0.1 C0.2.1 dX9_shape_19 rfl ?_
        refine z_icmp_lt (tgt := 37) C0.1 C0.2.1 dX9_shape_20 (by decide) ⟨by omega, by omega⟩ ⟨by omega, by omega⟩ (fun c_20 => ?_) (fun c_20 => ?_)
        · skip
          refine lv_iload_n C0.1 C0.2.1 dX9_shape_37 rfl (lv_at hl 3 rfl) ?_
          refine z_if_eq (tgt := 43) C0.1 C0.2.1 dX9_shape_38 (by decide) ⟨by omega, by omega⟩ (fun c_38 => ?_) (fun c_38 => ?_)
          · skip
            obtain ⟨i, hpi⟩ : ∃ i : Nat, pp = (i : Int) := ⟨(pp).toNat, by omega⟩
            have hi_i : i < 8 := by omega
            have ht_i : (pp).toNat = i := by omega
            obtain ⟨hp_i, hw_i⟩ := hPl i hi_i
            obtain ⟨ho_i1, ho_i2, ho_i3, ho_i4⟩ := hPk i hi_i
            refine lv_aload_n C0.1 C0.2.1 dX9_shape_43 rfl (lv_at hl 0 rfl) ?_
            refine mm_get (fs := [.ref (h + 1), .ref (h + 2), .ref (h + 3), .ref (h + 4), .ref (h + 6), .ref (h + 17), .ref (h + 30), .ref (h + 31), .ref (h + 46), .ref (h + 48), .int (zI (S.1.1))]) C0 (C := RX9) (T := TX9) (N := 11) iG_X9 hM (hO1) rfl 0 (by decide) tw_236 rfl rfl dX9_shape_44 ?_
            refine lv_iload_n C0.1 C0.2.1 dX9_shape_47 rfl (lv_at hl 1 rfl) ?_
            refine mm_aald C0 hM 2 (C := "OrangeHeaps$Place") (hr1) rfl (i) (i := pp) (by omega) (by omega) (by decide) (v := h + 50 + 6 * i) (hf1 _ (by omega)) dX9_shape_48 ?_
            refine lv_iload_n C0.1 C0.2.1 dX9_shape_49 rfl (lv_at hl 2 rfl) ?_
            refine lv_iload_n C0.1 C0.2.1 dX9_shape_50 rfl (lv_at hl 3 rfl) ?_
            refine mm_callVv (As := [.int (zI (kd)), .int (zI (k))]) C0 vw_X3_holdShape tw_321 (c_X3_holdShape l G _ hp_i) hM (hp_i) rfl rfl hl.1 rfl (Nat.le_of_ble_eq_true rfl) ⟨rfl, rfl, Nat.le_of_ble_eq_true rfl, Nat.le_of_ble_eq_true rfl, Nat.zero_le _, Nat.zero_le _⟩ dX9_shape_51 hS (fun E2 H locs hp hM hS => ?_)
            obtain ⟨hp9, fr⟩ := hp
            refine lv_iconst (v := zI 1) C0.1 C0.2.1 dX9_shape_54 rfl ?_
            exact mm_iret (z := 1) C0 hr hlk hM hS dX9_shape_55 (by have he : pf_shape S pp kd k = (1, sPut S i (2 + kd.toNat) k.toNat (S.2.1.2.2 i)) := (by unfold pf_shape; rw [if_pos ⟨by omega, bq_t (by unfold okSh; omega)⟩, ht_i]); rw [he]; exact ⟨rfl, hSo.put hi_i (by rw [show ((2 + kd.toNat : Nat) : Int) = 2 + kd by omega, show ((k.toNat : Nat) : Int) = k by omega]; exact hp9) (hw_i.kept (fr _ (by omega)) (fr _ (by omega))) ⟨by omega, by omega, by omega, ho_i4⟩ (fun q h => fr q (by omega)), fun q h => fr q (by omega)⟩)
          · skip
            refine lv_iconst (v := zI (-1)) C0.1 C0.2.1 dX9_shape_41 rfl ?_
            exact mm_iret (z := (-1)) C0 hr hlk hM hS dX9_shape_42 (by have he : pf_shape S pp kd k = ((-1), S) := (by unfold pf_shape; rw [if_neg (fun q => by have q9 := bq_y q.2; unfold okSh at q9; omega)]); rw [he]; exact ⟨rfl, hSo, (fun _ _ => rfl)⟩)
        · skip
          refine lv_iload_n C0.1 C0.2.1 dX9_shape_23 rfl (lv_at hl 3 rfl) ?_
          refine lv_iconst (v := zI 3) C0.1 C0.2.1 dX9_shape_24 rfl ?_
          refine z_icmp_lt (tgt := 41) C0.1 C0.2.1 dX9_shape_25 (by decide) ⟨by omega, by omega⟩ ⟨by omega, by omega⟩ (fun c_25 => ?_) (fun c_25 => ?_)
          · skip
            refine lv_iconst (v := zI (-1)) C0.1 C0.2.1 dX9_shape_41 rfl ?_
            exact mm_iret (z := (-1)) C0 hr hlk hM hS dX9_shape_42 (by have he : pf_shape S pp kd k = ((-1), S) := (by unfold pf_shape; rw [if_neg (fun q => by have q9 := bq_y q.2; unfold okSh at q9; omega)]); rw [he]; exact ⟨rfl, hSo, (fun _ _ => rfl)⟩)
          · skip
            refine lv_iload_n C0.1 C0.2.1 dX9_shape_28 rfl (lv_at hl 3 rfl) ?_
            refine lv_bipush (v := zI 99) C0.1 C0.2.1 dX9_shape_29 rfl ?_
            refine z_icmp_le (tgt := 43) C0.1 C0.2.1 dX9_shape_31 (by decide) ⟨by omega, by omega⟩ ⟨by omega, by omega⟩ (fun c_31 => ?_) (fun c_31 => ?_)
            · skip
              obtain ⟨i, hpi⟩ : ∃ i : Nat, pp = (i : Int) := ⟨(pp).toNat, by omega⟩
              have hi_i : i < 8 := by omega
              have ht_i : (pp).toNat = i := by omega
              obtain ⟨hp_i, hw_i⟩ := hPl i hi_i
              obtain ⟨ho_i1, ho_i2, ho_i3, ho_i4⟩ := hPk i hi_i
              refine lv_aload_n C0.1 C0.2.1 dX9_shape_43 rfl (lv_at hl 0 rfl) ?_
              refine mm_get (fs := [.ref (h + 1), .ref (h + 2), .ref (h + 3), .ref (h + 4), .ref (h + 6), .ref (h + 17), .ref (h + 30), .ref (h + 31), .ref (h + 46), .ref (h + 48), .int (zI (S.1.1))]) C0 (C := RX9) (T := TX9) (N := 11) iG_X9 hM (hO1) rfl 0 (by decide) tw_236 rfl rfl dX9_shape_44 ?_
              refine lv_iload_n C0.1 C0.2.1 dX9_shape_47 rfl (lv_at hl 1 rfl) ?_
              refine mm_aald C0 hM 2 (C := "OrangeHeaps$Place") (hr1) rfl (i) (i := pp) (by omega) (by omega) (by decide) (v := h + 50 + 6 * i) (hf1 _ (by omega)) dX9_shape_48 ?_
              refine lv_iload_n C0.1 C0.2.1 dX9_shape_49 rfl (lv_at hl 2 rfl) ?_
              refine lv_iload_n C0.1 C0.2.1 dX9_shape_50 rfl (lv_at hl 3 rfl) ?_
              refine mm_callVv (As := [.int (zI (kd)), .int (zI (k))]) C0 vw_X3_holdShape tw_321 (c_X3_holdShape l G _ hp_i) hM (hp_i) rfl rfl hl.1 rfl (Nat.le_of_ble_eq_true rfl) ⟨rfl, rfl, Nat.le_of_ble_eq_true rfl, Nat.le_of_ble_eq_true rfl, Nat.zero_le _, Nat.zero_le _⟩ dX9_shape_51 hS (fun E3 H locs hp hM hS => ?_)
              obtain ⟨hp9, fr⟩ := hp
              refine lv_iconst (v := zI 1) C0.1 C0.2.1 dX9_shape_54 rfl ?_
              exact mm_iret (z := 1) C0 hr hlk hM hS dX9_shape_55 (by have he : pf_shape S pp kd k = (1, sPut S i (2 + kd.toNat) k.toNat (S.2.1.2.2 i)) := (by unfold pf_shape; rw [if_pos ⟨by omega, bq_t (by unfold okSh; omega)⟩, ht_i]); rw [he]; exact ⟨rfl, hSo.put hi_i (by rw [show ((2 + kd.toNat : Nat) : Int) = 2 + kd by omega, show ((k.toNat : Nat) : Int) = k by omega]; exact hp9) (hw_i.kept (fr _ (by omega)) (fr _ (by omega))) ⟨by omega, by omega, by omega, ho_i4⟩ (fun q h => fr q (by omega)), fun q h => fr q (by omega)⟩)
            · skip
              refine lv_goto (tgt := 41) C0.1 C0.2.1 dX9_shape_34 (by decide) ?_
              refine lv_iconst (v := zI (-1)) C0.1 C0.2.1 dX9_shape_41 rfl ?_
              exact mm_iret (z := (-1)) C0 hr hlk hM hS dX9_shape_42 (by have he : pf_shape S pp kd k = ((-1), S) := (by unfold pf_shape; rw [if_neg (fun q => by have q9 := bq_y q.2; unfold okSh at q9; omega)]); rw [he]; exact ⟨rfl, hSo, (fun _ _ => rfl)⟩)
      · skip
        refine lv_iconst (v := zI (-1)) C0.1 C0.2.1 dX9_shape_16 rfl ?_
        exact mm_iret (z := (-1)) C0 hr hlk hM hS dX9_shape_17 (by have he : pf_shape S pp kd k = ((-1), S) := (by unfold pf_shape; rw [if_neg (fun q => by have q9 := bq_y q.2; unfold okSh at q9; omega)]); rw [he]; exact ⟨rfl, hSo, (fun _ _ => rfl)⟩)

def rX9_empty : Room := { frames := 1, cells := 0, slots := 0, locals := 20 }
theorem vw_X9_empty : mm_Vw RX9 yX9_empty cX9_empty 3 (some .int) 1 := ⟨tw_326, tw_327, tw_1, tw_328, by decide +kernel⟩
set_option maxHeartbeats 4000000 in
set_option maxRecDepth 100000 in
theorem c_X9_empty (l : Launch) (G : mG) (E0 : mE) {h : Nat} {S : mST} (hS9 : st G E0 h S) {pp : Int} (hr_pp : rI pp) : mm_Ci l yX9_empty (.code yX9_empty cX9_empty 3 (some .int) :: wsG) rX9_empty G [.ref (h), .int (zI (pp))] E0 (fun z E => z = (pf_empty S pp).1 ∧ st G E h (pf_empty S pp).2 ∧ ∀ q : Nat, (q < h ∨ h + 106 ≤ q) → E q = E0 q) := by
  refine mm_of_i (by decide +kernel) (Nat.le_of_ble_eq_true rfl) ?_
  intro p e s m args below meth c ls C0 hr hlk hM hl hS
  have hl : lv_has ls 3 [(0, .ref (h)), (1, .int (zI (pp)))] := hl
  obtain ⟨hr_pp1, hr_pp2⟩ := hr_pp
  have hSo := hS9
  obtain ⟨⟨hO1, ⟨f1, f2, f3, hr1, hr2, hr3, hf1, hf2, hf3⟩, ⟨hTp, hTk⟩, ⟨hPl, hPk⟩, ⟨hKl, hKk⟩, ⟨hSh, hSk⟩⟩, hSc⟩ := hS9
  refine lv_iload_n C0.1 C0.2.1 dX9_empty_0 rfl (lv_at hl 1 rfl) ?_
  refine mm_callSi (As := [.int (zI (pp))]) C0 sw_X9_isPlace tw_274 (c_X9_isPlace l G _ (i := pp) ⟨by omega, by omega⟩) hM rfl hl.1 rfl (Nat.le_of_ble_eq_true rfl) ⟨rfl, rfl, Nat.le_of_ble_eq_true rfl, Nat.le_of_ble_eq_true rfl, Nat.zero_le _, Nat.zero_le _⟩ dX9_empty_1 hS (fun z_1 E1 H locs hp hM hS => ?_)
  obtain ⟨hz_1, hEq⟩ := hp
  rw [hEq] at hM
  have hz_1b := if01 hz_1
  refine z_if_ne (tgt := 9) C0.1 C0.2.1 dX9_empty_4 (by decide) ⟨by omega, by omega⟩ (fun c_4 => ?_) (fun c_4 => ?_)
  · skip
    obtain ⟨i, hpi⟩ : ∃ i : Nat, pp = (i : Int) := ⟨(pp).toNat, by omega⟩
    have hi_i : i < 8 := by omega
    have ht_i : (pp).toNat = i := by omega
    obtain ⟨hp_i, hw_i⟩ := hPl i hi_i
    obtain ⟨ho_i1, ho_i2, ho_i3, ho_i4⟩ := hPk i hi_i
    refine lv_aload_n C0.1 C0.2.1 dX9_empty_9 rfl (lv_at hl 0 rfl) ?_
    refine mm_get (fs := [.ref (h + 1), .ref (h + 2), .ref (h + 3), .ref (h + 4), .ref (h + 6), .ref (h + 17), .ref (h + 30), .ref (h + 31), .ref (h + 46), .ref (h + 48), .int (zI (S.1.1))]) C0 (C := RX9) (T := TX9) (N := 11) iG_X9 hM (hO1) rfl 0 (by decide) tw_236 rfl rfl dX9_empty_10 ?_
    refine lv_iload_n C0.1 C0.2.1 dX9_empty_13 rfl (lv_at hl 1 rfl) ?_
    refine mm_aald C0 hM 2 (C := "OrangeHeaps$Place") (hr1) rfl (i) (i := pp) (by omega) (by omega) (by decide) (v := h + 50 + 6 * i) (hf1 _ (by omega)) dX9_empty_14 ?_
    refine mm_get (fs := [.int (zI (((S.2.1.1 i : Nat) : Int))), .int (zI (((S.2.1.2.1 i : Nat) : Int))), .ref (h + 50 + 6 * i + 1)]) C0 (C := RX3) (T := TX3) (N := 3) iG_X3 hM (hp_i) rfl 0 (by decide) tw_208 rfl rfl dX9_empty_15 ?_
    refine lv_istore_n (lv' := [(2, .int (zI (((S.2.1.1 i : Nat) : Int)))), (0, .ref (h)), (1, .int (zI (pp)))]) C0.1 C0.2.1 dX9_empty_18 rfl hl (by decide) rfl (fun ls hl => ?_)
    refine lv_aload_n C0.1 C0.2.1 dX9_empty_19 rfl (lv_at hl 1 rfl) ?_
    refine mm_get (fs := [.ref (h + 1), .ref (h + 2), .ref (h + 3), .ref (h + 4), .ref (h + 6), .ref (h + 17), .ref (h + 30), .ref (h + 31), .ref (h + 46), .ref (h + 48), .int (zI (S.1.1))]) C0 (C := RX9) (T := TX9) (N := 11) iG_X9 hM (hO1) rfl 0 (by decide) tw_236 rfl rfl dX9_empty_20 ?_
    refine lv_iload_n C0.1 C0.2.1 dX9_empty_23 rfl (lv_at hl 2 rfl) ?_
    refine mm_aald C0 hM 2 (C := "OrangeHeaps$Place") (hr1) rfl (i) (i := pp) (by omega) (by omega) (by decide) (v := h + 50 + 6 * i) (hf1 _ (by omega)) dX9_empty_24 ?_
    refine mm_callVv (As := []) C0 vw_X3_holdNothing tw_329 (c_X3_holdNothing l G _ hp_i) hM (hp_i) rfl rfl hl.1 rfl (Nat.le_of_ble_eq_true rfl) ⟨rfl, rfl, Nat.le_of_ble_eq_true rfl, Nat.le_of_ble_eq_true rfl, Nat.zero_le _, Nat.zero_le _⟩ dX9_empty_25 hS (fun E2 H locs hp hM hS => ?_)
    obtain ⟨hp9, fr⟩ := hp
    have hO1 := hO.kept hO1 (fr _ (by omega))
    have hr1 := (fr _ (by omega)).trans hr1
    refine lv_iload_n C0.1 C0.2.1 dX9_empty_28 rfl (lv_at hl 0 rfl) ?_
    exact mm_iret (z := ((S.2.1.1 i : Nat) : Int)) C0 hr hlk hM hS dX9_empty_29 (by have he : pf_empty S pp = ((S.2.1.1 i : Int), sPut S i 0 (S.2.1.2.1 i) (S.2.1.2.2 i)) := (by unfold pf_empty; rw [if_pos (by omega), ht_i]); rw [he]; exact ⟨rfl, hSo.put hi_i hp9 (hw_i.kept (fr _ (by omega)) (fr _ (by omega))) ⟨by omega, ho_i2, by omega, ho_i4⟩ (fun q h => fr q (by omega)), fun q h => fr q (by omega)⟩)
  · skip
    refine lv_iconst (v := zI (-1)) C0.1 C0.2.1 dX9_empty_7 rfl ?_
    exact mm_iret (z := (-1)) C0 hr hlk hM hS dX9_empty_8 (by have he : pf_empty S pp = ((-1), S) := (by unfold pf_empty; rw [if_neg (by omega)]); rw [he]; exact ⟨rfl, hSo, (fun _ _ => rfl)⟩)

def rX9_told : Room := { frames := 1, cells := 0, slots := 0, locals := 20 }
theorem vw_X9_told : mm_Vw RX9 yX9_told cX9_told 2 (some .int) 1 := ⟨tw_334, tw_335, tw_1, tw_336, by decide +kernel⟩
set_option maxHeartbeats 4000000 in
set_option maxRecDepth 100000 in
theorem c_X9_told (l : Launch) (G : mG) (E0 : mE) {h : Nat} {S : mST} (hS9 : st G E0 h S) {pp : Int} (hr_pp : rI pp) : mm_Ci l yX9_told (.code yX9_told cX9_told 2 (some .int) :: wsG) rX9_told G [.ref (h), .int (zI (pp))] E0 (fun z E => z = (pf_told S pp).1 ∧ st G E h (pf_told S pp).2 ∧ ∀ q : Nat, (q < h ∨ h + 106 ≤ q) → E q = E0 q) := by
  refine mm_of_i (by decide +kernel) (Nat.le_of_ble_eq_true rfl) ?_
  intro p e s m args below meth c ls C0 hr hlk hM hl hS
  have hl : lv_has ls 2 [(0, .ref (h)), (1, .int (zI (pp)))] := hl
  obtain ⟨hr_pp1, hr_pp2⟩ := hr_pp
  have hSo := hS9
  obtain ⟨⟨hO1, ⟨f1, f2, f3, hr1, hr2, hr3, hf1, hf2, hf3⟩, ⟨hTp, hTk⟩, ⟨hPl, hPk⟩, ⟨hKl, hKk⟩, ⟨hSh, hSk⟩⟩, hSc⟩ := hS9
  refine lv_iload_n C0.1 C0.2.1 dX9_told_0 rfl (lv_at hl 1 rfl) ?_
  refine mm_callSi (As := [.int (zI (pp))]) C0 sw_X9_isPlace tw_274 (c_X9_isPlace l G _ (i := pp) ⟨by omega, by omega⟩) hM rfl hl.1 rfl (Nat.le_of_ble_eq_true rfl) ⟨rfl, rfl, Nat.le_of_ble_eq_true rfl, Nat.le_of_ble_eq_true rfl, Nat.zero_le _, Nat.zero_le _⟩ dX9_told_1 hS (fun z_1 E1 H locs hp hM hS => ?_)
  obtain ⟨hz_1, hEq⟩ := hp
  rw [hEq] at hM
  have hz_1b := if01 hz_1
  refine z_if_eq (tgt := 19) C0.1 C0.2.1 dX9_told_4 (by decide) ⟨by omega, by omega⟩ (fun c_4 => ?_) (fun c_4 => ?_)
  · skip
    refine lv_iconst (v := zI (-1)) C0.1 C0.2.1 dX9_told_19 rfl ?_
    exact mm_iret (z := (-1)) C0 hr hlk hM hS dX9_told_20 (by have he : pf_told S pp = ((-1), S) := (by unfold pf_told; rw [if_neg (by omega)]); rw [he]; exact ⟨rfl, hSo, (fun _ _ => rfl)⟩)
  · skip
    obtain ⟨i, hpi⟩ : ∃ i : Nat, pp = (i : Int) := ⟨(pp).toNat, by omega⟩
    have hi_i : i < 8 := by omega
    have ht_i : (pp).toNat = i := by omega
    obtain ⟨hp_i, hw_i⟩ := hPl i hi_i
    obtain ⟨ho_i1, ho_i2, ho_i3, ho_i4⟩ := hPk i hi_i
    refine lv_aload_n C0.1 C0.2.1 dX9_told_7 rfl (lv_at hl 0 rfl) ?_
    refine mm_get (fs := [.ref (h + 1), .ref (h + 2), .ref (h + 3), .ref (h + 4), .ref (h + 6), .ref (h + 17), .ref (h + 30), .ref (h + 31), .ref (h + 46), .ref (h + 48), .int (zI (S.1.1))]) C0 (C := RX9) (T := TX9) (N := 11) iG_X9 hM (hO1) rfl 0 (by decide) tw_236 rfl rfl dX9_told_8 ?_
    refine lv_iload_n C0.1 C0.2.1 dX9_told_11 rfl (lv_at hl 1 rfl) ?_
    refine mm_aald C0 hM 2 (C := "OrangeHeaps$Place") (hr1) rfl (i) (i := pp) (by omega) (by omega) (by decide) (v := h + 50 + 6 * i) (hf1 _ (by omega)) dX9_told_12 ?_
    refine mm_get (fs := [.int (zI (((S.2.1.1 i : Nat) : Int))), .int (zI (((S.2.1.2.1 i : Nat) : Int))), .ref (h + 50 + 6 * i + 1)]) C0 (C := RX3) (T := TX3) (N := 3) iG_X3 hM (hp_i) rfl 0 (by decide) tw_208 rfl rfl dX9_told_13 ?_
    refine lv_goto (tgt := 20) C0.1 C0.2.1 dX9_told_16 (by decide) ?_
    exact mm_iret (z := ((S.2.1.1 i : Nat) : Int)) C0 hr hlk hM hS dX9_told_20 (by have he : pf_told S pp = ((S.2.1.1 i : Int), S) := (by unfold pf_told; rw [if_pos (by omega), ht_i]); rw [he]; exact ⟨rfl, hSo, (fun _ _ => rfl)⟩)

def rX9_figures : Room := { frames := 2, cells := 0, slots := 0, locals := 45 }
theorem vw_X9_figures : mm_Vw RX9 yX9_figures cX9_figures 3 (some .int) 1 := ⟨tw_382, tw_383, tw_1, tw_384, by decide +kernel⟩
set_option maxHeartbeats 4000000 in
set_option maxRecDepth 100000 in
theorem c_X9_figures (l : Launch) (G : mG) (E0 : mE) {h : Nat} {S : mST} (hS9 : st G E0 h S) {pp : Int} (hr_pp : rI pp) : mm_Ci l yX9_figures (.code yX9_figures cX9_figures 3 (some .int) :: wsG) rX9_figures G [.ref (h), .int (zI (pp))] E0 (fun z E => z = (pf_figures S pp).1 ∧ st G E h (pf_figures S pp).2 ∧ ∀ q : Nat, (q < h ∨ h + 106 ≤ q) → E q = E0 q) := by
  refine mm_of_i (by decide +kernel) (Nat.le_of_ble_eq_true rfl) ?_
  intro p e s m args below meth c ls C0 hr hlk hM hl hS
  have hl : lv_has ls 3 [(0, .ref (h)), (1, .int (zI (pp)))] := hl
  obtain ⟨hr_pp1, hr_pp2⟩ := hr_pp
  have hSo := hS9
  obtain ⟨⟨hO1, ⟨f1, f2, f3, hr1, hr2, hr3, hf1, hf2, hf3⟩, ⟨hTp, hTk⟩, ⟨hPl, hPk⟩, ⟨hKl, hKk⟩, ⟨hSh, hSk⟩⟩, hSc⟩ := hS9
  refine lv_iload_n C0.1 C0.2.1 dX9_figures_0 rfl (lv_at hl 1 rfl) ?_
  refine mm_callSi (As := [.int (zI (pp))]) C0 sw_X9_isPlace tw_274 (c_X9_isPlace l G _ (i := pp) ⟨by omega, by omega⟩) hM rfl hl.1 rfl (Nat.le_of_ble_eq_true rfl) ⟨rfl, rfl, Nat.le_of_ble_eq_true rfl, Nat.le_of_ble_eq_true rfl, Nat.zero_le _, Nat.zero_le _⟩ dX9_figures_1 hS (fun z_1 E1 H locs hp hM hS => ?_)
  obtain ⟨hz_1, hEq⟩ := hp
  rw [hEq] at hM
  have hz_1b := if01 hz_1
  refine z_if_ne (tgt := 9) C0.1 C0.2.1 dX9_figures_4 (by decide) ⟨by omega, by omega⟩ (fun c_4 => ?_) (fun c_4 => ?_)
  · skip
    obtain ⟨i, hpi⟩ : ∃ i : Nat, pp = (i : Int) := ⟨(pp).toNat, by omega⟩
    have hi_i : i < 8 := by omega
    have ht_i : (pp).toNat = i := by omega
    obtain ⟨hp_i, hw_i⟩ := hPl i hi_i
    obtain ⟨ho_i1, ho_i2, ho_i3, ho_i4⟩ := hPk i hi_i
    refine lv_aload_n C0.1 C0.2.1 dX9_figures_9 rfl (lv_at hl 0 rfl) ?_
    refine lv_iload_n C0.1 C0.2.1 dX9_figures_10 rfl (lv_at hl 1 rfl) ?_
    refine mm_callVi (As := [.int (zI (pp))]) C0 vw_X9_numberFault tw_385 (c_X9_numberFault l G _ hSo i hpi hi_i) hM (hO1) rfl rfl hl.1 rfl (Nat.le_of_ble_eq_true rfl) ⟨rfl, rfl, Nat.le_of_ble_eq_true rfl, Nat.le_of_ble_eq_true rfl, Nat.zero_le _, Nat.zero_le _⟩ dX9_figures_11 hS (fun z_11 E2 H locs hp hM hS => ?_)
    obtain ⟨hz_11, hEq⟩ := hp
    rw [hEq] at hM
    refine z_asI (b := (nFau (S.2.1.1 i))) (hz_11) ?_
    have hnb := nFau_b (S.2.1.1 i)
    refine lv_istore_n (lv' := [(2, .int (zI ((nFau (S.2.1.1 i))))), (0, .ref (h)), (1, .int (zI (pp)))]) C0.1 C0.2.1 dX9_figures_14 rfl hl (by decide) rfl (fun ls hl => ?_)
    refine lv_iload_n C0.1 C0.2.1 dX9_figures_15 rfl (lv_at hl 0 rfl) ?_
    refine z_if_eq (tgt := 23) C0.1 C0.2.1 dX9_figures_16 (by decide) ⟨by omega, by omega⟩ (fun c_16 => ?_) (fun c_16 => ?_)
    · skip
      refine lv_aload_n C0.1 C0.2.1 dX9_figures_23 rfl (lv_at hl 1 rfl) ?_
      refine mm_get (fs := [.ref (h + 1), .ref (h + 2), .ref (h + 3), .ref (h + 4), .ref (h + 6), .ref (h + 17), .ref (h + 30), .ref (h + 31), .ref (h + 46), .ref (h + 48), .int (zI (S.1.1))]) C0 (C := RX9) (T := TX9) (N := 11) iG_X9 hM (hO1) rfl 0 (by decide) tw_236 rfl rfl dX9_figures_24 ?_
      refine lv_iload_n C0.1 C0.2.1 dX9_figures_27 rfl (lv_at hl 2 rfl) ?_
      refine mm_aald C0 hM 2 (C := "OrangeHeaps$Place") (hr1) rfl (i) (i := pp) (by omega) (by omega) (by decide) (v := h + 50 + 6 * i) (hf1 _ (by omega)) dX9_figures_28 ?_
      refine mm_get (fs := [.int (zI (((S.2.1.1 i : Nat) : Int))), .int (zI (((S.2.1.2.1 i : Nat) : Int))), .ref (h + 50 + 6 * i + 1)]) C0 (C := RX3) (T := TX3) (N := 3) iG_X3 hM (hp_i) rfl 2 (by decide) tw_212 rfl rfl dX9_figures_29 ?_
      refine mm_callVi (As := []) C0 vw_X8_countFigures tw_312 (c_X8_countFigures l G _ hw_i) hM ((hw_i.v.obj).choose_spec) rfl rfl hl.1 rfl (Nat.le_of_ble_eq_true rfl) ⟨rfl, rfl, Nat.le_of_ble_eq_true rfl, Nat.le_of_ble_eq_true rfl, Nat.zero_le _, Nat.zero_le _⟩ dX9_figures_32 hS (fun z_32 E3 H locs hp hM hS => ?_)
      obtain ⟨hz_32, hEq⟩ := hp
      rw [hEq] at hM
      refine z_asI (b := (fgs (S.2.1.2.2 i) : Int)) (hz_32) ?_
      exact mm_iret (z := (fgs (S.2.1.2.2 i) : Int)) C0 hr hlk hM hS dX9_figures_35 (by have he : pf_figures S pp = ((fgs (S.2.1.2.2 i) : Int), S) := (by unfold pf_figures; rw [if_pos (by omega), ht_i, if_neg (fun q => q c_16)]); rw [he]; exact ⟨rfl, hSo, (fun _ _ => rfl)⟩)
    · skip
      refine lv_iload_n C0.1 C0.2.1 dX9_figures_19 rfl (lv_at hl 0 rfl) ?_
      refine lv_goto (tgt := 35) C0.1 C0.2.1 dX9_figures_20 (by decide) ?_
      exact mm_iret (z := (nFau (S.2.1.1 i))) C0 hr hlk hM hS dX9_figures_35 (by have he : pf_figures S pp = ((nFau (S.2.1.1 i)), S) := (by unfold pf_figures; rw [if_pos (by omega), ht_i, if_pos c_16]); rw [he]; exact ⟨rfl, hSo, (fun _ _ => rfl)⟩)
  · skip
    refine lv_iconst (v := zI (-1)) C0.1 C0.2.1 dX9_figures_7 rfl ?_
    exact mm_iret (z := (-1)) C0 hr hlk hM hS dX9_figures_8 (by have he : pf_figures S pp = ((-1), S) := (by unfold pf_figures; rw [if_neg (by omega)]); rw [he]; exact ⟨rfl, hSo, (fun _ _ => rfl)⟩)

def rX9_nine : Room := { frames := 1, cells := 0, slots := 0, locals := 22 }
theorem vw_X9_nine : mm_Vw RX9 yX9_nine cX9_nine 4 (some .int) 2 := ⟨tw_390, tw_391, tw_1, tw_392, by decide +kernel⟩
set_option maxHeartbeats 4000000 in
set_option maxRecDepth 100000 in
theorem c_X9_nine (l : Launch) (G : mG) (E0 : mE) {h : Nat} {S : mST} (hS9 : st G E0 h S) {pp i1 : Int} (hr_pp : rI pp) (hr_i1 : rI i1) : mm_Ci l yX9_nine (.code yX9_nine cX9_nine 4 (some .int) :: wsG) rX9_nine G [.ref (h), .int (zI (pp)), .int (zI (i1))] E0 (fun z E => z = (pf_nine S pp i1).1 ∧ st G E h (pf_nine S pp i1).2 ∧ ∀ q : Nat, (q < h ∨ h + 106 ≤ q) → E q = E0 q) := by
  refine mm_of_i (by decide +kernel) (Nat.le_of_ble_eq_true rfl) ?_
  intro p e s m args below meth c ls C0 hr hlk hM hl hS
  have hl : lv_has ls 4 [(0, .ref (h)), (1, .int (zI (pp))), (2, .int (zI (i1)))] := hl
  obtain ⟨hr_pp1, hr_pp2⟩ := hr_pp
  obtain ⟨hr_i11, hr_i12⟩ := hr_i1
  have hSo := hS9
  obtain ⟨⟨hO1, ⟨f1, f2, f3, hr1, hr2, hr3, hf1, hf2, hf3⟩, ⟨hTp, hTk⟩, ⟨hPl, hPk⟩, ⟨hKl, hKk⟩, ⟨hSh, hSk⟩⟩, hSc⟩ := hS9
  refine lv_iload_n C0.1 C0.2.1 dX9_nine_0 rfl (lv_at hl 1 rfl) ?_
  refine mm_callSi (As := [.int (zI (pp))]) C0 sw_X9_isPlace tw_274 (c_X9_isPlace l G _ (i := pp) ⟨by omega, by omega⟩) hM rfl hl.1 rfl (Nat.le_of_ble_eq_true rfl) ⟨rfl, rfl, Nat.le_of_ble_eq_true rfl, Nat.le_of_ble_eq_true rfl, Nat.zero_le _, Nat.zero_le _⟩ dX9_nine_1 hS (fun z_1 E1 H locs hp hM hS => ?_)
  obtain ⟨hz_1, hEq⟩ := hp
  rw [hEq] at hM
  have hz_1b := if01 hz_1
  refine z_if_eq (tgt := 17) C0.1 C0.2.1 dX9_nine_4 (by decide) ⟨by omega, by omega⟩ (fun c_4 => ?_) (fun c_4 => ?_)
  · skip
    refine lv_iconst (v := zI (-1)) C0.1 C0.2.1 dX9_nine_17 rfl ?_
    exact mm_iret (z := (-1)) C0 hr hlk hM hS dX9_nine_18 (by have he : pf_nine S pp i1 = ((-1), S) := (by unfold pf_nine; rw [if_neg (by omega)]); rw [he]; exact ⟨rfl, hSo, (fun _ _ => rfl)⟩)
  · skip
    refine lv_iload_n C0.1 C0.2.1 dX9_nine_7 rfl (lv_at hl 2 rfl) ?_
    refine z_if_lt (tgt := 17) C0.1 C0.2.1 dX9_nine_8 (by decide) ⟨by omega, by omega⟩ (fun c_8 => ?_) (fun c_8 => ?_)
    · skip
      refine lv_iconst (v := zI (-1)) C0.1 C0.2.1 dX9_nine_17 rfl ?_
      exact mm_iret (z := (-1)) C0 hr hlk hM hS dX9_nine_18 (by have he : pf_nine S pp i1 = ((-1), S) := (by unfold pf_nine; rw [if_neg (by omega)]); rw [he]; exact ⟨rfl, hSo, (fun _ _ => rfl)⟩)
    · skip
      refine lv_iload_n C0.1 C0.2.1 dX9_nine_11 rfl (lv_at hl 2 rfl) ?_
      refine lv_bipush (v := zI 24) C0.1 C0.2.1 dX9_nine_12 rfl ?_
      refine z_icmp_lt (tgt := 19) C0.1 C0.2.1 dX9_nine_14 (by decide) ⟨by omega, by omega⟩ ⟨by omega, by omega⟩ (fun c_14 => ?_) (fun c_14 => ?_)
      · skip
        obtain ⟨i, hpi⟩ : ∃ i : Nat, pp = (i : Int) := ⟨(pp).toNat, by omega⟩
        have hi_i : i < 8 := by omega
        have ht_i : (pp).toNat = i := by omega
        obtain ⟨hp_i, hw_i⟩ := hPl i hi_i
        obtain ⟨ho_i1, ho_i2, ho_i3, ho_i4⟩ := hPk i hi_i
        refine lv_aload_n C0.1 C0.2.1 dX9_nine_19 rfl (lv_at hl 0 rfl) ?_
        refine lv_iload_n C0.1 C0.2.1 dX9_nine_20 rfl (lv_at hl 1 rfl) ?_
        refine mm_callVi (As := [.int (zI (pp))]) C0 vw_X9_numberFault tw_385 (c_X9_numberFault l G _ hSo i hpi hi_i) hM (hO1) rfl rfl hl.1 rfl (Nat.le_of_ble_eq_true rfl) ⟨rfl, rfl, Nat.le_of_ble_eq_true rfl, Nat.le_of_ble_eq_true rfl, Nat.zero_le _, Nat.zero_le _⟩ dX9_nine_21 hS (fun z_21 E2 H locs hp hM hS => ?_)
        obtain ⟨hz_21, hEq⟩ := hp
        rw [hEq] at hM
        refine z_asI (b := (nFau (S.2.1.1 i))) (hz_21) ?_
        have hnb := nFau_b (S.2.1.1 i)
        refine lv_istore_n (lv' := [(3, .int (zI ((nFau (S.2.1.1 i))))), (0, .ref (h)), (1, .int (zI (pp))), (2, .int (zI (i1)))]) C0.1 C0.2.1 dX9_nine_24 rfl hl (by decide) rfl (fun ls hl => ?_)
        refine lv_iload_n C0.1 C0.2.1 dX9_nine_25 rfl (lv_at hl 0 rfl) ?_
        refine z_if_eq (tgt := 33) C0.1 C0.2.1 dX9_nine_26 (by decide) ⟨by omega, by omega⟩ (fun c_26 => ?_) (fun c_26 => ?_)
        · skip
          refine lv_aload_n C0.1 C0.2.1 dX9_nine_33 rfl (lv_at hl 1 rfl) ?_
          refine mm_get (fs := [.ref (h + 1), .ref (h + 2), .ref (h + 3), .ref (h + 4), .ref (h + 6), .ref (h + 17), .ref (h + 30), .ref (h + 31), .ref (h + 46), .ref (h + 48), .int (zI (S.1.1))]) C0 (C := RX9) (T := TX9) (N := 11) iG_X9 hM (hO1) rfl 0 (by decide) tw_236 rfl rfl dX9_nine_34 ?_
          refine lv_iload_n C0.1 C0.2.1 dX9_nine_37 rfl (lv_at hl 2 rfl) ?_
          refine mm_aald C0 hM 2 (C := "OrangeHeaps$Place") (hr1) rfl (i) (i := pp) (by omega) (by omega) (by decide) (v := h + 50 + 6 * i) (hf1 _ (by omega)) dX9_nine_38 ?_
          refine mm_get (fs := [.int (zI (((S.2.1.1 i : Nat) : Int))), .int (zI (((S.2.1.2.1 i : Nat) : Int))), .ref (h + 50 + 6 * i + 1)]) C0 (C := RX3) (T := TX3) (N := 3) iG_X3 hM (hp_i) rfl 2 (by decide) tw_212 rfl rfl dX9_nine_39 ?_
          refine lv_iload_n C0.1 C0.2.1 dX9_nine_42 rfl (lv_at hl 3 rfl) ?_
          refine mm_callVl (As := [.int (zI (i1))]) C0 vw_X8_limb tw_393 (c_X8_limbW l G _ hw_i i1.toNat (by omega) ⟨by omega, by omega⟩) hM ((hw_i.v.obj).choose_spec) rfl rfl hl.1 rfl (Nat.le_of_ble_eq_true rfl) ⟨rfl, rfl, Nat.le_of_ble_eq_true rfl, Nat.le_of_ble_eq_true rfl, Nat.zero_le _, Nat.zero_le _⟩ dX9_nine_43 hS (fun z_43 E3 H locs hp hM hS => ?_)
          obtain ⟨hz_43, hEq⟩ := hp
          rw [hEq] at hM
          refine z_asL (b := (dg (S.2.1.2.2 i) i1.toNat : Int)) (hz_43) ?_
          refine z_l2i C0.1 C0.2.1 dX9_nine_46 ?_
          exact mm_iret (z := (dg (S.2.1.2.2 i) i1.toNat : Int)) C0 hr hlk hM hS dX9_nine_47 (by have he : pf_nine S pp i1 = ((dg (S.2.1.2.2 i) i1.toNat : Int), S) := (by unfold pf_nine; rw [if_pos (by omega), ht_i, if_neg (fun q => q c_26)]); rw [he]; exact ⟨rfl, hSo, (fun _ _ => rfl)⟩)
        · skip
          refine lv_iload_n C0.1 C0.2.1 dX9_nine_29 rfl (lv_at hl 0 rfl) ?_
          refine lv_goto (tgt := 47) C0.1 C0.2.1 dX9_nine_30 (by decide) ?_
          exact mm_iret (z := (nFau (S.2.1.1 i))) C0 hr hlk hM hS dX9_nine_47 (by have he : pf_nine S pp i1 = ((nFau (S.2.1.1 i)), S) := (by unfold pf_nine; rw [if_pos (by omega), ht_i, if_pos c_26]); rw [he]; exact ⟨rfl, hSo, (fun _ _ => rfl)⟩)
      · skip
        refine lv_iconst (v := zI (-1)) C0.1 C0.2.1 dX9_nine_17 rfl ?_
        exact mm_iret (z := (-1)) C0 hr hlk hM hS dX9_nine_18 (by have he : pf_nine S pp i1 = ((-1), S) := (by unfold pf_nine; rw [if_neg (by omega)]); rw [he]; exact ⟨rfl, hSo, (fun _ _ => rfl)⟩)

def rX9_order : Room := { frames := 2, cells := 0, slots := 0, locals := 45 }
theorem vw_X9_order : mm_Vw RX9 yX9_order cX9_order 5 (some .int) 2 := ⟨tw_484, tw_485, tw_1, tw_486, by decide +kernel⟩
set_option maxHeartbeats 4000000 in
set_option maxRecDepth 100000 in
theorem c_X9_order (l : Launch) (G : mG) (E0 : mE) {h : Nat} {S : mST} (hS9 : st G E0 h S) {a b : Int} (hr_a : rI a) (hr_b : rI b) : mm_Ci l yX9_order (.code yX9_order cX9_order 5 (some .int) :: wsG) rX9_order G [.ref (h), .int (zI (a)), .int (zI (b))] E0 (fun z E => z = (pf_order S a b).1 ∧ st G E h (pf_order S a b).2 ∧ ∀ q : Nat, (q < h ∨ h + 106 ≤ q) → E q = E0 q) := by
  refine mm_of_i (by decide +kernel) (Nat.le_of_ble_eq_true rfl) ?_
  intro p e s m args below meth c ls C0 hr hlk hM hl hS
  have hl : lv_has ls 5 [(0, .ref (h)), (1, .int (zI (a))), (2, .int (zI (b)))] := hl
  obtain ⟨hr_a1, hr_a2⟩ := hr_a
  obtain ⟨hr_b1, hr_b2⟩ := hr_b
  have hSo := hS9
  obtain ⟨⟨hO1, ⟨f1, f2, f3, hr1, hr2, hr3, hf1, hf2, hf3⟩, ⟨hTp, hTk⟩, ⟨hPl, hPk⟩, ⟨hKl, hKk⟩, ⟨hSh, hSk⟩⟩, hSc⟩ := hS9
  refine lv_iload_n C0.1 C0.2.1 dX9_order_0 rfl (lv_at hl 1 rfl) ?_
  refine mm_callSi (As := [.int (zI (a))]) C0 sw_X9_isPlace tw_274 (c_X9_isPlace l G _ (i := a) ⟨by omega, by omega⟩) hM rfl hl.1 rfl (Nat.le_of_ble_eq_true rfl) ⟨rfl, rfl, Nat.le_of_ble_eq_true rfl, Nat.le_of_ble_eq_true rfl, Nat.zero_le _, Nat.zero_le _⟩ dX9_order_1 hS (fun z_1 E1 H locs hp hM hS => ?_)
  obtain ⟨hz_1, hEq⟩ := hp
  rw [hEq] at hM
  have hz_1b := if01 hz_1
  refine z_if_eq (tgt := 14) C0.1 C0.2.1 dX9_order_4 (by decide) ⟨by omega, by omega⟩ (fun c_4 => ?_) (fun c_4 => ?_)
  · skip
    refine lv_iconst (v := zI (-1)) C0.1 C0.2.1 dX9_order_14 rfl ?_
    exact mm_iret (z := (-1)) C0 hr hlk hM hS dX9_order_15 (by have he : pf_order S a b = ((-1), S) := (by unfold pf_order; rw [if_neg (by omega)]); rw [he]; exact ⟨rfl, hSo, (fun _ _ => rfl)⟩)
  · skip
    refine lv_iload_n C0.1 C0.2.1 dX9_order_7 rfl (lv_at hl 2 rfl) ?_
    refine mm_callSi (As := [.int (zI (b))]) C0 sw_X9_isPlace tw_274 (c_X9_isPlace l G _ (i := b) ⟨by omega, by omega⟩) hM rfl hl.1 rfl (Nat.le_of_ble_eq_true rfl) ⟨rfl, rfl, Nat.le_of_ble_eq_true rfl, Nat.le_of_ble_eq_true rfl, Nat.zero_le _, Nat.zero_le _⟩ dX9_order_8 hS (fun z_8 E2 H locs hp hM hS => ?_)
    obtain ⟨hz_8, hEq⟩ := hp
    rw [hEq] at hM
    have hz_8b := if01 hz_8
    refine z_if_ne (tgt := 16) C0.1 C0.2.1 dX9_order_11 (by decide) ⟨by omega, by omega⟩ (fun c_11 => ?_) (fun c_11 => ?_)
    · skip
      obtain ⟨i, hpi⟩ : ∃ i : Nat, a = (i : Int) := ⟨(a).toNat, by omega⟩
      have hi_i : i < 8 := by omega
      have ht_i : (a).toNat = i := by omega
      obtain ⟨hp_i, hw_i⟩ := hPl i hi_i
      obtain ⟨ho_i1, ho_i2, ho_i3, ho_i4⟩ := hPk i hi_i
      obtain ⟨j, hpj⟩ : ∃ j : Nat, b = (j : Int) := ⟨(b).toNat, by omega⟩
      have hi_j : j < 8 := by omega
      have ht_j : (b).toNat = j := by omega
      obtain ⟨hp_j, hw_j⟩ := hPl j hi_j
      obtain ⟨ho_j1, ho_j2, ho_j3, ho_j4⟩ := hPk j hi_j
      refine lv_aload_n C0.1 C0.2.1 dX9_order_16 rfl (lv_at hl 0 rfl) ?_
      refine lv_iload_n C0.1 C0.2.1 dX9_order_17 rfl (lv_at hl 1 rfl) ?_
      refine lv_iload_n C0.1 C0.2.1 dX9_order_18 rfl (lv_at hl 2 rfl) ?_
      refine mm_callVi (As := [.int (zI (a)), .int (zI (b))]) C0 vw_X9_numbersFault tw_398 (c_X9_numbersFault l G _ hSo i j hpi hpj hi_i hi_j) hM (hO1) rfl rfl hl.1 rfl (Nat.le_of_ble_eq_true rfl) ⟨rfl, rfl, Nat.le_of_ble_eq_true rfl, Nat.le_of_ble_eq_true rfl, Nat.zero_le _, Nat.zero_le _⟩ dX9_order_19 hS (fun z_19 E3 H locs hp hM hS => ?_)
      obtain ⟨hz_19, hEq⟩ := hp
      rw [hEq] at hM
      refine z_asI (b := (fau2 (nFau (S.2.1.1 i)) (nFau (S.2.1.1 j)))) (hz_19) ?_
      have hnb := nFau_b (S.2.1.1 i)
      have hnb2 := nFau_b (S.2.1.1 j)
      have hfb : -12 ≤ fau2 (nFau (S.2.1.1 i)) (nFau (S.2.1.1 j)) ∧ fau2 (nFau (S.2.1.1 i)) (nFau (S.2.1.1 j)) ≤ 0 := by unfold fau2; split <;> omega
      refine lv_istore_n (lv' := [(3, .int (zI ((fau2 (nFau (S.2.1.1 i)) (nFau (S.2.1.1 j)))))), (0, .ref (h)), (1, .int (zI (a))), (2, .int (zI (b)))]) C0.1 C0.2.1 dX9_order_22 rfl hl (by decide) rfl (fun ls hl => ?_)
      refine lv_iload_n C0.1 C0.2.1 dX9_order_23 rfl (lv_at hl 0 rfl) ?_
      refine z_if_eq (tgt := 29) C0.1 C0.2.1 dX9_order_24 (by decide) ⟨by omega, by omega⟩ (fun c_24 => ?_) (fun c_24 => ?_)
      · skip
        refine lv_aload_n C0.1 C0.2.1 dX9_order_29 rfl (lv_at hl 1 rfl) ?_
        refine mm_get (fs := [.ref (h + 1), .ref (h + 2), .ref (h + 3), .ref (h + 4), .ref (h + 6), .ref (h + 17), .ref (h + 30), .ref (h + 31), .ref (h + 46), .ref (h + 48), .int (zI (S.1.1))]) C0 (C := RX9) (T := TX9) (N := 11) iG_X9 hM (hO1) rfl 0 (by decide) tw_236 rfl rfl dX9_order_30 ?_
        refine lv_iload_n C0.1 C0.2.1 dX9_order_33 rfl (lv_at hl 2 rfl) ?_
        refine mm_aald C0 hM 2 (C := "OrangeHeaps$Place") (hr1) rfl (i) (i := a) (by omega) (by omega) (by decide) (v := h + 50 + 6 * i) (hf1 _ (by omega)) dX9_order_34 ?_
        refine mm_get (fs := [.int (zI (((S.2.1.1 i : Nat) : Int))), .int (zI (((S.2.1.2.1 i : Nat) : Int))), .ref (h + 50 + 6 * i + 1)]) C0 (C := RX3) (T := TX3) (N := 3) iG_X3 hM (hp_i) rfl 2 (by decide) tw_212 rfl rfl dX9_order_35 ?_
        refine lv_aload_n C0.1 C0.2.1 dX9_order_38 rfl (lv_at hl 1 rfl) ?_
        refine mm_get (fs := [.ref (h + 1), .ref (h + 2), .ref (h + 3), .ref (h + 4), .ref (h + 6), .ref (h + 17), .ref (h + 30), .ref (h + 31), .ref (h + 46), .ref (h + 48), .int (zI (S.1.1))]) C0 (C := RX9) (T := TX9) (N := 11) iG_X9 hM (hO1) rfl 0 (by decide) tw_236 rfl rfl dX9_order_39 ?_
        refine lv_iload_n C0.1 C0.2.1 dX9_order_42 rfl (lv_at hl 3 rfl) ?_
        refine mm_aald C0 hM 2 (C := "OrangeHeaps$Place") (hr1) rfl (j) (i := b) (by omega) (by omega) (by decide) (v := h + 50 + 6 * j) (hf1 _ (by omega)) dX9_order_43 ?_
        refine mm_get (fs := [.int (zI (((S.2.1.1 j : Nat) : Int))), .int (zI (((S.2.1.2.1 j : Nat) : Int))), .ref (h + 50 + 6 * j + 1)]) C0 (C := RX3) (T := TX3) (N := 3) iG_X3 hM (hp_j) rfl 2 (by decide) tw_212 rfl rfl dX9_order_44 ?_
        refine mm_callVi (As := [.ref (h + 50 + 6 * j + 1)]) C0 vw_X8_compareWith tw_402 (c_X8_compareWith l G _ hw_i hw_j) hM ((hw_i.v.obj).choose_spec) rfl rfl hl.1 rfl (Nat.le_of_ble_eq_true rfl) ⟨rfl, rfl, Nat.le_of_ble_eq_true rfl, Nat.le_of_ble_eq_true rfl, Nat.zero_le _, Nat.zero_le _⟩ dX9_order_47 hS (fun z_47 E4 H locs hp hM hS => ?_)
        obtain ⟨hz_47, hEq⟩ := hp
        rw [hEq] at hM
        refine z_asI (b := (cmpZ (S.2.1.2.2 i) (S.2.1.2.2 j))) (hz_47) ?_
        have hcm : (cmpZ (S.2.1.2.2 i) (S.2.1.2.2 j) = -1 ∧ S.2.1.2.2 i < S.2.1.2.2 j) ∨ (cmpZ (S.2.1.2.2 i) (S.2.1.2.2 j) = 0 ∧ S.2.1.2.2 i = S.2.1.2.2 j) ∨ (cmpZ (S.2.1.2.2 i) (S.2.1.2.2 j) = 1 ∧ S.2.1.2.2 j < S.2.1.2.2 i) := by unfold cmpZ; omega
        refine lv_istore (lv' := [(4, .int (zI ((cmpZ (S.2.1.2.2 i) (S.2.1.2.2 j))))), (3, .int (zI ((fau2 (nFau (S.2.1.1 i)) (nFau (S.2.1.1 j)))))), (0, .ref (h)), (1, .int (zI (a))), (2, .int (zI (b)))]) C0.1 C0.2.1 dX9_order_50 hl (by decide) rfl (fun ls hl => ?_)
        refine lv_iload C0.1 C0.2.1 dX9_order_52 (lv_at hl 0 rfl) ?_
        refine z_if_le (tgt := 61) C0.1 C0.2.1 dX9_order_54 (by decide) ⟨by omega, by omega⟩ (fun c_54 => ?_) (fun c_54 => ?_)
        · skip
          refine lv_iload C0.1 C0.2.1 dX9_order_61 (lv_at hl 0 rfl) ?_
          refine z_if_ne (tgt := 70) C0.1 C0.2.1 dX9_order_63 (by decide) ⟨by omega, by omega⟩ (fun c_63 => ?_) (fun c_63 => ?_)
          · skip
            refine lv_iconst (v := zI 2) C0.1 C0.2.1 dX9_order_70 rfl ?_
            exact mm_iret (z := 2) C0 hr hlk hM hS dX9_order_71 (by have he : pf_order S a b = (2, S) := (by unfold pf_order; rw [if_pos (by omega), ht_i, ht_j, if_neg (fun q => q c_24), if_neg (by omega), if_neg (by omega)]); rw [he]; exact ⟨rfl, hSo, (fun _ _ => rfl)⟩)
          · skip
            refine lv_iconst (v := zI 0) C0.1 C0.2.1 dX9_order_66 rfl ?_
            refine lv_goto (tgt := 71) C0.1 C0.2.1 dX9_order_67 (by decide) ?_
            exact mm_iret (z := 0) C0 hr hlk hM hS dX9_order_71 (by have he : pf_order S a b = (0, S) := (by unfold pf_order; rw [if_pos (by omega), ht_i, ht_j, if_neg (fun q => q c_24), if_neg (by omega), if_pos (by omega)]); rw [he]; exact ⟨rfl, hSo, (fun _ _ => rfl)⟩)
        · skip
          refine lv_iconst (v := zI 1) C0.1 C0.2.1 dX9_order_57 rfl ?_
          refine lv_goto (tgt := 71) C0.1 C0.2.1 dX9_order_58 (by decide) ?_
          exact mm_iret (z := 1) C0 hr hlk hM hS dX9_order_71 (by have he : pf_order S a b = (1, S) := (by unfold pf_order; rw [if_pos (by omega), ht_i, ht_j, if_neg (fun q => q c_24), if_pos (by omega)]); rw [he]; exact ⟨rfl, hSo, (fun _ _ => rfl)⟩)
      · skip
        refine lv_iload_n C0.1 C0.2.1 dX9_order_27 rfl (lv_at hl 0 rfl) ?_
        exact mm_iret (z := (fau2 (nFau (S.2.1.1 i)) (nFau (S.2.1.1 j)))) C0 hr hlk hM hS dX9_order_28 (by have he : pf_order S a b = ((fau2 (nFau (S.2.1.1 i)) (nFau (S.2.1.1 j))), S) := (by unfold pf_order; rw [if_pos (by omega), ht_i, ht_j, if_pos c_24]); rw [he]; exact ⟨rfl, hSo, (fun _ _ => rfl)⟩)
    · skip
      refine lv_iconst (v := zI (-1)) C0.1 C0.2.1 dX9_order_14 rfl ?_
      exact mm_iret (z := (-1)) C0 hr hlk hM hS dX9_order_15 (by have he : pf_order S a b = ((-1), S) := (by unfold pf_order; rw [if_neg (by omega)]); rw [he]; exact ⟨rfl, hSo, (fun _ _ => rfl)⟩)
