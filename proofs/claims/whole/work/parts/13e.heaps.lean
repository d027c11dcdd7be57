theorem which_y {S : mST} {a b t : Int} {x : Nat} (h1 : inP a ∧ inP b ∧ inP t) (h2 : fau2 (sFau (S.2.1.1 a.toNat)) (nFau (S.2.1.1 b.toNat)) = 0) (hkd : S.2.1.1 a.toNat - 2 ≤ 4) (hk3 : 3 ≤ S.2.1.1 a.toNat - 2 → 3 ≤ S.2.1.2.1 a.toNat) (hx : shp (S.2.1.1 a.toNat - 2) (S.2.1.2.1 a.toNat) x = S.2.1.2.2 b.toNat) : pf_which S a b t = (1, lanS S t.toNat x) := by
  unfold pf_which
  rw [if_pos h1, if_neg (fun q => q h2)]
  have he : ∃ y, shp (S.2.1.1 a.toNat - 2) (S.2.1.2.1 a.toNat) y = S.2.1.2.2 b.toNat := ⟨x, hx⟩
  rw [dif_pos he]
  have : he.choose = x := shp_inj hkd hk3 (he.choose_spec.trans hx.symm)
  rw [this]
theorem which_n {S : mST} {a b t : Int} (h1 : inP a ∧ inP b ∧ inP t) (h2 : fau2 (sFau (S.2.1.1 a.toNat)) (nFau (S.2.1.1 b.toNat)) = 0) (hx : ∀ x, shp (S.2.1.1 a.toNat - 2) (S.2.1.2.1 a.toNat) x ≠ S.2.1.2.2 b.toNat) : pf_which S a b t = (0, S) := by
  unfold pf_which
  rw [if_pos h1, if_neg (fun q => q h2), dif_neg (fun ⟨x, h⟩ => hx x h)]
def rX9_reckon : Room := { frames := 6, cells := 0, slots := 0, locals := 152 }
theorem vw_X9_reckon : mm_Vw RX9 yX9_reckon cX9_reckon 8 (some .int) 4 := ⟨tw_395, tw_396, tw_1, tw_397, by decide +kernel⟩
set_option maxHeartbeats 4000000 in
set_option maxRecDepth 100000 in
theorem c_X9_reckon (l : Launch) (G : mG) (E0 : mE) {h : Nat} {S : mST} (hS9 : st G E0 h S) {w a b t : Int} (hr_w : rI w) (hr_a : rI a) (hr_b : rI b) (hr_t : rI t) : mm_Ci l yX9_reckon (.code yX9_reckon cX9_reckon 8 (some .int) :: wsG) rX9_reckon G [.ref (h), .int (zI (w)), .int (zI (a)), .int (zI (b)), .int (zI (t))] E0 (fun z E => z = (pf_reckon S w a b t).1 ∧ st G E h (pf_reckon S w a b t).2 ∧ ∀ q : Nat, (q < h ∨ h + 106 ≤ q) → E q = E0 q) := by
  refine mm_of_i (by decide +kernel) (Nat.le_of_ble_eq_true rfl) ?_
  intro p e s m args below meth c ls C0 hr hlk hM hl hS
  have hl : lv_has ls 8 [(0, .ref (h)), (1, .int (zI (w))), (2, .int (zI (a))), (3, .int (zI (b))), (4, .int (zI (t)))] := hl
  obtain ⟨hr_w1, hr_w2⟩ := hr_w
  obtain ⟨hr_a1, hr_a2⟩ := hr_a
  obtain ⟨hr_b1, hr_b2⟩ := hr_b
  obtain ⟨hr_t1, hr_t2⟩ := hr_t
  have hSo := hS9
  obtain ⟨⟨hO1, ⟨f1, f2, f3, hr1, hr2, hr3, hf1, hf2, hf3⟩, ⟨hTp, hTk⟩, ⟨hPl, hPk⟩, ⟨hKl, hKk⟩, ⟨hSh, hSk⟩⟩, hSc⟩ := hS9
  refine lv_iload_n C0.1 C0.2.1 dX9_reckon_0 rfl (lv_at hl 1 rfl) ?_
  refine z_if_lt (tgt := 31) C0.1 C0.2.1 dX9_reckon_1 (by decide) ⟨by omega, by omega⟩ (fun c_1 => ?_) (fun c_1 => ?_)
  · skip
    refine lv_iconst (v := zI (-1)) C0.1 C0.2.1 dX9_reckon_31 rfl ?_
    exact mm_iret (z := (-1)) C0 hr hlk hM hS dX9_reckon_32 (by have he : pf_reckon S w a b t = ((-1), S) := (by unfold pf_reckon; rw [if_neg (by omega)]); rw [he]; exact ⟨rfl, hSo, (fun _ _ => rfl)⟩)
  · skip
    refine lv_iload_n C0.1 C0.2.1 dX9_reckon_4 rfl (lv_at hl 1 rfl) ?_
    refine lv_iconst (v := zI 4) C0.1 C0.2.1 dX9_reckon_5 rfl ?_
    refine z_icmp_gt (tgt := 31) C0.1 C0.2.1 dX9_reckon_6 (by decide) ⟨by omega, by omega⟩ ⟨by omega, by omega⟩ (fun c_6 => ?_) (fun c_6 => ?_)
    · skip
      refine lv_iconst (v := zI (-1)) C0.1 C0.2.1 dX9_reckon_31 rfl ?_
      exact mm_iret (z := (-1)) C0 hr hlk hM hS dX9_reckon_32 (by have he : pf_reckon S w a b t = ((-1), S) := (by unfold pf_reckon; rw [if_neg (by omega)]); rw [he]; exact ⟨rfl, hSo, (fun _ _ => rfl)⟩)
    · skip
      refine lv_iload_n C0.1 C0.2.1 dX9_reckon_9 rfl (lv_at hl 2 rfl) ?_
      refine mm_callSi (As := [.int (zI (a))]) C0 sw_X9_isPlace tw_274 (c_X9_isPlace l G _ (i := a) ⟨by omega, by omega⟩) hM rfl hl.1 rfl (Nat.le_of_ble_eq_true rfl) ⟨rfl, rfl, Nat.le_of_ble_eq_true rfl, Nat.le_of_ble_eq_true rfl, Nat.zero_le _, Nat.zero_le _⟩ dX9_reckon_10 hS (fun z_10 E1 H locs hp hM hS => ?_)
      obtain ⟨hz_10, hEq⟩ := hp
      rw [hEq] at hM
      have hz_10b := if01 hz_10
      refine z_if_eq (tgt := 31) C0.1 C0.2.1 dX9_reckon_13 (by decide) ⟨by omega, by omega⟩ (fun c_13 => ?_) (fun c_13 => ?_)
      · skip
        refine lv_iconst (v := zI (-1)) C0.1 C0.2.1 dX9_reckon_31 rfl ?_
        exact mm_iret (z := (-1)) C0 hr hlk hM hS dX9_reckon_32 (by have he : pf_reckon S w a b t = ((-1), S) := (by unfold pf_reckon; rw [if_neg (by omega)]); rw [he]; exact ⟨rfl, hSo, (fun _ _ => rfl)⟩)
      · skip
        refine lv_iload_n C0.1 C0.2.1 dX9_reckon_16 rfl (lv_at hl 3 rfl) ?_
        refine mm_callSi (As := [.int (zI (b))]) C0 sw_X9_isPlace tw_274 (c_X9_isPlace l G _ (i := b) ⟨by omega, by omega⟩) hM rfl hl.1 rfl (Nat.le_of_ble_eq_true rfl) ⟨rfl, rfl, Nat.le_of_ble_eq_true rfl, Nat.le_of_ble_eq_true rfl, Nat.zero_le _, Nat.zero_le _⟩ dX9_reckon_17 hS (fun z_17 E2 H locs hp hM hS => ?_)
        obtain ⟨hz_17, hEq⟩ := hp
        rw [hEq] at hM
        have hz_17b := if01 hz_17
        refine z_if_eq (tgt := 31) C0.1 C0.2.1 dX9_reckon_20 (by decide) ⟨by omega, by omega⟩ (fun c_20 => ?_) (fun c_20 => ?_)
        · skip
          refine lv_iconst (v := zI (-1)) C0.1 C0.2.1 dX9_reckon_31 rfl ?_
          exact mm_iret (z := (-1)) C0 hr hlk hM hS dX9_reckon_32 (by have he : pf_reckon S w a b t = ((-1), S) := (by unfold pf_reckon; rw [if_neg (by omega)]); rw [he]; exact ⟨rfl, hSo, (fun _ _ => rfl)⟩)
        · skip
          refine lv_iload C0.1 C0.2.1 dX9_reckon_23 (lv_at hl 4 rfl) ?_
          refine mm_callSi (As := [.int (zI (t))]) C0 sw_X9_isPlace tw_274 (c_X9_isPlace l G _ (i := t) ⟨by omega, by omega⟩) hM rfl hl.1 rfl (Nat.le_of_ble_eq_true rfl) ⟨rfl, rfl, Nat.le_of_ble_eq_true rfl, Nat.le_of_ble_eq_true rfl, Nat.zero_le _, Nat.zero_le _⟩ dX9_reckon_25 hS (fun z_25 E3 H locs hp hM hS => ?_)
          obtain ⟨hz_25, hEq⟩ := hp
          rw [hEq] at hM
          have hz_25b := if01 hz_25
          refine z_if_ne (tgt := 33) C0.1 C0.2.1 dX9_reckon_28 (by decide) ⟨by omega, by omega⟩ (fun c_28 => ?_) (fun c_28 => ?_)
          · skip
            obtain ⟨i, hpi⟩ : ∃ i : Nat, a = (i : Int) := ⟨(a).toNat, by omega⟩
            have hi_i : i < 8 := by omega
            have ht_i : (a).toNat = i := by omega
            obtain ⟨hp_i, hw_i⟩ := hPl i hi_i
            obtain ⟨ho_i1, ho_i2, ho_i3, ho_i4⟩ := hPk i hi_i
            obtain ⟨j, hpj⟩ : ∃ j : Nat, b = (j : Int) := ⟨(b).toNat, by omega⟩
            have hi_j : j < 8 := by omega
            have ht_j : (b).toNat = j := by omega
            obtain ⟨hp_j, hw_j⟩ := hPl j hi_j
            obtain ⟨ho_j1, ho_j2, ho_j3, ho_j4⟩ := hPk j hi_j
            obtain ⟨u, hpu⟩ : ∃ u : Nat, t = (u : Int) := ⟨(t).toNat, by omega⟩
            have hi_u : u < 8 := by omega
            have ht_u : (t).toNat = u := by omega
            refine lv_aload_n C0.1 C0.2.1 dX9_reckon_33 rfl (lv_at hl 0 rfl) ?_
            refine lv_iload_n C0.1 C0.2.1 dX9_reckon_34 rfl (lv_at hl 2 rfl) ?_
            refine lv_iload_n C0.1 C0.2.1 dX9_reckon_35 rfl (lv_at hl 3 rfl) ?_
            refine mm_callVi (As := [.int (zI (a)), .int (zI (b))]) C0 vw_X9_numbersFault tw_398 (c_X9_numbersFault l G _ hSo i j hpi hpj hi_i hi_j) hM (hO1) rfl rfl hl.1 rfl (Nat.le_of_ble_eq_true rfl) ⟨rfl, rfl, Nat.le_of_ble_eq_true rfl, Nat.le_of_ble_eq_true rfl, Nat.zero_le _, Nat.zero_le _⟩ dX9_reckon_36 hS (fun z_36 E4 H locs hp hM hS => ?_)
            obtain ⟨hz_36, hEq⟩ := hp
            rw [hEq] at hM
            refine z_asI (b := (fau2 (nFau (S.2.1.1 i)) (nFau (S.2.1.1 j)))) (hz_36) ?_
            obtain ⟨hfb1, hfb2⟩ := fau2_b (nFau_b (S.2.1.1 i)) (nFau_b (S.2.1.1 j))
            refine lv_istore (lv' := [(5, .int (zI ((fau2 (nFau (S.2.1.1 i)) (nFau (S.2.1.1 j)))))), (0, .ref (h)), (1, .int (zI (w))), (2, .int (zI (a))), (3, .int (zI (b))), (4, .int (zI (t)))]) C0.1 C0.2.1 dX9_reckon_39 hl (by decide) rfl (fun ls hl => ?_)
            refine lv_iload C0.1 C0.2.1 dX9_reckon_41 (lv_at hl 0 rfl) ?_
            refine z_if_eq (tgt := 49) C0.1 C0.2.1 dX9_reckon_43 (by decide) ⟨by omega, by omega⟩ (fun c_43 => ?_) (fun c_43 => ?_)
            · skip
              refine lv_aload_n C0.1 C0.2.1 dX9_reckon_49 rfl (lv_at hl 1 rfl) ?_
              refine mm_get (fs := [.ref (h + 1), .ref (h + 2), .ref (h + 3), .ref (h + 4), .ref (h + 6), .ref (h + 17), .ref (h + 30), .ref (h + 31), .ref (h + 46), .ref (h + 48), .int (zI (S.1.1))]) C0 (C := RX9) (T := TX9) (N := 11) iG_X9 hM (hO1) rfl 0 (by decide) tw_236 rfl rfl dX9_reckon_50 ?_
              refine lv_iload_n C0.1 C0.2.1 dX9_reckon_53 rfl (lv_at hl 3 rfl) ?_
              refine mm_aald C0 hM 2 (C := "OrangeHeaps$Place") (hr1) rfl (i) (i := a) (by omega) (by omega) (by decide) (v := h + 50 + 6 * i) (hf1 _ (by omega)) dX9_reckon_54 ?_
              refine mm_get (fs := [.int (zI (((S.2.1.1 i : Nat) : Int))), .int (zI (((S.2.1.2.1 i : Nat) : Int))), .ref (h + 50 + 6 * i + 1)]) C0 (C := RX3) (T := TX3) (N := 3) iG_X3 hM (hp_i) rfl 2 (by decide) tw_212 rfl rfl dX9_reckon_55 ?_
              refine lv_astore (lv' := [(6, .ref (h + 50 + 6 * i + 1)), (5, .int (zI ((fau2 (nFau (S.2.1.1 i)) (nFau (S.2.1.1 j)))))), (0, .ref (h)), (1, .int (zI (w))), (2, .int (zI (a))), (3, .int (zI (b))), (4, .int (zI (t)))]) C0.1 C0.2.1 dX9_reckon_58 hl (by decide) rfl (fun ls hl => ?_)
              refine lv_aload_n C0.1 C0.2.1 dX9_reckon_60 rfl (lv_at hl 2 rfl) ?_
              refine mm_get (fs := [.ref (h + 1), .ref (h + 2), .ref (h + 3), .ref (h + 4), .ref (h + 6), .ref (h + 17), .ref (h + 30), .ref (h + 31), .ref (h + 46), .ref (h + 48), .int (zI (S.1.1))]) C0 (C := RX9) (T := TX9) (N := 11) iG_X9 hM (hO1) rfl 0 (by decide) tw_236 rfl rfl dX9_reckon_61 ?_
              refine lv_iload_n C0.1 C0.2.1 dX9_reckon_64 rfl (lv_at hl 5 rfl) ?_
              refine mm_aald C0 hM 2 (C := "OrangeHeaps$Place") (hr1) rfl (j) (i := b) (by omega) (by omega) (by decide) (v := h + 50 + 6 * j) (hf1 _ (by omega)) dX9_reckon_65 ?_
              refine mm_get (fs := [.int (zI (((S.2.1.1 j : Nat) : Int))), .int (zI (((S.2.1.2.1 j : Nat) : Int))), .ref (h + 50 + 6 * j + 1)]) C0 (C := RX3) (T := TX3) (N := 3) iG_X3 hM (hp_j) rfl 2 (by decide) tw_212 rfl rfl dX9_reckon_66 ?_
              refine lv_astore (lv' := [(7, .ref (h + 50 + 6 * j + 1)), (6, .ref (h + 50 + 6 * i + 1)), (5, .int (zI ((fau2 (nFau (S.2.1.1 i)) (nFau (S.2.1.1 j)))))), (0, .ref (h)), (1, .int (zI (w))), (2, .int (zI (a))), (3, .int (zI (b))), (4, .int (zI (t)))]) C0.1 C0.2.1 dX9_reckon_69 hl (by decide) rfl (fun ls hl => ?_)
              refine lv_iload_n C0.1 C0.2.1 dX9_reckon_71 rfl (lv_at hl 4 rfl) ?_
              refine lv_iconst (v := zI 1) C0.1 C0.2.1 dX9_reckon_72 rfl ?_
              refine z_icmp_ne (tgt := 89) C0.1 C0.2.1 dX9_reckon_73 (by decide) ⟨by omega, by omega⟩ ⟨by omega, by omega⟩ (fun c_73 => ?_) (fun c_73 => ?_)
              · skip
                refine lv_iload_n C0.1 C0.2.1 dX9_reckon_89 rfl (lv_at hl 4 rfl) ?_
                refine lv_iconst (v := zI 3) C0.1 C0.2.1 dX9_reckon_90 rfl ?_
                refine z_icmp_lt (tgt := 105) C0.1 C0.2.1 dX9_reckon_91 (by decide) ⟨by omega, by omega⟩ ⟨by omega, by omega⟩ (fun c_91 => ?_) (fun c_91 => ?_)
                · skip
                  refine lv_aload_n C0.1 C0.2.1 dX9_reckon_105 rfl (lv_at hl 3 rfl) ?_
                  refine lv_iload_n C0.1 C0.2.1 dX9_reckon_106 rfl (lv_at hl 4 rfl) ?_
                  refine lv_aload C0.1 C0.2.1 dX9_reckon_107 (lv_at hl 1 rfl) ?_
                  refine lv_aload C0.1 C0.2.1 dX9_reckon_109 (lv_at hl 0 rfl) ?_
                  refine mm_callVv (As := [.int (zI (w)), .ref (h + 50 + 6 * i + 1), .ref (h + 50 + 6 * j + 1)]) C0 vw_X9_combine tw_406 (c_X9_combine l G _ hSo (by omega) (by omega) hw_i hw_j (by omega) (by omega) ho_i4 ho_j4 (fun q => by omega)) hM (hO1) rfl rfl hl.1 rfl (Nat.le_of_ble_eq_true rfl) ⟨rfl, rfl, Nat.le_of_ble_eq_true rfl, Nat.le_of_ble_eq_true rfl, Nat.zero_le _, Nat.zero_le _⟩ dX9_reckon_111 hS (fun E5 H locs hp hM hS => ?_)
                  obtain ⟨hW, hS1, fr⟩ := hp
                  have hO1 := hO.kept hO1 (fr _ (by omega))
                  have hg := fr
                  refine lv_aload_n C0.1 C0.2.1 dX9_reckon_114 rfl (lv_at hl 3 rfl) ?_
                  refine lv_iload C0.1 C0.2.1 dX9_reckon_115 (lv_at hl 7 rfl) ?_
                  refine lv_aload_n C0.1 C0.2.1 dX9_reckon_117 rfl (lv_at hl 3 rfl) ?_
                  refine mm_get (fs := [.ref (h + 1), .ref (h + 2), .ref (h + 3), .ref (h + 4), .ref (h + 6), .ref (h + 17), .ref (h + 30), .ref (h + 31), .ref (h + 46), .ref (h + 48), .int (zI (S.1.1))]) C0 (C := RX9) (T := TX9) (N := 11) iG_X9 hM (hO1) rfl 8 (by decide) tw_244 rfl rfl dX9_reckon_118 ?_
                  refine mm_callVi (As := [.int (zI (t)), .ref (h + 46)]) C0 vw_X9_land tw_296 (c_X9_land l G _ hS1 u hpu hi_u hW (by omega)) hM (hO1) rfl rfl hl.1 rfl (Nat.le_of_ble_eq_true rfl) ⟨rfl, rfl, Nat.le_of_ble_eq_true rfl, Nat.le_of_ble_eq_true rfl, Nat.zero_le _, Nat.zero_le _⟩ dX9_reckon_121 hS (fun z9 E6 H locs hp hM hS => ?_)
                  obtain ⟨hz9, hS2, -, fr⟩ := hp
                  have hO1 := hO.kept hO1 (fr _ (by omega))
                  exact mm_iret (z := z9) C0 hr hlk hM hS dX9_reckon_124 (by have he : pf_reckon S w a b t = (lanZ (cmb w.toNat (S.2.1.2.2 i) (S.2.1.2.2 j)), lanS S u (cmb w.toNat (S.2.1.2.2 i) (S.2.1.2.2 j))) := (by unfold pf_reckon; rw [if_pos (by omega), ht_i, ht_j, ht_u, if_neg (fun q => q c_43), if_neg (by omega), if_neg (fun q => by have q2 := nl_eq0.mpr q.2; omega)]); rw [he]; exact ⟨hz9, hS2, fun q h => (fr q (by omega)).trans (hg q (by omega))⟩)
                · skip
                  refine lv_aload C0.1 C0.2.1 dX9_reckon_94 (lv_at hl 0 rfl) ?_
                  refine mm_get (fs := [.ref (h + 50 + 6 * j + 1 + 1), .int (zI (((nl (S.2.1.2.2 j) : Nat) : Int)))]) C0 (C := RX8) (T := TX8) (N := 2) iG_X8 hM (hw_j.obj) rfl 1 (by decide) tw_85 rfl rfl dX9_reckon_96 ?_
                  refine z_if_ne (tgt := 105) C0.1 C0.2.1 dX9_reckon_99 (by decide) ⟨by omega, by omega⟩ (fun c_99 => ?_) (fun c_99 => ?_)
                  · skip
                    refine lv_aload_n C0.1 C0.2.1 dX9_reckon_105 rfl (lv_at hl 3 rfl) ?_
                    refine lv_iload_n C0.1 C0.2.1 dX9_reckon_106 rfl (lv_at hl 4 rfl) ?_
                    refine lv_aload C0.1 C0.2.1 dX9_reckon_107 (lv_at hl 1 rfl) ?_
                    refine lv_aload C0.1 C0.2.1 dX9_reckon_109 (lv_at hl 0 rfl) ?_
                    refine mm_callVv (As := [.int (zI (w)), .ref (h + 50 + 6 * i + 1), .ref (h + 50 + 6 * j + 1)]) C0 vw_X9_combine tw_406 (c_X9_combine l G _ hSo (by omega) (by omega) hw_i hw_j (by omega) (by omega) ho_i4 ho_j4 (fun q => by omega)) hM (hO1) rfl rfl hl.1 rfl (Nat.le_of_ble_eq_true rfl) ⟨rfl, rfl, Nat.le_of_ble_eq_true rfl, Nat.le_of_ble_eq_true rfl, Nat.zero_le _, Nat.zero_le _⟩ dX9_reckon_111 hS (fun E7 H locs hp hM hS => ?_)
                    obtain ⟨hW, hS1, fr⟩ := hp
                    have hO1 := hO.kept hO1 (fr _ (by omega))
                    have hg := fr
                    refine lv_aload_n C0.1 C0.2.1 dX9_reckon_114 rfl (lv_at hl 3 rfl) ?_
                    refine lv_iload C0.1 C0.2.1 dX9_reckon_115 (lv_at hl 7 rfl) ?_
                    refine lv_aload_n C0.1 C0.2.1 dX9_reckon_117 rfl (lv_at hl 3 rfl) ?_
                    refine mm_get (fs := [.ref (h + 1), .ref (h + 2), .ref (h + 3), .ref (h + 4), .ref (h + 6), .ref (h + 17), .ref (h + 30), .ref (h + 31), .ref (h + 46), .ref (h + 48), .int (zI (S.1.1))]) C0 (C := RX9) (T := TX9) (N := 11) iG_X9 hM (hO1) rfl 8 (by decide) tw_244 rfl rfl dX9_reckon_118 ?_
                    refine mm_callVi (As := [.int (zI (t)), .ref (h + 46)]) C0 vw_X9_land tw_296 (c_X9_land l G _ hS1 u hpu hi_u hW (by omega)) hM (hO1) rfl rfl hl.1 rfl (Nat.le_of_ble_eq_true rfl) ⟨rfl, rfl, Nat.le_of_ble_eq_true rfl, Nat.le_of_ble_eq_true rfl, Nat.zero_le _, Nat.zero_le _⟩ dX9_reckon_121 hS (fun z9 E8 H locs hp hM hS => ?_)
                    obtain ⟨hz9, hS2, -, fr⟩ := hp
                    have hO1 := hO.kept hO1 (fr _ (by omega))
                    exact mm_iret (z := z9) C0 hr hlk hM hS dX9_reckon_124 (by have he : pf_reckon S w a b t = (lanZ (cmb w.toNat (S.2.1.2.2 i) (S.2.1.2.2 j)), lanS S u (cmb w.toNat (S.2.1.2.2 i) (S.2.1.2.2 j))) := (by unfold pf_reckon; rw [if_pos (by omega), ht_i, ht_j, ht_u, if_neg (fun q => q c_43), if_neg (by omega), if_neg (fun q => by have q2 := nl_eq0.mpr q.2; omega)]); rw [he]; exact ⟨hz9, hS2, fun q h => (fr q (by omega)).trans (hg q (by omega))⟩)
                  · skip
                    refine lv_bipush (v := zI (-15)) C0.1 C0.2.1 dX9_reckon_102 rfl ?_
                    exact mm_iret (z := (-15)) C0 hr hlk hM hS dX9_reckon_104 (by have he : pf_reckon S w a b t = ((-15), S) := (by unfold pf_reckon; rw [if_pos (by omega), ht_i, ht_j, if_neg (fun q => q c_43), if_neg (by omega), if_pos ⟨by omega, nl_eq0.mp (by omega)⟩]); rw [he]; exact ⟨rfl, hSo, (fun _ _ => rfl)⟩)
              · skip
                refine lv_aload C0.1 C0.2.1 dX9_reckon_76 (lv_at hl 1 rfl) ?_
                refine lv_aload C0.1 C0.2.1 dX9_reckon_78 (lv_at hl 0 rfl) ?_
                refine mm_callVi (As := [.ref (h + 50 + 6 * j + 1)]) C0 vw_X8_compareWith tw_402 (c_X8_compareWith l G _ hw_i hw_j) hM (hw_i.obj) rfl rfl hl.1 rfl (Nat.le_of_ble_eq_true rfl) ⟨rfl, rfl, Nat.le_of_ble_eq_true rfl, Nat.le_of_ble_eq_true rfl, Nat.zero_le _, Nat.zero_le _⟩ dX9_reckon_80 hS (fun z_80 E9 H locs hp hM hS => ?_)
                obtain ⟨hz_80, hEq⟩ := hp
                rw [hEq] at hM
                refine z_asI (b := (cmpZ (S.2.1.2.2 i) (S.2.1.2.2 j))) (hz_80) ?_
                have hcm : (cmpZ (S.2.1.2.2 i) (S.2.1.2.2 j) = -1 ∧ S.2.1.2.2 i < S.2.1.2.2 j) ∨ (cmpZ (S.2.1.2.2 i) (S.2.1.2.2 j) = 0 ∧ S.2.1.2.2 i = S.2.1.2.2 j) ∨ (cmpZ (S.2.1.2.2 i) (S.2.1.2.2 j) = 1 ∧ S.2.1.2.2 j < S.2.1.2.2 i) := by unfold cmpZ; omega
                refine z_if_ge (tgt := 89) C0.1 C0.2.1 dX9_reckon_83 (by decide) ⟨by omega, by omega⟩ (fun c_83 => ?_) (fun c_83 => ?_)
                · skip
                  refine lv_iload_n C0.1 C0.2.1 dX9_reckon_89 rfl (lv_at hl 4 rfl) ?_
                  refine lv_iconst (v := zI 3) C0.1 C0.2.1 dX9_reckon_90 rfl ?_
                  refine z_icmp_lt (tgt := 105) C0.1 C0.2.1 dX9_reckon_91 (by decide) ⟨by omega, by omega⟩ ⟨by omega, by omega⟩ (fun c_91 => ?_) (fun c_91 => ?_)
                  · skip
                    refine lv_aload_n C0.1 C0.2.1 dX9_reckon_105 rfl (lv_at hl 3 rfl) ?_
                    refine lv_iload_n C0.1 C0.2.1 dX9_reckon_106 rfl (lv_at hl 4 rfl) ?_
                    refine lv_aload C0.1 C0.2.1 dX9_reckon_107 (lv_at hl 1 rfl) ?_
                    refine lv_aload C0.1 C0.2.1 dX9_reckon_109 (lv_at hl 0 rfl) ?_
                    refine mm_callVv (As := [.int (zI (w)), .ref (h + 50 + 6 * i + 1), .ref (h + 50 + 6 * j + 1)]) C0 vw_X9_combine tw_406 (c_X9_combine l G _ hSo (by omega) (by omega) hw_i hw_j (by omega) (by omega) ho_i4 ho_j4 (fun q => by omega)) hM (hO1) rfl rfl hl.1 rfl (Nat.le_of_ble_eq_true rfl) ⟨rfl, rfl, Nat.le_of_ble_eq_true rfl, Nat.le_of_ble_eq_true rfl, Nat.zero_le _, Nat.zero_le _⟩ dX9_reckon_111 hS (fun E10 H locs hp hM hS => ?_)
                    obtain ⟨hW, hS1, fr⟩ := hp
                    have hO1 := hO.kept hO1 (fr _ (by omega))
                    have hg := fr
                    refine lv_aload_n C0.1 C0.2.1 dX9_reckon_114 rfl (lv_at hl 3 rfl) ?_
                    refine lv_iload C0.1 C0.2.1 dX9_reckon_115 (lv_at hl 7 rfl) ?_
                    refine lv_aload_n C0.1 C0.2.1 dX9_reckon_117 rfl (lv_at hl 3 rfl) ?_
                    refine mm_get (fs := [.ref (h + 1), .ref (h + 2), .ref (h + 3), .ref (h + 4), .ref (h + 6), .ref (h + 17), .ref (h + 30), .ref (h + 31), .ref (h + 46), .ref (h + 48), .int (zI (S.1.1))]) C0 (C := RX9) (T := TX9) (N := 11) iG_X9 hM (hO1) rfl 8 (by decide) tw_244 rfl rfl dX9_reckon_118 ?_
                    refine mm_callVi (As := [.int (zI (t)), .ref (h + 46)]) C0 vw_X9_land tw_296 (c_X9_land l G _ hS1 u hpu hi_u hW (by omega)) hM (hO1) rfl rfl hl.1 rfl (Nat.le_of_ble_eq_true rfl) ⟨rfl, rfl, Nat.le_of_ble_eq_true rfl, Nat.le_of_ble_eq_true rfl, Nat.zero_le _, Nat.zero_le _⟩ dX9_reckon_121 hS (fun z9 E11 H locs hp hM hS => ?_)
                    obtain ⟨hz9, hS2, -, fr⟩ := hp
                    have hO1 := hO.kept hO1 (fr _ (by omega))
                    exact mm_iret (z := z9) C0 hr hlk hM hS dX9_reckon_124 (by have he : pf_reckon S w a b t = (lanZ (cmb w.toNat (S.2.1.2.2 i) (S.2.1.2.2 j)), lanS S u (cmb w.toNat (S.2.1.2.2 i) (S.2.1.2.2 j))) := (by unfold pf_reckon; rw [if_pos (by omega), ht_i, ht_j, ht_u, if_neg (fun q => q c_43), if_neg (by omega), if_neg (fun q => by have q2 := nl_eq0.mpr q.2; omega)]); rw [he]; exact ⟨hz9, hS2, fun q h => (fr q (by omega)).trans (hg q (by omega))⟩)
                  · skip
                    refine lv_aload C0.1 C0.2.1 dX9_reckon_94 (lv_at hl 0 rfl) ?_
                    refine mm_get (fs := [.ref (h + 50 + 6 * j + 1 + 1), .int (zI (((nl (S.2.1.2.2 j) : Nat) : Int)))]) C0 (C := RX8) (T := TX8) (N := 2) iG_X8 hM (hw_j.obj) rfl 1 (by decide) tw_85 rfl rfl dX9_reckon_96 ?_
                    refine z_if_ne (tgt := 105) C0.1 C0.2.1 dX9_reckon_99 (by decide) ⟨by omega, by omega⟩ (fun c_99 => ?_) (fun c_99 => ?_)
                    · skip
                      refine lv_aload_n C0.1 C0.2.1 dX9_reckon_105 rfl (lv_at hl 3 rfl) ?_
                      refine lv_iload_n C0.1 C0.2.1 dX9_reckon_106 rfl (lv_at hl 4 rfl) ?_
                      refine lv_aload C0.1 C0.2.1 dX9_reckon_107 (lv_at hl 1 rfl) ?_
                      refine lv_aload C0.1 C0.2.1 dX9_reckon_109 (lv_at hl 0 rfl) ?_
                      refine mm_callVv (As := [.int (zI (w)), .ref (h + 50 + 6 * i + 1), .ref (h + 50 + 6 * j + 1)]) C0 vw_X9_combine tw_406 (c_X9_combine l G _ hSo (by omega) (by omega) hw_i hw_j (by omega) (by omega) ho_i4 ho_j4 (fun q => by omega)) hM (hO1) rfl rfl hl.1 rfl (Nat.le_of_ble_eq_true rfl) ⟨rfl, rfl, Nat.le_of_ble_eq_true rfl, Nat.le_of_ble_eq_true rfl, Nat.zero_le _, Nat.zero_le _⟩ dX9_reckon_111 hS (fun E12 H locs hp hM hS => ?_)
                      obtain ⟨hW, hS1, fr⟩ := hp
                      have hO1 := hO.kept hO1 (fr _ (by omega))
                      have hg := fr
                      refine lv_aload_n C0.1 C0.2.1 dX9_reckon_114 rfl (lv_at hl 3 rfl) ?_
                      refine lv_iload C0.1 C0.2.1 dX9_reckon_115 (lv_at hl 7 rfl) ?_
                      refine lv_aload_n C0.1 C0.2.1 dX9_reckon_117 rfl (lv_at hl 3 rfl) ?_
                      refine mm_get (fs := [.ref (h + 1), .ref (h + 2), .ref (h + 3), .ref (h + 4), .ref (h + 6), .ref (h + 17), .ref (h + 30), .ref (h + 31), .ref (h + 46), .ref (h + 48), .int (zI (S.1.1))]) C0 (C := RX9) (T := TX9) (N := 11) iG_X9 hM (hO1) rfl 8 (by decide) tw_244 rfl rfl dX9_reckon_118 ?_
                      refine mm_callVi (As := [.int (zI (t)), .ref (h + 46)]) C0 vw_X9_land tw_296 (c_X9_land l G _ hS1 u hpu hi_u hW (by omega)) hM (hO1) rfl rfl hl.1 rfl (Nat.le_of_ble_eq_true rfl) ⟨rfl, rfl, Nat.le_of_ble_eq_true rfl, Nat.le_of_ble_eq_true rfl, Nat.zero_le _, Nat.zero_le _⟩ dX9_reckon_121 hS (fun z9 E13 H locs hp hM hS => ?_)
                      obtain ⟨hz9, hS2, -, fr⟩ := hp
                      have hO1 := hO.kept hO1 (fr _ (by omega))
                      exact mm_iret (z := z9) C0 hr hlk hM hS dX9_reckon_124 (by have he : pf_reckon S w a b t = (lanZ (cmb w.toNat (S.2.1.2.2 i) (S.2.1.2.2 j)), lanS S u (cmb w.toNat (S.2.1.2.2 i) (S.2.1.2.2 j))) := (by unfold pf_reckon; rw [if_pos (by omega), ht_i, ht_j, ht_u, if_neg (fun q => q c_43), if_neg (by omega), if_neg (fun q => by have q2 := nl_eq0.mpr q.2; omega)]); rw [he]; exact ⟨hz9, hS2, fun q h => (fr q (by omega)).trans (hg q (by omega))⟩)
                    · skip
                      refine lv_bipush (v := zI (-15)) C0.1 C0.2.1 dX9_reckon_102 rfl ?_
                      exact mm_iret (z := (-15)) C0 hr hlk hM hS dX9_reckon_104 (by have he : pf_reckon S w a b t = ((-15), S) := (by unfold pf_reckon; rw [if_pos (by omega), ht_i, ht_j, if_neg (fun q => q c_43), if_neg (by omega), if_pos ⟨by omega, nl_eq0.mp (by omega)⟩]); rw [he]; exact ⟨rfl, hSo, (fun _ _ => rfl)⟩)
                · skip
                  refine lv_bipush (v := zI (-2)) C0.1 C0.2.1 dX9_reckon_86 rfl ?_
                  exact mm_iret (z := (-2)) C0 hr hlk hM hS dX9_reckon_88 (by have he : pf_reckon S w a b t = ((-2), S) := (by unfold pf_reckon; rw [if_pos (by omega), ht_i, ht_j, if_neg (fun q => q c_43), if_pos (by omega)]); rw [he]; exact ⟨rfl, hSo, (fun _ _ => rfl)⟩)
            · skip
              refine lv_iload C0.1 C0.2.1 dX9_reckon_46 (lv_at hl 0 rfl) ?_
              exact mm_iret (z := (fau2 (nFau (S.2.1.1 i)) (nFau (S.2.1.1 j)))) C0 hr hlk hM hS dX9_reckon_48 (by have he : pf_reckon S w a b t = ((fau2 (nFau (S.2.1.1 i)) (nFau (S.2.1.1 j))), S) := (by unfold pf_reckon; rw [if_pos (by omega), ht_i, ht_j, if_pos c_43]); rw [he]; exact ⟨rfl, hSo, (fun _ _ => rfl)⟩)
          · skip
            refine lv_iconst (v := zI (-1)) C0.1 C0.2.1 dX9_reckon_31 rfl ?_
            exact mm_iret (z := (-1)) C0 hr hlk hM hS dX9_reckon_32 (by have he : pf_reckon S w a b t = ((-1), S) := (by unfold pf_reckon; rw [if_neg (by omega)]); rw [he]; exact ⟨rfl, hSo, (fun _ _ => rfl)⟩)

def rX9_root : Room := { frames := 6, cells := 0, slots := 0, locals := 153 }
theorem vw_X9_root : mm_Vw RX9 yX9_root cX9_root 6 (some .int) 2 := ⟨tw_467, tw_468, tw_1, tw_469, by decide +kernel⟩
set_option maxHeartbeats 4000000 in
set_option maxRecDepth 100000 in
theorem c_X9_root (l : Launch) (G : mG) (E0 : mE) {h : Nat} {S : mST} (hS9 : st G E0 h S) {a t : Int} (hr_a : rI a) (hr_t : rI t) : mm_Ci l yX9_root (.code yX9_root cX9_root 6 (some .int) :: wsG) rX9_root G [.ref (h), .int (zI (a)), .int (zI (t))] E0 (fun z E => z = (pf_root S a t).1 ∧ st G E h (pf_root S a t).2 ∧ ∀ q : Nat, (q < h ∨ h + 106 ≤ q) → E q = E0 q) := by
  refine mm_of_i (by decide +kernel) (Nat.le_of_ble_eq_true rfl) ?_
  intro p e s m args below meth c ls C0 hr hlk hM hl hS
  have hl : lv_has ls 6 [(0, .ref (h)), (1, .int (zI (a))), (2, .int (zI (t)))] := hl
  obtain ⟨hr_a1, hr_a2⟩ := hr_a
  obtain ⟨hr_t1, hr_t2⟩ := hr_t
  have hSo := hS9
  obtain ⟨⟨hO1, ⟨f1, f2, f3, hr1, hr2, hr3, hf1, hf2, hf3⟩, ⟨hTp, hTk⟩, ⟨hPl, hPk⟩, ⟨hKl, hKk⟩, ⟨hSh, hSk⟩⟩, hSc⟩ := hS9
  obtain ⟨ha0, ha1, ha2, ha3, ha4, ha5⟩ := hSo.2.1
  obtain ⟨hR46, hR48⟩ := hSo.2.2.2.2.2
  have hfr : ∀ q : Nat, ((q < h + 6 ∨ h + 17 ≤ q) ∧ (q < h + 46 ∨ h + 50 ≤ q)) → E0 q = E0 q := fun _ _ => rfl
  refine lv_iload_n C0.1 C0.2.1 dX9_root_0 rfl (lv_at hl 1 rfl) ?_
  refine mm_callSi (As := [.int (zI (a))]) C0 sw_X9_isPlace tw_274 (c_X9_isPlace l G _ (i := a) ⟨by omega, by omega⟩) hM rfl hl.1 rfl (Nat.le_of_ble_eq_true rfl) ⟨rfl, rfl, Nat.le_of_ble_eq_true rfl, Nat.le_of_ble_eq_true rfl, Nat.zero_le _, Nat.zero_le _⟩ dX9_root_1 hS (fun z_1 E1 H locs hp hM hS => ?_)
  obtain ⟨hz_1, hEq⟩ := hp
  rw [hEq] at hM
  have hz_1b := if01 hz_1
  refine z_if_eq (tgt := 14) C0.1 C0.2.1 dX9_root_4 (by decide) ⟨by omega, by omega⟩ (fun c_4 => ?_) (fun c_4 => ?_)
  · skip
    refine lv_iconst (v := zI (-1)) C0.1 C0.2.1 dX9_root_14 rfl ?_
    exact mm_iret (z := (-1)) C0 hr hlk hM hS dX9_root_15 (by have he : pf_root S a t = ((-1), S) := (by unfold pf_root; rw [if_neg (by omega)]); rw [he]; exact ⟨rfl, hSo, (fun _ _ => rfl)⟩)
  · skip
    refine lv_iload_n C0.1 C0.2.1 dX9_root_7 rfl (lv_at hl 2 rfl) ?_
    refine mm_callSi (As := [.int (zI (t))]) C0 sw_X9_isPlace tw_274 (c_X9_isPlace l G _ (i := t) ⟨by omega, by omega⟩) hM rfl hl.1 rfl (Nat.le_of_ble_eq_true rfl) ⟨rfl, rfl, Nat.le_of_ble_eq_true rfl, Nat.le_of_ble_eq_true rfl, Nat.zero_le _, Nat.zero_le _⟩ dX9_root_8 hS (fun z_8 E2 H locs hp hM hS => ?_)
    obtain ⟨hz_8, hEq⟩ := hp
    rw [hEq] at hM
    have hz_8b := if01 hz_8
    refine z_if_ne (tgt := 16) C0.1 C0.2.1 dX9_root_11 (by decide) ⟨by omega, by omega⟩ (fun c_11 => ?_) (fun c_11 => ?_)
    · skip
      obtain ⟨i, hpi⟩ : ∃ i : Nat, a = (i : Int) := ⟨(a).toNat, by omega⟩
      have hi_i : i < 8 := by omega
      have ht_i : (a).toNat = i := by omega
      obtain ⟨hp_i, hw_i⟩ := hPl i hi_i
      obtain ⟨ho_i1, ho_i2, ho_i3, ho_i4⟩ := hPk i hi_i
      obtain ⟨u, hpu⟩ : ∃ u : Nat, t = (u : Int) := ⟨(t).toNat, by omega⟩
      have hi_u : u < 8 := by omega
      have ht_u : (t).toNat = u := by omega
      refine lv_aload_n C0.1 C0.2.1 dX9_root_16 rfl (lv_at hl 0 rfl) ?_
      refine lv_iload_n C0.1 C0.2.1 dX9_root_17 rfl (lv_at hl 1 rfl) ?_
      refine mm_callVi (As := [.int (zI (a))]) C0 vw_X9_numberFault tw_385 (c_X9_numberFault l G _ hSo i hpi hi_i) hM (hO1) rfl rfl hl.1 rfl (Nat.le_of_ble_eq_true rfl) ⟨rfl, rfl, Nat.le_of_ble_eq_true rfl, Nat.le_of_ble_eq_true rfl, Nat.zero_le _, Nat.zero_le _⟩ dX9_root_18 hS (fun z_18 E3 H locs hp hM hS => ?_)
      obtain ⟨hz_18, hEq⟩ := hp
      rw [hEq] at hM
      refine z_asI (b := (nFau (S.2.1.1 i))) (hz_18) ?_
      have hnb := nFau_b (S.2.1.1 i)
      refine lv_istore_n (lv' := [(3, .int (zI ((nFau (S.2.1.1 i))))), (0, .ref (h)), (1, .int (zI (a))), (2, .int (zI (t)))]) C0.1 C0.2.1 dX9_root_21 rfl hl (by decide) rfl (fun ls hl => ?_)
      refine lv_iload_n C0.1 C0.2.1 dX9_root_22 rfl (lv_at hl 0 rfl) ?_
      refine z_if_eq (tgt := 28) C0.1 C0.2.1 dX9_root_23 (by decide) ⟨by omega, by omega⟩ (fun c_23 => ?_) (fun c_23 => ?_)
      · skip
        refine lv_aload_n C0.1 C0.2.1 dX9_root_28 rfl (lv_at hl 1 rfl) ?_
        refine mm_get (fs := [.ref (h + 1), .ref (h + 2), .ref (h + 3), .ref (h + 4), .ref (h + 6), .ref (h + 17), .ref (h + 30), .ref (h + 31), .ref (h + 46), .ref (h + 48), .int (zI (S.1.1))]) C0 (C := RX9) (T := TX9) (N := 11) iG_X9 hM (hO1) rfl 0 (by decide) tw_236 rfl rfl dX9_root_29 ?_
        refine lv_iload_n C0.1 C0.2.1 dX9_root_32 rfl (lv_at hl 2 rfl) ?_
        refine mm_aald C0 hM 2 (C := "OrangeHeaps$Place") (hr1) rfl (i) (i := a) (by omega) (by omega) (by decide) (v := h + 50 + 6 * i) (hf1 _ (by omega)) dX9_root_33 ?_
        refine mm_get (fs := [.int (zI (((S.2.1.1 i : Nat) : Int))), .int (zI (((S.2.1.2.1 i : Nat) : Int))), .ref (h + 50 + 6 * i + 1)]) C0 (C := RX3) (T := TX3) (N := 3) iG_X3 hM (hp_i) rfl 2 (by decide) tw_212 rfl rfl dX9_root_34 ?_
        refine lv_astore (lv' := [(4, .ref (h + 50 + 6 * i + 1)), (3, .int (zI ((nFau (S.2.1.1 i))))), (0, .ref (h)), (1, .int (zI (a))), (2, .int (zI (t)))]) C0.1 C0.2.1 dX9_root_37 hl (by decide) rfl (fun ls hl => ?_)
        refine lv_aload_n C0.1 C0.2.1 dX9_root_39 rfl (lv_at hl 2 rfl) ?_
        refine mm_get (fs := [.ref (h + 1), .ref (h + 2), .ref (h + 3), .ref (h + 4), .ref (h + 6), .ref (h + 17), .ref (h + 30), .ref (h + 31), .ref (h + 46), .ref (h + 48), .int (zI (S.1.1))]) C0 (C := RX9) (T := TX9) (N := 11) iG_X9 hM (hO1) rfl 4 (by decide) tw_240 rfl rfl dX9_root_40 ?_
        refine lv_aload C0.1 C0.2.1 dX9_root_43 (lv_at hl 0 rfl) ?_
        refine lv_iconst (v := zI 2) C0.1 C0.2.1 dX9_root_45 rfl ?_
        refine z_asI (a := 2) (b := ((2 : Nat) : Int)) (rfl) ?_
        refine lv_aload_n C0.1 C0.2.1 dX9_root_46 rfl (lv_at hl 2 rfl) ?_
        refine mm_get (fs := [.ref (h + 1), .ref (h + 2), .ref (h + 3), .ref (h + 4), .ref (h + 6), .ref (h + 17), .ref (h + 30), .ref (h + 31), .ref (h + 46), .ref (h + 48), .int (zI (S.1.1))]) C0 (C := RX9) (T := TX9) (N := 11) iG_X9 hM (hO1) rfl 8 (by decide) tw_244 rfl rfl dX9_root_47 ?_
        refine mm_callVv (As := [.ref (h + 50 + 6 * i + 1), .int (zI (((2 : Nat) : Int))), .ref (h + 46)]) C0 vw_X4_extract tw_470 (c_X4_extract l G _ 2 (Or.inl rfl) ha0 ha1 ha2 ha3 ha4 ha5 hw_i hR46 (by omega) (by omega) (by omega) (by omega)) hM (ha0) rfl rfl hl.1 rfl (Nat.le_of_ble_eq_true rfl) ⟨rfl, rfl, Nat.le_of_ble_eq_true rfl, Nat.le_of_ble_eq_true rfl, Nat.zero_le _, Nat.zero_le _⟩ dX9_root_50 hS (fun E4 H locs hp hM hS => ?_)
        obtain ⟨⟨x, hX, hrt⟩, ha1, ha2, ha3, ha4, ha5, fr⟩ := hp
        have hO1 := hO.kept hO1 (fr _ (by omega))
        have hR48 := isV.kept hR48 (fr _ (by omega)) (fr _ (by omega))
        have hfr := (fun q h => (fr q (by omega)).trans (hfr q h) : ∀ q : Nat, ((q < h + 6 ∨ h + 17 ≤ q) ∧ (q < h + 46 ∨ h + 50 ≤ q)) → E4 q = E0 q)
        have ha0 := rk.kept ha0 (fr _ (by omega))
        have hw_i := isW.kept hw_i (fr _ (by omega)) (fr _ (by omega))
        have hxf := rtF_u hrt
        have hxn := rt_nl (Or.inl rfl) hrt (by omega)
        refine lv_aload_n C0.1 C0.2.1 dX9_root_53 rfl (lv_at hl 2 rfl) ?_
        refine mm_get (fs := [.ref (h + 1), .ref (h + 2), .ref (h + 3), .ref (h + 4), .ref (h + 6), .ref (h + 17), .ref (h + 30), .ref (h + 31), .ref (h + 46), .ref (h + 48), .int (zI (S.1.1))]) C0 (C := RX9) (T := TX9) (N := 11) iG_X9 hM (hO1) rfl 9 (by decide) tw_245 rfl rfl dX9_root_54 ?_
        refine lv_aload_n C0.1 C0.2.1 dX9_root_57 rfl (lv_at hl 2 rfl) ?_
        refine mm_get (fs := [.ref (h + 1), .ref (h + 2), .ref (h + 3), .ref (h + 4), .ref (h + 6), .ref (h + 17), .ref (h + 30), .ref (h + 31), .ref (h + 46), .ref (h + 48), .int (zI (S.1.1))]) C0 (C := RX9) (T := TX9) (N := 11) iG_X9 hM (hO1) rfl 8 (by decide) tw_244 rfl rfl dX9_root_58 ?_
        refine lv_aload_n C0.1 C0.2.1 dX9_root_61 rfl (lv_at hl 2 rfl) ?_
        refine mm_get (fs := [.ref (h + 1), .ref (h + 2), .ref (h + 3), .ref (h + 4), .ref (h + 6), .ref (h + 17), .ref (h + 30), .ref (h + 31), .ref (h + 46), .ref (h + 48), .int (zI (S.1.1))]) C0 (C := RX9) (T := TX9) (N := 11) iG_X9 hM (hO1) rfl 8 (by decide) tw_244 rfl rfl dX9_root_62 ?_
        refine mm_callVv (As := [.ref (h + 46), .ref (h + 46)]) C0 vw_X8_setProduct tw_410 (c_X8_setProduct l G _ hR48 hX hX (by omega) (by omega) (by omega)) hM ((hR48.obj).choose_spec) rfl rfl hl.1 rfl (Nat.le_of_ble_eq_true rfl) ⟨rfl, rfl, Nat.le_of_ble_eq_true rfl, Nat.le_of_ble_eq_true rfl, Nat.zero_le _, Nat.zero_le _⟩ dX9_root_65 hS (fun E5 H locs hp hM hS => ?_)
        obtain ⟨hY, fr⟩ := hp
        have hO1 := hO.kept hO1 (fr _ (by omega))
        have hfr := (fun q h => (fr q (by omega)).trans (hfr q h) : ∀ q : Nat, ((q < h + 6 ∨ h + 17 ≤ q) ∧ (q < h + 46 ∨ h + 50 ≤ q)) → E5 q = E0 q)
        have ha0 := rk.kept ha0 (fr _ (by omega))
        have ha1 := isV.kept ha1 (fr _ (by omega)) (fr _ (by omega))
        have ha2 := isV.kept ha2 (fr _ (by omega)) (fr _ (by omega))
        have ha3 := isV.kept ha3 (fr _ (by omega)) (fr _ (by omega))
        have ha4 := isV.kept ha4 (fr _ (by omega)) (fr _ (by omega))
        have ha5 := isV.kept ha5 (fr _ (by omega)) (fr _ (by omega))
        have hX := isW.kept hX (fr _ (by omega)) (fr _ (by omega))
        have hw_i := isW.kept hw_i (fr _ (by omega)) (fr _ (by omega))
        refine lv_aload_n C0.1 C0.2.1 dX9_root_68 rfl (lv_at hl 2 rfl) ?_
        refine mm_get (fs := [.ref (h + 1), .ref (h + 2), .ref (h + 3), .ref (h + 4), .ref (h + 6), .ref (h + 17), .ref (h + 30), .ref (h + 31), .ref (h + 46), .ref (h + 48), .int (zI (S.1.1))]) C0 (C := RX9) (T := TX9) (N := 11) iG_X9 hM (hO1) rfl 9 (by decide) tw_245 rfl rfl dX9_root_69 ?_
        refine lv_aload C0.1 C0.2.1 dX9_root_72 (lv_at hl 0 rfl) ?_
        refine mm_callVi (As := [.ref (h + 50 + 6 * i + 1)]) C0 vw_X8_compareWith tw_402 (c_X8_compareWith l G _ hY hw_i) hM ((hY.v.obj).choose_spec) rfl rfl hl.1 rfl (Nat.le_of_ble_eq_true rfl) ⟨rfl, rfl, Nat.le_of_ble_eq_true rfl, Nat.le_of_ble_eq_true rfl, Nat.zero_le _, Nat.zero_le _⟩ dX9_root_74 hS (fun z_74 E6 H locs hp hM hS => ?_)
        obtain ⟨hz_74, hEq⟩ := hp
        rw [hEq] at hM
        refine z_asI (b := (cmpZ (x * x) (S.2.1.2.2 i))) (hz_74) ?_
        have hcm : (cmpZ (x * x) (S.2.1.2.2 i) = -1 ∧ x * x < S.2.1.2.2 i) ∨ (cmpZ (x * x) (S.2.1.2.2 i) = 0 ∧ x * x = S.2.1.2.2 i) ∨ (cmpZ (x * x) (S.2.1.2.2 i) = 1 ∧ S.2.1.2.2 i < x * x) := by unfold cmpZ; omega
        refine z_if_ne (tgt := 84) C0.1 C0.2.1 dX9_root_77 (by decide) ⟨by omega, by omega⟩ (fun c_77 => ?_) (fun c_77 => ?_)
        · skip
          refine lv_iconst (v := zI 0) C0.1 C0.2.1 dX9_root_84 rfl ?_
          refine lv_istore (lv' := [(5, .int (zI (0))), (4, .ref (h + 50 + 6 * i + 1)), (3, .int (zI ((nFau (S.2.1.1 i))))), (0, .ref (h)), (1, .int (zI (a))), (2, .int (zI (t)))]) C0.1 C0.2.1 dX9_root_85 hl (by decide) rfl (fun ls hl => ?_)
          refine lv_aload_n C0.1 C0.2.1 dX9_root_87 rfl (lv_at hl 3 rfl) ?_
          refine lv_iload_n C0.1 C0.2.1 dX9_root_88 rfl (lv_at hl 5 rfl) ?_
          refine lv_aload_n C0.1 C0.2.1 dX9_root_89 rfl (lv_at hl 3 rfl) ?_
          refine mm_get (fs := [.ref (h + 1), .ref (h + 2), .ref (h + 3), .ref (h + 4), .ref (h + 6), .ref (h + 17), .ref (h + 30), .ref (h + 31), .ref (h + 46), .ref (h + 48), .int (zI (S.1.1))]) C0 (C := RX9) (T := TX9) (N := 11) iG_X9 hM (hO1) rfl 8 (by decide) tw_244 rfl rfl dX9_root_90 ?_
          have hS1 : st G E5 h S := stA_ hSo ⟨ha0, ha1, ha2, ha3, ha4, ha5⟩ ⟨hX.v, hY.v⟩ (fun q h => hfr q (by omega))
          have hg := hfr
          refine mm_callVi (As := [.int (zI (t)), .ref (h + 46)]) C0 vw_X9_land tw_296 (c_X9_land l G _ hS1 u hpu hi_u hX (by omega)) hM (hO1) rfl rfl hl.1 rfl (Nat.le_of_ble_eq_true rfl) ⟨rfl, rfl, Nat.le_of_ble_eq_true rfl, Nat.le_of_ble_eq_true rfl, Nat.zero_le _, Nat.zero_le _⟩ dX9_root_93 hS (fun z9 E7 H locs hp hM hS => ?_)
          obtain ⟨hz9, hS2, -, fr⟩ := hp
          have hO1 := hO.kept hO1 (fr _ (by omega))
          have ha0 := rk.kept ha0 (fr _ (by omega))
          have ha1 := isV.kept ha1 (fr _ (by omega)) (fr _ (by omega))
          have ha2 := isV.kept ha2 (fr _ (by omega)) (fr _ (by omega))
          have ha3 := isV.kept ha3 (fr _ (by omega)) (fr _ (by omega))
          have ha4 := isV.kept ha4 (fr _ (by omega)) (fr _ (by omega))
          have ha5 := isV.kept ha5 (fr _ (by omega)) (fr _ (by omega))
          have hX := isW.kept hX (fr _ (by omega)) (fr _ (by omega))
          have hY := isW.kept hY (fr _ (by omega)) (fr _ (by omega))
          refine lv_pop C0.1 C0.2.1 dX9_root_96 rfl ?_
          refine lv_iload C0.1 C0.2.1 dX9_root_97 (lv_at hl 0 rfl) ?_
          exact mm_iret (z := 0) C0 hr hlk hM hS dX9_root_99 (by have he : pf_root S a t = (0, lanS S u x) := (by unfold pf_root; rw [if_pos (by omega), ht_i, ht_u, if_neg (fun q => q c_23), hxf, if_neg (by omega)]); rw [he]; exact ⟨rfl, hS2, fun q h => (fr q (by omega)).trans (hg q (by omega))⟩)
        · skip
          refine lv_iconst (v := zI 1) C0.1 C0.2.1 dX9_root_80 rfl ?_
          refine lv_goto (tgt := 85) C0.1 C0.2.1 dX9_root_81 (by decide) ?_
          refine lv_istore (lv' := [(5, .int (zI (1))), (4, .ref (h + 50 + 6 * i + 1)), (3, .int (zI ((nFau (S.2.1.1 i))))), (0, .ref (h)), (1, .int (zI (a))), (2, .int (zI (t)))]) C0.1 C0.2.1 dX9_root_85 hl (by decide) rfl (fun ls hl => ?_)
          refine lv_aload_n C0.1 C0.2.1 dX9_root_87 rfl (lv_at hl 3 rfl) ?_
          refine lv_iload_n C0.1 C0.2.1 dX9_root_88 rfl (lv_at hl 5 rfl) ?_
          refine lv_aload_n C0.1 C0.2.1 dX9_root_89 rfl (lv_at hl 3 rfl) ?_
          refine mm_get (fs := [.ref (h + 1), .ref (h + 2), .ref (h + 3), .ref (h + 4), .ref (h + 6), .ref (h + 17), .ref (h + 30), .ref (h + 31), .ref (h + 46), .ref (h + 48), .int (zI (S.1.1))]) C0 (C := RX9) (T := TX9) (N := 11) iG_X9 hM (hO1) rfl 8 (by decide) tw_244 rfl rfl dX9_root_90 ?_
          have hS1 : st G E5 h S := stA_ hSo ⟨ha0, ha1, ha2, ha3, ha4, ha5⟩ ⟨hX.v, hY.v⟩ (fun q h => hfr q (by omega))
          have hg := hfr
          refine mm_callVi (As := [.int (zI (t)), .ref (h + 46)]) C0 vw_X9_land tw_296 (c_X9_land l G _ hS1 u hpu hi_u hX (by omega)) hM (hO1) rfl rfl hl.1 rfl (Nat.le_of_ble_eq_true rfl) ⟨rfl, rfl, Nat.le_of_ble_eq_true rfl, Nat.le_of_ble_eq_true rfl, Nat.zero_le _, Nat.zero_le _⟩ dX9_root_93 hS (fun z9 E8 H locs hp hM hS => ?_)
          obtain ⟨hz9, hS2, -, fr⟩ := hp
          have hO1 := hO.kept hO1 (fr _ (by omega))
          have ha0 := rk.kept ha0 (fr _ (by omega))
          have ha1 := isV.kept ha1 (fr _ (by omega)) (fr _ (by omega))
          have ha2 := isV.kept ha2 (fr _ (by omega)) (fr _ (by omega))
          have ha3 := isV.kept ha3 (fr _ (by omega)) (fr _ (by omega))
          have ha4 := isV.kept ha4 (fr _ (by omega)) (fr _ (by omega))
          have ha5 := isV.kept ha5 (fr _ (by omega)) (fr _ (by omega))
          have hX := isW.kept hX (fr _ (by omega)) (fr _ (by omega))
          have hY := isW.kept hY (fr _ (by omega)) (fr _ (by omega))
          refine lv_pop C0.1 C0.2.1 dX9_root_96 rfl ?_
          refine lv_iload C0.1 C0.2.1 dX9_root_97 (lv_at hl 0 rfl) ?_
          exact mm_iret (z := 1) C0 hr hlk hM hS dX9_root_99 (by have he : pf_root S a t = (1, lanS S u x) := (by unfold pf_root; rw [if_pos (by omega), ht_i, ht_u, if_neg (fun q => q c_23), hxf, if_pos (by omega)]); rw [he]; exact ⟨rfl, hS2, fun q h => (fr q (by omega)).trans (hg q (by omega))⟩)
      · skip
        refine lv_iload_n C0.1 C0.2.1 dX9_root_26 rfl (lv_at hl 0 rfl) ?_
        exact mm_iret (z := (nFau (S.2.1.1 i))) C0 hr hlk hM hS dX9_root_27 (by have he : pf_root S a t = ((nFau (S.2.1.1 i)), S) := (by unfold pf_root; rw [if_pos (by omega), ht_i, if_pos c_23]); rw [he]; exact ⟨rfl, hSo, (fun _ _ => rfl)⟩)
    · skip
      refine lv_iconst (v := zI (-1)) C0.1 C0.2.1 dX9_root_14 rfl ?_
      exact mm_iret (z := (-1)) C0 hr hlk hM hS dX9_root_15 (by have he : pf_root S a t = ((-1), S) := (by unfold pf_root; rw [if_neg (by omega)]); rw [he]; exact ⟨rfl, hSo, (fun _ _ => rfl)⟩)

def rX9_nth : Room := { frames := 5, cells := 0, slots := 0, locals := 122 }
theorem vw_X9_nth : mm_Vw RX9 yX9_nth cX9_nth 6 (some .int) 3 := ⟨tw_488, tw_489, tw_1, tw_490, by decide +kernel⟩
set_option maxHeartbeats 4000000 in
set_option maxRecDepth 100000 in
theorem c_X9_nth (l : Launch) (G : mG) (E0 : mE) {h : Nat} {S : mST} (hS9 : st G E0 h S) {a b t : Int} (hr_a : rI a) (hr_b : rI b) (hr_t : rI t) : mm_Ci l yX9_nth (.code yX9_nth cX9_nth 6 (some .int) :: wsG) rX9_nth G [.ref (h), .int (zI (a)), .int (zI (b)), .int (zI (t))] E0 (fun z E => z = (pf_nth S a b t).1 ∧ st G E h (pf_nth S a b t).2 ∧ ∀ q : Nat, (q < h ∨ h + 106 ≤ q) → E q = E0 q) := by
  refine mm_of_i (by decide +kernel) (Nat.le_of_ble_eq_true rfl) ?_
  intro p e s m args below meth c ls C0 hr hlk hM hl hS
  have hl : lv_has ls 6 [(0, .ref (h)), (1, .int (zI (a))), (2, .int (zI (b))), (3, .int (zI (t)))] := hl
  obtain ⟨hr_a1, hr_a2⟩ := hr_a
  obtain ⟨hr_b1, hr_b2⟩ := hr_b
  obtain ⟨hr_t1, hr_t2⟩ := hr_t
  have hSo := hS9
  obtain ⟨⟨hO1, ⟨f1, f2, f3, hr1, hr2, hr3, hf1, hf2, hf3⟩, ⟨hTp, hTk⟩, ⟨hPl, hPk⟩, ⟨hKl, hKk⟩, ⟨hSh, hSk⟩⟩, hSc⟩ := hS9
  obtain ⟨ha0, ha1, ha2, ha3, ha4, ha5⟩ := hSo.2.1
  obtain ⟨hR46, hR48⟩ := hSo.2.2.2.2.2
  obtain ⟨hb0, hb1, hb2, hb3, hb4, hb5, hb6⟩ := hSo.2.2.1
  have hfr : ∀ q : Nat, ((q < h + 6 ∨ h + 30 ≤ q) ∧ (q < h + 46 ∨ h + 50 ≤ q)) → E0 q = E0 q := fun _ _ => rfl
  refine lv_iload_n C0.1 C0.2.1 dX9_nth_0 rfl (lv_at hl 1 rfl) ?_
  refine mm_callSi (As := [.int (zI (a))]) C0 sw_X9_isPlace tw_274 (c_X9_isPlace l G _ (i := a) ⟨by omega, by omega⟩) hM rfl hl.1 rfl (Nat.le_of_ble_eq_true rfl) ⟨rfl, rfl, Nat.le_of_ble_eq_true rfl, Nat.le_of_ble_eq_true rfl, Nat.zero_le _, Nat.zero_le _⟩ dX9_nth_1 hS (fun z_1 E1 H locs hp hM hS => ?_)
  obtain ⟨hz_1, hEq⟩ := hp
  rw [hEq] at hM
  have hz_1b := if01 hz_1
  refine z_if_eq (tgt := 21) C0.1 C0.2.1 dX9_nth_4 (by decide) ⟨by omega, by omega⟩ (fun c_4 => ?_) (fun c_4 => ?_)
  · skip
    refine lv_iconst (v := zI (-1)) C0.1 C0.2.1 dX9_nth_21 rfl ?_
    exact mm_iret (z := (-1)) C0 hr hlk hM hS dX9_nth_22 (by have he : pf_nth S a b t = ((-1), S) := (by unfold pf_nth; rw [if_neg (by omega)]); rw [he]; exact ⟨rfl, hSo, (fun _ _ => rfl)⟩)
  · skip
    refine lv_iload_n C0.1 C0.2.1 dX9_nth_7 rfl (lv_at hl 2 rfl) ?_
    refine mm_callSi (As := [.int (zI (b))]) C0 sw_X9_isPlace tw_274 (c_X9_isPlace l G _ (i := b) ⟨by omega, by omega⟩) hM rfl hl.1 rfl (Nat.le_of_ble_eq_true rfl) ⟨rfl, rfl, Nat.le_of_ble_eq_true rfl, Nat.le_of_ble_eq_true rfl, Nat.zero_le _, Nat.zero_le _⟩ dX9_nth_8 hS (fun z_8 E2 H locs hp hM hS => ?_)
    obtain ⟨hz_8, hEq⟩ := hp
    rw [hEq] at hM
    have hz_8b := if01 hz_8
    refine z_if_eq (tgt := 21) C0.1 C0.2.1 dX9_nth_11 (by decide) ⟨by omega, by omega⟩ (fun c_11 => ?_) (fun c_11 => ?_)
    · skip
      refine lv_iconst (v := zI (-1)) C0.1 C0.2.1 dX9_nth_21 rfl ?_
      exact mm_iret (z := (-1)) C0 hr hlk hM hS dX9_nth_22 (by have he : pf_nth S a b t = ((-1), S) := (by unfold pf_nth; rw [if_neg (by omega)]); rw [he]; exact ⟨rfl, hSo, (fun _ _ => rfl)⟩)
    · skip
      refine lv_iload_n C0.1 C0.2.1 dX9_nth_14 rfl (lv_at hl 3 rfl) ?_
      refine mm_callSi (As := [.int (zI (t))]) C0 sw_X9_isPlace tw_274 (c_X9_isPlace l G _ (i := t) ⟨by omega, by omega⟩) hM rfl hl.1 rfl (Nat.le_of_ble_eq_true rfl) ⟨rfl, rfl, Nat.le_of_ble_eq_true rfl, Nat.le_of_ble_eq_true rfl, Nat.zero_le _, Nat.zero_le _⟩ dX9_nth_15 hS (fun z_15 E3 H locs hp hM hS => ?_)
      obtain ⟨hz_15, hEq⟩ := hp
      rw [hEq] at hM
      have hz_15b := if01 hz_15
      refine z_if_ne (tgt := 23) C0.1 C0.2.1 dX9_nth_18 (by decide) ⟨by omega, by omega⟩ (fun c_18 => ?_) (fun c_18 => ?_)
      · skip
        obtain ⟨i, hpi⟩ : ∃ i : Nat, a = (i : Int) := ⟨(a).toNat, by omega⟩
        have hi_i : i < 8 := by omega
        have ht_i : (a).toNat = i := by omega
        obtain ⟨hp_i, hw_i⟩ := hPl i hi_i
        obtain ⟨ho_i1, ho_i2, ho_i3, ho_i4⟩ := hPk i hi_i
        obtain ⟨j, hpj⟩ : ∃ j : Nat, b = (j : Int) := ⟨(b).toNat, by omega⟩
        have hi_j : j < 8 := by omega
        have ht_j : (b).toNat = j := by omega
        obtain ⟨hp_j, hw_j⟩ := hPl j hi_j
        obtain ⟨ho_j1, ho_j2, ho_j3, ho_j4⟩ := hPk j hi_j
        obtain ⟨u, hpu⟩ : ∃ u : Nat, t = (u : Int) := ⟨(t).toNat, by omega⟩
        have hi_u : u < 8 := by omega
        have ht_u : (t).toNat = u := by omega
        refine lv_aload_n C0.1 C0.2.1 dX9_nth_23 rfl (lv_at hl 0 rfl) ?_
        refine lv_iload_n C0.1 C0.2.1 dX9_nth_24 rfl (lv_at hl 1 rfl) ?_
        refine lv_iload_n C0.1 C0.2.1 dX9_nth_25 rfl (lv_at hl 2 rfl) ?_
        refine mm_callVi (As := [.int (zI (a)), .int (zI (b))]) C0 vw_X9_shapeAndNumberFault tw_491 (c_X9_shapeAndNumberFault l G _ hSo i j hpi hpj hi_i hi_j) hM (hO1) rfl rfl hl.1 rfl (Nat.le_of_ble_eq_true rfl) ⟨rfl, rfl, Nat.le_of_ble_eq_true rfl, Nat.le_of_ble_eq_true rfl, Nat.zero_le _, Nat.zero_le _⟩ dX9_nth_26 hS (fun z_26 E4 H locs hp hM hS => ?_)
        obtain ⟨hz_26, hEq⟩ := hp
        rw [hEq] at hM
        refine z_asI (b := (fau2 (sFau (S.2.1.1 i)) (nFau (S.2.1.1 j)))) (hz_26) ?_
        obtain ⟨hfb1, hfb2⟩ := fau2_b (sFau_b (S.2.1.1 i)) (nFau_b (S.2.1.1 j))
        refine lv_istore (lv' := [(4, .int (zI ((fau2 (sFau (S.2.1.1 i)) (nFau (S.2.1.1 j)))))), (0, .ref (h)), (1, .int (zI (a))), (2, .int (zI (b))), (3, .int (zI (t)))]) C0.1 C0.2.1 dX9_nth_29 hl (by decide) rfl (fun ls hl => ?_)
        refine lv_iload C0.1 C0.2.1 dX9_nth_31 (lv_at hl 0 rfl) ?_
        refine z_if_eq (tgt := 39) C0.1 C0.2.1 dX9_nth_33 (by decide) ⟨by omega, by omega⟩ (fun c_33 => ?_) (fun c_33 => ?_)
        · skip
          have hf0 := fau2_0 c_33
          have hwi := sFau_0 hf0.1
          refine lv_aload_n C0.1 C0.2.1 dX9_nth_39 rfl (lv_at hl 1 rfl) ?_
          refine mm_get (fs := [.ref (h + 1), .ref (h + 2), .ref (h + 3), .ref (h + 4), .ref (h + 6), .ref (h + 17), .ref (h + 30), .ref (h + 31), .ref (h + 46), .ref (h + 48), .int (zI (S.1.1))]) C0 (C := RX9) (T := TX9) (N := 11) iG_X9 hM (hO1) rfl 0 (by decide) tw_236 rfl rfl dX9_nth_40 ?_
          refine lv_iload_n C0.1 C0.2.1 dX9_nth_43 rfl (lv_at hl 2 rfl) ?_
          refine mm_aald C0 hM 2 (C := "OrangeHeaps$Place") (hr1) rfl (i) (i := a) (by omega) (by omega) (by decide) (v := h + 50 + 6 * i) (hf1 _ (by omega)) dX9_nth_44 ?_
          refine lv_astore (lv' := [(5, .ref (h + 50 + 6 * i)), (4, .int (zI ((fau2 (sFau (S.2.1.1 i)) (nFau (S.2.1.1 j)))))), (0, .ref (h)), (1, .int (zI (a))), (2, .int (zI (b))), (3, .int (zI (t)))]) C0.1 C0.2.1 dX9_nth_45 hl (by decide) rfl (fun ls hl => ?_)
          refine lv_aload_n C0.1 C0.2.1 dX9_nth_47 rfl (lv_at hl 2 rfl) ?_
          refine mm_get (fs := [.ref (h + 1), .ref (h + 2), .ref (h + 3), .ref (h + 4), .ref (h + 6), .ref (h + 17), .ref (h + 30), .ref (h + 31), .ref (h + 46), .ref (h + 48), .int (zI (S.1.1))]) C0 (C := RX9) (T := TX9) (N := 11) iG_X9 hM (hO1) rfl 5 (by decide) tw_241 rfl rfl dX9_nth_48 ?_
          refine lv_aload C0.1 C0.2.1 dX9_nth_51 (lv_at hl 0 rfl) ?_
          refine mm_callVi (As := []) C0 vw_X3_kind tw_499 (c_X3_kind l G _ hp_i) hM (hp_i) rfl rfl hl.1 rfl (Nat.le_of_ble_eq_true rfl) ⟨rfl, rfl, Nat.le_of_ble_eq_true rfl, Nat.le_of_ble_eq_true rfl, Nat.zero_le _, Nat.zero_le _⟩ dX9_nth_53 hS (fun z_53 E5 H locs hp hM hS => ?_)
          obtain ⟨hz_53, hEq⟩ := hp
          rw [hEq] at hM
          refine z_asI (b := ((S.2.1.1 i - 2 : Nat) : Int)) (hz_53.trans (by omega)) ?_
          refine lv_aload C0.1 C0.2.1 dX9_nth_56 (lv_at hl 0 rfl) ?_
          refine mm_get (fs := [.int (zI (((S.2.1.1 i : Nat) : Int))), .int (zI (((S.2.1.2.1 i : Nat) : Int))), .ref (h + 50 + 6 * i + 1)]) C0 (C := RX3) (T := TX3) (N := 3) iG_X3 hM (hp_i) rfl 1 (by decide) tw_210 rfl rfl dX9_nth_58 ?_
          refine lv_aload_n C0.1 C0.2.1 dX9_nth_61 rfl (lv_at hl 2 rfl) ?_
          refine mm_get (fs := [.ref (h + 1), .ref (h + 2), .ref (h + 3), .ref (h + 4), .ref (h + 6), .ref (h + 17), .ref (h + 30), .ref (h + 31), .ref (h + 46), .ref (h + 48), .int (zI (S.1.1))]) C0 (C := RX9) (T := TX9) (N := 11) iG_X9 hM (hO1) rfl 0 (by decide) tw_236 rfl rfl dX9_nth_62 ?_
          refine lv_iload_n C0.1 C0.2.1 dX9_nth_65 rfl (lv_at hl 4 rfl) ?_
          refine mm_aald C0 hM 2 (C := "OrangeHeaps$Place") (hr1) rfl (j) (i := b) (by omega) (by omega) (by decide) (v := h + 50 + 6 * j) (hf1 _ (by omega)) dX9_nth_66 ?_
          refine mm_get (fs := [.int (zI (((S.2.1.1 j : Nat) : Int))), .int (zI (((S.2.1.2.1 j : Nat) : Int))), .ref (h + 50 + 6 * j + 1)]) C0 (C := RX3) (T := TX3) (N := 3) iG_X3 hM (hp_j) rfl 2 (by decide) tw_212 rfl rfl dX9_nth_67 ?_
          refine lv_aload_n C0.1 C0.2.1 dX9_nth_70 rfl (lv_at hl 2 rfl) ?_
          refine mm_get (fs := [.ref (h + 1), .ref (h + 2), .ref (h + 3), .ref (h + 4), .ref (h + 6), .ref (h + 17), .ref (h + 30), .ref (h + 31), .ref (h + 46), .ref (h + 48), .int (zI (S.1.1))]) C0 (C := RX9) (T := TX9) (N := 11) iG_X9 hM (hO1) rfl 8 (by decide) tw_244 rfl rfl dX9_nth_71 ?_
          refine mm_callVi (As := [.int (zI (((S.2.1.1 i - 2 : Nat) : Int))), .int (zI (((S.2.1.2.1 i : Nat) : Int))), .ref (h + 50 + 6 * j + 1), .ref (h + 46)]) C0 vw_X5_term tw_503 (c_X5_term l G _ (S.2.1.1 i - 2) (S.2.1.2.1 i) (by omega) (by omega) (by omega) hb0 hb1 hb2 hb3 hw_j hR46 (by omega) (by omega) (by omega)) hM (hb0) rfl rfl hl.1 rfl (Nat.le_of_ble_eq_true rfl) ⟨rfl, rfl, Nat.le_of_ble_eq_true rfl, Nat.le_of_ble_eq_true rfl, Nat.zero_le _, Nat.zero_le _⟩ dX9_nth_74 hS (fun z_74 E6 H locs hp hM hS => ?_)
          obtain ⟨hz74, hb1, hb2, hb3, fr⟩ := hp
          have hO1 := hO.kept hO1 (fr _ (by omega))
          have hR48 := isV.kept hR48 (fr _ (by omega)) (fr _ (by omega))
          have hfr := (fun q h => (fr q (by omega)).trans (hfr q h) : ∀ q : Nat, ((q < h + 6 ∨ h + 30 ≤ q) ∧ (q < h + 46 ∨ h + 50 ≤ q)) → E6 q = E0 q)
          have ha0 := rk.kept ha0 (fr _ (by omega))
          have ha1 := isV.kept ha1 (fr _ (by omega)) (fr _ (by omega))
          have ha2 := isV.kept ha2 (fr _ (by omega)) (fr _ (by omega))
          have ha3 := isV.kept ha3 (fr _ (by omega)) (fr _ (by omega))
          have ha4 := isV.kept ha4 (fr _ (by omega)) (fr _ (by omega))
          have ha5 := isV.kept ha5 (fr _ (by omega)) (fr _ (by omega))
          have hb0 := sk.kept hb0 (fr _ (by omega))
          have hb4 := isV.kept hb4 (fr _ (by omega)) (fr _ (by omega))
          have hb5 := isV.kept hb5 (fr _ (by omega)) (fr _ (by omega))
          have hb6 := isV.kept hb6 (fr _ (by omega)) (fr _ (by omega))
          have hz01 : z_74 = 0 ∨ z_74 = 1 := hz74.elim (fun h => Or.inr h.1) (fun h => Or.inl h.1)
          refine z_if_ne (tgt := 83) C0.1 C0.2.1 dX9_nth_77 (by decide) ⟨by omega, by omega⟩ (fun c_77 => ?_) (fun c_77 => ?_)
          · skip
            obtain ⟨hW, hnl⟩ := hz74.elim (fun h => h.2) (fun h => by omega)
            have hS1 : st G E6 h S := stB_ hSo ⟨ha0, ha1, ha2, ha3, ha4, ha5⟩ ⟨hb0, hb1, hb2, hb3, hb4, hb5, hb6⟩ ⟨hW.v, hR48⟩ (fun q h => hfr q (by omega))
            have hg := hfr
            refine lv_aload_n C0.1 C0.2.1 dX9_nth_83 rfl (lv_at hl 2 rfl) ?_
            refine lv_iload_n C0.1 C0.2.1 dX9_nth_84 rfl (lv_at hl 5 rfl) ?_
            refine lv_aload_n C0.1 C0.2.1 dX9_nth_85 rfl (lv_at hl 2 rfl) ?_
            refine mm_get (fs := [.ref (h + 1), .ref (h + 2), .ref (h + 3), .ref (h + 4), .ref (h + 6), .ref (h + 17), .ref (h + 30), .ref (h + 31), .ref (h + 46), .ref (h + 48), .int (zI (S.1.1))]) C0 (C := RX9) (T := TX9) (N := 11) iG_X9 hM (hO1) rfl 8 (by decide) tw_244 rfl rfl dX9_nth_86 ?_
            refine mm_callVi (As := [.int (zI (t)), .ref (h + 46)]) C0 vw_X9_land tw_296 (c_X9_land l G _ hS1 u hpu hi_u hW (by omega)) hM (hO1) rfl rfl hl.1 rfl (Nat.le_of_ble_eq_true rfl) ⟨rfl, rfl, Nat.le_of_ble_eq_true rfl, Nat.le_of_ble_eq_true rfl, Nat.zero_le _, Nat.zero_le _⟩ dX9_nth_89 hS (fun z9 E7 H locs hp hM hS => ?_)
            obtain ⟨hz9, hS2, -, fr⟩ := hp
            have hO1 := hO.kept hO1 (fr _ (by omega))
            have hR48 := isV.kept hR48 (fr _ (by omega)) (fr _ (by omega))
            have ha0 := rk.kept ha0 (fr _ (by omega))
            have ha1 := isV.kept ha1 (fr _ (by omega)) (fr _ (by omega))
            have ha2 := isV.kept ha2 (fr _ (by omega)) (fr _ (by omega))
            have ha3 := isV.kept ha3 (fr _ (by omega)) (fr _ (by omega))
            have ha4 := isV.kept ha4 (fr _ (by omega)) (fr _ (by omega))
            have ha5 := isV.kept ha5 (fr _ (by omega)) (fr _ (by omega))
            have hb0 := sk.kept hb0 (fr _ (by omega))
            have hb1 := isV.kept hb1 (fr _ (by omega)) (fr _ (by omega))
            have hb2 := isV.kept hb2 (fr _ (by omega)) (fr _ (by omega))
            have hb3 := isV.kept hb3 (fr _ (by omega)) (fr _ (by omega))
            have hb4 := isV.kept hb4 (fr _ (by omega)) (fr _ (by omega))
            have hb5 := isV.kept hb5 (fr _ (by omega)) (fr _ (by omega))
            have hb6 := isV.kept hb6 (fr _ (by omega)) (fr _ (by omega))
            exact mm_iret (z := z9) C0 hr hlk hM hS dX9_nth_92 (by have he : pf_nth S a b t = (lanZ (shp (S.2.1.1 i - 2) (S.2.1.2.1 i) (S.2.1.2.2 j)), lanS S u (shp (S.2.1.1 i - 2) (S.2.1.2.1 i) (S.2.1.2.2 j))) := (by unfold pf_nth; rw [if_pos (by omega), ht_i, ht_j, ht_u, if_neg (fun q => q c_33)]); rw [he]; exact ⟨hz9, hS2, fun q h => (fr q (by omega)).trans (hg q (by omega))⟩)
          · skip
            obtain ⟨hV, hnl⟩ := hz74.elim (fun h => by omega) (fun h => h.2)
            have hS1 : st G E6 h S := stB_ hSo ⟨ha0, ha1, ha2, ha3, ha4, ha5⟩ ⟨hb0, hb1, hb2, hb3, hb4, hb5, hb6⟩ ⟨hV, hR48⟩ (fun q h => hfr q (by omega))
            have hg := hfr
            refine lv_bipush (v := zI (-3)) C0.1 C0.2.1 dX9_nth_80 rfl ?_
            exact mm_iret (z := (-3)) C0 hr hlk hM hS dX9_nth_82 (by have he : pf_nth S a b t = (-3, S) := (by unfold pf_nth; rw [if_pos (by omega), ht_i, ht_j, ht_u, if_neg (fun q => q c_33), (lan_f (S := S) (i := u) hnl).1, (lan_f (S := S) (i := u) hnl).2]); rw [he]; exact ⟨rfl, hS1, fun q h => hg q (by omega)⟩)
        · skip
          refine lv_iload C0.1 C0.2.1 dX9_nth_36 (lv_at hl 0 rfl) ?_
          exact mm_iret (z := (fau2 (sFau (S.2.1.1 i)) (nFau (S.2.1.1 j)))) C0 hr hlk hM hS dX9_nth_38 (by have he : pf_nth S a b t = ((fau2 (sFau (S.2.1.1 i)) (nFau (S.2.1.1 j))), S) := (by unfold pf_nth; rw [if_pos (by omega), ht_i, ht_j, if_pos c_33]); rw [he]; exact ⟨rfl, hSo, (fun _ _ => rfl)⟩)
      · skip
        refine lv_iconst (v := zI (-1)) C0.1 C0.2.1 dX9_nth_21 rfl ?_
        exact mm_iret (z := (-1)) C0 hr hlk hM hS dX9_nth_22 (by have he : pf_nth S a b t = ((-1), S) := (by unfold pf_nth; rw [if_neg (by omega)]); rw [he]; exact ⟨rfl, hSo, (fun _ _ => rfl)⟩)

def rX9_which : Room := { frames := 7, cells := 0, slots := 0, locals := 178 }
theorem vw_X9_which : mm_Vw RX9 yX9_which cX9_which 6 (some .int) 3 := ⟨tw_524, tw_525, tw_1, tw_526, by decide +kernel⟩
set_option maxHeartbeats 4000000 in
set_option maxRecDepth 100000 in
theorem c_X9_which (l : Launch) (G : mG) (E0 : mE) {h : Nat} {S : mST} (hS9 : st G E0 h S) {a b t : Int} (hr_a : rI a) (hr_b : rI b) (hr_t : rI t) : mm_Ci l yX9_which (.code yX9_which cX9_which 6 (some .int) :: wsG) rX9_which G [.ref (h), .int (zI (a)), .int (zI (b)), .int (zI (t))] E0 (fun z E => z = (pf_which S a b t).1 ∧ st G E h (pf_which S a b t).2 ∧ ∀ q : Nat, (q < h ∨ h + 106 ≤ q) → E q = E0 q) := by
  refine mm_of_i (by decide +kernel) (Nat.le_of_ble_eq_true rfl) ?_
  intro p e s m args below meth c ls C0 hr hlk hM hl hS
  have hl : lv_has ls 6 [(0, .ref (h)), (1, .int (zI (a))), (2, .int (zI (b))), (3, .int (zI (t)))] := hl
  obtain ⟨hr_a1, hr_a2⟩ := hr_a
  obtain ⟨hr_b1, hr_b2⟩ := hr_b
  obtain ⟨hr_t1, hr_t2⟩ := hr_t
  have hSo := hS9
  obtain ⟨⟨hO1, ⟨f1, f2, f3, hr1, hr2, hr3, hf1, hf2, hf3⟩, ⟨hTp, hTk⟩, ⟨hPl, hPk⟩, ⟨hKl, hKk⟩, ⟨hSh, hSk⟩⟩, hSc⟩ := hS9
  obtain ⟨ha0, ha1, ha2, ha3, ha4, ha5⟩ := hSo.2.1
  obtain ⟨hR46, hR48⟩ := hSo.2.2.2.2.2
  obtain ⟨hb0, hb1, hb2, hb3, hb4, hb5, hb6⟩ := hSo.2.2.1
  have hfr : ∀ q : Nat, ((q < h + 6 ∨ h + 30 ≤ q) ∧ (q < h + 46 ∨ h + 50 ≤ q)) → E0 q = E0 q := fun _ _ => rfl
  refine lv_iload_n C0.1 C0.2.1 dX9_which_0 rfl (lv_at hl 1 rfl) ?_
  refine mm_callSi (As := [.int (zI (a))]) C0 sw_X9_isPlace tw_274 (c_X9_isPlace l G _ (i := a) ⟨by omega, by omega⟩) hM rfl hl.1 rfl (Nat.le_of_ble_eq_true rfl) ⟨rfl, rfl, Nat.le_of_ble_eq_true rfl, Nat.le_of_ble_eq_true rfl, Nat.zero_le _, Nat.zero_le _⟩ dX9_which_1 hS (fun z_1 E1 H locs hp hM hS => ?_)
  obtain ⟨hz_1, hEq⟩ := hp
  rw [hEq] at hM
  have hz_1b := if01 hz_1
  refine z_if_eq (tgt := 21) C0.1 C0.2.1 dX9_which_4 (by decide) ⟨by omega, by omega⟩ (fun c_4 => ?_) (fun c_4 => ?_)
  · skip
    refine lv_iconst (v := zI (-1)) C0.1 C0.2.1 dX9_which_21 rfl ?_
    exact mm_iret (z := (-1)) C0 hr hlk hM hS dX9_which_22 (by have he : pf_which S a b t = ((-1), S) := (by unfold pf_which; rw [if_neg (by omega)]); rw [he]; exact ⟨rfl, hSo, (fun _ _ => rfl)⟩)
  · skip
    refine lv_iload_n C0.1 C0.2.1 dX9_which_7 rfl (lv_at hl 2 rfl) ?_
    refine mm_callSi (As := [.int (zI (b))]) C0 sw_X9_isPlace tw_274 (c_X9_isPlace l G _ (i := b) ⟨by omega, by omega⟩) hM rfl hl.1 rfl (Nat.le_of_ble_eq_true rfl) ⟨rfl, rfl, Nat.le_of_ble_eq_true rfl, Nat.le_of_ble_eq_true rfl, Nat.zero_le _, Nat.zero_le _⟩ dX9_which_8 hS (fun z_8 E2 H locs hp hM hS => ?_)
    obtain ⟨hz_8, hEq⟩ := hp
    rw [hEq] at hM
    have hz_8b := if01 hz_8
    refine z_if_eq (tgt := 21) C0.1 C0.2.1 dX9_which_11 (by decide) ⟨by omega, by omega⟩ (fun c_11 => ?_) (fun c_11 => ?_)
    · skip
      refine lv_iconst (v := zI (-1)) C0.1 C0.2.1 dX9_which_21 rfl ?_
      exact mm_iret (z := (-1)) C0 hr hlk hM hS dX9_which_22 (by have he : pf_which S a b t = ((-1), S) := (by unfold pf_which; rw [if_neg (by omega)]); rw [he]; exact ⟨rfl, hSo, (fun _ _ => rfl)⟩)
    · skip
      refine lv_iload_n C0.1 C0.2.1 dX9_which_14 rfl (lv_at hl 3 rfl) ?_
      refine mm_callSi (As := [.int (zI (t))]) C0 sw_X9_isPlace tw_274 (c_X9_isPlace l G _ (i := t) ⟨by omega, by omega⟩) hM rfl hl.1 rfl (Nat.le_of_ble_eq_true rfl) ⟨rfl, rfl, Nat.le_of_ble_eq_true rfl, Nat.le_of_ble_eq_true rfl, Nat.zero_le _, Nat.zero_le _⟩ dX9_which_15 hS (fun z_15 E3 H locs hp hM hS => ?_)
      obtain ⟨hz_15, hEq⟩ := hp
      rw [hEq] at hM
      have hz_15b := if01 hz_15
      refine z_if_ne (tgt := 23) C0.1 C0.2.1 dX9_which_18 (by decide) ⟨by omega, by omega⟩ (fun c_18 => ?_) (fun c_18 => ?_)
      · skip
        obtain ⟨i, hpi⟩ : ∃ i : Nat, a = (i : Int) := ⟨(a).toNat, by omega⟩
        have hi_i : i < 8 := by omega
        have ht_i : (a).toNat = i := by omega
        obtain ⟨hp_i, hw_i⟩ := hPl i hi_i
        obtain ⟨ho_i1, ho_i2, ho_i3, ho_i4⟩ := hPk i hi_i
        obtain ⟨j, hpj⟩ : ∃ j : Nat, b = (j : Int) := ⟨(b).toNat, by omega⟩
        have hi_j : j < 8 := by omega
        have ht_j : (b).toNat = j := by omega
        obtain ⟨hp_j, hw_j⟩ := hPl j hi_j
        obtain ⟨ho_j1, ho_j2, ho_j3, ho_j4⟩ := hPk j hi_j
        obtain ⟨u, hpu⟩ : ∃ u : Nat, t = (u : Int) := ⟨(t).toNat, by omega⟩
        have hi_u : u < 8 := by omega
        have ht_u : (t).toNat = u := by omega
        refine lv_aload_n C0.1 C0.2.1 dX9_which_23 rfl (lv_at hl 0 rfl) ?_
        refine lv_iload_n C0.1 C0.2.1 dX9_which_24 rfl (lv_at hl 1 rfl) ?_
        refine lv_iload_n C0.1 C0.2.1 dX9_which_25 rfl (lv_at hl 2 rfl) ?_
        refine mm_callVi (As := [.int (zI (a)), .int (zI (b))]) C0 vw_X9_shapeAndNumberFault tw_491 (c_X9_shapeAndNumberFault l G _ hSo i j hpi hpj hi_i hi_j) hM (hO1) rfl rfl hl.1 rfl (Nat.le_of_ble_eq_true rfl) ⟨rfl, rfl, Nat.le_of_ble_eq_true rfl, Nat.le_of_ble_eq_true rfl, Nat.zero_le _, Nat.zero_le _⟩ dX9_which_26 hS (fun z_26 E4 H locs hp hM hS => ?_)
        obtain ⟨hz_26, hEq⟩ := hp
        rw [hEq] at hM
        refine z_asI (b := (fau2 (sFau (S.2.1.1 i)) (nFau (S.2.1.1 j)))) (hz_26) ?_
        obtain ⟨hfb1, hfb2⟩ := fau2_b (sFau_b (S.2.1.1 i)) (nFau_b (S.2.1.1 j))
        refine lv_istore (lv' := [(4, .int (zI ((fau2 (sFau (S.2.1.1 i)) (nFau (S.2.1.1 j)))))), (0, .ref (h)), (1, .int (zI (a))), (2, .int (zI (b))), (3, .int (zI (t)))]) C0.1 C0.2.1 dX9_which_29 hl (by decide) rfl (fun ls hl => ?_)
        refine lv_iload C0.1 C0.2.1 dX9_which_31 (lv_at hl 0 rfl) ?_
        refine z_if_eq (tgt := 39) C0.1 C0.2.1 dX9_which_33 (by decide) ⟨by omega, by omega⟩ (fun c_33 => ?_) (fun c_33 => ?_)
        · skip
          have hf0 := fau2_0 c_33
          have hwi := sFau_0 hf0.1
          refine lv_aload_n C0.1 C0.2.1 dX9_which_39 rfl (lv_at hl 1 rfl) ?_
          refine mm_get (fs := [.ref (h + 1), .ref (h + 2), .ref (h + 3), .ref (h + 4), .ref (h + 6), .ref (h + 17), .ref (h + 30), .ref (h + 31), .ref (h + 46), .ref (h + 48), .int (zI (S.1.1))]) C0 (C := RX9) (T := TX9) (N := 11) iG_X9 hM (hO1) rfl 0 (by decide) tw_236 rfl rfl dX9_which_40 ?_
          refine lv_iload_n C0.1 C0.2.1 dX9_which_43 rfl (lv_at hl 2 rfl) ?_
          refine mm_aald C0 hM 2 (C := "OrangeHeaps$Place") (hr1) rfl (i) (i := a) (by omega) (by omega) (by decide) (v := h + 50 + 6 * i) (hf1 _ (by omega)) dX9_which_44 ?_
          refine lv_astore (lv' := [(5, .ref (h + 50 + 6 * i)), (4, .int (zI ((fau2 (sFau (S.2.1.1 i)) (nFau (S.2.1.1 j)))))), (0, .ref (h)), (1, .int (zI (a))), (2, .int (zI (b))), (3, .int (zI (t)))]) C0.1 C0.2.1 dX9_which_45 hl (by decide) rfl (fun ls hl => ?_)
          refine lv_aload_n C0.1 C0.2.1 dX9_which_47 rfl (lv_at hl 2 rfl) ?_
          refine mm_get (fs := [.ref (h + 1), .ref (h + 2), .ref (h + 3), .ref (h + 4), .ref (h + 6), .ref (h + 17), .ref (h + 30), .ref (h + 31), .ref (h + 46), .ref (h + 48), .int (zI (S.1.1))]) C0 (C := RX9) (T := TX9) (N := 11) iG_X9 hM (hO1) rfl 5 (by decide) tw_241 rfl rfl dX9_which_48 ?_
          refine lv_aload C0.1 C0.2.1 dX9_which_51 (lv_at hl 0 rfl) ?_
          refine mm_callVi (As := []) C0 vw_X3_kind tw_499 (c_X3_kind l G _ hp_i) hM (hp_i) rfl rfl hl.1 rfl (Nat.le_of_ble_eq_true rfl) ⟨rfl, rfl, Nat.le_of_ble_eq_true rfl, Nat.le_of_ble_eq_true rfl, Nat.zero_le _, Nat.zero_le _⟩ dX9_which_53 hS (fun z_53 E5 H locs hp hM hS => ?_)
          obtain ⟨hz_53, hEq⟩ := hp
          rw [hEq] at hM
          refine z_asI (b := ((S.2.1.1 i - 2 : Nat) : Int)) (hz_53.trans (by omega)) ?_
          refine lv_aload C0.1 C0.2.1 dX9_which_56 (lv_at hl 0 rfl) ?_
          refine mm_get (fs := [.int (zI (((S.2.1.1 i : Nat) : Int))), .int (zI (((S.2.1.2.1 i : Nat) : Int))), .ref (h + 50 + 6 * i + 1)]) C0 (C := RX3) (T := TX3) (N := 3) iG_X3 hM (hp_i) rfl 1 (by decide) tw_210 rfl rfl dX9_which_58 ?_
          refine lv_aload_n C0.1 C0.2.1 dX9_which_61 rfl (lv_at hl 2 rfl) ?_
          refine mm_get (fs := [.ref (h + 1), .ref (h + 2), .ref (h + 3), .ref (h + 4), .ref (h + 6), .ref (h + 17), .ref (h + 30), .ref (h + 31), .ref (h + 46), .ref (h + 48), .int (zI (S.1.1))]) C0 (C := RX9) (T := TX9) (N := 11) iG_X9 hM (hO1) rfl 0 (by decide) tw_236 rfl rfl dX9_which_62 ?_
          refine lv_iload_n C0.1 C0.2.1 dX9_which_65 rfl (lv_at hl 4 rfl) ?_
          refine mm_aald C0 hM 2 (C := "OrangeHeaps$Place") (hr1) rfl (j) (i := b) (by omega) (by omega) (by decide) (v := h + 50 + 6 * j) (hf1 _ (by omega)) dX9_which_66 ?_
          refine mm_get (fs := [.int (zI (((S.2.1.1 j : Nat) : Int))), .int (zI (((S.2.1.2.1 j : Nat) : Int))), .ref (h + 50 + 6 * j + 1)]) C0 (C := RX3) (T := TX3) (N := 3) iG_X3 hM (hp_j) rfl 2 (by decide) tw_212 rfl rfl dX9_which_67 ?_
          refine lv_aload_n C0.1 C0.2.1 dX9_which_70 rfl (lv_at hl 2 rfl) ?_
          refine mm_get (fs := [.ref (h + 1), .ref (h + 2), .ref (h + 3), .ref (h + 4), .ref (h + 6), .ref (h + 17), .ref (h + 30), .ref (h + 31), .ref (h + 46), .ref (h + 48), .int (zI (S.1.1))]) C0 (C := RX9) (T := TX9) (N := 11) iG_X9 hM (hO1) rfl 8 (by decide) tw_244 rfl rfl dX9_which_71 ?_
          refine mm_callVi (As := [.int (zI (((S.2.1.1 i - 2 : Nat) : Int))), .int (zI (((S.2.1.2.1 i : Nat) : Int))), .ref (h + 50 + 6 * j + 1), .ref (h + 46)]) C0 vw_X5_find tw_527 (c_X5_find l G _ (S.2.1.1 i - 2) (S.2.1.2.1 i) (by omega) (by omega) (by omega) hb0 ha0 hb1 hb2 hb3 hb4 hb5 hb6 ha1 ha2 ha3 ha4 ha5 hw_j hR46 (by omega) (by omega) (by omega) (by omega) ho_j4) hM (hb0) rfl rfl hl.1 rfl (Nat.le_of_ble_eq_true rfl) ⟨rfl, rfl, Nat.le_of_ble_eq_true rfl, Nat.le_of_ble_eq_true rfl, Nat.zero_le _, Nat.zero_le _⟩ dX9_which_74 hS (fun z_74 E6 H locs hp hM hS => ?_)
          obtain ⟨hz74, hb1, hb2, hb3, hb4, hb5, hb6, ha1, ha2, ha3, ha4, ha5, fr⟩ := hp
          have hO1 := hO.kept hO1 (fr _ (by omega))
          have hR48 := isV.kept hR48 (fr _ (by omega)) (fr _ (by omega))
          have hfr := (fun q h => (fr q (by omega)).trans (hfr q h) : ∀ q : Nat, ((q < h + 6 ∨ h + 30 ≤ q) ∧ (q < h + 46 ∨ h + 50 ≤ q)) → E6 q = E0 q)
          have ha0 := rk.kept ha0 (fr _ (by omega))
          have hb0 := sk.kept hb0 (fr _ (by omega))
          have hz01 : z_74 = 0 ∨ z_74 = 1 := hz74.elim (fun ⟨_, h, _⟩ => Or.inr h) (fun h => Or.inl h.1)
          refine z_if_ne (tgt := 82) C0.1 C0.2.1 dX9_which_77 (by decide) ⟨by omega, by omega⟩ (fun c_77 => ?_) (fun c_77 => ?_)
          · skip
            obtain ⟨x, hW, hsx⟩ : ∃ x, isW G E6 (h + 46) x ∧ shp (S.2.1.1 i - 2) (S.2.1.2.1 i) x = S.2.1.2.2 j := hz74.elim (fun ⟨x, _, h1, h2⟩ => ⟨x, h1, h2⟩) (fun h => by omega)
            have hS1 : st G E6 h S := stB_ hSo ⟨ha0, ha1, ha2, ha3, ha4, ha5⟩ ⟨hb0, hb1, hb2, hb3, hb4, hb5, hb6⟩ ⟨hW.v, hR48⟩ (fun q h => hfr q (by omega))
            have hg := hfr
            refine lv_aload_n C0.1 C0.2.1 dX9_which_82 rfl (lv_at hl 2 rfl) ?_
            refine lv_iload_n C0.1 C0.2.1 dX9_which_83 rfl (lv_at hl 5 rfl) ?_
            refine lv_aload_n C0.1 C0.2.1 dX9_which_84 rfl (lv_at hl 2 rfl) ?_
            refine mm_get (fs := [.ref (h + 1), .ref (h + 2), .ref (h + 3), .ref (h + 4), .ref (h + 6), .ref (h + 17), .ref (h + 30), .ref (h + 31), .ref (h + 46), .ref (h + 48), .int (zI (S.1.1))]) C0 (C := RX9) (T := TX9) (N := 11) iG_X9 hM (hO1) rfl 8 (by decide) tw_244 rfl rfl dX9_which_85 ?_
            refine mm_callVi (As := [.int (zI (t)), .ref (h + 46)]) C0 vw_X9_land tw_296 (c_X9_land l G _ hS1 u hpu hi_u hW (by omega)) hM (hO1) rfl rfl hl.1 rfl (Nat.le_of_ble_eq_true rfl) ⟨rfl, rfl, Nat.le_of_ble_eq_true rfl, Nat.le_of_ble_eq_true rfl, Nat.zero_le _, Nat.zero_le _⟩ dX9_which_88 hS (fun z9 E7 H locs hp hM hS => ?_)
            obtain ⟨hz9, hS2, -, fr⟩ := hp
            have hO1 := hO.kept hO1 (fr _ (by omega))
            have hR48 := isV.kept hR48 (fr _ (by omega)) (fr _ (by omega))
            have ha0 := rk.kept ha0 (fr _ (by omega))
            have ha1 := isV.kept ha1 (fr _ (by omega)) (fr _ (by omega))
            have ha2 := isV.kept ha2 (fr _ (by omega)) (fr _ (by omega))
            have ha3 := isV.kept ha3 (fr _ (by omega)) (fr _ (by omega))
            have ha4 := isV.kept ha4 (fr _ (by omega)) (fr _ (by omega))
            have ha5 := isV.kept ha5 (fr _ (by omega)) (fr _ (by omega))
            have hb0 := sk.kept hb0 (fr _ (by omega))
            have hb1 := isV.kept hb1 (fr _ (by omega)) (fr _ (by omega))
            have hb2 := isV.kept hb2 (fr _ (by omega)) (fr _ (by omega))
            have hb3 := isV.kept hb3 (fr _ (by omega)) (fr _ (by omega))
            have hb4 := isV.kept hb4 (fr _ (by omega)) (fr _ (by omega))
            have hb5 := isV.kept hb5 (fr _ (by omega)) (fr _ (by omega))
            have hb6 := isV.kept hb6 (fr _ (by omega)) (fr _ (by omega))
            refine lv_pop C0.1 C0.2.1 dX9_which_91 rfl ?_
            refine lv_iconst (v := zI 1) C0.1 C0.2.1 dX9_which_92 rfl ?_
            exact mm_iret (z := 1) C0 hr hlk hM hS dX9_which_93 (by have he : pf_which S a b t = (1, lanS S u x) := (by rw [which_y (x := x) (by omega) (by rw [ht_i, ht_j]; exact c_33) (by rw [ht_i]; omega) (by rw [ht_i]; omega) (by rw [ht_i, ht_j]; exact hsx), ht_u]); rw [he]; exact ⟨rfl, hS2, fun q h => (fr q (by omega)).trans (hg q (by omega))⟩)
          · skip
            obtain ⟨hV, hnl⟩ : isV G E6 (h + 46) ∧ ∀ x, shp (S.2.1.1 i - 2) (S.2.1.2.1 i) x ≠ S.2.1.2.2 j := hz74.elim (fun ⟨_, h, _⟩ => by omega) (fun h => h.2)
            have hS1 : st G E6 h S := stB_ hSo ⟨ha0, ha1, ha2, ha3, ha4, ha5⟩ ⟨hb0, hb1, hb2, hb3, hb4, hb5, hb6⟩ ⟨hV, hR48⟩ (fun q h => hfr q (by omega))
            have hg := hfr
            refine lv_iconst (v := zI 0) C0.1 C0.2.1 dX9_which_80 rfl ?_
            exact mm_iret (z := 0) C0 hr hlk hM hS dX9_which_81 (by have he : pf_which S a b t = (0, S) := (by rw [which_n (by omega) (by rw [ht_i, ht_j]; exact c_33) (by rw [ht_i, ht_j]; exact hnl)]); rw [he]; exact ⟨rfl, hS1, fun q h => hg q (by omega)⟩)
        · skip
          refine lv_iload C0.1 C0.2.1 dX9_which_36 (lv_at hl 0 rfl) ?_
          exact mm_iret (z := (fau2 (sFau (S.2.1.1 i)) (nFau (S.2.1.1 j)))) C0 hr hlk hM hS dX9_which_38 (by have he : pf_which S a b t = ((fau2 (sFau (S.2.1.1 i)) (nFau (S.2.1.1 j))), S) := (by unfold pf_which; rw [if_pos (by omega), ht_i, ht_j, if_pos c_33]); rw [he]; exact ⟨rfl, hSo, (fun _ _ => rfl)⟩)
      · skip
        refine lv_iconst (v := zI (-1)) C0.1 C0.2.1 dX9_which_21 rfl ?_
        exact mm_iret (z := (-1)) C0 hr hlk hM hS dX9_which_22 (by have he : pf_which S a b t = ((-1), S) := (by unfold pf_which; rw [if_neg (by omega)]); rw [he]; exact ⟨rfl, hSo, (fun _ _ => rfl)⟩)
