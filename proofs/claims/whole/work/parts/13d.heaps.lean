theorem rdT_r {B : Nat → Int} : ∀ r i cnt N : Nat, i + r ≤ 100 → -120 ≤ (rdT B r i cnt N).1 ∧ (rdT B r i cnt N).1 ≤ 0
  | 0, i, cnt, N, h => by rw [rdT_0]; show -120 ≤ (if cnt = 0 then -20 - (i : Int) else 0) ∧ (if cnt = 0 then -20 - (i : Int) else 0) ≤ 0; split <;> omega
  | r + 1, i, cnt, N, h => by
    rw [rdT]; split
    · exact rdT_r r (i + 1) cnt N (by omega)
    · split
      · show -120 ≤ -20 - (i : Int) ∧ -20 - (i : Int) ≤ 0; omega
      · exact rdT_r r (i + 1) (cnt + 1) _ (by omega)
theorem stA_ {G : mG} {E E1 : mE} {h : Nat} {S : mST} (a : st G E h S) (sA : scA G E1 h) (sR : scR G E1 h) (fr : ∀ q, ((q < h + 6 ∨ h + 17 ≤ q) ∧ (q < h + 46 ∨ h + 50 ≤ q)) → E1 q = E q) : st G E1 h S := ⟨a.1.kept (fun q h => fr q (by omega)), sA, a.2.2.1.kept (fun q h => fr q (by omega)), a.2.2.2.1.kept (fr _ (by omega)), a.2.2.2.2.1.kept (fun q h => fr q (by omega)), sR⟩
theorem stB_ {G : mG} {E E1 : mE} {h : Nat} {S : mST} (a : st G E h S) (sA : scA G E1 h) (sB : scB G E1 h) (sR : scR G E1 h) (fr : ∀ q, ((q < h + 6 ∨ h + 30 ≤ q) ∧ (q < h + 46 ∨ h + 50 ≤ q)) → E1 q = E q) : st G E1 h S := ⟨a.1.kept (fun q h => fr q (by omega)), sA, sB, a.2.2.2.1.kept (fr _ (by omega)), a.2.2.2.2.1.kept (fun q h => fr q (by omega)), sR⟩
theorem stD_ {G : mG} {E E1 : mE} {h : Nat} {S : mST} (a : st G E h S) (sC : scC G E1 h) (sD : scD G E1 h) (sR : scR G E1 h) (fr : ∀ q, (q < h + 30 ∨ h + 50 ≤ q) → E1 q = E q) : st G E1 h S := ⟨a.1.kept (fun q h => fr q (by omega)), a.2.1.kept (fun q h => fr q (by omega)), a.2.2.1.kept (fun q h => fr q (by omega)), sC, sD, sR⟩
theorem fau2_b {a b : Int} (h1 : -12 ≤ a ∧ a ≤ 0) (h2 : -12 ≤ b ∧ b ≤ 0) : -12 ≤ fau2 a b ∧ fau2 a b ≤ 0 := by unfold fau2; split <;> omega
theorem rt_nl2 {N x : Nat} (h : rtP 2 N x) : nl x ≤ nl N := by
  refine nl_mono ?_
  have := h.1
  rw [Nat.pow_two] at this
  rcases Nat.eq_zero_or_pos x with q | q
  · omega
  · have := Nat.mul_le_mul_left x q; omega
theorem lan_f {S : mST} {i n : Nat} (h : 24 < nl n) : lanZ n = -3 ∧ lanS S i n = S := ⟨if_pos h, if_pos h⟩
theorem sFau_0 {w : Nat} (h : sFau w = 0) : 2 ≤ w := by unfold sFau at h; split at h <;> (try split at h) <;> omega
theorem nFau_0 {w : Nat} (h : nFau w = 0) : w = 1 := by unfold nFau at h; split at h <;> (try split at h) <;> omega
theorem fau2_0 {a b : Int} (h : fau2 a b = 0) : a = 0 ∧ b = 0 := by unfold fau2 at h; split at h <;> omega
noncomputable def pf_which (S : mST) (s_ n t : Int) : Int × mST := if inP s_ ∧ inP n ∧ inP t then (if fau2 (sFau (S.2.1.1 s_.toNat)) (nFau (S.2.1.1 n.toNat)) ≠ 0 then (fau2 (sFau (S.2.1.1 s_.toNat)) (nFau (S.2.1.1 n.toNat)), S) else @dite _ (∃ x, shp (S.2.1.1 s_.toNat - 2) (S.2.1.2.1 s_.toNat) x = S.2.1.2.2 n.toNat) (Classical.propDecidable _) (fun h => (1, lanS S t.toNat h.choose)) (fun _ => (0, S))) else (-1, S)
def rX9_type : Room := { frames := 1, cells := 0, slots := 0, locals := 25 }
theorem vw_X9_type : mm_Vw RX9 yX9_type cX9_type 4 (some .int) 2 := ⟨tw_338, tw_339, tw_1, tw_340, by decide +kernel⟩
set_option maxHeartbeats 4000000 in
set_option maxRecDepth 100000 in
theorem c_X9_type (l : Launch) (G : mG) (E0 : mE) {h : Nat} {S : mST} (hS9 : st G E0 h S) {w n : Int} (hr_w : rL w) (hr_n : rI n) : mm_Ci l yX9_type (.code yX9_type cX9_type 4 (some .int) :: wsG) rX9_type G [.ref (h), .long (zL (w)), .int (zI (n))] E0 (fun z E => z = (pf_type S w n).1 ∧ st G E h (pf_type S w n).2 ∧ ∀ q : Nat, (q < h ∨ h + 106 ≤ q) → E q = E0 q) := by
  refine mm_of_i (by decide +kernel) (Nat.le_of_ble_eq_true rfl) ?_
  intro p e s m args below meth c ls C0 hr hlk hM hl hS
  have hl : lv_has ls 4 [(0, .ref (h)), (1, .long (zL (w))), (3, .int (zI (n)))] := hl
  obtain ⟨hr_w1, hr_w2⟩ := hr_w
  obtain ⟨hr_n1, hr_n2⟩ := hr_n
  have hSo := hS9
  obtain ⟨⟨hO1, ⟨f1, f2, f3, hr1, hr2, hr3, hf1, hf2, hf3⟩, ⟨hTp, hTk⟩, ⟨hPl, hPk⟩, ⟨hKl, hKk⟩, ⟨hSh, hSk⟩⟩, hSc⟩ := hS9
  obtain ⟨ta, tv, tkd, tk, tn, trd, hT9, htk0, htk1⟩ := hTp
  have hL9 := hTk.1
  refine lv_iload_n C0.1 C0.2.1 dX9_type_0 rfl (lv_at hl 2 rfl) ?_
  refine lv_iconst (v := zI 1) C0.1 C0.2.1 dX9_type_1 rfl ?_
  refine z_icmp_lt (tgt := 19) C0.1 C0.2.1 dX9_type_2 (by decide) ⟨by omega, by omega⟩ ⟨by omega, by omega⟩ (fun c_2 => ?_) (fun c_2 => ?_)
  · skip
    refine lv_iconst (v := zI (-1)) C0.1 C0.2.1 dX9_type_19 rfl ?_
    exact mm_iret (z := (-1)) C0 hr hlk hM hS dX9_type_20 (by have he : pf_type S w n = (-1, S) := (by unfold pf_type; rw [if_neg (fun q => by have q1 := q.1; omega)]); rw [he]; exact ⟨rfl, hSo, fun _ _ => rfl⟩)
  · skip
    refine lv_iload_n C0.1 C0.2.1 dX9_type_5 rfl (lv_at hl 2 rfl) ?_
    refine lv_bipush (v := zI 8) C0.1 C0.2.1 dX9_type_6 rfl ?_
    refine z_icmp_gt (tgt := 19) C0.1 C0.2.1 dX9_type_8 (by decide) ⟨by omega, by omega⟩ ⟨by omega, by omega⟩ (fun c_8 => ?_) (fun c_8 => ?_)
    · skip
      refine lv_iconst (v := zI (-1)) C0.1 C0.2.1 dX9_type_19 rfl ?_
      exact mm_iret (z := (-1)) C0 hr hlk hM hS dX9_type_20 (by have he : pf_type S w n = (-1, S) := (by unfold pf_type; rw [if_neg (fun q => by have q1 := q.1; omega)]); rw [he]; exact ⟨rfl, hSo, fun _ _ => rfl⟩)
    · skip
      refine lv_lload_n C0.1 C0.2.1 dX9_type_11 rfl (lv_at hl 1 rfl) ?_
      refine lv_iload_n C0.1 C0.2.1 dX9_type_12 rfl (lv_at hl 2 rfl) ?_
      refine z_asI (a := n) (b := (n.toNat : Int)) (by omega) ?_
      refine mm_callSi (As := [.long (zL (w)), .int (zI ((n.toNat : Int)))]) C0 sw_X7_allTypable tw_341 (c_X7_allTypable l G _ ⟨hr_w1, hr_w2⟩ (by omega)) hM rfl hl.1 rfl (Nat.le_of_ble_eq_true rfl) ⟨rfl, rfl, Nat.le_of_ble_eq_true rfl, Nat.le_of_ble_eq_true rfl, Nat.zero_le _, Nat.zero_le _⟩ dX9_type_13 hS (fun z_13 E1 H locs hp hM hS => ?_)
      obtain ⟨hz_13, hEq⟩ := hp
      rw [hEq] at hM
      have hz01 : z_13 = 0 ∨ z_13 = 1 := hz_13.elim (fun h => Or.inr h.1) (fun h => Or.inl h.1)
      refine z_if_ne (tgt := 21) C0.1 C0.2.1 dX9_type_16 (by decide) ⟨by omega, by omega⟩ (fun c_16 => ?_) (fun c_16 => ?_)
      · skip
        have hyes : ∀ i, i < n.toNat → okB (bt w i) := hz_13.elim (fun h => h.2) (fun h => by omega)
        refine lv_iload_n C0.1 C0.2.1 dX9_type_21 rfl (lv_at hl 2 rfl) ?_
        refine lv_bipush (v := zI 100) C0.1 C0.2.1 dX9_type_22 rfl ?_
        refine lv_aload_n C0.1 C0.2.1 dX9_type_24 rfl (lv_at hl 0 rfl) ?_
        refine mm_get (fs := [.ref (h + 1), .ref (h + 2), .ref (h + 3), .ref (h + 4), .ref (h + 6), .ref (h + 17), .ref (h + 30), .ref (h + 31), .ref (h + 46), .ref (h + 48), .int (zI (S.1.1))]) C0 (C := RX9) (T := TX9) (N := 11) iG_X9 hM (hO1) rfl 3 (by decide) tw_239 rfl rfl dX9_type_25 ?_
        refine mm_get (fs := [.ref (h + 4 + 1), .int (zI (((S.1.2.2 : Nat) : Int))), .int (zI ((ta : Int))), .long (zL (tv)), .int (zI (tkd)), .int (zI (tk)), .long (zL (tn)), .long (zL (trd))]) C0 (C := RX7) (T := TX7) (N := 8) iG_X7 hM (hT9.1) rfl 1 (by decide) tw_38 rfl rfl dX9_type_28 ?_
        refine z_isub C0.1 C0.2.1 dX9_type_31 ?_
        refine z_icmp_le (tgt := 38) C0.1 C0.2.1 dX9_type_32 (by decide) ⟨by omega, by omega⟩ ⟨by omega, by omega⟩ (fun c_32 => ?_) (fun c_32 => ?_)
        · skip
          refine lv_aload_n C0.1 C0.2.1 dX9_type_38 rfl (lv_at hl 0 rfl) ?_
          refine mm_get (fs := [.ref (h + 1), .ref (h + 2), .ref (h + 3), .ref (h + 4), .ref (h + 6), .ref (h + 17), .ref (h + 30), .ref (h + 31), .ref (h + 46), .ref (h + 48), .int (zI (S.1.1))]) C0 (C := RX9) (T := TX9) (N := 11) iG_X9 hM (hO1) rfl 3 (by decide) tw_239 rfl rfl dX9_type_39 ?_
          refine lv_lload_n C0.1 C0.2.1 dX9_type_42 rfl (lv_at hl 1 rfl) ?_
          refine lv_iload_n C0.1 C0.2.1 dX9_type_43 rfl (lv_at hl 2 rfl) ?_
          refine z_asI (a := n) (b := (n.toNat : Int)) (by omega) ?_
          refine mm_callVv (As := [.long (zL (w)), .int (zI ((n.toNat : Int)))]) C0 vw_X7_append tw_347 (c_X7_append l G _ hT9 ⟨hr_w1, hr_w2⟩ (by omega) (by omega)) hM (hT9.1) rfl rfl hl.1 rfl (Nat.le_of_ble_eq_true rfl) ⟨rfl, rfl, Nat.le_of_ble_eq_true rfl, Nat.le_of_ble_eq_true rfl, Nat.zero_le _, Nat.zero_le _⟩ dX9_type_44 hS (fun E2 H locs hp hM hS => ?_)
          obtain ⟨hT9, fr⟩ := hp
          have hO1 := hO.kept hO1 (fr _ (by omega))
          refine lv_aload_n C0.1 C0.2.1 dX9_type_47 rfl (lv_at hl 0 rfl) ?_
          refine mm_get (fs := [.ref (h + 1), .ref (h + 2), .ref (h + 3), .ref (h + 4), .ref (h + 6), .ref (h + 17), .ref (h + 30), .ref (h + 31), .ref (h + 46), .ref (h + 48), .int (zI (S.1.1))]) C0 (C := RX9) (T := TX9) (N := 11) iG_X9 hM (hO1) rfl 3 (by decide) tw_239 rfl rfl dX9_type_48 ?_
          refine mm_get (fs := [.ref (h + 4 + 1), .int (zI (((S.1.2.2 + n.toNat : Nat) : Int))), .int (zI ((ta : Int))), .long (zL (tv)), .int (zI (tkd)), .int (zI (tk)), .long (zL (tn)), .long (zL (trd))]) C0 (C := RX7) (T := TX7) (N := 8) iG_X7 hM (hT9.1) rfl 1 (by decide) tw_38 rfl rfl dX9_type_51 ?_
          exact mm_iret (z := ((S.1.2.2 + n.toNat : Nat) : Int)) C0 hr hlk hM hS dX9_type_54 (by have he : pf_type S w n = (((S.1.2.2 + n.toNat : Nat) : Int), sTap S (apB w S.1.2.1 S.1.2.2 n.toNat) (S.1.2.2 + n.toNat)) := (by unfold pf_type; rw [if_pos ⟨by omega, bq_t hyes⟩, if_neg (by omega)]); rw [he]; exact ⟨rfl, hSo.tap ⟨_, _, _, _, _, _, hT9, htk0, htk1⟩ (apB_ok hTk (by omega) hyes) (fun q h => fr q (by omega)), fun q h => fr q (by omega)⟩)
        · skip
          refine lv_bipush (v := zI (-3)) C0.1 C0.2.1 dX9_type_35 rfl ?_
          exact mm_iret (z := (-3)) C0 hr hlk hM hS dX9_type_37 (by have he : pf_type S w n = (-3, S) := (by unfold pf_type; rw [if_pos ⟨by omega, bq_t hyes⟩, if_pos (by omega)]); rw [he]; exact ⟨rfl, hSo, fun _ _ => rfl⟩)
      · skip
        have hno : ¬ ∀ i, i < n.toNat → okB (bt w i) := hz_13.elim (fun h => by omega) (fun h => h.2)
        refine lv_iconst (v := zI (-1)) C0.1 C0.2.1 dX9_type_19 rfl ?_
        exact mm_iret (z := (-1)) C0 hr hlk hM hS dX9_type_20 (by have he : pf_type S w n = (-1, S) := (by unfold pf_type; rw [if_neg (fun q => hno (bq_y q.2))]); rw [he]; exact ⟨rfl, hSo, fun _ _ => rfl⟩)

def rX9_number : Room := { frames := 5, cells := 0, slots := 0, locals := 110 }
theorem vw_X9_number : mm_Vw RX9 yX9_number cX9_number 3 (some .int) 1 := ⟨tw_352, tw_353, tw_1, tw_354, by decide +kernel⟩
set_option maxHeartbeats 4000000 in
set_option maxRecDepth 100000 in
theorem c_X9_number (l : Launch) (G : mG) (E0 : mE) {h : Nat} {S : mST} (hS9 : st G E0 h S) {pp : Int} (hr_pp : rI pp) : mm_Ci l yX9_number (.code yX9_number cX9_number 3 (some .int) :: wsG) rX9_number G [.ref (h), .int (zI (pp))] E0 (fun z E => z = (pf_number S pp).1 ∧ st G E h (pf_number S pp).2 ∧ ∀ q : Nat, (q < h ∨ h + 106 ≤ q) → E q = E0 q) := by
  refine mm_of_i (by decide +kernel) (Nat.le_of_ble_eq_true rfl) ?_
  intro p e s m args below meth c ls C0 hr hlk hM hl hS
  have hl : lv_has ls 3 [(0, .ref (h)), (1, .int (zI (pp)))] := hl
  obtain ⟨hr_pp1, hr_pp2⟩ := hr_pp
  have hSo := hS9
  obtain ⟨⟨hO1, ⟨f1, f2, f3, hr1, hr2, hr3, hf1, hf2, hf3⟩, ⟨hTp, hTk⟩, ⟨hPl, hPk⟩, ⟨hKl, hKk⟩, ⟨hSh, hSk⟩⟩, hSc⟩ := hS9
  obtain ⟨ta, tv, tkd, tk, tn, trd, hT9, htk0, htk1⟩ := hTp
  have hL9 := hTk.1
  have hR46 := hSc.2.2.2.2.1
  have hR48 := hSc.2.2.2.2.2
  refine lv_iload_n C0.1 C0.2.1 dX9_number_0 rfl (lv_at hl 1 rfl) ?_
  refine mm_callSi (As := [.int (zI (pp))]) C0 sw_X9_isPlace tw_274 (c_X9_isPlace l G _ (i := pp) ⟨by omega, by omega⟩) hM rfl hl.1 rfl (Nat.le_of_ble_eq_true rfl) ⟨rfl, rfl, Nat.le_of_ble_eq_true rfl, Nat.le_of_ble_eq_true rfl, Nat.zero_le _, Nat.zero_le _⟩ dX9_number_1 hS (fun z_1 E1 H locs hp hM hS => ?_)
  obtain ⟨hz_1, hEq⟩ := hp
  rw [hEq] at hM
  have hz_1b := if01 hz_1
  refine z_if_ne (tgt := 9) C0.1 C0.2.1 dX9_number_4 (by decide) ⟨by omega, by omega⟩ (fun c_4 => ?_) (fun c_4 => ?_)
  · skip
    refine lv_aload_n C0.1 C0.2.1 dX9_number_9 rfl (lv_at hl 0 rfl) ?_
    refine mm_get (fs := [.ref (h + 1), .ref (h + 2), .ref (h + 3), .ref (h + 4), .ref (h + 6), .ref (h + 17), .ref (h + 30), .ref (h + 31), .ref (h + 46), .ref (h + 48), .int (zI (S.1.1))]) C0 (C := RX9) (T := TX9) (N := 11) iG_X9 hM (hO1) rfl 3 (by decide) tw_239 rfl rfl dX9_number_10 ?_
    refine lv_aload_n C0.1 C0.2.1 dX9_number_13 rfl (lv_at hl 0 rfl) ?_
    refine mm_get (fs := [.ref (h + 1), .ref (h + 2), .ref (h + 3), .ref (h + 4), .ref (h + 6), .ref (h + 17), .ref (h + 30), .ref (h + 31), .ref (h + 46), .ref (h + 48), .int (zI (S.1.1))]) C0 (C := RX9) (T := TX9) (N := 11) iG_X9 hM (hO1) rfl 8 (by decide) tw_244 rfl rfl dX9_number_14 ?_
    refine lv_aload_n C0.1 C0.2.1 dX9_number_17 rfl (lv_at hl 0 rfl) ?_
    refine mm_get (fs := [.ref (h + 1), .ref (h + 2), .ref (h + 3), .ref (h + 4), .ref (h + 6), .ref (h + 17), .ref (h + 30), .ref (h + 31), .ref (h + 46), .ref (h + 48), .int (zI (S.1.1))]) C0 (C := RX9) (T := TX9) (N := 11) iG_X9 hM (hO1) rfl 9 (by decide) tw_245 rfl rfl dX9_number_18 ?_
    refine mm_callVi (As := [.ref (h + 46), .ref (h + 48)]) C0 vw_X7_readText tw_355 (c_X7_readText l G _ hT9 hTk hR46 hR48 (by omega) (by omega) (by omega)) hM (hT9.1) rfl rfl hl.1 rfl (Nat.le_of_ble_eq_true rfl) ⟨rfl, rfl, Nat.le_of_ble_eq_true rfl, Nat.le_of_ble_eq_true rfl, Nat.zero_le _, Nat.zero_le _⟩ dX9_number_21 hS (fun z21 E2 H locs hp hM hS => ?_)
    obtain ⟨hz21, hO9, hW9, fr⟩ := hp
    have hO1 := hO.kept hO1 (fr _ (by omega))
    have hT9 := tp.kept hT9 (fr _ (by omega)) (fr _ (by omega))
    have hzr := rdT_r (B := S.1.2.1) S.1.2.2 0 0 0 (by omega)
    obtain ⟨hzr1, hzr2⟩ := hzr
    have hS0 : st G E2 h S := stA_ hSo (hSo.2.1.kept (fun q _ => fr q (by omega))) ⟨hO9.v, hW9⟩ (fun q _ => fr q (by omega))
    have hfr := fr
    refine lv_istore_n (lv' := [(2, .int (zI (z21))), (0, .ref (h)), (1, .int (zI (pp)))]) C0.1 C0.2.1 dX9_number_24 rfl hl (by decide) rfl (fun ls hl => ?_)
    refine lv_aload_n C0.1 C0.2.1 dX9_number_25 rfl (lv_at hl 1 rfl) ?_
    refine mm_get (fs := [.ref (h + 1), .ref (h + 2), .ref (h + 3), .ref (h + 4), .ref (h + 6), .ref (h + 17), .ref (h + 30), .ref (h + 31), .ref (h + 46), .ref (h + 48), .int (zI (S.1.1))]) C0 (C := RX9) (T := TX9) (N := 11) iG_X9 hM (hO1) rfl 3 (by decide) tw_239 rfl rfl dX9_number_26 ?_
    refine lv_iconst (v := zI 0) C0.1 C0.2.1 dX9_number_29 rfl ?_
    refine mm_put (v := .int (zI (0))) (fs := [.ref (h + 4 + 1), .int (zI (((S.1.2.2 : Nat) : Int))), .int (zI ((ta : Int))), .long (zL (tv)), .int (zI (tkd)), .int (zI (tk)), .long (zL (tn)), .long (zL (trd))]) C0 (C := RX7) (T := TX7) (N := 8) iG_X7 tyX7 tyX7_ok nmX7 hM hS (hT9.1) rfl 1 (by decide) tw_38 rfl rfl (ty := tyX7 1) (tyX7_ok 1 (by decide)) rfl rfl (Nat.le_of_ble_eq_true rfl) dX9_number_30 (fun H locs hM hS hsz => ?_)
    obtain ⟨E3, hE3⟩ : ∃ X : mE, X = mm_up E2 (h + 4) (.inr (6, [.ref (h + 4 + 1), .int (zI (0)), .int (zI ((ta : Int))), .long (zL (tv)), .int (zI (tkd)), .int (zI (tk)), .long (zL (tn)), .long (zL (trd))])) := ⟨_, rfl⟩
    replace hM : mm_M G E3 H := by rw [hE3]; exact hM
    have frs : ∀ q : Nat, q ≠ h + 4 → E3 q = E2 q := fun q h => by rw [hE3]; exact mm_up_n _ _ h
    have hat : E3 (h + 4) = some (.inr (6, [.ref (h + 4 + 1), .int (zI (0)), .int (zI ((ta : Int))), .long (zL (tv)), .int (zI (tkd)), .int (zI (tk)), .long (zL (tn)), .long (zL (trd))])) := by rw [hE3]; exact mm_up_s _ _ _
    have hT9 : tp G E3 (h + 4) S.1.2.1 0 ta tv tkd tk tn trd := ⟨hat, (frs _ (by omega)).trans hT9.2⟩
    have hS1 := hS0.tap ⟨_, _, _, _, _, _, hT9, htk0, htk1⟩ ⟨Nat.zero_le _, fun j hj => absurd hj (Nat.not_lt_zero _)⟩ (fun q h => frs q (by omega))
    have hf2 := frs
    have hO1 := hO.kept hO1 (frs _ (by omega))
    have hO9 := isW.kept hO9 (frs _ (by omega)) (frs _ (by omega))
    refine lv_iload_n C0.1 C0.2.1 dX9_number_33 rfl (lv_at hl 0 rfl) ?_
    refine z_if_eq (tgt := 41) C0.1 C0.2.1 dX9_number_34 (by decide) ⟨by omega, by omega⟩ (fun c_34 => ?_) (fun c_34 => ?_)
    · skip
      refine lv_aload_n C0.1 C0.2.1 dX9_number_41 rfl (lv_at hl 1 rfl) ?_
      refine lv_iload_n C0.1 C0.2.1 dX9_number_42 rfl (lv_at hl 2 rfl) ?_
      refine lv_aload_n C0.1 C0.2.1 dX9_number_43 rfl (lv_at hl 1 rfl) ?_
      refine mm_get (fs := [.ref (h + 1), .ref (h + 2), .ref (h + 3), .ref (h + 4), .ref (h + 6), .ref (h + 17), .ref (h + 30), .ref (h + 31), .ref (h + 46), .ref (h + 48), .int (zI (S.1.1))]) C0 (C := RX9) (T := TX9) (N := 11) iG_X9 hM (hO1) rfl 8 (by decide) tw_244 rfl rfl dX9_number_44 ?_
      refine mm_callVi (As := [.int (zI (pp)), .ref (h + 46)]) C0 vw_X9_land tw_296 (c_X9_land l G _ hS1 pp.toNat (by omega) (by omega) hO9 (by omega)) hM (hO1) rfl rfl hl.1 rfl (Nat.le_of_ble_eq_true rfl) ⟨rfl, rfl, Nat.le_of_ble_eq_true rfl, Nat.le_of_ble_eq_true rfl, Nat.zero_le _, Nat.zero_le _⟩ dX9_number_47 hS (fun z9 E4 H locs hp hM hS => ?_)
      obtain ⟨hz9, hS2, -, fr⟩ := hp
      have hO1 := hO.kept hO1 (fr _ (by omega))
      have hT9 := tp.kept hT9 (fr _ (by omega)) (fr _ (by omega))
      have hO9 := isW.kept hO9 (fr _ (by omega)) (fr _ (by omega))
      exact mm_iret (z := z9) C0 hr hlk hM hS dX9_number_50 (by have he : pf_number S pp = (lanZ (rdT S.1.2.1 S.1.2.2 0 0 0).2, lanS (sTap S S.1.2.1 0) pp.toNat (rdT S.1.2.1 S.1.2.2 0 0 0).2) := (by unfold pf_number; rw [if_pos (by omega), if_neg (by rw [← hz21]; exact fun q => q c_34)]); rw [he]; exact ⟨hz9, hS2, fun q h => (fr q (by omega)).trans ((hf2 q (by omega)).trans (hfr q (by omega)))⟩)
    · skip
      refine lv_iload_n C0.1 C0.2.1 dX9_number_37 rfl (lv_at hl 0 rfl) ?_
      refine lv_goto (tgt := 50) C0.1 C0.2.1 dX9_number_38 (by decide) ?_
      exact mm_iret (z := z21) C0 hr hlk hM hS dX9_number_50 (by have he : pf_number S pp = ((rdT S.1.2.1 S.1.2.2 0 0 0).1, sTap S S.1.2.1 0) := (by unfold pf_number; rw [if_pos (by omega), if_pos (by rw [← hz21]; exact c_34)]); rw [he]; exact ⟨hz21, hS1, fun q h => (hf2 q (by omega)).trans (hfr q (by omega))⟩)
  · skip
    refine lv_iconst (v := zI (-1)) C0.1 C0.2.1 dX9_number_7 rfl ?_
    exact mm_iret (z := (-1)) C0 hr hlk hM hS dX9_number_8 (by have he : pf_number S pp = ((-1), S) := (by unfold pf_number; rw [if_neg (by omega)]); rw [he]; exact ⟨rfl, hSo, (fun _ _ => rfl)⟩)

def rX9_combine : Room := { frames := 5, cells := 0, slots := 0, locals := 129 }
theorem vw_X9_combine : mm_Vw RX9 yX9_combine cX9_combine 4 none 3 := ⟨tw_408, tp_3, tw_1, tw_409, by decide +kernel⟩
set_option maxHeartbeats 4000000 in
set_option maxRecDepth 100000 in
theorem c_X9_combine (l : Launch) (G : mG) (E0 : mE) {h : Nat} {S : mST} (hS9 : st G E0 h S) {w : Int} {a b N1 N2 : Nat} (hw0 : 0 ≤ w) (hw4 : w ≤ 4) (hA : isW G E0 a N1) (hB : isW G E0 b N2) (ha : a + 2 ≤ h + 6 ∨ h + 50 ≤ a) (hb : b + 2 ≤ h + 6 ∨ h + 50 ≤ b) (hn1 : nl N1 ≤ 24) (hn2 : nl N2 ≤ 24) (hle : w = 1 → N2 ≤ N1) : mm_Cv l yX9_combine (.code yX9_combine cX9_combine 4 none :: wsG) rX9_combine G [.ref (h), .int (zI (w)), .ref (a), .ref (b)] E0 (fun E => isW G E (h + 46) (cmb w.toNat N1 N2) ∧ st G E h S ∧ ∀ q : Nat, ((q < h + 6 ∨ h + 17 ≤ q) ∧ (q < h + 46 ∨ h + 50 ≤ q)) → E q = E0 q) := by
  refine mm_of_v (by decide +kernel) (Nat.le_of_ble_eq_true rfl) ?_
  intro p e s m args below meth c ls C0 hr hlk hM hl hS
  have hl : lv_has ls 4 [(0, .ref (h)), (1, .int (zI (w))), (2, .ref (a)), (3, .ref (b))] := hl
  have hSo := hS9
  obtain ⟨⟨hO1, ⟨f1, f2, f3, hr1, hr2, hr3, hf1, hf2, hf3⟩, ⟨hTp, hTk⟩, ⟨hPl, hPk⟩, ⟨hKl, hKk⟩, ⟨hSh, hSk⟩⟩, hSc⟩ := hS9
  obtain ⟨ha0, ha1, ha2, ha3, ha4, ha5⟩ := hSo.2.1
  obtain ⟨hR46, hR48⟩ := hSo.2.2.2.2.2
  have hfr : ∀ q : Nat, ((q < h + 6 ∨ h + 17 ≤ q) ∧ (q < h + 46 ∨ h + 50 ≤ q)) → E0 q = E0 q := fun _ _ => rfl
  refine lv_iload_n C0.1 C0.2.1 dX9_combine_0 rfl (lv_at hl 1 rfl) ?_
  refine lv_iconst (v := zI 2) C0.1 C0.2.1 dX9_combine_1 rfl ?_
  refine z_icmp_ne (tgt := 17) C0.1 C0.2.1 dX9_combine_2 (by decide) ⟨by omega, by omega⟩ ⟨by omega, by omega⟩ (fun c_2 => ?_) (fun c_2 => ?_)
  · skip
    refine lv_iload_n C0.1 C0.2.1 dX9_combine_17 rfl (lv_at hl 1 rfl) ?_
    refine lv_iconst (v := zI 3) C0.1 C0.2.1 dX9_combine_18 rfl ?_
    refine z_icmp_lt (tgt := 63) C0.1 C0.2.1 dX9_combine_19 (by decide) ⟨by omega, by omega⟩ ⟨by omega, by omega⟩ (fun c_19 => ?_) (fun c_19 => ?_)
    · skip
      refine lv_aload_n C0.1 C0.2.1 dX9_combine_63 rfl (lv_at hl 0 rfl) ?_
      refine mm_get (fs := [.ref (h + 1), .ref (h + 2), .ref (h + 3), .ref (h + 4), .ref (h + 6), .ref (h + 17), .ref (h + 30), .ref (h + 31), .ref (h + 46), .ref (h + 48), .int (zI (S.1.1))]) C0 (C := RX9) (T := TX9) (N := 11) iG_X9 hM (hO1) rfl 8 (by decide) tw_244 rfl rfl dX9_combine_64 ?_
      refine lv_aload_n C0.1 C0.2.1 dX9_combine_67 rfl (lv_at hl 2 rfl) ?_
      refine mm_callVv (As := [.ref (a)]) C0 vw_X8_copy tw_460 (c_X8_copy l G _ hR46 hA (by omega)) hM ((hR46.obj).choose_spec) rfl rfl hl.1 rfl (Nat.le_of_ble_eq_true rfl) ⟨rfl, rfl, Nat.le_of_ble_eq_true rfl, Nat.le_of_ble_eq_true rfl, Nat.zero_le _, Nat.zero_le _⟩ dX9_combine_68 hS (fun E1 H locs hp hM hS => ?_)
      obtain ⟨hW, fr⟩ := hp
      have hO1 := hO.kept hO1 (fr _ (by omega))
      have hA := isW.kept hA (fr _ (by omega)) (fr _ (by omega))
      have hB := isW.kept hB (fr _ (by omega)) (fr _ (by omega))
      have hR48 := isV.kept hR48 (fr _ (by omega)) (fr _ (by omega))
      have hfr := (fun q h => (fr q (by omega)).trans (hfr q h) : ∀ q : Nat, ((q < h + 6 ∨ h + 17 ≤ q) ∧ (q < h + 46 ∨ h + 50 ≤ q)) → E1 q = E0 q)
      have ha0 := rk.kept ha0 (fr _ (by omega))
      have ha1 := isV.kept ha1 (fr _ (by omega)) (fr _ (by omega))
      have ha2 := isV.kept ha2 (fr _ (by omega)) (fr _ (by omega))
      have ha3 := isV.kept ha3 (fr _ (by omega)) (fr _ (by omega))
      have ha4 := isV.kept ha4 (fr _ (by omega)) (fr _ (by omega))
      have ha5 := isV.kept ha5 (fr _ (by omega)) (fr _ (by omega))
      refine lv_iload_n C0.1 C0.2.1 dX9_combine_71 rfl (lv_at hl 1 rfl) ?_
      refine z_if_ne (tgt := 86) C0.1 C0.2.1 dX9_combine_72 (by decide) ⟨by omega, by omega⟩ (fun c_72 => ?_) (fun c_72 => ?_)
      · skip
        refine lv_aload_n C0.1 C0.2.1 dX9_combine_86 rfl (lv_at hl 0 rfl) ?_
        refine mm_get (fs := [.ref (h + 1), .ref (h + 2), .ref (h + 3), .ref (h + 4), .ref (h + 6), .ref (h + 17), .ref (h + 30), .ref (h + 31), .ref (h + 46), .ref (h + 48), .int (zI (S.1.1))]) C0 (C := RX9) (T := TX9) (N := 11) iG_X9 hM (hO1) rfl 8 (by decide) tw_244 rfl rfl dX9_combine_87 ?_
        refine lv_aload_n C0.1 C0.2.1 dX9_combine_90 rfl (lv_at hl 3 rfl) ?_
        refine mm_callVv (As := [.ref (b)]) C0 vw_X8_subtract tw_462 (c_X8_subtract l G _ hW hB (by omega) (hle (by omega))) hM ((hW.v.obj).choose_spec) rfl rfl hl.1 rfl (Nat.le_of_ble_eq_true rfl) ⟨rfl, rfl, Nat.le_of_ble_eq_true rfl, Nat.le_of_ble_eq_true rfl, Nat.zero_le _, Nat.zero_le _⟩ dX9_combine_91 hS (fun E2 H locs hp hM hS => ?_)
        obtain ⟨hW, fr⟩ := hp
        have hO1 := hO.kept hO1 (fr _ (by omega))
        have hA := isW.kept hA (fr _ (by omega)) (fr _ (by omega))
        have hB := isW.kept hB (fr _ (by omega)) (fr _ (by omega))
        have hR48 := isV.kept hR48 (fr _ (by omega)) (fr _ (by omega))
        have hfr := (fun q h => (fr q (by omega)).trans (hfr q h) : ∀ q : Nat, ((q < h + 6 ∨ h + 17 ≤ q) ∧ (q < h + 46 ∨ h + 50 ≤ q)) → E2 q = E0 q)
        have ha0 := rk.kept ha0 (fr _ (by omega))
        have ha1 := isV.kept ha1 (fr _ (by omega)) (fr _ (by omega))
        have ha2 := isV.kept ha2 (fr _ (by omega)) (fr _ (by omega))
        have ha3 := isV.kept ha3 (fr _ (by omega)) (fr _ (by omega))
        have ha4 := isV.kept ha4 (fr _ (by omega)) (fr _ (by omega))
        have ha5 := isV.kept ha5 (fr _ (by omega)) (fr _ (by omega))
        have hc9 : cmb w.toNat N1 N2 = N1 - N2 := by unfold cmb; rw [if_neg (by omega), if_neg (by omega), if_neg (by omega), if_neg (by omega)]
        rw [← hc9] at hW
        exact mm_vret C0 hr hlk hM hS dX9_combine_94 (⟨hW, stA_ hSo ⟨ha0, ha1, ha2, ha3, ha4, ha5⟩ ⟨hW.v, hR48⟩ (fun q h => hfr q (by omega)), hfr⟩)
      · skip
        refine lv_aload_n C0.1 C0.2.1 dX9_combine_75 rfl (lv_at hl 0 rfl) ?_
        refine mm_get (fs := [.ref (h + 1), .ref (h + 2), .ref (h + 3), .ref (h + 4), .ref (h + 6), .ref (h + 17), .ref (h + 30), .ref (h + 31), .ref (h + 46), .ref (h + 48), .int (zI (S.1.1))]) C0 (C := RX9) (T := TX9) (N := 11) iG_X9 hM (hO1) rfl 8 (by decide) tw_244 rfl rfl dX9_combine_76 ?_
        refine lv_aload_n C0.1 C0.2.1 dX9_combine_79 rfl (lv_at hl 3 rfl) ?_
        refine mm_callVv (As := [.ref (b)]) C0 vw_X8_add tw_461 (c_X8_add l G _ hW hB (by omega) (by omega) (by omega)) hM ((hW.v.obj).choose_spec) rfl rfl hl.1 rfl (Nat.le_of_ble_eq_true rfl) ⟨rfl, rfl, Nat.le_of_ble_eq_true rfl, Nat.le_of_ble_eq_true rfl, Nat.zero_le _, Nat.zero_le _⟩ dX9_combine_80 hS (fun E3 H locs hp hM hS => ?_)
        obtain ⟨hW, fr⟩ := hp
        have hO1 := hO.kept hO1 (fr _ (by omega))
        have hA := isW.kept hA (fr _ (by omega)) (fr _ (by omega))
        have hB := isW.kept hB (fr _ (by omega)) (fr _ (by omega))
        have hR48 := isV.kept hR48 (fr _ (by omega)) (fr _ (by omega))
        have hfr := (fun q h => (fr q (by omega)).trans (hfr q h) : ∀ q : Nat, ((q < h + 6 ∨ h + 17 ≤ q) ∧ (q < h + 46 ∨ h + 50 ≤ q)) → E3 q = E0 q)
        have ha0 := rk.kept ha0 (fr _ (by omega))
        have ha1 := isV.kept ha1 (fr _ (by omega)) (fr _ (by omega))
        have ha2 := isV.kept ha2 (fr _ (by omega)) (fr _ (by omega))
        have ha3 := isV.kept ha3 (fr _ (by omega)) (fr _ (by omega))
        have ha4 := isV.kept ha4 (fr _ (by omega)) (fr _ (by omega))
        have ha5 := isV.kept ha5 (fr _ (by omega)) (fr _ (by omega))
        have hc9 : cmb w.toNat N1 N2 = N1 + N2 := by unfold cmb; rw [if_neg (by omega), if_neg (by omega), if_neg (by omega), if_pos (by omega)]
        rw [← hc9] at hW
        refine lv_goto (tgt := 94) C0.1 C0.2.1 dX9_combine_83 (by decide) ?_
        exact mm_vret C0 hr hlk hM hS dX9_combine_94 (⟨hW, stA_ hSo ⟨ha0, ha1, ha2, ha3, ha4, ha5⟩ ⟨hW.v, hR48⟩ (fun q h => hfr q (by omega)), hfr⟩)
    · skip
      refine lv_aload_n C0.1 C0.2.1 dX9_combine_22 rfl (lv_at hl 0 rfl) ?_
      refine mm_get (fs := [.ref (h + 1), .ref (h + 2), .ref (h + 3), .ref (h + 4), .ref (h + 6), .ref (h + 17), .ref (h + 30), .ref (h + 31), .ref (h + 46), .ref (h + 48), .int (zI (S.1.1))]) C0 (C := RX9) (T := TX9) (N := 11) iG_X9 hM (hO1) rfl 4 (by decide) tw_240 rfl rfl dX9_combine_23 ?_
      refine lv_aload_n C0.1 C0.2.1 dX9_combine_26 rfl (lv_at hl 2 rfl) ?_
      refine lv_aload_n C0.1 C0.2.1 dX9_combine_27 rfl (lv_at hl 3 rfl) ?_
      refine mm_callVv (As := [.ref (a), .ref (b)]) C0 vw_X4_divide tw_414 (c_X4_divide l G _ ha0 ha1 ha2 ha3 hA hB (by omega) (by omega) (by omega)) hM (ha0) rfl rfl hl.1 rfl (Nat.le_of_ble_eq_true rfl) ⟨rfl, rfl, Nat.le_of_ble_eq_true rfl, Nat.le_of_ble_eq_true rfl, Nat.zero_le _, Nat.zero_le _⟩ dX9_combine_28 hS (fun E4 H locs hp hM hS => ?_)
      obtain ⟨hQ, hRr, ha3, fr⟩ := hp
      have hO1 := hO.kept hO1 (fr _ (by omega))
      have hA := isW.kept hA (fr _ (by omega)) (fr _ (by omega))
      have hB := isW.kept hB (fr _ (by omega)) (fr _ (by omega))
      have hR46 := isV.kept hR46 (fr _ (by omega)) (fr _ (by omega))
      have hR48 := isV.kept hR48 (fr _ (by omega)) (fr _ (by omega))
      have hfr := (fun q h => (fr q (by omega)).trans (hfr q h) : ∀ q : Nat, ((q < h + 6 ∨ h + 17 ≤ q) ∧ (q < h + 46 ∨ h + 50 ≤ q)) → E4 q = E0 q)
      have ha0 := rk.kept ha0 (fr _ (by omega))
      have ha4 := isV.kept ha4 (fr _ (by omega)) (fr _ (by omega))
      have ha5 := isV.kept ha5 (fr _ (by omega)) (fr _ (by omega))
      have hg1 := fr
      refine lv_aload_n C0.1 C0.2.1 dX9_combine_31 rfl (lv_at hl 0 rfl) ?_
      refine mm_get (fs := [.ref (h + 1), .ref (h + 2), .ref (h + 3), .ref (h + 4), .ref (h + 6), .ref (h + 17), .ref (h + 30), .ref (h + 31), .ref (h + 46), .ref (h + 48), .int (zI (S.1.1))]) C0 (C := RX9) (T := TX9) (N := 11) iG_X9 hM (hO1) rfl 8 (by decide) tw_244 rfl rfl dX9_combine_32 ?_
      refine lv_iload_n C0.1 C0.2.1 dX9_combine_35 rfl (lv_at hl 1 rfl) ?_
      refine lv_iconst (v := zI 3) C0.1 C0.2.1 dX9_combine_36 rfl ?_
      refine z_icmp_ne (tgt := 50) C0.1 C0.2.1 dX9_combine_37 (by decide) ⟨by omega, by omega⟩ ⟨by omega, by omega⟩ (fun c_37 => ?_) (fun c_37 => ?_)
      · skip
        refine lv_aload_n C0.1 C0.2.1 dX9_combine_50 rfl (lv_at hl 0 rfl) ?_
        refine mm_get (fs := [.ref (h + 1), .ref (h + 2), .ref (h + 3), .ref (h + 4), .ref (h + 6), .ref (h + 17), .ref (h + 30), .ref (h + 31), .ref (h + 46), .ref (h + 48), .int (zI (S.1.1))]) C0 (C := RX9) (T := TX9) (N := 11) iG_X9 hM (hO1) rfl 4 (by decide) tw_240 rfl rfl dX9_combine_51 ?_
        refine mm_get (fs := [.ref (h + 6 + 1), .ref (h + 6 + 3), .ref (h + 6 + 5), .ref (h + 6 + 7), .ref (h + 6 + 9)]) C0 (C := RX4) (T := TX4) (N := 5) iG_X4 hM (ha0) rfl 1 (by decide) tw_95 rfl rfl dX9_combine_54 ?_
        refine mm_callVv (As := [.ref (h + 6 + 3)]) C0 vw_X8_copy tw_460 (c_X8_copy l G _ hR46 hRr (by omega)) hM ((hR46.obj).choose_spec) rfl rfl hl.1 rfl (Nat.le_of_ble_eq_true rfl) ⟨rfl, rfl, Nat.le_of_ble_eq_true rfl, Nat.le_of_ble_eq_true rfl, Nat.zero_le _, Nat.zero_le _⟩ dX9_combine_57 hS (fun E5 H locs hp hM hS => ?_)
        obtain ⟨hW, fr⟩ := hp
        have hO1 := hO.kept hO1 (fr _ (by omega))
        have hA := isW.kept hA (fr _ (by omega)) (fr _ (by omega))
        have hB := isW.kept hB (fr _ (by omega)) (fr _ (by omega))
        have hR48 := isV.kept hR48 (fr _ (by omega)) (fr _ (by omega))
        have hfr := (fun q h => (fr q (by omega)).trans (hfr q h) : ∀ q : Nat, ((q < h + 6 ∨ h + 17 ≤ q) ∧ (q < h + 46 ∨ h + 50 ≤ q)) → E5 q = E0 q)
        have ha0 := rk.kept ha0 (fr _ (by omega))
        have ha3 := isV.kept ha3 (fr _ (by omega)) (fr _ (by omega))
        have ha4 := isV.kept ha4 (fr _ (by omega)) (fr _ (by omega))
        have ha5 := isV.kept ha5 (fr _ (by omega)) (fr _ (by omega))
        have hQ := isW.kept hQ (fr _ (by omega)) (fr _ (by omega))
        have hRr := isW.kept hRr (fr _ (by omega)) (fr _ (by omega))
        have hc9 : cmb w.toNat N1 N2 = N1 % N2 := by unfold cmb; rw [if_neg (by omega), if_neg (by omega), if_pos (by omega)]
        rw [← hc9] at hW
        refine lv_goto (tgt := 94) C0.1 C0.2.1 dX9_combine_60 (by decide) ?_
        exact mm_vret C0 hr hlk hM hS dX9_combine_94 (⟨hW, stA_ hSo ⟨ha0, hQ.v, hRr.v, ha3, ha4, ha5⟩ ⟨hW.v, hR48⟩ (fun q h => hfr q (by omega)), hfr⟩)
      · skip
        refine lv_aload_n C0.1 C0.2.1 dX9_combine_40 rfl (lv_at hl 0 rfl) ?_
        refine mm_get (fs := [.ref (h + 1), .ref (h + 2), .ref (h + 3), .ref (h + 4), .ref (h + 6), .ref (h + 17), .ref (h + 30), .ref (h + 31), .ref (h + 46), .ref (h + 48), .int (zI (S.1.1))]) C0 (C := RX9) (T := TX9) (N := 11) iG_X9 hM (hO1) rfl 4 (by decide) tw_240 rfl rfl dX9_combine_41 ?_
        refine mm_get (fs := [.ref (h + 6 + 1), .ref (h + 6 + 3), .ref (h + 6 + 5), .ref (h + 6 + 7), .ref (h + 6 + 9)]) C0 (C := RX4) (T := TX4) (N := 5) iG_X4 hM (ha0) rfl 0 (by decide) tw_93 rfl rfl dX9_combine_44 ?_
        refine lv_goto (tgt := 57) C0.1 C0.2.1 dX9_combine_47 (by decide) ?_
        refine mm_callVv (As := [.ref (h + 6 + 1)]) C0 vw_X8_copy tw_460 (c_X8_copy l G _ hR46 hQ (by omega)) hM ((hR46.obj).choose_spec) rfl rfl hl.1 rfl (Nat.le_of_ble_eq_true rfl) ⟨rfl, rfl, Nat.le_of_ble_eq_true rfl, Nat.le_of_ble_eq_true rfl, Nat.zero_le _, Nat.zero_le _⟩ dX9_combine_57 hS (fun E6 H locs hp hM hS => ?_)
        obtain ⟨hW, fr⟩ := hp
        have hO1 := hO.kept hO1 (fr _ (by omega))
        have hA := isW.kept hA (fr _ (by omega)) (fr _ (by omega))
        have hB := isW.kept hB (fr _ (by omega)) (fr _ (by omega))
        have hR48 := isV.kept hR48 (fr _ (by omega)) (fr _ (by omega))
        have hfr := (fun q h => (fr q (by omega)).trans (hfr q h) : ∀ q : Nat, ((q < h + 6 ∨ h + 17 ≤ q) ∧ (q < h + 46 ∨ h + 50 ≤ q)) → E6 q = E0 q)
        have ha0 := rk.kept ha0 (fr _ (by omega))
        have ha3 := isV.kept ha3 (fr _ (by omega)) (fr _ (by omega))
        have ha4 := isV.kept ha4 (fr _ (by omega)) (fr _ (by omega))
        have ha5 := isV.kept ha5 (fr _ (by omega)) (fr _ (by omega))
        have hQ := isW.kept hQ (fr _ (by omega)) (fr _ (by omega))
        have hRr := isW.kept hRr (fr _ (by omega)) (fr _ (by omega))
        have hc9 : cmb w.toNat N1 N2 = N1 / N2 := by unfold cmb; rw [if_neg (by omega), if_pos (by omega)]
        rw [← hc9] at hW
        refine lv_goto (tgt := 94) C0.1 C0.2.1 dX9_combine_60 (by decide) ?_
        exact mm_vret C0 hr hlk hM hS dX9_combine_94 (⟨hW, stA_ hSo ⟨ha0, hQ.v, hRr.v, ha3, ha4, ha5⟩ ⟨hW.v, hR48⟩ (fun q h => hfr q (by omega)), hfr⟩)
  · skip
    refine lv_aload_n C0.1 C0.2.1 dX9_combine_5 rfl (lv_at hl 0 rfl) ?_
    refine mm_get (fs := [.ref (h + 1), .ref (h + 2), .ref (h + 3), .ref (h + 4), .ref (h + 6), .ref (h + 17), .ref (h + 30), .ref (h + 31), .ref (h + 46), .ref (h + 48), .int (zI (S.1.1))]) C0 (C := RX9) (T := TX9) (N := 11) iG_X9 hM (hO1) rfl 8 (by decide) tw_244 rfl rfl dX9_combine_6 ?_
    refine lv_aload_n C0.1 C0.2.1 dX9_combine_9 rfl (lv_at hl 2 rfl) ?_
    refine lv_aload_n C0.1 C0.2.1 dX9_combine_10 rfl (lv_at hl 3 rfl) ?_
    refine mm_callVv (As := [.ref (a), .ref (b)]) C0 vw_X8_setProduct tw_410 (c_X8_setProduct l G _ hR46 hA hB (by omega) (by omega) (by omega)) hM ((hR46.obj).choose_spec) rfl rfl hl.1 rfl (Nat.le_of_ble_eq_true rfl) ⟨rfl, rfl, Nat.le_of_ble_eq_true rfl, Nat.le_of_ble_eq_true rfl, Nat.zero_le _, Nat.zero_le _⟩ dX9_combine_11 hS (fun E7 H locs hp hM hS => ?_)
    obtain ⟨hW, fr⟩ := hp
    have hO1 := hO.kept hO1 (fr _ (by omega))
    have hA := isW.kept hA (fr _ (by omega)) (fr _ (by omega))
    have hB := isW.kept hB (fr _ (by omega)) (fr _ (by omega))
    have hR48 := isV.kept hR48 (fr _ (by omega)) (fr _ (by omega))
    have hfr := (fun q h => (fr q (by omega)).trans (hfr q h) : ∀ q : Nat, ((q < h + 6 ∨ h + 17 ≤ q) ∧ (q < h + 46 ∨ h + 50 ≤ q)) → E7 q = E0 q)
    have ha0 := rk.kept ha0 (fr _ (by omega))
    have ha1 := isV.kept ha1 (fr _ (by omega)) (fr _ (by omega))
    have ha2 := isV.kept ha2 (fr _ (by omega)) (fr _ (by omega))
    have ha3 := isV.kept ha3 (fr _ (by omega)) (fr _ (by omega))
    have ha4 := isV.kept ha4 (fr _ (by omega)) (fr _ (by omega))
    have ha5 := isV.kept ha5 (fr _ (by omega)) (fr _ (by omega))
    have hc9 : cmb w.toNat N1 N2 = N1 * N2 := by unfold cmb; rw [if_pos (by omega)]
    rw [← hc9] at hW
    have hg := fr
    refine lv_goto (tgt := 94) C0.1 C0.2.1 dX9_combine_14 (by decide) ?_
    exact mm_vret C0 hr hlk hM hS dX9_combine_94 (⟨hW, stA_ hSo ⟨ha0, ha1, ha2, ha3, ha4, ha5⟩ ⟨hW.v, hR48⟩ (fun q h => hfr q (by omega)), hfr⟩)
