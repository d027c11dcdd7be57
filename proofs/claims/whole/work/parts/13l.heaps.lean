def cpP (P K : mPl) : Nat → mPl
  | 0 => K
  | i + 1 => pPut (cpP P K i) i (P.1 i) (P.2.1 i) (P.2.2 i)
theorem cpP_e {P K : mPl} : ∀ n i : Nat, i < n → (cpP P K n).1 i = P.1 i ∧ (cpP P K n).2.1 i = P.2.1 i ∧ (cpP P K n).2.2 i = P.2.2 i
  | 0, i, h => absurd h (Nat.not_lt_zero _)
  | n + 1, i, h => by
    show (upN (cpP P K n).1 n (P.1 n)) i = _ ∧ (upN (cpP P K n).2.1 n (P.2.1 n)) i = _ ∧ (upN (cpP P K n).2.2 n (P.2.2 n)) i = _
    by_cases q : i = n
    · subst q; exact ⟨upN_s _ _ _, upN_s _ _ _, upN_s _ _ _⟩
    · rw [upN_n _ _ q, upN_n _ _ q, upN_n _ _ q]; exact cpP_e n i (by omega)
theorem plS.cp {G : mG} {E : mE} {b : Nat} {P K : mPl} (a : plS G E b (cpP P K 8)) : plS G E b P := fun i hi => by
  obtain ⟨h1, h2, h3⟩ := cpP_e (P := P) (K := K) 8 i hi
  have := a i hi
  rw [h1, h2, h3] at this
  exact this
theorem tpS.s {G : mG} {E : mE} {h : Nat} {B : Nat → Int} {L a : Nat} {v kd k n rd : Int} (x : tp G E (h + 4) B L a v kd k n rd) (y : 0 ≤ k ∧ k ≤ 99) : tpS G E h B L := ⟨_, _, _, _, _, _, x, y⟩
theorem st.tap2 {G : mG} {E E1 : mE} {h : Nat} {S : mST} {a : Nat} {v kd k n rd : Int} (x : st G E h S) (h1 : tp G E1 (h + 4) S.1.2.1 S.1.2.2 a v kd k n rd) (y : 0 ≤ k ∧ k ≤ 99) (fr : ∀ q, (q < h + 4 ∨ h + 4 + 2 ≤ q) → E1 q = E q) : st G E1 h S := x.tap (tpS.s h1 y) x.1.2.2.1.2 fr
theorem shp_kk {kd k k2 n : Nat} (h : kd < 3) : shp kd k n = shp kd k2 n := by
  rcases (show kd = 0 ∨ kd = 1 ∨ kd = 2 by omega) with rfl | rfl | rfl
  · rw [shp_k0, shp_k0]
  · rw [shp_k1, shp_k1]
  · rw [shp_k2, shp_k2]
theorem clE_b {B : Nat → Int} {L a : Nat} (h : rnE B L (clP5 B L a) ≤ L) : clE B L a ≤ L := (skp_b h).1
theorem jdW_b {B : Nat → Int} {L a i : Nat} {w : Int} (h : -4 ≤ w ∧ w ≤ 8) (hi : i ≤ 8) : -4 ≤ jdW B L a i w ∧ jdW B L a i w ≤ 8 := by unfold jdW; split <;> omega

def rX9_image : Room := { frames := 4, cells := 0, slots := 0, locals := 88 }
theorem vw_X9_image : mm_Vw RX9 yX9_image cX9_image 2 (some .int) 0 := ⟨tw_856, tw_857, tw_1, tw_858, by decide +kernel⟩
set_option maxHeartbeats 4000000 in
set_option maxRecDepth 100000 in
theorem c_X9_image (l : Launch) (G : mG) (E0 : mE) {h : Nat} {S : mST} (hS9 : st G E0 h S) : mm_Ci l yX9_image (.code yX9_image cX9_image 2 (some .int) :: wsG) rX9_image G [.ref (h)] E0 (fun z E => z = (pf_image S).1 ∧ st G E h (pf_image S).2 ∧ ∀ q : Nat, (q < h ∨ h + 106 ≤ q) → E q = E0 q) := by
  refine mm_of_i (by decide +kernel) (Nat.le_of_ble_eq_true rfl) ?_
  intro p e s m args below meth c ls C0 hr hlk hM hl hS
  have hl : lv_has ls 2 [(0, .ref (h))] := hl
  have hSo := hS9
  obtain ⟨⟨hO1, ⟨f1, f2, f3, hr1, hr2, hr3, hf1, hf2, hf3⟩, ⟨hTp, hTk⟩, ⟨hPl, hPk⟩, ⟨hKl, hKk⟩, ⟨hSh, hSk⟩⟩, hSc⟩ := hS9
  have hfr : ∀ q : Nat, (q < h + 53 ∨ h + 53 + 45 ≤ q ∨ ∃ j, j < 8 ∧ h + 50 + 6 * j ≤ q ∧ q < h + 50 + 6 * j + 3) → E0 q = E0 q := fun _ _ => rfl
  refine lv_iconst (v := zI 0) C0.1 C0.2.1 dX9_image_0 rfl ?_
  refine lv_istore_n (lv' := [(1, .int (zI (0))), (0, .ref (h))]) C0.1 C0.2.1 dX9_image_1 rfl hl (by decide) rfl (fun ls hl => ?_)
  have L2 : ∀ (k2 : Nat) (i : Nat) (E1 : mE) (H : Heap) (locs : List Loc) (ls : Array Slot), (i ≤ 8) → (hO G E1 h S.1.1) → (E1 (h + 1) = some (mm_Q G 2 8 f1)) → (E1 (h + 2) = some (mm_Q G 2 8 f2)) → (plS G E1 (h + 50) S.2.1) → (plS G E1 (h + 53) (cpP S.2.1 S.2.2.1 i)) → (∀ q : Nat, (q < h + 53 ∨ h + 53 + 45 ≤ q ∨ ∃ j, j < 8 ∧ h + 50 + 6 * j ≤ q ∧ q < h + 50 + 6 * j + 3) → E1 q = E0 q) → 8 - i < k2 → mm_M G E1 H → va_S (mm_A G) s.heap H locs → lv_has ls 2 [(0, .ref (h)), (1, .int (zI ((i : Int))))] → W p l e rX9_image s m args below meth c H locs 0 0 (mm_Zi G below args s (fun z E => z = (pf_image S).1 ∧ st G E h (pf_image S).2 ∧ ∀ q : Nat, (q < h ∨ h + 106 ≤ q) → E q = E0 q)) (F0 m 2 ls []) := by
    intro k2
    induction k2 with
    | zero => intro i E1 H locs ls hi hO1 hr1 hr2 hSr hDs hfr hk hM hS hl; exact absurd hk (Nat.not_lt_zero _)
    | succ k2 ih2 =>
      intro i E1 H locs ls hi hO1 hr1 hr2 hSr hDs hfr hk2 hM hS hl
      refine lv_iload_n C0.1 C0.2.1 dX9_image_2 rfl (lv_at hl 1 rfl) ?_
      refine lv_bipush (v := zI 8) C0.1 C0.2.1 dX9_image_3 rfl ?_
      refine z_icmp_ge (tgt := 29) C0.1 C0.2.1 dX9_image_5 (by decide) ⟨by omega, by omega⟩ ⟨by omega, by omega⟩ (fun c_5 => ?_) (fun c_5 => ?_)
      · skip
        have hi8 : i = 8 := by omega
        subst hi8
        have hDe := hDs.cp
        refine lv_aload_n C0.1 C0.2.1 dX9_image_29 rfl (lv_at hl 0 rfl) ?_
        refine lv_iconst (v := zI 1) C0.1 C0.2.1 dX9_image_30 rfl ?_
        refine mm_put (v := .int (zI (1))) (fs := [.ref (h + 1), .ref (h + 2), .ref (h + 3), .ref (h + 4), .ref (h + 6), .ref (h + 17), .ref (h + 30), .ref (h + 31), .ref (h + 46), .ref (h + 48), .int (zI (S.1.1))]) C0 (C := RX9) (T := TX9) (N := 11) iG_X9 tyX9 tyX9_ok nmX9 hM hS (hO1) rfl 10 (by decide) tw_246 rfl rfl (ty := tyX9 10) (tyX9_ok 10 (by decide)) rfl rfl (Nat.le_of_ble_eq_true rfl) dX9_image_31 (fun H locs hM hS hsz => ?_)
        obtain ⟨E2, hE2⟩ : ∃ X : mE, X = mm_up E1 (h) (.inr (8, [.ref (h + 1), .ref (h + 2), .ref (h + 3), .ref (h + 4), .ref (h + 6), .ref (h + 17), .ref (h + 30), .ref (h + 31), .ref (h + 46), .ref (h + 48), .int (zI (1))])) := ⟨_, rfl⟩
        replace hM : mm_M G E2 H := by rw [hE2]; exact hM
        have frs : ∀ q : Nat, q ≠ h → E2 q = E1 q := fun q h => by rw [hE2]; exact mm_up_n _ _ h
        have hat : E2 (h) = some (.inr (8, [.ref (h + 1), .ref (h + 2), .ref (h + 3), .ref (h + 4), .ref (h + 6), .ref (h + 17), .ref (h + 30), .ref (h + 31), .ref (h + 46), .ref (h + 48), .int (zI (1))])) := by rw [hE2]; exact mm_up_s _ _ _
        have hO2 : hO G E2 h 1 := hat
        have hfr2 : ∀ q : Nat, (q ≠ h ∧ (q < h + 53 ∨ h + 53 + 45 ≤ q ∨ ∃ j, j < 8 ∧ h + 50 + 6 * j ≤ q ∧ q < h + 50 + 6 * j + 3)) → E2 q = E0 q := fun q hq => (frs q hq.1).trans (hfr q hq.2)
        have hDe := plS.kept hDe (fun q hq => frs q (by obtain ⟨j, g2, g3, g4⟩ := hq; omega))
        have hSr := plS.kept hSr (fun q hq => frs q (by obtain ⟨j, g2, g3, g4⟩ := hq; omega))
        have hr1 := (frs _ (by omega)).trans hr1
        have hr2 := (frs _ (by omega)).trans hr2
        refine lv_iconst (v := zI 1) C0.1 C0.2.1 dX9_image_34 rfl ?_
        exact mm_iret (z := 1) C0 hr hlk hM hS dX9_image_35 (⟨rfl, ⟨⟨hO2, ⟨f1, f2, f3, hr1, hr2, (hfr2 (h + 3) (by omega)).trans hr3, hf1, hf2, hf3⟩, ⟨hTp.kept (hfr2 _ (by omega)) (hfr2 _ (by omega)), hTk⟩, ⟨hSr, hPk⟩, ⟨hDe, hPk⟩, ⟨hSh.kept (fun q hq => hfr2 q (by omega)), hSk⟩⟩, hSc.kept (fun q hq => hfr2 q (by omega))⟩, fun q hq => hfr2 q (by omega)⟩)
      · skip
        obtain ⟨hs_i, hv_i⟩ := hSr i (by omega)
        obtain ⟨hd_i, hx_i⟩ := hDs i (by omega)
        refine lv_aload_n C0.1 C0.2.1 dX9_image_8 rfl (lv_at hl 0 rfl) ?_
        refine mm_get (fs := [.ref (h + 1), .ref (h + 2), .ref (h + 3), .ref (h + 4), .ref (h + 6), .ref (h + 17), .ref (h + 30), .ref (h + 31), .ref (h + 46), .ref (h + 48), .int (zI (S.1.1))]) C0 (C := RX9) (T := TX9) (N := 11) iG_X9 hM (hO1) rfl 1 (by decide) tw_237 rfl rfl dX9_image_9 ?_
        refine lv_iload_n C0.1 C0.2.1 dX9_image_12 rfl (lv_at hl 1 rfl) ?_
        refine mm_aald C0 hM 2 (C := "OrangeHeaps$Place") (hr2) rfl (i) (i := (i : Int)) (by omega) (by omega) (by decide) (v := h + 53 + 6 * i) (hf2 _ (by omega)) dX9_image_13 ?_
        refine lv_aload_n C0.1 C0.2.1 dX9_image_14 rfl (lv_at hl 0 rfl) ?_
        refine mm_get (fs := [.ref (h + 1), .ref (h + 2), .ref (h + 3), .ref (h + 4), .ref (h + 6), .ref (h + 17), .ref (h + 30), .ref (h + 31), .ref (h + 46), .ref (h + 48), .int (zI (S.1.1))]) C0 (C := RX9) (T := TX9) (N := 11) iG_X9 hM (hO1) rfl 0 (by decide) tw_236 rfl rfl dX9_image_15 ?_
        refine lv_iload_n C0.1 C0.2.1 dX9_image_18 rfl (lv_at hl 1 rfl) ?_
        refine mm_aald C0 hM 2 (C := "OrangeHeaps$Place") (hr1) rfl (i) (i := (i : Int)) (by omega) (by omega) (by decide) (v := h + 50 + 6 * i) (hf1 _ (by omega)) dX9_image_19 ?_
        refine mm_callVv (As := [.ref (h + 50 + 6 * i)]) C0 vw_X3_copy tw_859 (c_X3_copy l G _ hd_i hx_i.v hs_i hv_i (by omega)) hM (hd_i) rfl rfl hl.1 rfl (Nat.le_of_ble_eq_true rfl) ⟨rfl, rfl, Nat.le_of_ble_eq_true rfl, Nat.le_of_ble_eq_true rfl, Nat.zero_le _, Nat.zero_le _⟩ dX9_image_20 hS (fun E3 H locs hp hM hS => ?_)
        obtain ⟨hd2, hx2, fr⟩ := hp
        have hO1 := hO.kept hO1 (fr _ (by omega))
        have hr1 := (fr _ (by omega)).trans hr1
        have hr2 := (fr _ (by omega)).trans hr2
        have hSr := plS.kept hSr (fun q hq => fr q (by obtain ⟨j, g2, g3, g4⟩ := hq; omega))
        have hfr := (fun q h => (fr q (by rcases h with h | h | ⟨j, g2, g3, g4⟩ <;> omega)).trans (hfr q h) : ∀ q : Nat, (q < h + 53 ∨ h + 53 + 45 ≤ q ∨ ∃ j, j < 8 ∧ h + 50 + 6 * j ≤ q ∧ q < h + 50 + 6 * j + 3) → E3 q = E0 q)
        have hDs := hDs.put (i := i) (by omega) hd2 hx2 (fun q hq => fr q (by obtain ⟨j, g1, g2, g3, g4⟩ := hq; omega))
        refine lv_iinc (v := zI (((i + 1 : Nat) : Int))) (lv' := [(1, .int (zI (((i + 1 : Nat) : Int)))), (0, .ref (h))]) C0.1 C0.2.1 dX9_image_23 hl (k := 1) rfl (z_inc (a := (i : Int)) (n := 1) (by omega)) (by decide) rfl (fun ls hl => ?_)
        refine lv_goto (tgt := 2) C0.1 C0.2.1 dX9_image_26 (by decide) ?_
        exact ih2  (i + 1) E3 _ _ _ (by omega) (hO1) (hr1) (hr2) (hSr) (hDs) (hfr) (by omega) hM hS (lv_sub hl [1, 0] rfl)
  exact L2 (_ + 1) 0 E0 _ _ _ (Nat.zero_le _) (hO1) (hr1) (hr2) (hPl) (hKl) (fun _ _ => rfl) (Nat.lt_succ_self _) hM hS (lv_sub hl [1, 0] rfl)

def rX9_restore : Room := { frames := 4, cells := 0, slots := 0, locals := 88 }
theorem vw_X9_restore : mm_Vw RX9 yX9_restore cX9_restore 2 (some .int) 0 := ⟨tw_864, tw_865, tw_1, tw_866, by decide +kernel⟩
set_option maxHeartbeats 4000000 in
set_option maxRecDepth 100000 in
theorem c_X9_restore (l : Launch) (G : mG) (E0 : mE) {h : Nat} {S : mST} (hS9 : st G E0 h S) (him : S.1.1 = 0 ∨ S.1.1 = 1) : mm_Ci l yX9_restore (.code yX9_restore cX9_restore 2 (some .int) :: wsG) rX9_restore G [.ref (h)] E0 (fun z E => z = (pf_restore S).1 ∧ st G E h (pf_restore S).2 ∧ ∀ q : Nat, (q < h ∨ h + 106 ≤ q) → E q = E0 q) := by
  refine mm_of_i (by decide +kernel) (Nat.le_of_ble_eq_true rfl) ?_
  intro p e s m args below meth c ls C0 hr hlk hM hl hS
  have hl : lv_has ls 2 [(0, .ref (h))] := hl
  have hSo := hS9
  obtain ⟨⟨hO1, ⟨f1, f2, f3, hr1, hr2, hr3, hf1, hf2, hf3⟩, ⟨hTp, hTk⟩, ⟨hPl, hPk⟩, ⟨hKl, hKk⟩, ⟨hSh, hSk⟩⟩, hSc⟩ := hS9
  have hfr : ∀ q : Nat, (q < h + 50 ∨ h + 50 + 45 ≤ q ∨ ∃ j, j < 8 ∧ h + 53 + 6 * j ≤ q ∧ q < h + 53 + 6 * j + 3) → E0 q = E0 q := fun _ _ => rfl
  refine lv_aload_n C0.1 C0.2.1 dX9_restore_0 rfl (lv_at hl 0 rfl) ?_
  refine mm_get (fs := [.ref (h + 1), .ref (h + 2), .ref (h + 3), .ref (h + 4), .ref (h + 6), .ref (h + 17), .ref (h + 30), .ref (h + 31), .ref (h + 46), .ref (h + 48), .int (zI (S.1.1))]) C0 (C := RX9) (T := TX9) (N := 11) iG_X9 hM (hO1) rfl 10 (by decide) tw_246 rfl rfl dX9_restore_1 ?_
  refine z_if_ne (tgt := 10) C0.1 C0.2.1 dX9_restore_4 (by decide) ⟨by omega, by omega⟩ (fun c_4 => ?_) (fun c_4 => ?_)
  · skip
    refine lv_iconst (v := zI 0) C0.1 C0.2.1 dX9_restore_10 rfl ?_
    refine lv_istore_n (lv' := [(1, .int (zI (0))), (0, .ref (h))]) C0.1 C0.2.1 dX9_restore_11 rfl hl (by decide) rfl (fun ls hl => ?_)
    have L12 : ∀ (k12 : Nat) (i : Nat) (E1 : mE) (H : Heap) (locs : List Loc) (ls : Array Slot), (i ≤ 8) → (hO G E1 h S.1.1) → (E1 (h + 1) = some (mm_Q G 2 8 f1)) → (E1 (h + 2) = some (mm_Q G 2 8 f2)) → (plS G E1 (h + 53) S.2.2.1) → (plS G E1 (h + 50) (cpP S.2.2.1 S.2.1 i)) → (∀ q : Nat, (q < h + 50 ∨ h + 50 + 45 ≤ q ∨ ∃ j, j < 8 ∧ h + 53 + 6 * j ≤ q ∧ q < h + 53 + 6 * j + 3) → E1 q = E0 q) → 8 - i < k12 → mm_M G E1 H → va_S (mm_A G) s.heap H locs → lv_has ls 2 [(0, .ref (h)), (1, .int (zI ((i : Int))))] → W p l e rX9_restore s m args below meth c H locs 0 0 (mm_Zi G below args s (fun z E => z = (pf_restore S).1 ∧ st G E h (pf_restore S).2 ∧ ∀ q : Nat, (q < h ∨ h + 106 ≤ q) → E q = E0 q)) (F0 m 12 ls []) := by
      intro k12
      induction k12 with
      | zero => intro i E1 H locs ls hi hO1 hr1 hr2 hSr hDs hfr hk hM hS hl; exact absurd hk (Nat.not_lt_zero _)
      | succ k12 ih12 =>
        intro i E1 H locs ls hi hO1 hr1 hr2 hSr hDs hfr hk12 hM hS hl
        refine lv_iload_n C0.1 C0.2.1 dX9_restore_12 rfl (lv_at hl 1 rfl) ?_
        refine lv_bipush (v := zI 8) C0.1 C0.2.1 dX9_restore_13 rfl ?_
        refine z_icmp_ge (tgt := 39) C0.1 C0.2.1 dX9_restore_15 (by decide) ⟨by omega, by omega⟩ ⟨by omega, by omega⟩ (fun c_15 => ?_) (fun c_15 => ?_)
        · skip
          have hi8 : i = 8 := by omega
          subst hi8
          have hDe := hDs.cp
          refine lv_iconst (v := zI 1) C0.1 C0.2.1 dX9_restore_39 rfl ?_
          exact mm_iret (z := 1) C0 hr hlk hM hS dX9_restore_40 (by have he : pf_restore S = (1, (S.1, S.2.2.1, S.2.2.1, S.2.2.2)) := (by unfold pf_restore; rw [if_neg (by omega)]); rw [he]; exact ⟨rfl, ⟨⟨hO1, ⟨f1, f2, f3, hr1, hr2, (hfr (h + 3) (by omega)).trans hr3, hf1, hf2, hf3⟩, ⟨hTp.kept (hfr _ (by omega)) (hfr _ (by omega)), hTk⟩, ⟨hDe, hKk⟩, ⟨hSr, hKk⟩, ⟨hSh.kept (fun q hq => hfr q (by omega)), hSk⟩⟩, hSc.kept (fun q hq => hfr q (by omega))⟩, fun q hq => hfr q (by omega)⟩)
        · skip
          obtain ⟨hs_i, hv_i⟩ := hSr i (by omega)
          obtain ⟨hd_i, hx_i⟩ := hDs i (by omega)
          refine lv_aload_n C0.1 C0.2.1 dX9_restore_18 rfl (lv_at hl 0 rfl) ?_
          refine mm_get (fs := [.ref (h + 1), .ref (h + 2), .ref (h + 3), .ref (h + 4), .ref (h + 6), .ref (h + 17), .ref (h + 30), .ref (h + 31), .ref (h + 46), .ref (h + 48), .int (zI (S.1.1))]) C0 (C := RX9) (T := TX9) (N := 11) iG_X9 hM (hO1) rfl 0 (by decide) tw_236 rfl rfl dX9_restore_19 ?_
          refine lv_iload_n C0.1 C0.2.1 dX9_restore_22 rfl (lv_at hl 1 rfl) ?_
          refine mm_aald C0 hM 2 (C := "OrangeHeaps$Place") (hr1) rfl (i) (i := (i : Int)) (by omega) (by omega) (by decide) (v := h + 50 + 6 * i) (hf1 _ (by omega)) dX9_restore_23 ?_
          refine lv_aload_n C0.1 C0.2.1 dX9_restore_24 rfl (lv_at hl 0 rfl) ?_
          refine mm_get (fs := [.ref (h + 1), .ref (h + 2), .ref (h + 3), .ref (h + 4), .ref (h + 6), .ref (h + 17), .ref (h + 30), .ref (h + 31), .ref (h + 46), .ref (h + 48), .int (zI (S.1.1))]) C0 (C := RX9) (T := TX9) (N := 11) iG_X9 hM (hO1) rfl 1 (by decide) tw_237 rfl rfl dX9_restore_25 ?_
          refine lv_iload_n C0.1 C0.2.1 dX9_restore_28 rfl (lv_at hl 1 rfl) ?_
          refine mm_aald C0 hM 2 (C := "OrangeHeaps$Place") (hr2) rfl (i) (i := (i : Int)) (by omega) (by omega) (by decide) (v := h + 53 + 6 * i) (hf2 _ (by omega)) dX9_restore_29 ?_
          refine mm_callVv (As := [.ref (h + 53 + 6 * i)]) C0 vw_X3_copy tw_859 (c_X3_copy l G _ hd_i hx_i.v hs_i hv_i (by omega)) hM (hd_i) rfl rfl hl.1 rfl (Nat.le_of_ble_eq_true rfl) ⟨rfl, rfl, Nat.le_of_ble_eq_true rfl, Nat.le_of_ble_eq_true rfl, Nat.zero_le _, Nat.zero_le _⟩ dX9_restore_30 hS (fun E2 H locs hp hM hS => ?_)
          obtain ⟨hd2, hx2, fr⟩ := hp
          have hO1 := hO.kept hO1 (fr _ (by omega))
          have hr1 := (fr _ (by omega)).trans hr1
          have hr2 := (fr _ (by omega)).trans hr2
          have hSr := plS.kept hSr (fun q hq => fr q (by obtain ⟨j, g2, g3, g4⟩ := hq; omega))
          have hfr := (fun q h => (fr q (by rcases h with h | h | ⟨j, g2, g3, g4⟩ <;> omega)).trans (hfr q h) : ∀ q : Nat, (q < h + 50 ∨ h + 50 + 45 ≤ q ∨ ∃ j, j < 8 ∧ h + 53 + 6 * j ≤ q ∧ q < h + 53 + 6 * j + 3) → E2 q = E0 q)
          have hDs := hDs.put (i := i) (by omega) hd2 hx2 (fun q hq => fr q (by obtain ⟨j, g1, g2, g3, g4⟩ := hq; omega))
          refine lv_iinc (v := zI (((i + 1 : Nat) : Int))) (lv' := [(1, .int (zI (((i + 1 : Nat) : Int)))), (0, .ref (h))]) C0.1 C0.2.1 dX9_restore_33 hl (k := 1) rfl (z_inc (a := (i : Int)) (n := 1) (by omega)) (by decide) rfl (fun ls hl => ?_)
          refine lv_goto (tgt := 12) C0.1 C0.2.1 dX9_restore_36 (by decide) ?_
          exact ih12  (i + 1) E2 _ _ _ (by omega) (hO1) (hr1) (hr2) (hSr) (hDs) (hfr) (by omega) hM hS (lv_sub hl [1, 0] rfl)
    exact L12 (_ + 1) 0 E0 _ _ _ (Nat.zero_le _) (hO1) (hr1) (hr2) (hKl) (hPl) (fun _ _ => rfl) (Nat.lt_succ_self _) hM hS (lv_sub hl [1, 0] rfl)
  · skip
    refine lv_bipush (v := zI (-4)) C0.1 C0.2.1 dX9_restore_7 rfl ?_
    exact mm_iret (z := (-4)) C0 hr hlk hM hS dX9_restore_9 (by have he : pf_restore S = ((-4), S) := (by unfold pf_restore; rw [if_pos (by omega)]); rw [he]; exact ⟨rfl, hSo, (fun _ _ => rfl)⟩)

def rX9_isSo : Room := { frames := 5, cells := 0, slots := 0, locals := 122 }
theorem vw_X9_isSo : mm_Vw RX9 yX9_isSo cX9_isSo 1 (some .boolean) 0 := ⟨tw_846, tp_16, tw_1, tw_847, by decide +kernel⟩
set_option maxHeartbeats 4000000 in
set_option maxRecDepth 100000 in
theorem c_X9_isSo (l : Launch) (G : mG) (E0 : mE) {h : Nat} {S : mST} (hS9 : st G E0 h S) {a : Nat} {v kd k n rd : Int} (hT9 : tp G E0 (h + 4) S.1.2.1 S.1.2.2 a v kd k n rd) (hv0 : 0 ≤ v) (hv9 : v < 1000000000000000000) (hkd0 : 0 ≤ kd) (hkd4 : kd ≤ 4) (hk0 : 0 ≤ k) (hk9 : k ≤ 99) (hk3 : 3 ≤ kd → 3 ≤ k) (hn0 : 0 ≤ n) (hn9 : n < 1000000000) : mm_Ci l yX9_isSo (.code yX9_isSo cX9_isSo 1 (some .boolean) :: wsG) rX9_isSo G [.ref (h)] E0 (fun z E => ((z = 1 ∧ shp kd.toNat k.toNat n.toNat = v.toNat) ∨ (z = 0 ∧ ¬ shp kd.toNat k.toNat n.toNat = v.toNat)) ∧ st G E h S ∧ ∀ q : Nat, ((q < h + 17 ∨ h + 30 ≤ q) ∧ (q < h + 46 ∨ h + 50 ≤ q)) → E q = E0 q) := by
  refine mm_of_i (by decide +kernel) (Nat.le_of_ble_eq_true rfl) ?_
  intro p e s m args below meth c ls C0 hr hlk hM hl hS
  have hl : lv_has ls 1 [(0, .ref (h))] := hl
  have hSo := hS9
  obtain ⟨⟨hO1, ⟨f1, f2, f3, hr1, hr2, hr3, hf1, hf2, hf3⟩, ⟨hTp, hTk⟩, ⟨hPl, hPk⟩, ⟨hKl, hKk⟩, ⟨hSh, hSk⟩⟩, hSc⟩ := hS9
  obtain ⟨hb0, hb1, hb2, hb3, hb4, hb5, hb6⟩ := hSo.2.2.1
  obtain ⟨hR46, hR48⟩ := hSo.2.2.2.2.2
  have hfr : ∀ q : Nat, ((q < h + 17 ∨ h + 30 ≤ q) ∧ (q < h + 46 ∨ h + 50 ≤ q)) → E0 q = E0 q := fun _ _ => rfl
  refine lv_aload_n C0.1 C0.2.1 dX9_isSo_0 rfl (lv_at hl 0 rfl) ?_
  refine mm_get (fs := [.ref (h + 1), .ref (h + 2), .ref (h + 3), .ref (h + 4), .ref (h + 6), .ref (h + 17), .ref (h + 30), .ref (h + 31), .ref (h + 46), .ref (h + 48), .int (zI (S.1.1))]) C0 (C := RX9) (T := TX9) (N := 11) iG_X9 hM (hO1) rfl 9 (by decide) tw_245 rfl rfl dX9_isSo_1 ?_
  refine lv_aload_n C0.1 C0.2.1 dX9_isSo_4 rfl (lv_at hl 0 rfl) ?_
  refine mm_get (fs := [.ref (h + 1), .ref (h + 2), .ref (h + 3), .ref (h + 4), .ref (h + 6), .ref (h + 17), .ref (h + 30), .ref (h + 31), .ref (h + 46), .ref (h + 48), .int (zI (S.1.1))]) C0 (C := RX9) (T := TX9) (N := 11) iG_X9 hM (hO1) rfl 3 (by decide) tw_239 rfl rfl dX9_isSo_5 ?_
  refine mm_get (fs := [.ref (h + 4 + 1), .int (zI (((S.1.2.2 : Nat) : Int))), .int (zI ((a : Int))), .long (zL (v)), .int (zI (kd)), .int (zI (k)), .long (zL (n)), .long (zL (rd))]) C0 (C := RX7) (T := TX7) (N := 8) iG_X7 hM (hT9.1) rfl 6 (by decide) tw_48 rfl rfl dX9_isSo_8 ?_
  refine mm_callVv (As := [.long (zL (n))]) C0 vw_X8_setLong tw_277 (c_X8_setLongV l G _ (N := n.toNat) hR48 (by omega) (by omega)) hM ((hR48.obj).choose_spec) rfl rfl hl.1 rfl (Nat.le_of_ble_eq_true rfl) ⟨rfl, rfl, Nat.le_of_ble_eq_true rfl, Nat.le_of_ble_eq_true rfl, Nat.zero_le _, Nat.zero_le _⟩ dX9_isSo_11 hS (fun E1 H locs hp hM hS => ?_)
  obtain ⟨hY, fr⟩ := hp
  have hO1 := hO.kept hO1 (fr _ (by omega))
  have hT9 := tp.kept hT9 (fr _ (by omega)) (fr _ (by omega))
  have hR46 := isV.kept hR46 (fr _ (by omega)) (fr _ (by omega))
  have hfr := (fun q h => (fr q (by omega)).trans (hfr q h) : ∀ q : Nat, ((q < h + 17 ∨ h + 30 ≤ q) ∧ (q < h + 46 ∨ h + 50 ≤ q)) → E1 q = E0 q)
  have hb0 := sk.kept hb0 (fr _ (by omega))
  have hb1 := isV.kept hb1 (fr _ (by omega)) (fr _ (by omega))
  have hb2 := isV.kept hb2 (fr _ (by omega)) (fr _ (by omega))
  have hb3 := isV.kept hb3 (fr _ (by omega)) (fr _ (by omega))
  have hb4 := isV.kept hb4 (fr _ (by omega)) (fr _ (by omega))
  have hb5 := isV.kept hb5 (fr _ (by omega)) (fr _ (by omega))
  have hb6 := isV.kept hb6 (fr _ (by omega)) (fr _ (by omega))
  refine lv_aload_n C0.1 C0.2.1 dX9_isSo_14 rfl (lv_at hl 0 rfl) ?_
  refine mm_get (fs := [.ref (h + 1), .ref (h + 2), .ref (h + 3), .ref (h + 4), .ref (h + 6), .ref (h + 17), .ref (h + 30), .ref (h + 31), .ref (h + 46), .ref (h + 48), .int (zI (S.1.1))]) C0 (C := RX9) (T := TX9) (N := 11) iG_X9 hM (hO1) rfl 5 (by decide) tw_241 rfl rfl dX9_isSo_15 ?_
  refine lv_aload_n C0.1 C0.2.1 dX9_isSo_18 rfl (lv_at hl 0 rfl) ?_
  refine mm_get (fs := [.ref (h + 1), .ref (h + 2), .ref (h + 3), .ref (h + 4), .ref (h + 6), .ref (h + 17), .ref (h + 30), .ref (h + 31), .ref (h + 46), .ref (h + 48), .int (zI (S.1.1))]) C0 (C := RX9) (T := TX9) (N := 11) iG_X9 hM (hO1) rfl 3 (by decide) tw_239 rfl rfl dX9_isSo_19 ?_
  refine mm_get (fs := [.ref (h + 4 + 1), .int (zI (((S.1.2.2 : Nat) : Int))), .int (zI ((a : Int))), .long (zL (v)), .int (zI (kd)), .int (zI (k)), .long (zL (n)), .long (zL (rd))]) C0 (C := RX7) (T := TX7) (N := 8) iG_X7 hM (hT9.1) rfl 4 (by decide) tw_44 rfl rfl dX9_isSo_22 ?_
  refine z_asI (a := kd) (b := ((kd.toNat : Nat) : Int)) (by omega) ?_
  refine lv_aload_n C0.1 C0.2.1 dX9_isSo_25 rfl (lv_at hl 0 rfl) ?_
  refine mm_get (fs := [.ref (h + 1), .ref (h + 2), .ref (h + 3), .ref (h + 4), .ref (h + 6), .ref (h + 17), .ref (h + 30), .ref (h + 31), .ref (h + 46), .ref (h + 48), .int (zI (S.1.1))]) C0 (C := RX9) (T := TX9) (N := 11) iG_X9 hM (hO1) rfl 3 (by decide) tw_239 rfl rfl dX9_isSo_26 ?_
  refine mm_get (fs := [.ref (h + 4 + 1), .int (zI (((S.1.2.2 : Nat) : Int))), .int (zI ((a : Int))), .long (zL (v)), .int (zI (kd)), .int (zI (k)), .long (zL (n)), .long (zL (rd))]) C0 (C := RX7) (T := TX7) (N := 8) iG_X7 hM (hT9.1) rfl 5 (by decide) tw_46 rfl rfl dX9_isSo_29 ?_
  refine z_asI (a := k) (b := ((k.toNat : Nat) : Int)) (by omega) ?_
  refine lv_aload_n C0.1 C0.2.1 dX9_isSo_32 rfl (lv_at hl 0 rfl) ?_
  refine mm_get (fs := [.ref (h + 1), .ref (h + 2), .ref (h + 3), .ref (h + 4), .ref (h + 6), .ref (h + 17), .ref (h + 30), .ref (h + 31), .ref (h + 46), .ref (h + 48), .int (zI (S.1.1))]) C0 (C := RX9) (T := TX9) (N := 11) iG_X9 hM (hO1) rfl 9 (by decide) tw_245 rfl rfl dX9_isSo_33 ?_
  refine lv_aload_n C0.1 C0.2.1 dX9_isSo_36 rfl (lv_at hl 0 rfl) ?_
  refine mm_get (fs := [.ref (h + 1), .ref (h + 2), .ref (h + 3), .ref (h + 4), .ref (h + 6), .ref (h + 17), .ref (h + 30), .ref (h + 31), .ref (h + 46), .ref (h + 48), .int (zI (S.1.1))]) C0 (C := RX9) (T := TX9) (N := 11) iG_X9 hM (hO1) rfl 8 (by decide) tw_244 rfl rfl dX9_isSo_37 ?_
  have hvn : nl v.toNat ≤ 3 := (nl_le _ _).mpr (by omega)
  refine mm_callVi (As := [.int (zI (((kd.toNat : Nat) : Int))), .int (zI (((k.toNat : Nat) : Int))), .ref (h + 48), .ref (h + 46)]) C0 vw_X5_term tw_503 (c_X5_term l G _ kd.toNat k.toNat (by omega) (by omega) (by omega) hb0 hb1 hb2 hb3 hY hR46 (by omega) (by omega) (by omega)) hM (hb0) rfl rfl hl.1 rfl (Nat.le_of_ble_eq_true rfl) ⟨rfl, rfl, Nat.le_of_ble_eq_true rfl, Nat.le_of_ble_eq_true rfl, Nat.zero_le _, Nat.zero_le _⟩ dX9_isSo_40 hS (fun z_40 E2 H locs hp hM hS => ?_)
  obtain ⟨hz40, hb1, hb2, hb3, fr⟩ := hp
  have hO1 := hO.kept hO1 (fr _ (by omega))
  have hT9 := tp.kept hT9 (fr _ (by omega)) (fr _ (by omega))
  have hfr := (fun q h => (fr q (by omega)).trans (hfr q h) : ∀ q : Nat, ((q < h + 17 ∨ h + 30 ≤ q) ∧ (q < h + 46 ∨ h + 50 ≤ q)) → E2 q = E0 q)
  have hb0 := sk.kept hb0 (fr _ (by omega))
  have hb4 := isV.kept hb4 (fr _ (by omega)) (fr _ (by omega))
  have hb5 := isV.kept hb5 (fr _ (by omega)) (fr _ (by omega))
  have hb6 := isV.kept hb6 (fr _ (by omega)) (fr _ (by omega))
  have hY := isW.kept hY (fr _ (by omega)) (fr _ (by omega))
  have hz01 : z_40 = 0 ∨ z_40 = 1 := hz40.elim (fun h => Or.inr h.1) (fun h => Or.inl h.1)
  refine z_if_ne (tgt := 48) C0.1 C0.2.1 dX9_isSo_43 (by decide) ⟨by omega, by omega⟩ (fun c_43 => ?_) (fun c_43 => ?_)
  · skip
    obtain ⟨hW, hnl⟩ := hz40.elim (fun h => h.2) (fun h => by omega)
    refine lv_aload_n C0.1 C0.2.1 dX9_isSo_48 rfl (lv_at hl 0 rfl) ?_
    refine mm_get (fs := [.ref (h + 1), .ref (h + 2), .ref (h + 3), .ref (h + 4), .ref (h + 6), .ref (h + 17), .ref (h + 30), .ref (h + 31), .ref (h + 46), .ref (h + 48), .int (zI (S.1.1))]) C0 (C := RX9) (T := TX9) (N := 11) iG_X9 hM (hO1) rfl 9 (by decide) tw_245 rfl rfl dX9_isSo_49 ?_
    refine lv_aload_n C0.1 C0.2.1 dX9_isSo_52 rfl (lv_at hl 0 rfl) ?_
    refine mm_get (fs := [.ref (h + 1), .ref (h + 2), .ref (h + 3), .ref (h + 4), .ref (h + 6), .ref (h + 17), .ref (h + 30), .ref (h + 31), .ref (h + 46), .ref (h + 48), .int (zI (S.1.1))]) C0 (C := RX9) (T := TX9) (N := 11) iG_X9 hM (hO1) rfl 3 (by decide) tw_239 rfl rfl dX9_isSo_53 ?_
    refine mm_get (fs := [.ref (h + 4 + 1), .int (zI (((S.1.2.2 : Nat) : Int))), .int (zI ((a : Int))), .long (zL (v)), .int (zI (kd)), .int (zI (k)), .long (zL (n)), .long (zL (rd))]) C0 (C := RX7) (T := TX7) (N := 8) iG_X7 hM (hT9.1) rfl 3 (by decide) tw_42 rfl rfl dX9_isSo_56 ?_
    refine mm_callVv (As := [.long (zL (v))]) C0 vw_X8_setLong tw_277 (c_X8_setLongV l G _ (N := v.toNat) hY.v (by omega) (by omega)) hM ((hY.v.obj).choose_spec) rfl rfl hl.1 rfl (Nat.le_of_ble_eq_true rfl) ⟨rfl, rfl, Nat.le_of_ble_eq_true rfl, Nat.le_of_ble_eq_true rfl, Nat.zero_le _, Nat.zero_le _⟩ dX9_isSo_59 hS (fun E3 H locs hp hM hS => ?_)
    obtain ⟨hY, fr⟩ := hp
    have hO1 := hO.kept hO1 (fr _ (by omega))
    have hT9 := tp.kept hT9 (fr _ (by omega)) (fr _ (by omega))
    have hfr := (fun q h => (fr q (by omega)).trans (hfr q h) : ∀ q : Nat, ((q < h + 17 ∨ h + 30 ≤ q) ∧ (q < h + 46 ∨ h + 50 ≤ q)) → E3 q = E0 q)
    have hb0 := sk.kept hb0 (fr _ (by omega))
    have hb1 := isV.kept hb1 (fr _ (by omega)) (fr _ (by omega))
    have hb2 := isV.kept hb2 (fr _ (by omega)) (fr _ (by omega))
    have hb3 := isV.kept hb3 (fr _ (by omega)) (fr _ (by omega))
    have hb4 := isV.kept hb4 (fr _ (by omega)) (fr _ (by omega))
    have hb5 := isV.kept hb5 (fr _ (by omega)) (fr _ (by omega))
    have hb6 := isV.kept hb6 (fr _ (by omega)) (fr _ (by omega))
    have hW := isW.kept hW (fr _ (by omega)) (fr _ (by omega))
    refine lv_aload_n C0.1 C0.2.1 dX9_isSo_62 rfl (lv_at hl 0 rfl) ?_
    refine mm_get (fs := [.ref (h + 1), .ref (h + 2), .ref (h + 3), .ref (h + 4), .ref (h + 6), .ref (h + 17), .ref (h + 30), .ref (h + 31), .ref (h + 46), .ref (h + 48), .int (zI (S.1.1))]) C0 (C := RX9) (T := TX9) (N := 11) iG_X9 hM (hO1) rfl 8 (by decide) tw_244 rfl rfl dX9_isSo_63 ?_
    refine lv_aload_n C0.1 C0.2.1 dX9_isSo_66 rfl (lv_at hl 0 rfl) ?_
    refine mm_get (fs := [.ref (h + 1), .ref (h + 2), .ref (h + 3), .ref (h + 4), .ref (h + 6), .ref (h + 17), .ref (h + 30), .ref (h + 31), .ref (h + 46), .ref (h + 48), .int (zI (S.1.1))]) C0 (C := RX9) (T := TX9) (N := 11) iG_X9 hM (hO1) rfl 9 (by decide) tw_245 rfl rfl dX9_isSo_67 ?_
    refine mm_callVi (As := [.ref (h + 48)]) C0 vw_X8_compareWith tw_402 (c_X8_compareWith l G _ hW hY) hM ((hW.v.obj).choose_spec) rfl rfl hl.1 rfl (Nat.le_of_ble_eq_true rfl) ⟨rfl, rfl, Nat.le_of_ble_eq_true rfl, Nat.le_of_ble_eq_true rfl, Nat.zero_le _, Nat.zero_le _⟩ dX9_isSo_70 hS (fun z_70 E4 H locs hp hM hS => ?_)
    obtain ⟨hz_70, hEq⟩ := hp
    rw [hEq] at hM
    refine z_asI (b := (cmpZ (shp kd.toNat k.toNat n.toNat) v.toNat)) (hz_70) ?_
    have hcm : (cmpZ (shp kd.toNat k.toNat n.toNat) (v.toNat) = -1 ∧ shp kd.toNat k.toNat n.toNat < v.toNat) ∨ (cmpZ (shp kd.toNat k.toNat n.toNat) (v.toNat) = 0 ∧ shp kd.toNat k.toNat n.toNat = v.toNat) ∨ (cmpZ (shp kd.toNat k.toNat n.toNat) (v.toNat) = 1 ∧ v.toNat < shp kd.toNat k.toNat n.toNat) := by unfold cmpZ; omega
    refine z_if_ne (tgt := 80) C0.1 C0.2.1 dX9_isSo_73 (by decide) ⟨by omega, by omega⟩ (fun c_73 => ?_) (fun c_73 => ?_)
    · skip
      refine lv_iconst (v := zI 0) C0.1 C0.2.1 dX9_isSo_80 rfl ?_
      exact mm_zret (z := 0) C0 hr hlk hM hS (by omega) dX9_isSo_81 (⟨Or.inr ⟨rfl, by omega⟩, ⟨hSo.1.kept (fun q h => hfr q (by omega)), hSo.2.1.kept (fun q h => hfr q (by omega)), ⟨hb0, hb1, hb2, hb3, hb4, hb5, hb6⟩, hSo.2.2.2.1.kept (hfr _ (by omega)), hSo.2.2.2.2.1.kept (fun q h => hfr q (by omega)), hW.v, hY.v⟩, hfr⟩)
    · skip
      refine lv_iconst (v := zI 1) C0.1 C0.2.1 dX9_isSo_76 rfl ?_
      refine lv_goto (tgt := 81) C0.1 C0.2.1 dX9_isSo_77 (by decide) ?_
      exact mm_zret (z := 1) C0 hr hlk hM hS (by omega) dX9_isSo_81 (⟨Or.inl ⟨rfl, by omega⟩, ⟨hSo.1.kept (fun q h => hfr q (by omega)), hSo.2.1.kept (fun q h => hfr q (by omega)), ⟨hb0, hb1, hb2, hb3, hb4, hb5, hb6⟩, hSo.2.2.2.1.kept (hfr _ (by omega)), hSo.2.2.2.2.1.kept (fun q h => hfr q (by omega)), hW.v, hY.v⟩, hfr⟩)
  · skip
    obtain ⟨hV, hnl⟩ := hz40.elim (fun h => by omega) (fun h => h.2)
    refine lv_iconst (v := zI 0) C0.1 C0.2.1 dX9_isSo_46 rfl ?_
    exact mm_zret (z := 0) C0 hr hlk hM hS (by omega) dX9_isSo_47 (⟨Or.inr ⟨rfl, fun q => by rw [q] at hnl; omega⟩, ⟨hSo.1.kept (fun q h => hfr q (by omega)), hSo.2.1.kept (fun q h => hfr q (by omega)), ⟨hb0, hb1, hb2, hb3, hb4, hb5, hb6⟩, hSo.2.2.2.1.kept (hfr _ (by omega)), hSo.2.2.2.2.1.kept (fun q h => hfr q (by omega)), hV, hY.v⟩, hfr⟩)

theorem clZ_b {B : Nat → Int} {L a : Nat} (hT : okT B L) (ha : a ≤ L) : -200 ≤ clZ B L a ∧ clZ B L a ≤ 0 := by
  have hL := hT.1
  have h1 := (skp_b (B := B) ha).1
  have h2 : rnE B L a ≤ L := (fe_le _ _ (Nat.le_refl _) h1).1
  have h3 : clP1 B L a ≤ L := (skp_b (B := B) h2).1
  unfold clZ
  split
  · omega
  · split
    · omega
    · rename_i q1 q2
      have q3 : clP1 B L a < L := (Classical.not_not.mp q2).1
      have h4 : clP2 B L a ≤ L := (skp_b (B := B) (show clP1 B L a + 1 ≤ L by omega)).1
      split
      · omega
      · rename_i q4
        have h5 : clP2 B L a < L := by
          by_cases q : clP2 B L a < L
          · exact q
          · exfalso; apply q4; unfold clD; rw [if_neg q]; omega
        have h6 := cnZ_b hT (b := clP2 B L a + 1) (by omega)
        split
        · omega
        · rename_i q5
          have h7 : clP5 B L a ≤ L := by
            unfold clP5
            split
            · rename_i q6
              have h8 : cnZ B L (clP2 B L a + 1) = 0 := Classical.byContradiction fun q => q5 ⟨q6, q⟩
              unfold cnZ at h8
              split at h8
              · omega
              · split at h8
                · rename_i q8; omega
                · omega
            · omega
          rcases rnZ_c B L (clP5 B L a) 0 999999999 with ⟨-, h⟩ | ⟨-, h⟩
          · have := (skp_b (B := B) h7).1; omega
          · omega
theorem clZ_0 {B : Nat → Int} {L a : Nat} (h : clZ B L a = 0) : (0 ≤ rnV B L a ∧ rnV B L a ≤ 999999999999999999) ∧ (0 ≤ clD B L a ∧ clD B L a < 5) ∧ (3 ≤ clD B L a → 3 ≤ rnV B L (clP2 B L a + 1)) ∧ (0 ≤ rnV B L (clP5 B L a) ∧ rnV B L (clP5 B L a) ≤ 999999999) := by
  unfold clZ at h
  split at h
  · omega
  · rename_i q1
    split at h
    · omega
    · split at h
      · omega
      · rename_i q2 q4
        split at h
        · rename_i q5; exact absurd h q5.2
        · rename_i q5
          refine ⟨rn_k q1, ⟨by omega, (clD_b B L a).2⟩, fun q6 => ?_, ?_⟩
          · have h8 : cnZ B L (clP2 B L a + 1) = 0 := Classical.byContradiction fun q => q5 ⟨q6, q⟩
            unfold cnZ at h8
            split at h8
            · omega
            · rename_i q7; exact (rn_k q7).1
          · rcases rnZ_c B L (clP5 B L a) 0 999999999 with ⟨-, h9⟩ | ⟨h9, -⟩
            · omega
            · exact rn_k h9
theorem so_e {B : Nat → Int} {L a : Nat} {v kd k n : Int} (h1 : v = rnV B L a) (h2 : kd = clD B L a) (h3 : 3 ≤ clD B L a → k = rnV B L (clP2 B L a + 1)) (h4 : n = rnV B L (clP5 B L a)) : (shp kd.toNat k.toNat n.toNat = v.toNat) ↔ soP B L a := by
  unfold soP
  subst h1 h2 h4
  by_cases q : 3 ≤ clD B L a
  · rw [h3 q]
  · rw [shp_kk (k2 := (rnV B L (clP2 B L a + 1)).toNat) (show (clD B L a).toNat < 3 by omega)]

def rX9_judgeAll : Room := { frames := 6, cells := 0, slots := 0, locals := 142 }
theorem vw_X9_judgeAll : mm_Vw RX9 yX9_judgeAll cX9_judgeAll 4 (some .int) 0 := ⟨tw_730, tp_13, tw_1, tw_731, by decide +kernel⟩
set_option maxHeartbeats 4000000 in
set_option maxRecDepth 100000 in
theorem c_X9_judgeAll (l : Launch) (G : mG) (E0 : mE) {h : Nat} {S : mST} (hS9 : st G E0 h S) : mm_Ci l yX9_judgeAll (.code yX9_judgeAll cX9_judgeAll 4 (some .int) :: wsG) rX9_judgeAll G [.ref (h)] E0 (fun z E => z = jdg S.1.2.1 S.1.2.2 8 0 0 (-4) ∧ st G E h S ∧ ∀ q : Nat, (q < h ∨ h + 106 ≤ q) → E q = E0 q) := by
  refine mm_of_i (by decide +kernel) (Nat.le_of_ble_eq_true rfl) ?_
  intro p e s m args below meth c ls C0 hr hlk hM hl hS
  have hl : lv_has ls 4 [(0, .ref (h))] := hl
  have hSo := hS9
  obtain ⟨⟨hO1, ⟨f1, f2, f3, hr1, hr2, hr3, hf1, hf2, hf3⟩, ⟨hTp, hTk⟩, ⟨hPl, hPk⟩, ⟨hKl, hKk⟩, ⟨hSh, hSk⟩⟩, hSc⟩ := hS9
  obtain ⟨ta, tv, tkd, tk, tn, trd, hT9, htk0, htk1⟩ := hTp
  have hL9 := hTk.1
  have hfr : ∀ q : Nat, (q < h ∨ h + 106 ≤ q) → E0 q = E0 q := fun _ _ => rfl
  have hSt := hSo
  refine lv_bipush (v := zI (-4)) C0.1 C0.2.1 dX9_judgeAll_0 rfl ?_
  refine lv_istore_n (lv' := [(1, .int (zI ((-4)))), (0, .ref (h))]) C0.1 C0.2.1 dX9_judgeAll_2 rfl hl (by decide) rfl (fun ls hl => ?_)
  refine lv_aload_n C0.1 C0.2.1 dX9_judgeAll_3 rfl (lv_at hl 1 rfl) ?_
  refine mm_get (fs := [.ref (h + 1), .ref (h + 2), .ref (h + 3), .ref (h + 4), .ref (h + 6), .ref (h + 17), .ref (h + 30), .ref (h + 31), .ref (h + 46), .ref (h + 48), .int (zI (S.1.1))]) C0 (C := RX9) (T := TX9) (N := 11) iG_X9 hM (hO1) rfl 3 (by decide) tw_239 rfl rfl dX9_judgeAll_4 ?_
  refine lv_iconst (v := zI 0) C0.1 C0.2.1 dX9_judgeAll_7 rfl ?_
  refine mm_put (v := .int (zI (0))) (fs := [.ref (h + 4 + 1), .int (zI (((S.1.2.2 : Nat) : Int))), .int (zI ((ta : Int))), .long (zL (tv)), .int (zI (tkd)), .int (zI (tk)), .long (zL (tn)), .long (zL (trd))]) C0 (C := RX7) (T := TX7) (N := 8) iG_X7 tyX7 tyX7_ok nmX7 hM hS (hT9.1) rfl 2 (by decide) tw_40 rfl rfl (ty := tyX7 2) (tyX7_ok 2 (by decide)) rfl rfl (Nat.le_of_ble_eq_true rfl) dX9_judgeAll_8 (fun H locs hM hS hsz => ?_)
  obtain ⟨E1, hE1⟩ : ∃ X : mE, X = mm_up E0 (h + 4) (.inr (6, [.ref (h + 4 + 1), .int (zI (((S.1.2.2 : Nat) : Int))), .int (zI (0)), .long (zL (tv)), .int (zI (tkd)), .int (zI (tk)), .long (zL (tn)), .long (zL (trd))])) := ⟨_, rfl⟩
  replace hM : mm_M G E1 H := by rw [hE1]; exact hM
  have frs : ∀ q : Nat, q ≠ h + 4 → E1 q = E0 q := fun q h => by rw [hE1]; exact mm_up_n _ _ h
  have hat : E1 (h + 4) = some (.inr (6, [.ref (h + 4 + 1), .int (zI (((S.1.2.2 : Nat) : Int))), .int (zI (0)), .long (zL (tv)), .int (zI (tkd)), .int (zI (tk)), .long (zL (tn)), .long (zL (trd))])) := by rw [hE1]; exact mm_up_s _ _ _
  have hT9 : tp G E1 (h + 4) S.1.2.1 S.1.2.2 0 tv tkd tk tn trd := ⟨hat, (frs _ (by omega)).trans hT9.2⟩
  have hSt := hSt.tap2 hT9 ⟨htk0, htk1⟩ (fun q h => frs q (by omega))
  have hO1 := hO.kept hO1 (frs _ (by omega))
  have hfr := (fun q h => (frs q (by omega)).trans (hfr q h) : ∀ q : Nat, (q < h ∨ h + 106 ≤ q) → E1 q = E0 q)
  refine lv_iconst (v := zI 0) C0.1 C0.2.1 dX9_judgeAll_11 rfl ?_
  refine lv_istore_n (lv' := [(2, .int (zI (0))), (1, .int (zI ((-4)))), (0, .ref (h))]) C0.1 C0.2.1 dX9_judgeAll_12 rfl hl (by decide) rfl (fun ls hl => ?_)
  have L13 : ∀ (k13 : Nat) (i a : Nat) (w tv tkd tk tn trd : Int) (E2 : mE) (H : Heap) (locs : List Loc) (ls : Array Slot), (i ≤ 8) → (a ≤ S.1.2.2) → (-4 ≤ w) → (w ≤ 8) → (0 ≤ tk) → (tk ≤ 99) → (jdg S.1.2.1 S.1.2.2 8 0 0 (-4) = jdg S.1.2.1 S.1.2.2 (8 - i) i a w) → (hO G E2 h S.1.1) → (st G E2 h S) → (tp G E2 (h + 4) S.1.2.1 S.1.2.2 a tv tkd tk tn trd) → (∀ q : Nat, (q < h ∨ h + 106 ≤ q) → E2 q = E0 q) → 8 - i < k13 → mm_M G E2 H → va_S (mm_A G) s.heap H locs → lv_has ls 4 [(0, .ref (h)), (1, .int (zI (w))), (2, .int (zI ((i : Int))))] → W p l e rX9_judgeAll s m args below meth c H locs 0 0 (mm_Zi G below args s (fun z E => z = jdg S.1.2.1 S.1.2.2 8 0 0 (-4) ∧ st G E h S ∧ ∀ q : Nat, (q < h ∨ h + 106 ≤ q) → E q = E0 q)) (F0 m 13 ls []) := by
    intro k13
    induction k13 with
    | zero => intro i a w tv tkd tk tn trd E2 H locs ls hi ha hw0 hw9 htk0 htk1 hj hO1 hSt hT9 hfr hk hM hS hl; exact absurd hk (Nat.not_lt_zero _)
    | succ k13 ih13 =>
      intro i a w tv tkd tk tn trd E2 H locs ls hi ha hw0 hw9 htk0 htk1 hj hO1 hSt hT9 hfr hk13 hM hS hl
      refine lv_iload_n C0.1 C0.2.1 dX9_judgeAll_13 rfl (lv_at hl 2 rfl) ?_
      refine lv_bipush (v := zI 8) C0.1 C0.2.1 dX9_judgeAll_14 rfl ?_
      refine z_icmp_ge (tgt := 92) C0.1 C0.2.1 dX9_judgeAll_16 (by decide) ⟨by omega, by omega⟩ ⟨by omega, by omega⟩ (fun c_16 => ?_) (fun c_16 => ?_)
      · skip
        refine lv_iload_n C0.1 C0.2.1 dX9_judgeAll_92 rfl (lv_at hl 1 rfl) ?_
        exact mm_iret (z := w) C0 hr hlk hM hS dX9_judgeAll_93 (⟨by rw [hj, show 8 - i = 0 by omega]; rfl, hSt, hfr⟩)
      · skip
        refine lv_aload_n C0.1 C0.2.1 dX9_judgeAll_19 rfl (lv_at hl 0 rfl) ?_
        refine mm_get (fs := [.ref (h + 1), .ref (h + 2), .ref (h + 3), .ref (h + 4), .ref (h + 6), .ref (h + 17), .ref (h + 30), .ref (h + 31), .ref (h + 46), .ref (h + 48), .int (zI (S.1.1))]) C0 (C := RX9) (T := TX9) (N := 11) iG_X9 hM (hO1) rfl 3 (by decide) tw_239 rfl rfl dX9_judgeAll_20 ?_
        refine mm_callVi (As := []) C0 vw_X7_readClaim tw_732 (c_X7_readClaim l G _ hT9 hTk ha htk0 htk1) hM (hT9.1) rfl rfl hl.1 rfl (Nat.le_of_ble_eq_true rfl) ⟨rfl, rfl, Nat.le_of_ble_eq_true rfl, Nat.le_of_ble_eq_true rfl, Nat.zero_le _, Nat.zero_le _⟩ dX9_judgeAll_23 hS (fun z23 E3 H locs hp hM hS => ?_)
        obtain ⟨hz23, ⟨a9, v9, kd9, k9, n9, rd9, hT9, ha9, ⟨hk90, hk91⟩, himp⟩, fr⟩ := hp
        have hO1 := hO.kept hO1 (fr _ (by omega))
        have hfr := (fun q h => (fr q (by omega)).trans (hfr q h) : ∀ q : Nat, (q < h ∨ h + 106 ≤ q) → E3 q = E0 q)
        have hSt := hSt.tap2 hT9 ⟨hk90, hk91⟩ (fun q h => fr q (by omega))
        have hzb := clZ_b (a := a) hTk ha
        obtain ⟨hzb1, hzb2⟩ := hzb
        refine lv_istore_n (lv' := [(3, .int (zI (z23))), (0, .ref (h)), (1, .int (zI (w))), (2, .int (zI ((i : Int))))]) C0.1 C0.2.1 dX9_judgeAll_26 rfl hl (by decide) rfl (fun ls hl => ?_)
        refine lv_iload_n C0.1 C0.2.1 dX9_judgeAll_27 rfl (lv_at hl 0 rfl) ?_
        refine z_if_eq (tgt := 33) C0.1 C0.2.1 dX9_judgeAll_28 (by decide) ⟨by omega, by omega⟩ (fun c_28 => ?_) (fun c_28 => ?_)
        · skip
          obtain ⟨hi1, hi2, hi3, hi4, hi5⟩ := himp c_28
          obtain ⟨⟨hv1, hv2⟩, ⟨hd1, hd2⟩, hkd3, ⟨hn1, hn2⟩⟩ := clZ_0 (hz23.symm.trans c_28)
          have hso9 := so_e hi2 hi3 hi4 hi5
          have hlin := ha9
          refine lv_iload_n C0.1 C0.2.1 dX9_judgeAll_33 rfl (lv_at hl 2 rfl) ?_
          refine lv_bipush (v := zI (-4)) C0.1 C0.2.1 dX9_judgeAll_34 rfl ?_
          refine z_icmp_ne (tgt := 48) C0.1 C0.2.1 dX9_judgeAll_36 (by decide) ⟨by omega, by omega⟩ ⟨by omega, by omega⟩ (fun c_36 => ?_) (fun c_36 => ?_)
          · skip
            have hjw : jdW S.1.2.1 S.1.2.2 a i w = w := if_neg (fun q => c_36 q.1)
            refine lv_aload_n C0.1 C0.2.1 dX9_judgeAll_48 rfl (lv_at hl 1 rfl) ?_
            refine mm_get (fs := [.ref (h + 1), .ref (h + 2), .ref (h + 3), .ref (h + 4), .ref (h + 6), .ref (h + 17), .ref (h + 30), .ref (h + 31), .ref (h + 46), .ref (h + 48), .int (zI (S.1.1))]) C0 (C := RX9) (T := TX9) (N := 11) iG_X9 hM (hO1) rfl 3 (by decide) tw_239 rfl rfl dX9_judgeAll_49 ?_
            refine mm_callVi (As := []) C0 vw_X7_atEnd tw_848 (c_X7_atEnd l G _ hT9 hTk ha9) hM (hT9.1) rfl rfl hl.1 rfl (Nat.le_of_ble_eq_true rfl) ⟨rfl, rfl, Nat.le_of_ble_eq_true rfl, Nat.le_of_ble_eq_true rfl, Nat.zero_le _, Nat.zero_le _⟩ dX9_judgeAll_52 hS (fun z52 E4 H locs hp hM hS => ?_)
            obtain ⟨hz52, hT9, fr⟩ := hp
            have hO1 := hO.kept hO1 (fr _ (by omega))
            have hfr := (fun q h => (fr q (by omega)).trans (hfr q h) : ∀ q : Nat, (q < h ∨ h + 106 ≤ q) → E4 q = E0 q)
            have hSt := hSt.tap2 hT9 ⟨hk90, hk91⟩ (fun q h => fr q (by omega))
            have heb := skp_b (B := S.1.2.1) ha9
            have hei := skp_i (B := S.1.2.1) ha9
            obtain ⟨e9, he9⟩ : ∃ e9, e9 = skp S.1.2.1 S.1.2.2 a9 := ⟨_, rfl⟩
            rw [← he9] at hT9 hz52 heb hei
            have hcE : clE S.1.2.1 S.1.2.2 a = e9 := by unfold clE; rw [he9, hi1]
            have hz52b : (z52 = 0 ∧ e9 < S.1.2.2) ∨ (z52 = 1 ∧ ¬ e9 < S.1.2.2) := by rw [hz52]; split <;> omega
            refine z_if_eq (tgt := 60) C0.1 C0.2.1 dX9_judgeAll_55 (by decide) ⟨by omega, by omega⟩ (fun c_55 => ?_) (fun c_55 => ?_)
            · skip
              refine lv_iload_n C0.1 C0.2.1 dX9_judgeAll_60 rfl (lv_at hl 3 rfl) ?_
              refine lv_bipush (v := zI 7) C0.1 C0.2.1 dX9_judgeAll_61 rfl ?_
              refine z_icmp_eq (tgt := 78) C0.1 C0.2.1 dX9_judgeAll_63 (by decide) ⟨by omega, by omega⟩ ⟨by omega, by omega⟩ (fun c_63 => ?_) (fun c_63 => ?_)
              · skip
                have hp1 : ¬ (i ≠ 7 ∧ S.1.2.1 e9 = 44) := by omega
                refine lv_aload_n C0.1 C0.2.1 dX9_judgeAll_78 rfl (lv_at hl 1 rfl) ?_
                refine mm_get (fs := [.ref (h + 1), .ref (h + 2), .ref (h + 3), .ref (h + 4), .ref (h + 6), .ref (h + 17), .ref (h + 30), .ref (h + 31), .ref (h + 46), .ref (h + 48), .int (zI (S.1.1))]) C0 (C := RX9) (T := TX9) (N := 11) iG_X9 hM (hO1) rfl 3 (by decide) tw_239 rfl rfl dX9_judgeAll_79 ?_
                refine mm_callVi (As := []) C0 vw_X7_faultHere tw_853 (c_X7_faultHere l G _ hT9 hTk) hM (hT9.1) rfl rfl hl.1 rfl (Nat.le_of_ble_eq_true rfl) ⟨rfl, rfl, Nat.le_of_ble_eq_true rfl, Nat.le_of_ble_eq_true rfl, Nat.zero_le _, Nat.zero_le _⟩ dX9_judgeAll_82 hS (fun z_82 E5 H locs hp hM hS => ?_)
                obtain ⟨hz_82, hEq⟩ := hp
                rw [hEq] at hM
                refine z_asI (b := (-20 - (e9 : Int))) (hz_82) ?_
                exact mm_iret (z := (-20 - (e9 : Int))) C0 hr hlk hM hS dX9_judgeAll_85 (⟨by rw [hj, jdg_s (r := 7 - i) (by omega), if_neg (fun q => q (hz23.symm.trans c_28)), if_neg (by rw [hcE]; omega), if_pos (by rw [hcE]; omega), hcE], hSt, hfr⟩)
              · skip
                refine lv_aload_n C0.1 C0.2.1 dX9_judgeAll_66 rfl (lv_at hl 1 rfl) ?_
                refine mm_get (fs := [.ref (h + 1), .ref (h + 2), .ref (h + 3), .ref (h + 4), .ref (h + 6), .ref (h + 17), .ref (h + 30), .ref (h + 31), .ref (h + 46), .ref (h + 48), .int (zI (S.1.1))]) C0 (C := RX9) (T := TX9) (N := 11) iG_X9 hM (hO1) rfl 3 (by decide) tw_239 rfl rfl dX9_judgeAll_67 ?_
                refine lv_bipush (v := zI 44) C0.1 C0.2.1 dX9_judgeAll_70 rfl ?_
                refine mm_callVi (As := [.int (zI (44))]) C0 vw_X7_pass tw_852 (c_X7_pass l G _ hT9 hTk (by omega) (x := 44) ⟨by omega, by omega⟩) hM (hT9.1) rfl rfl hl.1 rfl (Nat.le_of_ble_eq_true rfl) ⟨rfl, rfl, Nat.le_of_ble_eq_true rfl, Nat.le_of_ble_eq_true rfl, Nat.zero_le _, Nat.zero_le _⟩ dX9_judgeAll_72 hS (fun z72 E6 H locs hp hM hS => ?_)
                obtain ⟨hz72, fr⟩ := hp
                have hO1 := hO.kept hO1 (fr _ (by omega))
                have hfr := (fun q h => (fr q (by omega)).trans (hfr q h) : ∀ q : Nat, (q < h ∨ h + 106 ≤ q) → E6 q = E0 q)
                rw [hei] at hz72
                have hz01 : z72 = 0 ∨ z72 = 1 := hz72.elim (fun h => Or.inr h.1) (fun h => Or.inl h.1)
                refine z_if_ne (tgt := 86) C0.1 C0.2.1 dX9_judgeAll_75 (by decide) ⟨by omega, by omega⟩ (fun c_75 => ?_) (fun c_75 => ?_)
                · skip
                  obtain ⟨hp1, hp2, hT9⟩ := hz72.elim (fun h => h.2) (fun h => by omega)
                  have hSt := hSt.tap2 hT9 ⟨hk90, hk91⟩ (fun q h => fr q (by omega))
                  refine lv_iinc (v := zI (((i + 1 : Nat) : Int))) (lv' := [(2, .int (zI (((i + 1 : Nat) : Int)))), (3, .int (zI (z23))), (0, .ref (h)), (1, .int (zI (w)))]) C0.1 C0.2.1 dX9_judgeAll_86 hl (k := 3) rfl (z_inc (a := (i : Int)) (n := 1) (by omega)) (by decide) rfl (fun ls hl => ?_)
                  refine lv_goto (tgt := 13) C0.1 C0.2.1 dX9_judgeAll_89 (by decide) ?_
                  exact ih13  (i + 1) (e9 + 1) (w) _ _ _ _ _ E6 _ _ _ (by omega) (by omega) (by omega) (by omega) (hk90) (hk91) (by rw [hj, jdg_s (r := 7 - i) (by omega), if_neg (fun q => q (hz23.symm.trans c_28)), if_neg (by rw [hcE]; omega), if_neg (by rw [hcE]; omega), hjw, hcE, show 8 - (i + 1) = 7 - i by omega]) (hO1) (hSt) (hT9) (hfr) (by omega) hM hS (lv_sub hl [2, 3, 0] rfl)
                · skip
                  obtain ⟨hp1, hT9⟩ := hz72.elim (fun h => by omega) (fun h => h.2)
                  have hSt := hSt.tap2 hT9 ⟨hk90, hk91⟩ (fun q h => fr q (by omega))
                  refine lv_aload_n C0.1 C0.2.1 dX9_judgeAll_78 rfl (lv_at hl 1 rfl) ?_
                  refine mm_get (fs := [.ref (h + 1), .ref (h + 2), .ref (h + 3), .ref (h + 4), .ref (h + 6), .ref (h + 17), .ref (h + 30), .ref (h + 31), .ref (h + 46), .ref (h + 48), .int (zI (S.1.1))]) C0 (C := RX9) (T := TX9) (N := 11) iG_X9 hM (hO1) rfl 3 (by decide) tw_239 rfl rfl dX9_judgeAll_79 ?_
                  refine mm_callVi (As := []) C0 vw_X7_faultHere tw_853 (c_X7_faultHere l G _ hT9 hTk) hM (hT9.1) rfl rfl hl.1 rfl (Nat.le_of_ble_eq_true rfl) ⟨rfl, rfl, Nat.le_of_ble_eq_true rfl, Nat.le_of_ble_eq_true rfl, Nat.zero_le _, Nat.zero_le _⟩ dX9_judgeAll_82 hS (fun z_82 E7 H locs hp hM hS => ?_)
                  obtain ⟨hz_82, hEq⟩ := hp
                  rw [hEq] at hM
                  refine z_asI (b := (-20 - (e9 : Int))) (hz_82) ?_
                  exact mm_iret (z := (-20 - (e9 : Int))) C0 hr hlk hM hS dX9_judgeAll_85 (⟨by rw [hj, jdg_s (r := 7 - i) (by omega), if_neg (fun q => q (hz23.symm.trans c_28)), if_neg (by rw [hcE]; omega), if_pos (by rw [hcE]; omega), hcE], hSt, hfr⟩)
            · skip
              refine lv_iload_n C0.1 C0.2.1 dX9_judgeAll_58 rfl (lv_at hl 2 rfl) ?_
              exact mm_iret (z := w) C0 hr hlk hM hS dX9_judgeAll_59 (⟨by rw [hj, jdg_s (r := 7 - i) (by omega), if_neg (fun q => q (hz23.symm.trans c_28)), if_pos (by rw [hcE]; omega), hjw], hSt, hfr⟩)
          · skip
            refine lv_aload_n C0.1 C0.2.1 dX9_judgeAll_39 rfl (lv_at hl 1 rfl) ?_
            refine mm_callVi (As := []) C0 vw_X9_isSo tw_844 (c_X9_isSo l G _ hSt hT9 (by omega) (by omega) (by omega) (by omega) hk90 hk91 (by omega) (by omega) (by omega)) hM (hO1) rfl rfl hl.1 rfl (Nat.le_of_ble_eq_true rfl) ⟨rfl, rfl, Nat.le_of_ble_eq_true rfl, Nat.le_of_ble_eq_true rfl, Nat.zero_le _, Nat.zero_le _⟩ dX9_judgeAll_40 hS (fun z_40 E8 H locs hp hM hS => ?_)
            obtain ⟨hz40, hSt, fr⟩ := hp
            have hO1 := hO.kept hO1 (fr _ (by omega))
            have hT9 := tp.kept hT9 (fr _ (by omega)) (fr _ (by omega))
            have hfr := (fun q h => (fr q (by omega)).trans (hfr q h) : ∀ q : Nat, (q < h ∨ h + 106 ≤ q) → E8 q = E0 q)
            have hz01 : z_40 = 0 ∨ z_40 = 1 := hz40.elim (fun h => Or.inr h.1) (fun h => Or.inl h.1)
            refine z_if_ne (tgt := 48) C0.1 C0.2.1 dX9_judgeAll_43 (by decide) ⟨by omega, by omega⟩ (fun c_43 => ?_) (fun c_43 => ?_)
            · skip
              have hjw : jdW S.1.2.1 S.1.2.2 a i w = w := if_neg (fun q => q.2 (hso9.mp (hz40.elim (fun h => h.2) (fun h => by omega))))
              refine lv_aload_n C0.1 C0.2.1 dX9_judgeAll_48 rfl (lv_at hl 1 rfl) ?_
              refine mm_get (fs := [.ref (h + 1), .ref (h + 2), .ref (h + 3), .ref (h + 4), .ref (h + 6), .ref (h + 17), .ref (h + 30), .ref (h + 31), .ref (h + 46), .ref (h + 48), .int (zI (S.1.1))]) C0 (C := RX9) (T := TX9) (N := 11) iG_X9 hM (hO1) rfl 3 (by decide) tw_239 rfl rfl dX9_judgeAll_49 ?_
              refine mm_callVi (As := []) C0 vw_X7_atEnd tw_848 (c_X7_atEnd l G _ hT9 hTk ha9) hM (hT9.1) rfl rfl hl.1 rfl (Nat.le_of_ble_eq_true rfl) ⟨rfl, rfl, Nat.le_of_ble_eq_true rfl, Nat.le_of_ble_eq_true rfl, Nat.zero_le _, Nat.zero_le _⟩ dX9_judgeAll_52 hS (fun z52 E9 H locs hp hM hS => ?_)
              obtain ⟨hz52, hT9, fr⟩ := hp
              have hO1 := hO.kept hO1 (fr _ (by omega))
              have hfr := (fun q h => (fr q (by omega)).trans (hfr q h) : ∀ q : Nat, (q < h ∨ h + 106 ≤ q) → E9 q = E0 q)
              have hSt := hSt.tap2 hT9 ⟨hk90, hk91⟩ (fun q h => fr q (by omega))
              have heb := skp_b (B := S.1.2.1) ha9
              have hei := skp_i (B := S.1.2.1) ha9
              obtain ⟨e9, he9⟩ : ∃ e9, e9 = skp S.1.2.1 S.1.2.2 a9 := ⟨_, rfl⟩
              rw [← he9] at hT9 hz52 heb hei
              have hcE : clE S.1.2.1 S.1.2.2 a = e9 := by unfold clE; rw [he9, hi1]
              have hz52b : (z52 = 0 ∧ e9 < S.1.2.2) ∨ (z52 = 1 ∧ ¬ e9 < S.1.2.2) := by rw [hz52]; split <;> omega
              refine z_if_eq (tgt := 60) C0.1 C0.2.1 dX9_judgeAll_55 (by decide) ⟨by omega, by omega⟩ (fun c_55 => ?_) (fun c_55 => ?_)
              · skip
                refine lv_iload_n C0.1 C0.2.1 dX9_judgeAll_60 rfl (lv_at hl 3 rfl) ?_
                refine lv_bipush (v := zI 7) C0.1 C0.2.1 dX9_judgeAll_61 rfl ?_
                refine z_icmp_eq (tgt := 78) C0.1 C0.2.1 dX9_judgeAll_63 (by decide) ⟨by omega, by omega⟩ ⟨by omega, by omega⟩ (fun c_63 => ?_) (fun c_63 => ?_)
                · skip
                  have hp1 : ¬ (i ≠ 7 ∧ S.1.2.1 e9 = 44) := by omega
                  refine lv_aload_n C0.1 C0.2.1 dX9_judgeAll_78 rfl (lv_at hl 1 rfl) ?_
                  refine mm_get (fs := [.ref (h + 1), .ref (h + 2), .ref (h + 3), .ref (h + 4), .ref (h + 6), .ref (h + 17), .ref (h + 30), .ref (h + 31), .ref (h + 46), .ref (h + 48), .int (zI (S.1.1))]) C0 (C := RX9) (T := TX9) (N := 11) iG_X9 hM (hO1) rfl 3 (by decide) tw_239 rfl rfl dX9_judgeAll_79 ?_
                  refine mm_callVi (As := []) C0 vw_X7_faultHere tw_853 (c_X7_faultHere l G _ hT9 hTk) hM (hT9.1) rfl rfl hl.1 rfl (Nat.le_of_ble_eq_true rfl) ⟨rfl, rfl, Nat.le_of_ble_eq_true rfl, Nat.le_of_ble_eq_true rfl, Nat.zero_le _, Nat.zero_le _⟩ dX9_judgeAll_82 hS (fun z_82 E10 H locs hp hM hS => ?_)
                  obtain ⟨hz_82, hEq⟩ := hp
                  rw [hEq] at hM
                  refine z_asI (b := (-20 - (e9 : Int))) (hz_82) ?_
                  exact mm_iret (z := (-20 - (e9 : Int))) C0 hr hlk hM hS dX9_judgeAll_85 (⟨by rw [hj, jdg_s (r := 7 - i) (by omega), if_neg (fun q => q (hz23.symm.trans c_28)), if_neg (by rw [hcE]; omega), if_pos (by rw [hcE]; omega), hcE], hSt, hfr⟩)
                · skip
                  refine lv_aload_n C0.1 C0.2.1 dX9_judgeAll_66 rfl (lv_at hl 1 rfl) ?_
                  refine mm_get (fs := [.ref (h + 1), .ref (h + 2), .ref (h + 3), .ref (h + 4), .ref (h + 6), .ref (h + 17), .ref (h + 30), .ref (h + 31), .ref (h + 46), .ref (h + 48), .int (zI (S.1.1))]) C0 (C := RX9) (T := TX9) (N := 11) iG_X9 hM (hO1) rfl 3 (by decide) tw_239 rfl rfl dX9_judgeAll_67 ?_
                  refine lv_bipush (v := zI 44) C0.1 C0.2.1 dX9_judgeAll_70 rfl ?_
                  refine mm_callVi (As := [.int (zI (44))]) C0 vw_X7_pass tw_852 (c_X7_pass l G _ hT9 hTk (by omega) (x := 44) ⟨by omega, by omega⟩) hM (hT9.1) rfl rfl hl.1 rfl (Nat.le_of_ble_eq_true rfl) ⟨rfl, rfl, Nat.le_of_ble_eq_true rfl, Nat.le_of_ble_eq_true rfl, Nat.zero_le _, Nat.zero_le _⟩ dX9_judgeAll_72 hS (fun z72 E11 H locs hp hM hS => ?_)
                  obtain ⟨hz72, fr⟩ := hp
                  have hO1 := hO.kept hO1 (fr _ (by omega))
                  have hfr := (fun q h => (fr q (by omega)).trans (hfr q h) : ∀ q : Nat, (q < h ∨ h + 106 ≤ q) → E11 q = E0 q)
                  rw [hei] at hz72
                  have hz01 : z72 = 0 ∨ z72 = 1 := hz72.elim (fun h => Or.inr h.1) (fun h => Or.inl h.1)
                  refine z_if_ne (tgt := 86) C0.1 C0.2.1 dX9_judgeAll_75 (by decide) ⟨by omega, by omega⟩ (fun c_75 => ?_) (fun c_75 => ?_)
                  · skip
                    obtain ⟨hp1, hp2, hT9⟩ := hz72.elim (fun h => h.2) (fun h => by omega)
                    have hSt := hSt.tap2 hT9 ⟨hk90, hk91⟩ (fun q h => fr q (by omega))
                    refine lv_iinc (v := zI (((i + 1 : Nat) : Int))) (lv' := [(2, .int (zI (((i + 1 : Nat) : Int)))), (3, .int (zI (z23))), (0, .ref (h)), (1, .int (zI (w)))]) C0.1 C0.2.1 dX9_judgeAll_86 hl (k := 3) rfl (z_inc (a := (i : Int)) (n := 1) (by omega)) (by decide) rfl (fun ls hl => ?_)
                    refine lv_goto (tgt := 13) C0.1 C0.2.1 dX9_judgeAll_89 (by decide) ?_
                    exact ih13  (i + 1) (e9 + 1) (w) _ _ _ _ _ E11 _ _ _ (by omega) (by omega) (by omega) (by omega) (hk90) (hk91) (by rw [hj, jdg_s (r := 7 - i) (by omega), if_neg (fun q => q (hz23.symm.trans c_28)), if_neg (by rw [hcE]; omega), if_neg (by rw [hcE]; omega), hjw, hcE, show 8 - (i + 1) = 7 - i by omega]) (hO1) (hSt) (hT9) (hfr) (by omega) hM hS (lv_sub hl [2, 3, 0] rfl)
                  · skip
                    obtain ⟨hp1, hT9⟩ := hz72.elim (fun h => by omega) (fun h => h.2)
                    have hSt := hSt.tap2 hT9 ⟨hk90, hk91⟩ (fun q h => fr q (by omega))
                    refine lv_aload_n C0.1 C0.2.1 dX9_judgeAll_78 rfl (lv_at hl 1 rfl) ?_
                    refine mm_get (fs := [.ref (h + 1), .ref (h + 2), .ref (h + 3), .ref (h + 4), .ref (h + 6), .ref (h + 17), .ref (h + 30), .ref (h + 31), .ref (h + 46), .ref (h + 48), .int (zI (S.1.1))]) C0 (C := RX9) (T := TX9) (N := 11) iG_X9 hM (hO1) rfl 3 (by decide) tw_239 rfl rfl dX9_judgeAll_79 ?_
                    refine mm_callVi (As := []) C0 vw_X7_faultHere tw_853 (c_X7_faultHere l G _ hT9 hTk) hM (hT9.1) rfl rfl hl.1 rfl (Nat.le_of_ble_eq_true rfl) ⟨rfl, rfl, Nat.le_of_ble_eq_true rfl, Nat.le_of_ble_eq_true rfl, Nat.zero_le _, Nat.zero_le _⟩ dX9_judgeAll_82 hS (fun z_82 E12 H locs hp hM hS => ?_)
                    obtain ⟨hz_82, hEq⟩ := hp
                    rw [hEq] at hM
                    refine z_asI (b := (-20 - (e9 : Int))) (hz_82) ?_
                    exact mm_iret (z := (-20 - (e9 : Int))) C0 hr hlk hM hS dX9_judgeAll_85 (⟨by rw [hj, jdg_s (r := 7 - i) (by omega), if_neg (fun q => q (hz23.symm.trans c_28)), if_neg (by rw [hcE]; omega), if_pos (by rw [hcE]; omega), hcE], hSt, hfr⟩)
              · skip
                refine lv_iload_n C0.1 C0.2.1 dX9_judgeAll_58 rfl (lv_at hl 2 rfl) ?_
                exact mm_iret (z := w) C0 hr hlk hM hS dX9_judgeAll_59 (⟨by rw [hj, jdg_s (r := 7 - i) (by omega), if_neg (fun q => q (hz23.symm.trans c_28)), if_pos (by rw [hcE]; omega), hjw], hSt, hfr⟩)
            · skip
              have hjw : jdW S.1.2.1 S.1.2.2 a i w = (i : Int) := if_pos ⟨by omega, fun q => hz40.elim (fun h => by omega) (fun h => h.2 (hso9.mpr q))⟩
              refine lv_iload_n C0.1 C0.2.1 dX9_judgeAll_46 rfl (lv_at hl 3 rfl) ?_
              refine lv_istore_n (lv' := [(1, .int (zI ((i : Int)))), (3, .int (zI (z23))), (0, .ref (h)), (2, .int (zI ((i : Int))))]) C0.1 C0.2.1 dX9_judgeAll_47 rfl hl (by decide) rfl (fun ls hl => ?_)
              refine lv_aload_n C0.1 C0.2.1 dX9_judgeAll_48 rfl (lv_at hl 2 rfl) ?_
              refine mm_get (fs := [.ref (h + 1), .ref (h + 2), .ref (h + 3), .ref (h + 4), .ref (h + 6), .ref (h + 17), .ref (h + 30), .ref (h + 31), .ref (h + 46), .ref (h + 48), .int (zI (S.1.1))]) C0 (C := RX9) (T := TX9) (N := 11) iG_X9 hM (hO1) rfl 3 (by decide) tw_239 rfl rfl dX9_judgeAll_49 ?_
              refine mm_callVi (As := []) C0 vw_X7_atEnd tw_848 (c_X7_atEnd l G _ hT9 hTk ha9) hM (hT9.1) rfl rfl hl.1 rfl (Nat.le_of_ble_eq_true rfl) ⟨rfl, rfl, Nat.le_of_ble_eq_true rfl, Nat.le_of_ble_eq_true rfl, Nat.zero_le _, Nat.zero_le _⟩ dX9_judgeAll_52 hS (fun z52 E13 H locs hp hM hS => ?_)
              obtain ⟨hz52, hT9, fr⟩ := hp
              have hO1 := hO.kept hO1 (fr _ (by omega))
              have hfr := (fun q h => (fr q (by omega)).trans (hfr q h) : ∀ q : Nat, (q < h ∨ h + 106 ≤ q) → E13 q = E0 q)
              have hSt := hSt.tap2 hT9 ⟨hk90, hk91⟩ (fun q h => fr q (by omega))
              have heb := skp_b (B := S.1.2.1) ha9
              have hei := skp_i (B := S.1.2.1) ha9
              obtain ⟨e9, he9⟩ : ∃ e9, e9 = skp S.1.2.1 S.1.2.2 a9 := ⟨_, rfl⟩
              rw [← he9] at hT9 hz52 heb hei
              have hcE : clE S.1.2.1 S.1.2.2 a = e9 := by unfold clE; rw [he9, hi1]
              have hz52b : (z52 = 0 ∧ e9 < S.1.2.2) ∨ (z52 = 1 ∧ ¬ e9 < S.1.2.2) := by rw [hz52]; split <;> omega
              refine z_if_eq (tgt := 60) C0.1 C0.2.1 dX9_judgeAll_55 (by decide) ⟨by omega, by omega⟩ (fun c_55 => ?_) (fun c_55 => ?_)
              · skip
                refine lv_iload_n C0.1 C0.2.1 dX9_judgeAll_60 rfl (lv_at hl 3 rfl) ?_
                refine lv_bipush (v := zI 7) C0.1 C0.2.1 dX9_judgeAll_61 rfl ?_
                refine z_icmp_eq (tgt := 78) C0.1 C0.2.1 dX9_judgeAll_63 (by decide) ⟨by omega, by omega⟩ ⟨by omega, by omega⟩ (fun c_63 => ?_) (fun c_63 => ?_)
                · skip
                  have hp1 : ¬ (i ≠ 7 ∧ S.1.2.1 e9 = 44) := by omega
                  refine lv_aload_n C0.1 C0.2.1 dX9_judgeAll_78 rfl (lv_at hl 2 rfl) ?_
                  refine mm_get (fs := [.ref (h + 1), .ref (h + 2), .ref (h + 3), .ref (h + 4), .ref (h + 6), .ref (h + 17), .ref (h + 30), .ref (h + 31), .ref (h + 46), .ref (h + 48), .int (zI (S.1.1))]) C0 (C := RX9) (T := TX9) (N := 11) iG_X9 hM (hO1) rfl 3 (by decide) tw_239 rfl rfl dX9_judgeAll_79 ?_
                  refine mm_callVi (As := []) C0 vw_X7_faultHere tw_853 (c_X7_faultHere l G _ hT9 hTk) hM (hT9.1) rfl rfl hl.1 rfl (Nat.le_of_ble_eq_true rfl) ⟨rfl, rfl, Nat.le_of_ble_eq_true rfl, Nat.le_of_ble_eq_true rfl, Nat.zero_le _, Nat.zero_le _⟩ dX9_judgeAll_82 hS (fun z_82 E14 H locs hp hM hS => ?_)
                  obtain ⟨hz_82, hEq⟩ := hp
                  rw [hEq] at hM
                  refine z_asI (b := (-20 - (e9 : Int))) (hz_82) ?_
                  exact mm_iret (z := (-20 - (e9 : Int))) C0 hr hlk hM hS dX9_judgeAll_85 (⟨by rw [hj, jdg_s (r := 7 - i) (by omega), if_neg (fun q => q (hz23.symm.trans c_28)), if_neg (by rw [hcE]; omega), if_pos (by rw [hcE]; omega), hcE], hSt, hfr⟩)
                · skip
                  refine lv_aload_n C0.1 C0.2.1 dX9_judgeAll_66 rfl (lv_at hl 2 rfl) ?_
                  refine mm_get (fs := [.ref (h + 1), .ref (h + 2), .ref (h + 3), .ref (h + 4), .ref (h + 6), .ref (h + 17), .ref (h + 30), .ref (h + 31), .ref (h + 46), .ref (h + 48), .int (zI (S.1.1))]) C0 (C := RX9) (T := TX9) (N := 11) iG_X9 hM (hO1) rfl 3 (by decide) tw_239 rfl rfl dX9_judgeAll_67 ?_
                  refine lv_bipush (v := zI 44) C0.1 C0.2.1 dX9_judgeAll_70 rfl ?_
                  refine mm_callVi (As := [.int (zI (44))]) C0 vw_X7_pass tw_852 (c_X7_pass l G _ hT9 hTk (by omega) (x := 44) ⟨by omega, by omega⟩) hM (hT9.1) rfl rfl hl.1 rfl (Nat.le_of_ble_eq_true rfl) ⟨rfl, rfl, Nat.le_of_ble_eq_true rfl, Nat.le_of_ble_eq_true rfl, Nat.zero_le _, Nat.zero_le _⟩ dX9_judgeAll_72 hS (fun z72 E15 H locs hp hM hS => ?_)
                  obtain ⟨hz72, fr⟩ := hp
                  have hO1 := hO.kept hO1 (fr _ (by omega))
                  have hfr := (fun q h => (fr q (by omega)).trans (hfr q h) : ∀ q : Nat, (q < h ∨ h + 106 ≤ q) → E15 q = E0 q)
                  rw [hei] at hz72
                  have hz01 : z72 = 0 ∨ z72 = 1 := hz72.elim (fun h => Or.inr h.1) (fun h => Or.inl h.1)
                  refine z_if_ne (tgt := 86) C0.1 C0.2.1 dX9_judgeAll_75 (by decide) ⟨by omega, by omega⟩ (fun c_75 => ?_) (fun c_75 => ?_)
                  · skip
                    obtain ⟨hp1, hp2, hT9⟩ := hz72.elim (fun h => h.2) (fun h => by omega)
                    have hSt := hSt.tap2 hT9 ⟨hk90, hk91⟩ (fun q h => fr q (by omega))
                    refine lv_iinc (v := zI (((i + 1 : Nat) : Int))) (lv' := [(2, .int (zI (((i + 1 : Nat) : Int)))), (1, .int (zI ((i : Int)))), (3, .int (zI (z23))), (0, .ref (h))]) C0.1 C0.2.1 dX9_judgeAll_86 hl (k := 3) rfl (z_inc (a := (i : Int)) (n := 1) (by omega)) (by decide) rfl (fun ls hl => ?_)
                    refine lv_goto (tgt := 13) C0.1 C0.2.1 dX9_judgeAll_89 (by decide) ?_
                    exact ih13  (i + 1) (e9 + 1) ((i : Int)) _ _ _ _ _ E15 _ _ _ (by omega) (by omega) (by omega) (by omega) (hk90) (hk91) (by rw [hj, jdg_s (r := 7 - i) (by omega), if_neg (fun q => q (hz23.symm.trans c_28)), if_neg (by rw [hcE]; omega), if_neg (by rw [hcE]; omega), hjw, hcE, show 8 - (i + 1) = 7 - i by omega]) (hO1) (hSt) (hT9) (hfr) (by omega) hM hS (lv_sub hl [3, 1, 0] rfl)
                  · skip
                    obtain ⟨hp1, hT9⟩ := hz72.elim (fun h => by omega) (fun h => h.2)
                    have hSt := hSt.tap2 hT9 ⟨hk90, hk91⟩ (fun q h => fr q (by omega))
                    refine lv_aload_n C0.1 C0.2.1 dX9_judgeAll_78 rfl (lv_at hl 2 rfl) ?_
                    refine mm_get (fs := [.ref (h + 1), .ref (h + 2), .ref (h + 3), .ref (h + 4), .ref (h + 6), .ref (h + 17), .ref (h + 30), .ref (h + 31), .ref (h + 46), .ref (h + 48), .int (zI (S.1.1))]) C0 (C := RX9) (T := TX9) (N := 11) iG_X9 hM (hO1) rfl 3 (by decide) tw_239 rfl rfl dX9_judgeAll_79 ?_
                    refine mm_callVi (As := []) C0 vw_X7_faultHere tw_853 (c_X7_faultHere l G _ hT9 hTk) hM (hT9.1) rfl rfl hl.1 rfl (Nat.le_of_ble_eq_true rfl) ⟨rfl, rfl, Nat.le_of_ble_eq_true rfl, Nat.le_of_ble_eq_true rfl, Nat.zero_le _, Nat.zero_le _⟩ dX9_judgeAll_82 hS (fun z_82 E16 H locs hp hM hS => ?_)
                    obtain ⟨hz_82, hEq⟩ := hp
                    rw [hEq] at hM
                    refine z_asI (b := (-20 - (e9 : Int))) (hz_82) ?_
                    exact mm_iret (z := (-20 - (e9 : Int))) C0 hr hlk hM hS dX9_judgeAll_85 (⟨by rw [hj, jdg_s (r := 7 - i) (by omega), if_neg (fun q => q (hz23.symm.trans c_28)), if_neg (by rw [hcE]; omega), if_pos (by rw [hcE]; omega), hcE], hSt, hfr⟩)
              · skip
                refine lv_iload_n C0.1 C0.2.1 dX9_judgeAll_58 rfl (lv_at hl 0 rfl) ?_
                exact mm_iret (z := (i : Int)) C0 hr hlk hM hS dX9_judgeAll_59 (⟨by rw [hj, jdg_s (r := 7 - i) (by omega), if_neg (fun q => q (hz23.symm.trans c_28)), if_pos (by rw [hcE]; omega), hjw], hSt, hfr⟩)
        · skip
          refine lv_iload_n C0.1 C0.2.1 dX9_judgeAll_31 rfl (lv_at hl 0 rfl) ?_
          exact mm_iret (z := z23) C0 hr hlk hM hS dX9_judgeAll_32 (⟨by rw [hj, jdg_s (r := 7 - i) (by omega), if_pos (fun q => c_28 (hz23.trans q))]; exact hz23, hSt, hfr⟩)
  exact L13 (_ + 1) 0 0 (-4) _ _ _ _ _ E1 _ _ _ (by omega) (Nat.zero_le _) (by omega) (by omega) (htk0) (htk1) (rfl) (hO1) (hSt) (hT9) (hfr) (Nat.lt_succ_self _) hM hS (lv_sub hl [2, 1, 0] rfl)

def rX9_claims : Room := { frames := 7, cells := 0, slots := 0, locals := 165 }
theorem vw_X9_claims : mm_Vw RX9 yX9_claims cX9_claims 2 (some .int) 0 := ⟨tw_725, tw_726, tw_1, tw_727, by decide +kernel⟩
set_option maxHeartbeats 4000000 in
set_option maxRecDepth 100000 in
theorem c_X9_claims (l : Launch) (G : mG) (E0 : mE) {h : Nat} {S : mST} (hS9 : st G E0 h S) : mm_Ci l yX9_claims (.code yX9_claims cX9_claims 2 (some .int) :: wsG) rX9_claims G [.ref (h)] E0 (fun z E => z = (pf_claims S).1 ∧ st G E h (pf_claims S).2 ∧ ∀ q : Nat, (q < h ∨ h + 106 ≤ q) → E q = E0 q) := by
  refine mm_of_i (by decide +kernel) (Nat.le_of_ble_eq_true rfl) ?_
  intro p e s m args below meth c ls C0 hr hlk hM hl hS
  have hl : lv_has ls 2 [(0, .ref (h))] := hl
  have hSo := hS9
  refine lv_aload_n C0.1 C0.2.1 dX9_claims_0 rfl (lv_at hl 0 rfl) ?_
  refine mm_callVi (As := []) C0 vw_X9_judgeAll tw_728 (c_X9_judgeAll l G _ hS9) hM (hS9.1.1) rfl rfl hl.1 rfl (Nat.le_of_ble_eq_true rfl) ⟨rfl, rfl, Nat.le_of_ble_eq_true rfl, Nat.le_of_ble_eq_true rfl, Nat.zero_le _, Nat.zero_le _⟩ dX9_claims_1 hS (fun z1 E1 H locs hp hM hS => ?_)
  obtain ⟨hz1, hSt, hfr⟩ := hp
  obtain ⟨⟨hO1, ⟨f1, f2, f3, hr1, hr2, hr3, hf1, hf2, hf3⟩, ⟨hTp, hTk⟩, ⟨hPl, hPk⟩, ⟨hKl, hKk⟩, ⟨hSh, hSk⟩⟩, hSc⟩ := id hSt
  obtain ⟨ta, tv, tkd, tk, tn, trd, hT9, htk0, htk1⟩ := hTp
  have hL9 := hTk.1
  refine lv_istore_n (lv' := [(1, .int (zI (z1))), (0, .ref (h))]) C0.1 C0.2.1 dX9_claims_4 rfl hl (by decide) rfl (fun ls hl => ?_)
  refine lv_aload_n C0.1 C0.2.1 dX9_claims_5 rfl (lv_at hl 1 rfl) ?_
  refine mm_get (fs := [.ref (h + 1), .ref (h + 2), .ref (h + 3), .ref (h + 4), .ref (h + 6), .ref (h + 17), .ref (h + 30), .ref (h + 31), .ref (h + 46), .ref (h + 48), .int (zI (S.1.1))]) C0 (C := RX9) (T := TX9) (N := 11) iG_X9 hM (hO1) rfl 3 (by decide) tw_239 rfl rfl dX9_claims_6 ?_
  refine lv_iconst (v := zI 0) C0.1 C0.2.1 dX9_claims_9 rfl ?_
  refine mm_put (v := .int (zI (0))) (fs := [.ref (h + 4 + 1), .int (zI (((S.1.2.2 : Nat) : Int))), .int (zI ((ta : Int))), .long (zL (tv)), .int (zI (tkd)), .int (zI (tk)), .long (zL (tn)), .long (zL (trd))]) C0 (C := RX7) (T := TX7) (N := 8) iG_X7 tyX7 tyX7_ok nmX7 hM hS (hT9.1) rfl 1 (by decide) tw_38 rfl rfl (ty := tyX7 1) (tyX7_ok 1 (by decide)) rfl rfl (Nat.le_of_ble_eq_true rfl) dX9_claims_10 (fun H locs hM hS hsz => ?_)
  obtain ⟨E2, hE2⟩ : ∃ X : mE, X = mm_up E1 (h + 4) (.inr (6, [.ref (h + 4 + 1), .int (zI (0)), .int (zI ((ta : Int))), .long (zL (tv)), .int (zI (tkd)), .int (zI (tk)), .long (zL (tn)), .long (zL (trd))])) := ⟨_, rfl⟩
  replace hM : mm_M G E2 H := by rw [hE2]; exact hM
  have frs : ∀ q : Nat, q ≠ h + 4 → E2 q = E1 q := fun q h => by rw [hE2]; exact mm_up_n _ _ h
  have hat : E2 (h + 4) = some (.inr (6, [.ref (h + 4 + 1), .int (zI (0)), .int (zI ((ta : Int))), .long (zL (tv)), .int (zI (tkd)), .int (zI (tk)), .long (zL (tn)), .long (zL (trd))])) := by rw [hE2]; exact mm_up_s _ _ _
  have hT9 : tp G E2 (h + 4) S.1.2.1 0 ta tv tkd tk tn trd := ⟨hat, (frs _ (by omega)).trans hT9.2⟩
  have hS1 := hSt.tap ⟨_, _, _, _, _, _, hT9, htk0, htk1⟩ ⟨Nat.zero_le _, fun j hj => absurd hj (Nat.not_lt_zero _)⟩ (fun q h => frs q (by omega))
  refine lv_iload_n C0.1 C0.2.1 dX9_claims_13 rfl (lv_at hl 0 rfl) ?_
  exact mm_iret (z := z1) C0 hr hlk hM hS dX9_claims_14 (⟨hz1, hS1, fun q h => (frs q (by omega)).trans (hfr q h)⟩)
