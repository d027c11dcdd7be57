/-! the sheets -/
abbrev inS (a : Int) : Prop := 0 ≤ a ∧ a < 4
abbrev inL (a : Int) : Prop := 0 ≤ a ∧ a ≤ 2
def upF {α : Type} (f : Nat → α) (i : Nat) (x : α) : Nat → α := fun j => if j = i then x else f j
theorem upF_s {α : Type} (f : Nat → α) (i : Nat) (x : α) : upF f i x i = x := if_pos rfl
theorem upF_n {α : Type} (f : Nat → α) {i j : Nat} (x : α) (h : j ≠ i) : upF f i x j = f j := if_neg h
def shPut (S : mST) (i : Nat) (f : Nat → Int) (l n : Int) : mST := (S.1, S.2.1, S.2.2.1, upF S.2.2.2.1 i f, upF S.2.2.2.2.1 i l, upF S.2.2.2.2.2 i n)
theorem st.sht {G : mG} {E E1 : mE} {h i : Nat} {S : mST} {f g : Nat → Int} {l n : Int} (a : st G E h S) (hi : i < 4) (h1 : sh_ G E1 (h + 98 + 2 * i) g l n) (hg : ∀ j, j < 24 → g j = f j) (hl : 0 ≤ l ∧ l ≤ 2) (hn : -1 ≤ n ∧ n ≤ 24) (hf : ∀ j, j < 24 → rL (f j)) (fr : ∀ q, (q < h + 98 + 2 * i ∨ h + 98 + 2 * i + 2 ≤ q) → E1 q = E q) : st G E1 h (shPut S i f l n) := by
  obtain ⟨⟨a1, a2, ⟨a3, b3⟩, ⟨a4, b4⟩, ⟨a5, b5⟩, ⟨a6, b6⟩⟩, a7⟩ := a
  refine ⟨⟨a1.kept (fr _ (by omega)), a2.kept (fr _ (by omega)) (fr _ (by omega)) (fr _ (by omega)), ⟨a3.kept (fr _ (by omega)) (fr _ (by omega)), b3⟩, ⟨a4.kept (fun q hq => fr _ (by obtain ⟨j, g2, g3, g4⟩ := hq; omega)), b4⟩, ⟨a5.kept (fun q hq => fr _ (by obtain ⟨j, g2, g3, g4⟩ := hq; omega)), b5⟩, ⟨fun j hj => ?_, fun j hj => ?_⟩⟩, a7.kept (fun q hq => fr _ (by omega))⟩
  · unfold shPut
    by_cases q : j = i
    · subst q; simp only [upF_s]; exact ⟨g, h1, hg⟩
    · simp only [upF_n _ _ q]
      obtain ⟨g9, k1, k2⟩ := a6 j hj
      exact ⟨g9, k1.kept (fr _ (by omega)) (fr _ (by omega)), k2⟩
  · unfold shPut
    by_cases q : j = i
    · subst q; simp only [upF_s]; exact ⟨hl, hn, hf⟩
    · simp only [upF_n _ _ q]; exact b6 j hj
theorem shF_b {ln len a i n : Int} : -13 ≤ shF ln len a i n ∧ shF ln len a i n ≤ 0 := by unfold shF; split <;> (try split) <;> (try split) <;> omega
theorem shF_0 {ln len a i n : Int} (h : shF ln len a i n = 0) : 0 ≤ len ∧ a = ln ∧ 0 ≤ i ∧ i ≤ len - n := by
  unfold shF at h
  split at h
  · omega
  · split at h
    · omega
    · split at h <;> omega
def pf_sheet (S : mST) (a l n : Int) : Int × mST := if inS a ∧ inL l ∧ n ≤ 24 then (if n < 0 then (-14, S) else (n, shPut S a.toNat (fun _ => 0) l n)) else (-1, S)
def pf_drop (S : mST) (a : Int) : Int × mST := if inS a then (if S.2.2.2.2.2 a.toNat < 0 then (-11, S) else (S.2.2.2.2.2 a.toNat, shPut S a.toNat (S.2.2.2.1 a.toNat) (S.2.2.2.2.1 a.toNat) (-1))) else (-1, S)
def pf_item (S : mST) (a l i v : Int) : Int × mST := if inS a ∧ inL l then (if shF (S.2.2.2.2.1 a.toNat) (S.2.2.2.2.2 a.toNat) l i 1 ≠ 0 then (shF (S.2.2.2.2.1 a.toNat) (S.2.2.2.2.2 a.toNat) l i 1, S) else (1, shPut S a.toNat (zup (S.2.2.2.1 a.toNat) i.toNat (asLn (S.2.2.2.2.1 a.toNat) v)) (S.2.2.2.2.1 a.toNat) (S.2.2.2.2.2 a.toNat))) else (-1, S)
theorem zup_ag {f g : Nat → Int} {k : Nat} {x : Int} (h : ∀ j, j < 24 → f j = g j) : ∀ j, j < 24 → zup f k x j = zup g k x j := fun j hj => by
  unfold zup; split
  · rfl
  · exact h j hj
theorem zup_r {f : Nat → Int} {k : Nat} {x : Int} (h : ∀ j, j < 24 → rL (f j)) (hx : rL x) : ∀ j, j < 24 → rL (zup f k x j) := fun j hj => by
  unfold zup; split
  · exact hx
  · exact h j hj
def rX9_sheet : Room := { frames := 1, cells := 0, slots := 0, locals := 23 }
theorem vw_X9_sheet : mm_Vw RX9 yX9_sheet cX9_sheet 4 (some .int) 3 := ⟨tw_886, tw_887, tw_1, tw_888, by decide +kernel⟩
set_option maxHeartbeats 4000000 in
set_option maxRecDepth 100000 in
theorem c_X9_sheet (l : Launch) (G : mG) (E0 : mE) {h : Nat} {S : mST} (hS9 : st G E0 h S) {a w n : Int} (hr_a : rI a) (hr_w : rI w) (hr_n : rI n) : mm_Ci l yX9_sheet (.code yX9_sheet cX9_sheet 4 (some .int) :: wsG) rX9_sheet G [.ref (h), .int (zI (a)), .int (zI (w)), .int (zI (n))] E0 (fun z E => z = (pf_sheet S a w n).1 ∧ st G E h (pf_sheet S a w n).2 ∧ ∀ q : Nat, (q < h ∨ h + 106 ≤ q) → E q = E0 q) := by
  refine mm_of_i (by decide +kernel) (Nat.le_of_ble_eq_true rfl) ?_
  intro p e s m args below meth c ls C0 hr hlk hM hl hS
  have hl : lv_has ls 4 [(0, .ref (h)), (1, .int (zI (a))), (2, .int (zI (w))), (3, .int (zI (n)))] := hl
  obtain ⟨hr_a1, hr_a2⟩ := hr_a
  obtain ⟨hr_w1, hr_w2⟩ := hr_w
  obtain ⟨hr_n1, hr_n2⟩ := hr_n
  have hSo := hS9
  obtain ⟨⟨hO1, ⟨f1, f2, f3, hr1, hr2, hr3, hf1, hf2, hf3⟩, ⟨hTp, hTk⟩, ⟨hPl, hPk⟩, ⟨hKl, hKk⟩, ⟨hSh, hSk⟩⟩, hSc⟩ := hS9
  refine lv_iload_n C0.1 C0.2.1 dX9_sheet_0 rfl (lv_at hl 1 rfl) ?_
  refine mm_callSi (As := [.int (zI (a))]) C0 sw_X9_isSheet tw_871 (c_X9_isSheet l G _ (i := a) ⟨by omega, by omega⟩) hM rfl hl.1 rfl (Nat.le_of_ble_eq_true rfl) ⟨rfl, rfl, Nat.le_of_ble_eq_true rfl, Nat.le_of_ble_eq_true rfl, Nat.zero_le _, Nat.zero_le _⟩ dX9_sheet_1 hS (fun z_1 E1 H locs hp hM hS => ?_)
  obtain ⟨hz_1, hEq⟩ := hp
  rw [hEq] at hM
  have hz_1b := if01 hz_1
  refine z_if_eq (tgt := 20) C0.1 C0.2.1 dX9_sheet_4 (by decide) ⟨by omega, by omega⟩ (fun c_4 => ?_) (fun c_4 => ?_)
  · skip
    refine lv_iconst (v := zI (-1)) C0.1 C0.2.1 dX9_sheet_20 rfl ?_
    exact mm_iret (z := (-1)) C0 hr hlk hM hS dX9_sheet_21 (by have he : pf_sheet S a w n = ((-1), S) := (by unfold pf_sheet; rw [if_neg (by omega)]); rw [he]; exact ⟨rfl, hSo, (fun _ _ => rfl)⟩)
  · skip
    refine lv_iload_n C0.1 C0.2.1 dX9_sheet_7 rfl (lv_at hl 2 rfl) ?_
    refine mm_callSi (As := [.int (zI (w))]) C0 sw_X9_isLane tw_874 (c_X9_isLane l G _ (i := w) ⟨by omega, by omega⟩) hM rfl hl.1 rfl (Nat.le_of_ble_eq_true rfl) ⟨rfl, rfl, Nat.le_of_ble_eq_true rfl, Nat.le_of_ble_eq_true rfl, Nat.zero_le _, Nat.zero_le _⟩ dX9_sheet_8 hS (fun z_8 E2 H locs hp hM hS => ?_)
    obtain ⟨hz_8, hEq⟩ := hp
    rw [hEq] at hM
    have hz_8b := if01 hz_8
    refine z_if_eq (tgt := 20) C0.1 C0.2.1 dX9_sheet_11 (by decide) ⟨by omega, by omega⟩ (fun c_11 => ?_) (fun c_11 => ?_)
    · skip
      refine lv_iconst (v := zI (-1)) C0.1 C0.2.1 dX9_sheet_20 rfl ?_
      exact mm_iret (z := (-1)) C0 hr hlk hM hS dX9_sheet_21 (by have he : pf_sheet S a w n = ((-1), S) := (by unfold pf_sheet; rw [if_neg (by omega)]); rw [he]; exact ⟨rfl, hSo, (fun _ _ => rfl)⟩)
    · skip
      refine lv_iload_n C0.1 C0.2.1 dX9_sheet_14 rfl (lv_at hl 3 rfl) ?_
      refine lv_bipush (v := zI 24) C0.1 C0.2.1 dX9_sheet_15 rfl ?_
      refine z_icmp_le (tgt := 22) C0.1 C0.2.1 dX9_sheet_17 (by decide) ⟨by omega, by omega⟩ ⟨by omega, by omega⟩ (fun c_17 => ?_) (fun c_17 => ?_)
      · skip
        refine lv_iload_n C0.1 C0.2.1 dX9_sheet_22 rfl (lv_at hl 3 rfl) ?_
        refine z_if_ge (tgt := 29) C0.1 C0.2.1 dX9_sheet_23 (by decide) ⟨by omega, by omega⟩ (fun c_23 => ?_) (fun c_23 => ?_)
        · skip
          obtain ⟨i, hpi⟩ : ∃ i : Nat, a = (i : Int) := ⟨(a).toNat, by omega⟩
          have hi_i : i < 4 := by omega
          have ht_i : (a).toNat = i := by omega
          obtain ⟨sg_i, hs_i, hg_i⟩ := hSh i hi_i
          obtain ⟨⟨hl_i1, hl_i2⟩, ⟨he_i1, he_i2⟩, hf_i⟩ := hSk i hi_i
          refine lv_aload_n C0.1 C0.2.1 dX9_sheet_29 rfl (lv_at hl 0 rfl) ?_
          refine mm_get (fs := [.ref (h + 1), .ref (h + 2), .ref (h + 3), .ref (h + 4), .ref (h + 6), .ref (h + 17), .ref (h + 30), .ref (h + 31), .ref (h + 46), .ref (h + 48), .int (zI (S.1.1))]) C0 (C := RX9) (T := TX9) (N := 11) iG_X9 hM (hO1) rfl 2 (by decide) tw_238 rfl rfl dX9_sheet_30 ?_
          refine lv_iload_n C0.1 C0.2.1 dX9_sheet_33 rfl (lv_at hl 1 rfl) ?_
          refine mm_aald C0 hM 3 (C := "OrangeHeaps$Sheet") (hr3) rfl (i) (i := a) (by omega) (by omega) (by decide) (v := h + 98 + 2 * i) (hf3 _ (by omega)) dX9_sheet_34 ?_
          refine lv_iload_n C0.1 C0.2.1 dX9_sheet_35 rfl (lv_at hl 2 rfl) ?_
          refine lv_iload_n C0.1 C0.2.1 dX9_sheet_36 rfl (lv_at hl 3 rfl) ?_
          refine mm_callVv (As := [.int (zI (w)), .int (zI (n))]) C0 vw_X6_begin tw_889 (c_X6_begin l G _ hs_i) hM (hs_i.1) rfl rfl hl.1 rfl (Nat.le_of_ble_eq_true rfl) ⟨rfl, rfl, Nat.le_of_ble_eq_true rfl, Nat.le_of_ble_eq_true rfl, Nat.zero_le _, Nat.zero_le _⟩ dX9_sheet_37 hS (fun E3 H locs hp hM hS => ?_)
          obtain ⟨⟨g9, hs9, hz9⟩, fr⟩ := hp
          have hO1 := hO.kept hO1 (fr _ (by omega))
          refine lv_iload_n C0.1 C0.2.1 dX9_sheet_40 rfl (lv_at hl 3 rfl) ?_
          exact mm_iret (z := n) C0 hr hlk hM hS dX9_sheet_41 (by have he : pf_sheet S a w n = (n, shPut S i (fun _ => 0) w n) := (by unfold pf_sheet; rw [if_pos (by omega), if_neg (by omega), ht_i]); rw [he]; exact ⟨rfl, hSo.sht hi_i hs9 hz9 (by omega) (by omega) (fun _ _ => rL_0) fr, fun q h => fr q (by omega)⟩)
        · skip
          refine lv_bipush (v := zI (-14)) C0.1 C0.2.1 dX9_sheet_26 rfl ?_
          exact mm_iret (z := (-14)) C0 hr hlk hM hS dX9_sheet_28 (by have he : pf_sheet S a w n = ((-14), S) := (by unfold pf_sheet; rw [if_pos (by omega), if_pos (by omega)]); rw [he]; exact ⟨rfl, hSo, (fun _ _ => rfl)⟩)
      · skip
        refine lv_iconst (v := zI (-1)) C0.1 C0.2.1 dX9_sheet_20 rfl ?_
        exact mm_iret (z := (-1)) C0 hr hlk hM hS dX9_sheet_21 (by have he : pf_sheet S a w n = ((-1), S) := (by unfold pf_sheet; rw [if_neg (by omega)]); rw [he]; exact ⟨rfl, hSo, (fun _ _ => rfl)⟩)

def rX9_drop : Room := { frames := 1, cells := 0, slots := 0, locals := 20 }
theorem vw_X9_drop : mm_Vw RX9 yX9_drop cX9_drop 3 (some .int) 1 := ⟨tw_894, tw_895, tw_1, tw_896, by decide +kernel⟩
set_option maxHeartbeats 4000000 in
set_option maxRecDepth 100000 in
theorem c_X9_drop (l : Launch) (G : mG) (E0 : mE) {h : Nat} {S : mST} (hS9 : st G E0 h S) {a : Int} (hr_a : rI a) : mm_Ci l yX9_drop (.code yX9_drop cX9_drop 3 (some .int) :: wsG) rX9_drop G [.ref (h), .int (zI (a))] E0 (fun z E => z = (pf_drop S a).1 ∧ st G E h (pf_drop S a).2 ∧ ∀ q : Nat, (q < h ∨ h + 106 ≤ q) → E q = E0 q) := by
  refine mm_of_i (by decide +kernel) (Nat.le_of_ble_eq_true rfl) ?_
  intro p e s m args below meth c ls C0 hr hlk hM hl hS
  have hl : lv_has ls 3 [(0, .ref (h)), (1, .int (zI (a)))] := hl
  obtain ⟨hr_a1, hr_a2⟩ := hr_a
  have hSo := hS9
  obtain ⟨⟨hO1, ⟨f1, f2, f3, hr1, hr2, hr3, hf1, hf2, hf3⟩, ⟨hTp, hTk⟩, ⟨hPl, hPk⟩, ⟨hKl, hKk⟩, ⟨hSh, hSk⟩⟩, hSc⟩ := hS9
  refine lv_iload_n C0.1 C0.2.1 dX9_drop_0 rfl (lv_at hl 1 rfl) ?_
  refine mm_callSi (As := [.int (zI (a))]) C0 sw_X9_isSheet tw_871 (c_X9_isSheet l G _ (i := a) ⟨by omega, by omega⟩) hM rfl hl.1 rfl (Nat.le_of_ble_eq_true rfl) ⟨rfl, rfl, Nat.le_of_ble_eq_true rfl, Nat.le_of_ble_eq_true rfl, Nat.zero_le _, Nat.zero_le _⟩ dX9_drop_1 hS (fun z_1 E1 H locs hp hM hS => ?_)
  obtain ⟨hz_1, hEq⟩ := hp
  rw [hEq] at hM
  have hz_1b := if01 hz_1
  refine z_if_ne (tgt := 9) C0.1 C0.2.1 dX9_drop_4 (by decide) ⟨by omega, by omega⟩ (fun c_4 => ?_) (fun c_4 => ?_)
  · skip
    obtain ⟨i, hpi⟩ : ∃ i : Nat, a = (i : Int) := ⟨(a).toNat, by omega⟩
    have hi_i : i < 4 := by omega
    have ht_i : (a).toNat = i := by omega
    obtain ⟨sg_i, hs_i, hg_i⟩ := hSh i hi_i
    obtain ⟨⟨hl_i1, hl_i2⟩, ⟨he_i1, he_i2⟩, hf_i⟩ := hSk i hi_i
    refine lv_aload_n C0.1 C0.2.1 dX9_drop_9 rfl (lv_at hl 0 rfl) ?_
    refine mm_get (fs := [.ref (h + 1), .ref (h + 2), .ref (h + 3), .ref (h + 4), .ref (h + 6), .ref (h + 17), .ref (h + 30), .ref (h + 31), .ref (h + 46), .ref (h + 48), .int (zI (S.1.1))]) C0 (C := RX9) (T := TX9) (N := 11) iG_X9 hM (hO1) rfl 2 (by decide) tw_238 rfl rfl dX9_drop_10 ?_
    refine lv_iload_n C0.1 C0.2.1 dX9_drop_13 rfl (lv_at hl 1 rfl) ?_
    refine mm_aald C0 hM 3 (C := "OrangeHeaps$Sheet") (hr3) rfl (i) (i := a) (by omega) (by omega) (by decide) (v := h + 98 + 2 * i) (hf3 _ (by omega)) dX9_drop_14 ?_
    refine mm_get (fs := [.ref (h + 98 + 2 * i + 1), .int (zI ((S.2.2.2.2.1 i))), .int (zI ((S.2.2.2.2.2 i)))]) C0 (C := RX6) (T := TX6) (N := 3) iG_X6 hM (hs_i.1) rfl 2 (by decide) tw_228 rfl rfl dX9_drop_15 ?_
    refine lv_istore_n (lv' := [(2, .int (zI ((S.2.2.2.2.2 i)))), (0, .ref (h)), (1, .int (zI (a)))]) C0.1 C0.2.1 dX9_drop_18 rfl hl (by decide) rfl (fun ls hl => ?_)
    refine lv_iload_n C0.1 C0.2.1 dX9_drop_19 rfl (lv_at hl 0 rfl) ?_
    refine z_if_ge (tgt := 26) C0.1 C0.2.1 dX9_drop_20 (by decide) ⟨by omega, by omega⟩ (fun c_20 => ?_) (fun c_20 => ?_)
    · skip
      refine lv_aload_n C0.1 C0.2.1 dX9_drop_26 rfl (lv_at hl 1 rfl) ?_
      refine mm_get (fs := [.ref (h + 1), .ref (h + 2), .ref (h + 3), .ref (h + 4), .ref (h + 6), .ref (h + 17), .ref (h + 30), .ref (h + 31), .ref (h + 46), .ref (h + 48), .int (zI (S.1.1))]) C0 (C := RX9) (T := TX9) (N := 11) iG_X9 hM (hO1) rfl 2 (by decide) tw_238 rfl rfl dX9_drop_27 ?_
      refine lv_iload_n C0.1 C0.2.1 dX9_drop_30 rfl (lv_at hl 2 rfl) ?_
      refine mm_aald C0 hM 3 (C := "OrangeHeaps$Sheet") (hr3) rfl (i) (i := a) (by omega) (by omega) (by decide) (v := h + 98 + 2 * i) (hf3 _ (by omega)) dX9_drop_31 ?_
      refine lv_iconst (v := zI (-1)) C0.1 C0.2.1 dX9_drop_32 rfl ?_
      refine mm_put (v := .int (zI ((-1)))) (fs := [.ref (h + 98 + 2 * i + 1), .int (zI ((S.2.2.2.2.1 i))), .int (zI ((S.2.2.2.2.2 i)))]) C0 (C := RX6) (T := TX6) (N := 3) iG_X6 tyX6 tyX6_ok nmX6 hM hS (hs_i.1) rfl 2 (by decide) tw_228 rfl rfl (ty := tyX6 2) (tyX6_ok 2 (by decide)) rfl rfl (Nat.le_of_ble_eq_true rfl) dX9_drop_33 (fun H locs hM hS hsz => ?_)
      obtain ⟨E2, hE2⟩ : ∃ X : mE, X = mm_up E0 (h + 98 + 2 * i) (.inr (5, [.ref (h + 98 + 2 * i + 1), .int (zI ((S.2.2.2.2.1 i))), .int (zI ((-1)))])) := ⟨_, rfl⟩
      replace hM : mm_M G E2 H := by rw [hE2]; exact hM
      have frs : ∀ q : Nat, q ≠ h + 98 + 2 * i → E2 q = E0 q := fun q h => by rw [hE2]; exact mm_up_n _ _ h
      have hat : E2 (h + 98 + 2 * i) = some (.inr (5, [.ref (h + 98 + 2 * i + 1), .int (zI ((S.2.2.2.2.1 i))), .int (zI ((-1)))])) := by rw [hE2]; exact mm_up_s _ _ _
      have hs9 : sh_ G E2 (h + 98 + 2 * i) sg_i (S.2.2.2.2.1 i) (-1) := ⟨hat, (frs _ (by omega)).trans hs_i.2⟩
      have fr := frs
      have hO1 := hO.kept hO1 (frs _ (by omega))
      refine lv_iload_n C0.1 C0.2.1 dX9_drop_36 rfl (lv_at hl 0 rfl) ?_
      exact mm_iret (z := (S.2.2.2.2.2 i)) C0 hr hlk hM hS dX9_drop_37 (by have he : pf_drop S a = (S.2.2.2.2.2 i, shPut S i (S.2.2.2.1 i) (S.2.2.2.2.1 i) (-1)) := (by unfold pf_drop; rw [if_pos (by omega), ht_i, if_neg (by omega)]); rw [he]; exact ⟨rfl, hSo.sht hi_i hs9 hg_i ⟨hl_i1, hl_i2⟩ (by omega) hf_i (fun q h => fr q (by omega)), fun q h => fr q (by omega)⟩)
    · skip
      refine lv_bipush (v := zI (-11)) C0.1 C0.2.1 dX9_drop_23 rfl ?_
      exact mm_iret (z := (-11)) C0 hr hlk hM hS dX9_drop_25 (by have he : pf_drop S a = ((-11), S) := (by unfold pf_drop; rw [if_pos (by omega), ht_i, if_pos (by omega)]); rw [he]; exact ⟨rfl, hSo, (fun _ _ => rfl)⟩)
  · skip
    refine lv_iconst (v := zI (-1)) C0.1 C0.2.1 dX9_drop_7 rfl ?_
    exact mm_iret (z := (-1)) C0 hr hlk hM hS dX9_drop_8 (by have he : pf_drop S a = ((-1), S) := (by unfold pf_drop; rw [if_neg (by omega)]); rw [he]; exact ⟨rfl, hSo, (fun _ _ => rfl)⟩)

def rX9_item : Room := { frames := 1, cells := 0, slots := 0, locals := 23 }
theorem vw_X9_item : mm_Vw RX9 yX9_item cX9_item 7 (some .int) 4 := ⟨tw_898, tw_899, tw_1, tw_900, by decide +kernel⟩
set_option maxHeartbeats 4000000 in
set_option maxRecDepth 100000 in
theorem c_X9_item (l : Launch) (G : mG) (E0 : mE) {h : Nat} {S : mST} (hS9 : st G E0 h S) {a w i1 v : Int} (hr_a : rI a) (hr_w : rI w) (hr_i1 : rI i1) (hr_v : rL v) : mm_Ci l yX9_item (.code yX9_item cX9_item 7 (some .int) :: wsG) rX9_item G [.ref (h), .int (zI (a)), .int (zI (w)), .int (zI (i1)), .long (zL (v))] E0 (fun z E => z = (pf_item S a w i1 v).1 ∧ st G E h (pf_item S a w i1 v).2 ∧ ∀ q : Nat, (q < h ∨ h + 106 ≤ q) → E q = E0 q) := by
  refine mm_of_i (by decide +kernel) (Nat.le_of_ble_eq_true rfl) ?_
  intro p e s m args below meth c ls C0 hr hlk hM hl hS
  have hl : lv_has ls 7 [(0, .ref (h)), (1, .int (zI (a))), (2, .int (zI (w))), (3, .int (zI (i1))), (4, .long (zL (v)))] := hl
  obtain ⟨hr_a1, hr_a2⟩ := hr_a
  obtain ⟨hr_w1, hr_w2⟩ := hr_w
  obtain ⟨hr_i11, hr_i12⟩ := hr_i1
  obtain ⟨hr_v1, hr_v2⟩ := hr_v
  have hSo := hS9
  obtain ⟨⟨hO1, ⟨f1, f2, f3, hr1, hr2, hr3, hf1, hf2, hf3⟩, ⟨hTp, hTk⟩, ⟨hPl, hPk⟩, ⟨hKl, hKk⟩, ⟨hSh, hSk⟩⟩, hSc⟩ := hS9
  refine lv_iload_n C0.1 C0.2.1 dX9_item_0 rfl (lv_at hl 1 rfl) ?_
  refine mm_callSi (As := [.int (zI (a))]) C0 sw_X9_isSheet tw_871 (c_X9_isSheet l G _ (i := a) ⟨by omega, by omega⟩) hM rfl hl.1 rfl (Nat.le_of_ble_eq_true rfl) ⟨rfl, rfl, Nat.le_of_ble_eq_true rfl, Nat.le_of_ble_eq_true rfl, Nat.zero_le _, Nat.zero_le _⟩ dX9_item_1 hS (fun z_1 E1 H locs hp hM hS => ?_)
  obtain ⟨hz_1, hEq⟩ := hp
  rw [hEq] at hM
  have hz_1b := if01 hz_1
  refine z_if_eq (tgt := 14) C0.1 C0.2.1 dX9_item_4 (by decide) ⟨by omega, by omega⟩ (fun c_4 => ?_) (fun c_4 => ?_)
  · skip
    refine lv_iconst (v := zI (-1)) C0.1 C0.2.1 dX9_item_14 rfl ?_
    exact mm_iret (z := (-1)) C0 hr hlk hM hS dX9_item_15 (by have he : pf_item S a w i1 v = ((-1), S) := (by unfold pf_item; rw [if_neg (by omega)]); rw [he]; exact ⟨rfl, hSo, (fun _ _ => rfl)⟩)
  · skip
    refine lv_iload_n C0.1 C0.2.1 dX9_item_7 rfl (lv_at hl 2 rfl) ?_
    refine mm_callSi (As := [.int (zI (w))]) C0 sw_X9_isLane tw_874 (c_X9_isLane l G _ (i := w) ⟨by omega, by omega⟩) hM rfl hl.1 rfl (Nat.le_of_ble_eq_true rfl) ⟨rfl, rfl, Nat.le_of_ble_eq_true rfl, Nat.le_of_ble_eq_true rfl, Nat.zero_le _, Nat.zero_le _⟩ dX9_item_8 hS (fun z_8 E2 H locs hp hM hS => ?_)
    obtain ⟨hz_8, hEq⟩ := hp
    rw [hEq] at hM
    have hz_8b := if01 hz_8
    refine z_if_ne (tgt := 16) C0.1 C0.2.1 dX9_item_11 (by decide) ⟨by omega, by omega⟩ (fun c_11 => ?_) (fun c_11 => ?_)
    · skip
      obtain ⟨i, hpi⟩ : ∃ i : Nat, a = (i : Int) := ⟨(a).toNat, by omega⟩
      have hi_i : i < 4 := by omega
      have ht_i : (a).toNat = i := by omega
      obtain ⟨sg_i, hs_i, hg_i⟩ := hSh i hi_i
      obtain ⟨⟨hl_i1, hl_i2⟩, ⟨he_i1, he_i2⟩, hf_i⟩ := hSk i hi_i
      refine lv_aload_n C0.1 C0.2.1 dX9_item_16 rfl (lv_at hl 0 rfl) ?_
      refine mm_get (fs := [.ref (h + 1), .ref (h + 2), .ref (h + 3), .ref (h + 4), .ref (h + 6), .ref (h + 17), .ref (h + 30), .ref (h + 31), .ref (h + 46), .ref (h + 48), .int (zI (S.1.1))]) C0 (C := RX9) (T := TX9) (N := 11) iG_X9 hM (hO1) rfl 2 (by decide) tw_238 rfl rfl dX9_item_17 ?_
      refine lv_iload_n C0.1 C0.2.1 dX9_item_20 rfl (lv_at hl 1 rfl) ?_
      refine mm_aald C0 hM 3 (C := "OrangeHeaps$Sheet") (hr3) rfl (i) (i := a) (by omega) (by omega) (by decide) (v := h + 98 + 2 * i) (hf3 _ (by omega)) dX9_item_21 ?_
      refine lv_iload_n C0.1 C0.2.1 dX9_item_22 rfl (lv_at hl 2 rfl) ?_
      refine lv_iload_n C0.1 C0.2.1 dX9_item_23 rfl (lv_at hl 3 rfl) ?_
      refine lv_iconst (v := zI 1) C0.1 C0.2.1 dX9_item_24 rfl ?_
      refine mm_callVi (As := [.int (zI (w)), .int (zI (i1)), .int (zI (1))]) C0 vw_X6_fault tw_877 (c_X6_fault l G _ hs_i (by omega) ⟨by omega, by omega⟩ (by omega) ⟨by omega, by omega⟩ ⟨by omega, by omega⟩ (by omega) (by omega)) hM (hs_i.1) rfl rfl hl.1 rfl (Nat.le_of_ble_eq_true rfl) ⟨rfl, rfl, Nat.le_of_ble_eq_true rfl, Nat.le_of_ble_eq_true rfl, Nat.zero_le _, Nat.zero_le _⟩ dX9_item_25 hS (fun z_25 E3 H locs hp hM hS => ?_)
      obtain ⟨hz_25, hEq⟩ := hp
      rw [hEq] at hM
      refine z_asI (b := (shF (S.2.2.2.2.1 i) (S.2.2.2.2.2 i) w i1 1)) (hz_25) ?_
      have hfb := shF_b (ln := S.2.2.2.2.1 i) (len := S.2.2.2.2.2 i) (a := w) (i := i1) (n := 1)
      refine lv_istore (lv' := [(6, .int (zI ((shF (S.2.2.2.2.1 i) (S.2.2.2.2.2 i) w i1 1)))), (0, .ref (h)), (1, .int (zI (a))), (2, .int (zI (w))), (3, .int (zI (i1))), (4, .long (zL (v)))]) C0.1 C0.2.1 dX9_item_28 hl (by decide) rfl (fun ls hl => ?_)
      refine lv_iload C0.1 C0.2.1 dX9_item_30 (lv_at hl 0 rfl) ?_
      refine z_if_eq (tgt := 38) C0.1 C0.2.1 dX9_item_32 (by decide) ⟨by omega, by omega⟩ (fun c_32 => ?_) (fun c_32 => ?_)
      · skip
        have hf0 := shF_0 c_32
        refine lv_aload_n C0.1 C0.2.1 dX9_item_38 rfl (lv_at hl 1 rfl) ?_
        refine mm_get (fs := [.ref (h + 1), .ref (h + 2), .ref (h + 3), .ref (h + 4), .ref (h + 6), .ref (h + 17), .ref (h + 30), .ref (h + 31), .ref (h + 46), .ref (h + 48), .int (zI (S.1.1))]) C0 (C := RX9) (T := TX9) (N := 11) iG_X9 hM (hO1) rfl 2 (by decide) tw_238 rfl rfl dX9_item_39 ?_
        refine lv_iload_n C0.1 C0.2.1 dX9_item_42 rfl (lv_at hl 2 rfl) ?_
        refine mm_aald C0 hM 3 (C := "OrangeHeaps$Sheet") (hr3) rfl (i) (i := a) (by omega) (by omega) (by decide) (v := h + 98 + 2 * i) (hf3 _ (by omega)) dX9_item_43 ?_
        refine lv_iload_n C0.1 C0.2.1 dX9_item_44 rfl (lv_at hl 4 rfl) ?_
        refine z_asI (a := i1) (b := (i1.toNat : Int)) (by omega) ?_
        refine lv_lload C0.1 C0.2.1 dX9_item_45 (lv_at hl 5 rfl) ?_
        refine mm_callVv (As := [.int (zI ((i1.toNat : Int))), .long (zL (v))]) C0 vw_X6_write tw_901 (c_X6_write l G _ hs_i (by omega) ⟨by omega, by omega⟩) hM (hs_i.1) rfl rfl hl.1 rfl (Nat.le_of_ble_eq_true rfl) ⟨rfl, rfl, Nat.le_of_ble_eq_true rfl, Nat.le_of_ble_eq_true rfl, Nat.zero_le _, Nat.zero_le _⟩ dX9_item_47 hS (fun E4 H locs hp hM hS => ?_)
        obtain ⟨hs9, fr⟩ := hp
        have hO1 := hO.kept hO1 (fr _ (by omega))
        refine lv_iconst (v := zI 1) C0.1 C0.2.1 dX9_item_50 rfl ?_
        exact mm_iret (z := 1) C0 hr hlk hM hS dX9_item_51 (by have he : pf_item S a w i1 v = (1, shPut S i (zup (S.2.2.2.1 i) i1.toNat (asLn (S.2.2.2.2.1 i) v)) (S.2.2.2.2.1 i) (S.2.2.2.2.2 i)) := (by unfold pf_item; rw [if_pos (by omega), ht_i, if_neg (fun q => q c_32)]); rw [he]; exact ⟨rfl, hSo.sht hi_i hs9 (zup_ag hg_i) ⟨hl_i1, hl_i2⟩ ⟨he_i1, he_i2⟩ (zup_r hf_i (asLn_r ⟨hr_v1, hr_v2⟩)) fr, fun q h => fr q (by omega)⟩)
      · skip
        refine lv_iload C0.1 C0.2.1 dX9_item_35 (lv_at hl 0 rfl) ?_
        exact mm_iret (z := (shF (S.2.2.2.2.1 i) (S.2.2.2.2.2 i) w i1 1)) C0 hr hlk hM hS dX9_item_37 (by have he : pf_item S a w i1 v = ((shF (S.2.2.2.2.1 i) (S.2.2.2.2.2 i) w i1 1), S) := (by unfold pf_item; rw [if_pos (by omega), ht_i, if_pos c_32]); rw [he]; exact ⟨rfl, hSo, (fun _ _ => rfl)⟩)
    · skip
      refine lv_iconst (v := zI (-1)) C0.1 C0.2.1 dX9_item_14 rfl ?_
      exact mm_iret (z := (-1)) C0 hr hlk hM hS dX9_item_15 (by have he : pf_item S a w i1 v = ((-1), S) := (by unfold pf_item; rw [if_neg (by omega)]); rw [he]; exact ⟨rfl, hSo, (fun _ _ => rfl)⟩)
