/-- the corners of a claim: 0 or the fault; a claim: 0 or the fault -/
def cnZ (B : Nat → Int) (L b : Nat) : Int := if rnX B L b 3 99 then -20 - (skp B L b : Int) else if skp B L (rnE B L b) < L ∧ B (skp B L (rnE B L b)) = 58 then 0 else -20 - (skp B L (rnE B L b) : Int)
def clP1 (B : Nat → Int) (L a : Nat) : Nat := skp B L (rnE B L a)
def clP2 (B : Nat → Int) (L a : Nat) : Nat := skp B L (clP1 B L a + 1)
def clD (B : Nat → Int) (L a : Nat) : Int := if clP2 B L a < L then kdO (B (clP2 B L a)) else -1
def clP5 (B : Nat → Int) (L a : Nat) : Nat := if 3 ≤ clD B L a then skp B L (rnE B L (clP2 B L a + 1)) + 1 else clP2 B L a + 1
def clZ (B : Nat → Int) (L a : Nat) : Int := if rnX B L a 0 999999999999999999 then -20 - (skp B L a : Int) else if ¬ (clP1 B L a < L ∧ B (clP1 B L a) = 61) then -20 - (clP1 B L a : Int) else if clD B L a < 0 then -20 - (clP2 B L a : Int) else if 3 ≤ clD B L a ∧ cnZ B L (clP2 B L a + 1) ≠ 0 then cnZ B L (clP2 B L a + 1) else rnZ B L (clP5 B L a) 0 999999999
theorem clZ_1 {B : Nat → Int} {L a : Nat} (h : rnX B L a 0 999999999999999999) : clZ B L a = -20 - (skp B L a : Int) := if_pos h
theorem clZ_2 {B : Nat → Int} {L a : Nat} (h : ¬ rnX B L a 0 999999999999999999) (h2 : ¬ (clP1 B L a < L ∧ B (clP1 B L a) = 61)) : clZ B L a = -20 - (clP1 B L a : Int) := by unfold clZ; rw [if_neg h, if_pos h2]
theorem clZ_3 {B : Nat → Int} {L a : Nat} (h : ¬ rnX B L a 0 999999999999999999) (h2 : clP1 B L a < L ∧ B (clP1 B L a) = 61) (h3 : clD B L a < 0) : clZ B L a = -20 - (clP2 B L a : Int) := by unfold clZ; rw [if_neg h, if_neg (fun q => q h2), if_pos h3]
theorem clZ_4 {B : Nat → Int} {L a : Nat} (h : ¬ rnX B L a 0 999999999999999999) (h2 : clP1 B L a < L ∧ B (clP1 B L a) = 61) (h3 : ¬ clD B L a < 0) (h4 : 3 ≤ clD B L a ∧ cnZ B L (clP2 B L a + 1) ≠ 0) : clZ B L a = cnZ B L (clP2 B L a + 1) := by unfold clZ; rw [if_neg h, if_neg (fun q => q h2), if_neg h3, if_pos h4]
theorem clZ_5 {B : Nat → Int} {L a : Nat} (h : ¬ rnX B L a 0 999999999999999999) (h2 : clP1 B L a < L ∧ B (clP1 B L a) = 61) (h3 : ¬ clD B L a < 0) (h4 : 3 ≤ clD B L a → cnZ B L (clP2 B L a + 1) = 0) : clZ B L a = rnZ B L (clP5 B L a) 0 999999999 := by unfold clZ; rw [if_neg h, if_neg (fun q => q h2), if_neg h3, if_neg (fun q => q.2 (h4 q.1))]
theorem cn_1 {B : Nat → Int} {L b : Nat} (h : rnX B L b 3 99) : cnZ B L b = -20 - (skp B L b : Int) := if_pos h
theorem cn_2 {B : Nat → Int} {L b : Nat} (h : ¬ rnX B L b 3 99) (h2 : ¬ (skp B L (rnE B L b) < L ∧ B (skp B L (rnE B L b)) = 58)) : cnZ B L b = -20 - (skp B L (rnE B L b) : Int) := by unfold cnZ; rw [if_neg h, if_neg h2]
theorem cn_3 {B : Nat → Int} {L b : Nat} (h : ¬ rnX B L b 3 99) (h2 : skp B L (rnE B L b) < L ∧ B (skp B L (rnE B L b)) = 58) : cnZ B L b = 0 := by unfold cnZ; rw [if_neg h, if_pos h2]
theorem rnZ_c (B : Nat → Int) (L a : Nat) (lo hi : Int) : (rnX B L a lo hi ∧ rnZ B L a lo hi = -20 - (skp B L a : Int)) ∨ (¬ rnX B L a lo hi ∧ rnZ B L a lo hi = 0) := by
  by_cases h : rnX B L a lo hi
  · exact Or.inl ⟨h, rnZ_x h⟩
  · exact Or.inr ⟨h, rnZ_0 h⟩
theorem rn_k {B : Nat → Int} {L b : Nat} {lo hi : Int} (h : ¬ rnX B L b lo hi) : lo ≤ rnV B L b ∧ rnV B L b ≤ hi := by
  have h1 : ¬ (_ ∨ _ ∨ _ ∨ _) := h
  omega
def rX7_readNumber : Room := { frames := 2, cells := 0, slots := 0, locals := 41 }
theorem vw_X7_readNumber : mm_Vw RX7 yX7_readNumber cX7_readNumber 6 (some .int) 2 := ⟨tw_739, tp_14, tw_2, tw_740, by decide +kernel⟩
set_option maxHeartbeats 4000000 in
set_option maxRecDepth 100000 in
theorem c_X7_readNumber (l : Launch) (G : mG) (E0 : mE) {t : Nat} {B : Nat → Int} {L a : Nat} {v kd k n rd : Int} (hP : tp G E0 t B L a v kd k n rd) (hT : okT B L) (ha : a ≤ L) {lo hi : Int} (hlo9 : rL lo) (hhi9 : rL hi) : mm_Ci l yX7_readNumber (.code yX7_readNumber cX7_readNumber 6 (some .int) :: wsG) rX7_readNumber G [.ref (t), .long (zL (lo)), .long (zL (hi))] E0 (fun z E => z = rnZ B L a lo hi ∧ tp G E t B L (rnE B L a) v kd k n (rnV B L a) ∧ rnE B L a ≤ L ∧ (0 ≤ rnV B L a ∧ rnV B L a < 1000000000000000000) ∧ ∀ q : Nat, q ≠ t → E q = E0 q) := by
  refine mm_of_i (by decide +kernel) (Nat.le_of_ble_eq_true rfl) ?_
  intro p e s m args below meth c ls C0 hr hlk hM hl hS
  have hl : lv_has ls 6 [(0, .ref (t)), (1, .long (zL (lo))), (3, .long (zL (hi)))] := hl
  have hfr : ∀ q : Nat, q ≠ t → E0 q = E0 q := fun _ _ => rfl
  have hL := hT.1
  obtain ⟨hlo1, hlo2⟩ := hlo9
  obtain ⟨hhi1, hhi2⟩ := hhi9
  obtain ⟨s1, hs1⟩ : ∃ s1, s1 = skp B L a := ⟨_, rfl⟩
  have hsb := skp_b (B := B) ha
  rw [← hs1] at hsb
  refine lv_aload_n C0.1 C0.2.1 dX7_readNumber_0 rfl (lv_at hl 0 rfl) ?_
  refine mm_callVv (As := []) C0 vw_X7_skipBlanks tw_741 (c_X7_skipBlanks l G _ hP hT ha) hM (hP.1) rfl rfl hl.1 rfl (Nat.le_of_ble_eq_true rfl) ⟨rfl, rfl, Nat.le_of_ble_eq_true rfl, Nat.le_of_ble_eq_true rfl, Nat.zero_le _, Nat.zero_le _⟩ dX7_readNumber_1 hS (fun E1 H locs hp hM hS => ?_)
  obtain ⟨hP, fr⟩ := hp
  have hfr := (fun q h => (fr q (by omega)).trans (hfr q h) : ∀ q : Nat, q ≠ t → E1 q = E0 q)
  rw [← hs1] at hP
  refine lv_aload_n C0.1 C0.2.1 dX7_readNumber_4 rfl (lv_at hl 0 rfl) ?_
  refine mm_get (fs := [.ref (t + 1), .int (zI ((L : Int))), .int (zI ((s1 : Int))), .long (zL (v)), .int (zI (kd)), .int (zI (k)), .long (zL (n)), .long (zL (rd))]) C0 (C := RX7) (T := TX7) (N := 8) iG_X7 hM (hP.1) rfl 2 (by decide) tw_39 rfl rfl dX7_readNumber_5 ?_
  refine lv_istore (lv' := [(5, .int (zI ((s1 : Int)))), (0, .ref (t)), (1, .long (zL (lo))), (3, .long (zL (hi)))]) C0.1 C0.2.1 dX7_readNumber_8 hl (by decide) rfl (fun ls hl => ?_)
  refine lv_aload_n C0.1 C0.2.1 dX7_readNumber_10 rfl (lv_at hl 1 rfl) ?_
  refine lv_lconst (v := zL 0) C0.1 C0.2.1 dX7_readNumber_11 rfl ?_
  refine mm_put (v := .long (zL (0))) (fs := [.ref (t + 1), .int (zI ((L : Int))), .int (zI ((s1 : Int))), .long (zL (v)), .int (zI (kd)), .int (zI (k)), .long (zL (n)), .long (zL (rd))]) C0 (C := RX7) (T := TX7) (N := 8) iG_X7 tyX7 tyX7_ok nmX7 hM hS (hP.1) rfl 7 (by decide) tw_49 rfl rfl (ty := tyX7 7) (tyX7_ok 7 (by decide)) rfl rfl (Nat.le_of_ble_eq_true rfl) dX7_readNumber_12 (fun H locs hM hS hsz => ?_)
  obtain ⟨E2, hE2⟩ : ∃ X : mE, X = mm_up E1 (t) (.inr (6, [.ref (t + 1), .int (zI ((L : Int))), .int (zI ((s1 : Int))), .long (zL (v)), .int (zI (kd)), .int (zI (k)), .long (zL (n)), .long (zL (0))])) := ⟨_, rfl⟩
  replace hM : mm_M G E2 H := by rw [hE2]; exact hM
  have frs : ∀ q : Nat, q ≠ t → E2 q = E1 q := fun q h => by rw [hE2]; exact mm_up_n _ _ h
  have hat : E2 (t) = some (.inr (6, [.ref (t + 1), .int (zI ((L : Int))), .int (zI ((s1 : Int))), .long (zL (v)), .int (zI (kd)), .int (zI (k)), .long (zL (n)), .long (zL (0))])) := by rw [hE2]; exact mm_up_s _ _ _
  have hP : tp G E2 t B L s1 v kd k n 0 := ⟨hat, (frs _ (by omega)).trans hP.2⟩
  have hfr := (fun q h => (frs q (by omega)).trans (hfr q h) : ∀ q : Nat, q ≠ t → E2 q = E0 q)
  have L15 : ∀ (k15 : Nat) (j : Nat) (E3 : mE) (H : Heap) (locs : List Loc) (ls : Array Slot), (s1 + j ≤ L) → (∀ i, i < j → fig (B (s1 + i))) → (fe B L (s1 + j) = fe B L s1) → (tp G E3 t B L (s1 + j) v kd k n (rv B s1 j)) → (∀ q : Nat, q ≠ t → E3 q = E0 q) → L - (s1 + j) < k15 → mm_M G E3 H → va_S (mm_A G) s.heap H locs → lv_has ls 6 [(0, .ref (t)), (1, .long (zL (lo))), (3, .long (zL (hi))), (5, .int (zI ((s1 : Int))))] → W p l e rX7_readNumber s m args below meth c H locs 0 0 (mm_Zi G below args s (fun z E => z = rnZ B L a lo hi ∧ tp G E t B L (rnE B L a) v kd k n (rnV B L a) ∧ rnE B L a ≤ L ∧ (0 ≤ rnV B L a ∧ rnV B L a < 1000000000000000000) ∧ ∀ q : Nat, q ≠ t → E q = E0 q)) (F0 m 15 ls []) := by
    intro k15
    induction k15 with
    | zero => intro j E3 H locs ls hj hfg hfe hP hfr hk hM hS hl; exact absurd hk (Nat.not_lt_zero _)
    | succ k15 ih15 =>
      intro j E3 H locs ls hj hfg hfe hP hfr hk15 hM hS hl
      obtain ⟨hrb1, hrb2⟩ := rv_b (B := B) (s_ := s1) (j := j) hfg
      refine lv_aload_n C0.1 C0.2.1 dX7_readNumber_15 rfl (lv_at hl 0 rfl) ?_
      refine mm_get (fs := [.ref (t + 1), .int (zI ((L : Int))), .int (zI (((s1 + j : Nat) : Int))), .long (zL (v)), .int (zI (kd)), .int (zI (k)), .long (zL (n)), .long (zL ((rv B s1 j)))]) C0 (C := RX7) (T := TX7) (N := 8) iG_X7 hM (hP.1) rfl 2 (by decide) tw_39 rfl rfl dX7_readNumber_16 ?_
      refine lv_aload_n C0.1 C0.2.1 dX7_readNumber_19 rfl (lv_at hl 0 rfl) ?_
      refine mm_get (fs := [.ref (t + 1), .int (zI ((L : Int))), .int (zI (((s1 + j : Nat) : Int))), .long (zL (v)), .int (zI (kd)), .int (zI (k)), .long (zL (n)), .long (zL ((rv B s1 j)))]) C0 (C := RX7) (T := TX7) (N := 8) iG_X7 hM (hP.1) rfl 1 (by decide) tw_37 rfl rfl dX7_readNumber_20 ?_
      refine z_icmp_ge (tgt := 92) C0.1 C0.2.1 dX7_readNumber_23 (by decide) ⟨by omega, by omega⟩ ⟨by omega, by omega⟩ (fun c_23 => ?_) (fun c_23 => ?_)
      · skip
        have hE : rnE B L a = s1 + j := by unfold rnE; rw [← hs1, ← hfe]; exact fe_e (by omega)
        have hV : rnV B L a = rv B s1 j := by unfold rnV; rw [hE, ← hs1, show s1 + j - s1 = j by omega]
        refine lv_aload_n C0.1 C0.2.1 dX7_readNumber_92 rfl (lv_at hl 0 rfl) ?_
        refine mm_get (fs := [.ref (t + 1), .int (zI ((L : Int))), .int (zI (((s1 + j : Nat) : Int))), .long (zL (v)), .int (zI (kd)), .int (zI (k)), .long (zL (n)), .long (zL ((rv B s1 j)))]) C0 (C := RX7) (T := TX7) (N := 8) iG_X7 hM (hP.1) rfl 2 (by decide) tw_39 rfl rfl dX7_readNumber_93 ?_
        refine lv_iload C0.1 C0.2.1 dX7_readNumber_96 (lv_at hl 3 rfl) ?_
        refine z_icmp_eq (tgt := 131) C0.1 C0.2.1 dX7_readNumber_98 (by decide) ⟨by omega, by omega⟩ ⟨by omega, by omega⟩ (fun c_98 => ?_) (fun c_98 => ?_)
        · skip
          refine lv_aload_n C0.1 C0.2.1 dX7_readNumber_131 rfl (lv_at hl 0 rfl) ?_
          refine lv_iload C0.1 C0.2.1 dX7_readNumber_132 (lv_at hl 3 rfl) ?_
          refine mm_callVi (As := [.int (zI ((s1 : Int)))]) C0 vw_X7_fault tw_368 (c_X7_fault l G _ hP hT s1) hM (hP.1) rfl rfl hl.1 rfl (Nat.le_of_ble_eq_true rfl) ⟨rfl, rfl, Nat.le_of_ble_eq_true rfl, Nat.le_of_ble_eq_true rfl, Nat.zero_le _, Nat.zero_le _⟩ dX7_readNumber_134 hS (fun z_134 E4 H locs hp hM hS => ?_)
          obtain ⟨hz_134, hEq⟩ := hp
          rw [hEq] at hM
          refine z_asI (b := (-20 - (s1 : Int))) (hz_134) ?_
          exact mm_iret (z := (-20 - (s1 : Int))) C0 hr hlk hM hS dX7_readNumber_137 (⟨by rw [rnZ_x (by show _ ∨ _ ∨ _ ∨ _; rw [hE, hV, ← hs1]; omega), ← hs1], by rw [hE, hV]; exact hP, by rw [hE]; omega, by rw [hV]; exact ⟨hrb1, hrb2⟩, hfr⟩)
        · skip
          refine lv_aload_n C0.1 C0.2.1 dX7_readNumber_101 rfl (lv_at hl 0 rfl) ?_
          refine mm_get (fs := [.ref (t + 1), .int (zI ((L : Int))), .int (zI (((s1 + j : Nat) : Int))), .long (zL (v)), .int (zI (kd)), .int (zI (k)), .long (zL (n)), .long (zL ((rv B s1 j)))]) C0 (C := RX7) (T := TX7) (N := 8) iG_X7 hM (hP.1) rfl 2 (by decide) tw_39 rfl rfl dX7_readNumber_102 ?_
          refine lv_iload C0.1 C0.2.1 dX7_readNumber_105 (lv_at hl 3 rfl) ?_
          refine z_isub C0.1 C0.2.1 dX7_readNumber_107 ?_
          refine lv_bipush (v := zI 18) C0.1 C0.2.1 dX7_readNumber_108 rfl ?_
          refine z_icmp_gt (tgt := 131) C0.1 C0.2.1 dX7_readNumber_110 (by decide) ⟨by omega, by omega⟩ ⟨by omega, by omega⟩ (fun c_110 => ?_) (fun c_110 => ?_)
          · skip
            refine lv_aload_n C0.1 C0.2.1 dX7_readNumber_131 rfl (lv_at hl 0 rfl) ?_
            refine lv_iload C0.1 C0.2.1 dX7_readNumber_132 (lv_at hl 3 rfl) ?_
            refine mm_callVi (As := [.int (zI ((s1 : Int)))]) C0 vw_X7_fault tw_368 (c_X7_fault l G _ hP hT s1) hM (hP.1) rfl rfl hl.1 rfl (Nat.le_of_ble_eq_true rfl) ⟨rfl, rfl, Nat.le_of_ble_eq_true rfl, Nat.le_of_ble_eq_true rfl, Nat.zero_le _, Nat.zero_le _⟩ dX7_readNumber_134 hS (fun z_134 E5 H locs hp hM hS => ?_)
            obtain ⟨hz_134, hEq⟩ := hp
            rw [hEq] at hM
            refine z_asI (b := (-20 - (s1 : Int))) (hz_134) ?_
            exact mm_iret (z := (-20 - (s1 : Int))) C0 hr hlk hM hS dX7_readNumber_137 (⟨by rw [rnZ_x (by show _ ∨ _ ∨ _ ∨ _; rw [hE, hV, ← hs1]; omega), ← hs1], by rw [hE, hV]; exact hP, by rw [hE]; omega, by rw [hV]; exact ⟨hrb1, hrb2⟩, hfr⟩)
          · skip
            refine lv_aload_n C0.1 C0.2.1 dX7_readNumber_113 rfl (lv_at hl 0 rfl) ?_
            refine mm_get (fs := [.ref (t + 1), .int (zI ((L : Int))), .int (zI (((s1 + j : Nat) : Int))), .long (zL (v)), .int (zI (kd)), .int (zI (k)), .long (zL (n)), .long (zL ((rv B s1 j)))]) C0 (C := RX7) (T := TX7) (N := 8) iG_X7 hM (hP.1) rfl 7 (by decide) tw_49 rfl rfl dX7_readNumber_114 ?_
            refine lv_lload_n C0.1 C0.2.1 dX7_readNumber_117 rfl (lv_at hl 1 rfl) ?_
            refine z_lcmp_lt (tgt := 131) C0.1 C0.2.1 dX7_readNumber_118 dX7_readNumber_119 (by decide) ⟨by omega, by omega⟩ ⟨by omega, by omega⟩ (fun c_118 => ?_) (fun c_118 => ?_)
            · skip
              refine lv_aload_n C0.1 C0.2.1 dX7_readNumber_131 rfl (lv_at hl 0 rfl) ?_
              refine lv_iload C0.1 C0.2.1 dX7_readNumber_132 (lv_at hl 3 rfl) ?_
              refine mm_callVi (As := [.int (zI ((s1 : Int)))]) C0 vw_X7_fault tw_368 (c_X7_fault l G _ hP hT s1) hM (hP.1) rfl rfl hl.1 rfl (Nat.le_of_ble_eq_true rfl) ⟨rfl, rfl, Nat.le_of_ble_eq_true rfl, Nat.le_of_ble_eq_true rfl, Nat.zero_le _, Nat.zero_le _⟩ dX7_readNumber_134 hS (fun z_134 E6 H locs hp hM hS => ?_)
              obtain ⟨hz_134, hEq⟩ := hp
              rw [hEq] at hM
              refine z_asI (b := (-20 - (s1 : Int))) (hz_134) ?_
              exact mm_iret (z := (-20 - (s1 : Int))) C0 hr hlk hM hS dX7_readNumber_137 (⟨by rw [rnZ_x (by show _ ∨ _ ∨ _ ∨ _; rw [hE, hV, ← hs1]; omega), ← hs1], by rw [hE, hV]; exact hP, by rw [hE]; omega, by rw [hV]; exact ⟨hrb1, hrb2⟩, hfr⟩)
            · skip
              refine lv_aload_n C0.1 C0.2.1 dX7_readNumber_122 rfl (lv_at hl 0 rfl) ?_
              refine mm_get (fs := [.ref (t + 1), .int (zI ((L : Int))), .int (zI (((s1 + j : Nat) : Int))), .long (zL (v)), .int (zI (kd)), .int (zI (k)), .long (zL (n)), .long (zL ((rv B s1 j)))]) C0 (C := RX7) (T := TX7) (N := 8) iG_X7 hM (hP.1) rfl 7 (by decide) tw_49 rfl rfl dX7_readNumber_123 ?_
              refine lv_lload_n C0.1 C0.2.1 dX7_readNumber_126 rfl (lv_at hl 2 rfl) ?_
              refine z_lcmp_le (tgt := 138) C0.1 C0.2.1 dX7_readNumber_127 dX7_readNumber_128 (by decide) ⟨by omega, by omega⟩ ⟨by omega, by omega⟩ (fun c_127 => ?_) (fun c_127 => ?_)
              · skip
                refine lv_iconst (v := zI 0) C0.1 C0.2.1 dX7_readNumber_138 rfl ?_
                exact mm_iret (z := 0) C0 hr hlk hM hS dX7_readNumber_139 (⟨by rw [rnZ_0 (fun q => by have q1 : _ ∨ _ ∨ _ ∨ _ := q; rw [hE, hV, ← hs1] at q1; omega)], by rw [hE, hV]; exact hP, by rw [hE]; omega, by rw [hV]; exact ⟨hrb1, hrb2⟩, hfr⟩)
              · skip
                refine lv_aload_n C0.1 C0.2.1 dX7_readNumber_131 rfl (lv_at hl 0 rfl) ?_
                refine lv_iload C0.1 C0.2.1 dX7_readNumber_132 (lv_at hl 3 rfl) ?_
                refine mm_callVi (As := [.int (zI ((s1 : Int)))]) C0 vw_X7_fault tw_368 (c_X7_fault l G _ hP hT s1) hM (hP.1) rfl rfl hl.1 rfl (Nat.le_of_ble_eq_true rfl) ⟨rfl, rfl, Nat.le_of_ble_eq_true rfl, Nat.le_of_ble_eq_true rfl, Nat.zero_le _, Nat.zero_le _⟩ dX7_readNumber_134 hS (fun z_134 E7 H locs hp hM hS => ?_)
                obtain ⟨hz_134, hEq⟩ := hp
                rw [hEq] at hM
                refine z_asI (b := (-20 - (s1 : Int))) (hz_134) ?_
                exact mm_iret (z := (-20 - (s1 : Int))) C0 hr hlk hM hS dX7_readNumber_137 (⟨by rw [rnZ_x (by show _ ∨ _ ∨ _ ∨ _; rw [hE, hV, ← hs1]; omega), ← hs1], by rw [hE, hV]; exact hP, by rw [hE]; omega, by rw [hV]; exact ⟨hrb1, hrb2⟩, hfr⟩)
      · skip
        refine lv_aload_n C0.1 C0.2.1 dX7_readNumber_26 rfl (lv_at hl 0 rfl) ?_
        refine lv_aload_n C0.1 C0.2.1 dX7_readNumber_27 rfl (lv_at hl 0 rfl) ?_
        refine lv_aload_n C0.1 C0.2.1 dX7_readNumber_28 rfl (lv_at hl 0 rfl) ?_
        refine mm_get (fs := [.ref (t + 1), .int (zI ((L : Int))), .int (zI (((s1 + j : Nat) : Int))), .long (zL (v)), .int (zI (kd)), .int (zI (k)), .long (zL (n)), .long (zL ((rv B s1 j)))]) C0 (C := RX7) (T := TX7) (N := 8) iG_X7 hM (hP.1) rfl 2 (by decide) tw_39 rfl rfl dX7_readNumber_29 ?_
        refine mm_callVi (As := [.int (zI (((s1 + j : Nat) : Int)))]) C0 vw_X7_byteAt tw_360 (c_X7_byteAt l G _ hP hT (s1 + j) (by omega)) hM (hP.1) rfl rfl hl.1 rfl (Nat.le_of_ble_eq_true rfl) ⟨rfl, rfl, Nat.le_of_ble_eq_true rfl, Nat.le_of_ble_eq_true rfl, Nat.zero_le _, Nat.zero_le _⟩ dX7_readNumber_32 hS (fun z_32 E8 H locs hp hM hS => ?_)
        obtain ⟨hz_32, hEq⟩ := hp
        rw [hEq] at hM
        refine z_asI (b := (B (s1 + j))) (hz_32.trans (if_pos (by omega))) ?_
        have hbi := hT.2 (s1 + j) (by omega)
        obtain ⟨hbi1, hbi2⟩ := hbi
        refine mm_callVi (As := [.int (zI ((B (s1 + j))))]) C0 vw_X7_isFigure tw_364 (c_X7_isFigure l G _ hP hT (x := B (s1 + j)) ⟨by omega, by omega⟩) hM (hP.1) rfl rfl hl.1 rfl (Nat.le_of_ble_eq_true rfl) ⟨rfl, rfl, Nat.le_of_ble_eq_true rfl, Nat.le_of_ble_eq_true rfl, Nat.zero_le _, Nat.zero_le _⟩ dX7_readNumber_35 hS (fun z_35 E9 H locs hp hM hS => ?_)
        obtain ⟨hz_35, hEq⟩ := hp
        rw [hEq] at hM
        refine z_asI (b := (if fig (B (s1 + j)) then 1 else 0)) (hz_35) ?_
        refine z_if_eq (tgt := 92) C0.1 C0.2.1 dX7_readNumber_38 (by decide) (by split <;> exact ⟨by omega, by omega⟩) (fun c_38 => ?_) (fun c_38 => ?_)
        · skip
          have hf9 : ¬ fig (B (s1 + j)) := fun q => by rw [if_pos q] at c_38; omega
          have hE : rnE B L a = s1 + j := by unfold rnE; rw [← hs1, ← hfe]; exact fe_e (fun q => hf9 q.2)
          have hV : rnV B L a = rv B s1 j := by unfold rnV; rw [hE, ← hs1, show s1 + j - s1 = j by omega]
          refine lv_aload_n C0.1 C0.2.1 dX7_readNumber_92 rfl (lv_at hl 0 rfl) ?_
          refine mm_get (fs := [.ref (t + 1), .int (zI ((L : Int))), .int (zI (((s1 + j : Nat) : Int))), .long (zL (v)), .int (zI (kd)), .int (zI (k)), .long (zL (n)), .long (zL ((rv B s1 j)))]) C0 (C := RX7) (T := TX7) (N := 8) iG_X7 hM (hP.1) rfl 2 (by decide) tw_39 rfl rfl dX7_readNumber_93 ?_
          refine lv_iload C0.1 C0.2.1 dX7_readNumber_96 (lv_at hl 3 rfl) ?_
          refine z_icmp_eq (tgt := 131) C0.1 C0.2.1 dX7_readNumber_98 (by decide) ⟨by omega, by omega⟩ ⟨by omega, by omega⟩ (fun c_98 => ?_) (fun c_98 => ?_)
          · skip
            refine lv_aload_n C0.1 C0.2.1 dX7_readNumber_131 rfl (lv_at hl 0 rfl) ?_
            refine lv_iload C0.1 C0.2.1 dX7_readNumber_132 (lv_at hl 3 rfl) ?_
            refine mm_callVi (As := [.int (zI ((s1 : Int)))]) C0 vw_X7_fault tw_368 (c_X7_fault l G _ hP hT s1) hM (hP.1) rfl rfl hl.1 rfl (Nat.le_of_ble_eq_true rfl) ⟨rfl, rfl, Nat.le_of_ble_eq_true rfl, Nat.le_of_ble_eq_true rfl, Nat.zero_le _, Nat.zero_le _⟩ dX7_readNumber_134 hS (fun z_134 E10 H locs hp hM hS => ?_)
            obtain ⟨hz_134, hEq⟩ := hp
            rw [hEq] at hM
            refine z_asI (b := (-20 - (s1 : Int))) (hz_134) ?_
            exact mm_iret (z := (-20 - (s1 : Int))) C0 hr hlk hM hS dX7_readNumber_137 (⟨by rw [rnZ_x (by show _ ∨ _ ∨ _ ∨ _; rw [hE, hV, ← hs1]; omega), ← hs1], by rw [hE, hV]; exact hP, by rw [hE]; omega, by rw [hV]; exact ⟨hrb1, hrb2⟩, hfr⟩)
          · skip
            refine lv_aload_n C0.1 C0.2.1 dX7_readNumber_101 rfl (lv_at hl 0 rfl) ?_
            refine mm_get (fs := [.ref (t + 1), .int (zI ((L : Int))), .int (zI (((s1 + j : Nat) : Int))), .long (zL (v)), .int (zI (kd)), .int (zI (k)), .long (zL (n)), .long (zL ((rv B s1 j)))]) C0 (C := RX7) (T := TX7) (N := 8) iG_X7 hM (hP.1) rfl 2 (by decide) tw_39 rfl rfl dX7_readNumber_102 ?_
            refine lv_iload C0.1 C0.2.1 dX7_readNumber_105 (lv_at hl 3 rfl) ?_
            refine z_isub C0.1 C0.2.1 dX7_readNumber_107 ?_
            refine lv_bipush (v := zI 18) C0.1 C0.2.1 dX7_readNumber_108 rfl ?_
            refine z_icmp_gt (tgt := 131) C0.1 C0.2.1 dX7_readNumber_110 (by decide) ⟨by omega, by omega⟩ ⟨by omega, by omega⟩ (fun c_110 => ?_) (fun c_110 => ?_)
            · skip
              refine lv_aload_n C0.1 C0.2.1 dX7_readNumber_131 rfl (lv_at hl 0 rfl) ?_
              refine lv_iload C0.1 C0.2.1 dX7_readNumber_132 (lv_at hl 3 rfl) ?_
              refine mm_callVi (As := [.int (zI ((s1 : Int)))]) C0 vw_X7_fault tw_368 (c_X7_fault l G _ hP hT s1) hM (hP.1) rfl rfl hl.1 rfl (Nat.le_of_ble_eq_true rfl) ⟨rfl, rfl, Nat.le_of_ble_eq_true rfl, Nat.le_of_ble_eq_true rfl, Nat.zero_le _, Nat.zero_le _⟩ dX7_readNumber_134 hS (fun z_134 E11 H locs hp hM hS => ?_)
              obtain ⟨hz_134, hEq⟩ := hp
              rw [hEq] at hM
              refine z_asI (b := (-20 - (s1 : Int))) (hz_134) ?_
              exact mm_iret (z := (-20 - (s1 : Int))) C0 hr hlk hM hS dX7_readNumber_137 (⟨by rw [rnZ_x (by show _ ∨ _ ∨ _ ∨ _; rw [hE, hV, ← hs1]; omega), ← hs1], by rw [hE, hV]; exact hP, by rw [hE]; omega, by rw [hV]; exact ⟨hrb1, hrb2⟩, hfr⟩)
            · skip
              refine lv_aload_n C0.1 C0.2.1 dX7_readNumber_113 rfl (lv_at hl 0 rfl) ?_
              refine mm_get (fs := [.ref (t + 1), .int (zI ((L : Int))), .int (zI (((s1 + j : Nat) : Int))), .long (zL (v)), .int (zI (kd)), .int (zI (k)), .long (zL (n)), .long (zL ((rv B s1 j)))]) C0 (C := RX7) (T := TX7) (N := 8) iG_X7 hM (hP.1) rfl 7 (by decide) tw_49 rfl rfl dX7_readNumber_114 ?_
              refine lv_lload_n C0.1 C0.2.1 dX7_readNumber_117 rfl (lv_at hl 1 rfl) ?_
              refine z_lcmp_lt (tgt := 131) C0.1 C0.2.1 dX7_readNumber_118 dX7_readNumber_119 (by decide) ⟨by omega, by omega⟩ ⟨by omega, by omega⟩ (fun c_118 => ?_) (fun c_118 => ?_)
              · skip
                refine lv_aload_n C0.1 C0.2.1 dX7_readNumber_131 rfl (lv_at hl 0 rfl) ?_
                refine lv_iload C0.1 C0.2.1 dX7_readNumber_132 (lv_at hl 3 rfl) ?_
                refine mm_callVi (As := [.int (zI ((s1 : Int)))]) C0 vw_X7_fault tw_368 (c_X7_fault l G _ hP hT s1) hM (hP.1) rfl rfl hl.1 rfl (Nat.le_of_ble_eq_true rfl) ⟨rfl, rfl, Nat.le_of_ble_eq_true rfl, Nat.le_of_ble_eq_true rfl, Nat.zero_le _, Nat.zero_le _⟩ dX7_readNumber_134 hS (fun z_134 E12 H locs hp hM hS => ?_)
                obtain ⟨hz_134, hEq⟩ := hp
                rw [hEq] at hM
                refine z_asI (b := (-20 - (s1 : Int))) (hz_134) ?_
                exact mm_iret (z := (-20 - (s1 : Int))) C0 hr hlk hM hS dX7_readNumber_137 (⟨by rw [rnZ_x (by show _ ∨ _ ∨ _ ∨ _; rw [hE, hV, ← hs1]; omega), ← hs1], by rw [hE, hV]; exact hP, by rw [hE]; omega, by rw [hV]; exact ⟨hrb1, hrb2⟩, hfr⟩)
              · skip
                refine lv_aload_n C0.1 C0.2.1 dX7_readNumber_122 rfl (lv_at hl 0 rfl) ?_
                refine mm_get (fs := [.ref (t + 1), .int (zI ((L : Int))), .int (zI (((s1 + j : Nat) : Int))), .long (zL (v)), .int (zI (kd)), .int (zI (k)), .long (zL (n)), .long (zL ((rv B s1 j)))]) C0 (C := RX7) (T := TX7) (N := 8) iG_X7 hM (hP.1) rfl 7 (by decide) tw_49 rfl rfl dX7_readNumber_123 ?_
                refine lv_lload_n C0.1 C0.2.1 dX7_readNumber_126 rfl (lv_at hl 2 rfl) ?_
                refine z_lcmp_le (tgt := 138) C0.1 C0.2.1 dX7_readNumber_127 dX7_readNumber_128 (by decide) ⟨by omega, by omega⟩ ⟨by omega, by omega⟩ (fun c_127 => ?_) (fun c_127 => ?_)
                · skip
                  refine lv_iconst (v := zI 0) C0.1 C0.2.1 dX7_readNumber_138 rfl ?_
                  exact mm_iret (z := 0) C0 hr hlk hM hS dX7_readNumber_139 (⟨by rw [rnZ_0 (fun q => by have q1 : _ ∨ _ ∨ _ ∨ _ := q; rw [hE, hV, ← hs1] at q1; omega)], by rw [hE, hV]; exact hP, by rw [hE]; omega, by rw [hV]; exact ⟨hrb1, hrb2⟩, hfr⟩)
                · skip
                  refine lv_aload_n C0.1 C0.2.1 dX7_readNumber_131 rfl (lv_at hl 0 rfl) ?_
                  refine lv_iload C0.1 C0.2.1 dX7_readNumber_132 (lv_at hl 3 rfl) ?_
                  refine mm_callVi (As := [.int (zI ((s1 : Int)))]) C0 vw_X7_fault tw_368 (c_X7_fault l G _ hP hT s1) hM (hP.1) rfl rfl hl.1 rfl (Nat.le_of_ble_eq_true rfl) ⟨rfl, rfl, Nat.le_of_ble_eq_true rfl, Nat.le_of_ble_eq_true rfl, Nat.zero_le _, Nat.zero_le _⟩ dX7_readNumber_134 hS (fun z_134 E13 H locs hp hM hS => ?_)
                  obtain ⟨hz_134, hEq⟩ := hp
                  rw [hEq] at hM
                  refine z_asI (b := (-20 - (s1 : Int))) (hz_134) ?_
                  exact mm_iret (z := (-20 - (s1 : Int))) C0 hr hlk hM hS dX7_readNumber_137 (⟨by rw [rnZ_x (by show _ ∨ _ ∨ _ ∨ _; rw [hE, hV, ← hs1]; omega), ← hs1], by rw [hE, hV]; exact hP, by rw [hE]; omega, by rw [hV]; exact ⟨hrb1, hrb2⟩, hfr⟩)
        · skip
          have hf9 : fig (B (s1 + j)) := Classical.byContradiction fun q => c_38 (if_neg q)
          refine lv_aload_n C0.1 C0.2.1 dX7_readNumber_41 rfl (lv_at hl 0 rfl) ?_
          refine mm_get (fs := [.ref (t + 1), .int (zI ((L : Int))), .int (zI (((s1 + j : Nat) : Int))), .long (zL (v)), .int (zI (kd)), .int (zI (k)), .long (zL (n)), .long (zL ((rv B s1 j)))]) C0 (C := RX7) (T := TX7) (N := 8) iG_X7 hM (hP.1) rfl 2 (by decide) tw_39 rfl rfl dX7_readNumber_42 ?_
          refine lv_iload C0.1 C0.2.1 dX7_readNumber_45 (lv_at hl 3 rfl) ?_
          refine z_isub C0.1 C0.2.1 dX7_readNumber_47 ?_
          refine lv_bipush (v := zI 18) C0.1 C0.2.1 dX7_readNumber_48 rfl ?_
          refine z_icmp_ge (tgt := 79) C0.1 C0.2.1 dX7_readNumber_50 (by decide) ⟨by omega, by omega⟩ ⟨by omega, by omega⟩ (fun c_50 => ?_) (fun c_50 => ?_)
          · skip
            refine lv_aload_n C0.1 C0.2.1 dX7_readNumber_79 rfl (lv_at hl 0 rfl) ?_
            refine lv_dup C0.1 C0.2.1 dX7_readNumber_80 rfl ?_
            refine mm_get (fs := [.ref (t + 1), .int (zI ((L : Int))), .int (zI (((s1 + j : Nat) : Int))), .long (zL (v)), .int (zI (kd)), .int (zI (k)), .long (zL (n)), .long (zL ((rv B s1 j)))]) C0 (C := RX7) (T := TX7) (N := 8) iG_X7 hM (hP.1) rfl 2 (by decide) tw_39 rfl rfl dX7_readNumber_81 ?_
            refine lv_iconst (v := zI 1) C0.1 C0.2.1 dX7_readNumber_84 rfl ?_
            refine z_iadd C0.1 C0.2.1 dX7_readNumber_85 ?_
            refine z_asI (a := ((((s1 + j : Nat) : Int)) + (1))) (b := ((s1 + (j + 1) : Nat) : Int)) (by omega) ?_
            refine mm_put (v := .int (zI (((s1 + (j + 1) : Nat) : Int)))) (fs := [.ref (t + 1), .int (zI ((L : Int))), .int (zI (((s1 + j : Nat) : Int))), .long (zL (v)), .int (zI (kd)), .int (zI (k)), .long (zL (n)), .long (zL ((rv B s1 j)))]) C0 (C := RX7) (T := TX7) (N := 8) iG_X7 tyX7 tyX7_ok nmX7 hM hS (hP.1) rfl 2 (by decide) tw_39 rfl rfl (ty := tyX7 2) (tyX7_ok 2 (by decide)) rfl rfl (Nat.le_of_ble_eq_true rfl) dX7_readNumber_86 (fun H locs hM hS hsz => ?_)
            obtain ⟨E14, hE14⟩ : ∃ X : mE, X = mm_up E3 (t) (.inr (6, [.ref (t + 1), .int (zI ((L : Int))), .int (zI (((s1 + (j + 1) : Nat) : Int))), .long (zL (v)), .int (zI (kd)), .int (zI (k)), .long (zL (n)), .long (zL ((rv B s1 j)))])) := ⟨_, rfl⟩
            replace hM : mm_M G E14 H := by rw [hE14]; exact hM
            have frs : ∀ q : Nat, q ≠ t → E14 q = E3 q := fun q h => by rw [hE14]; exact mm_up_n _ _ h
            have hat : E14 (t) = some (.inr (6, [.ref (t + 1), .int (zI ((L : Int))), .int (zI (((s1 + (j + 1) : Nat) : Int))), .long (zL (v)), .int (zI (kd)), .int (zI (k)), .long (zL (n)), .long (zL ((rv B s1 j)))])) := by rw [hE14]; exact mm_up_s _ _ _
            have hP : tp G E14 t B L (s1 + (j + 1)) v kd k n (rv B s1 j) := ⟨hat, (frs _ (by omega)).trans hP.2⟩
            have hfr := (fun q h => (frs q (by omega)).trans (hfr q h) : ∀ q : Nat, q ≠ t → E14 q = E0 q)
            refine lv_goto (tgt := 15) C0.1 C0.2.1 dX7_readNumber_89 (by decide) ?_
            exact ih15  (j + 1) E14 _ _ _ (by omega) (fun i h => (Nat.lt_or_ge i j).elim (hfg i) (fun h2 => by rw [show i = j by omega]; exact hf9)) ((fe_s (a := s1 + j) (by omega) hf9).symm.trans hfe) (by rw [rv_e (by omega)]; exact hP) (hfr) (by omega) hM hS (lv_sub hl [0, 1, 2, 3] rfl)
          · skip
            refine lv_aload_n C0.1 C0.2.1 dX7_readNumber_53 rfl (lv_at hl 0 rfl) ?_
            refine mm_ldc2 (z := 10) C0 tw_372 rfl dX7_readNumber_54 ?_
            refine lv_aload_n C0.1 C0.2.1 dX7_readNumber_57 rfl (lv_at hl 0 rfl) ?_
            refine mm_get (fs := [.ref (t + 1), .int (zI ((L : Int))), .int (zI (((s1 + j : Nat) : Int))), .long (zL (v)), .int (zI (kd)), .int (zI (k)), .long (zL (n)), .long (zL ((rv B s1 j)))]) C0 (C := RX7) (T := TX7) (N := 8) iG_X7 hM (hP.1) rfl 7 (by decide) tw_49 rfl rfl dX7_readNumber_58 ?_
            refine z_lmul C0.1 C0.2.1 dX7_readNumber_61 ?_
            refine lv_aload_n C0.1 C0.2.1 dX7_readNumber_62 rfl (lv_at hl 0 rfl) ?_
            refine lv_aload_n C0.1 C0.2.1 dX7_readNumber_63 rfl (lv_at hl 0 rfl) ?_
            refine mm_get (fs := [.ref (t + 1), .int (zI ((L : Int))), .int (zI (((s1 + j : Nat) : Int))), .long (zL (v)), .int (zI (kd)), .int (zI (k)), .long (zL (n)), .long (zL ((rv B s1 j)))]) C0 (C := RX7) (T := TX7) (N := 8) iG_X7 hM (hP.1) rfl 2 (by decide) tw_39 rfl rfl dX7_readNumber_64 ?_
            refine mm_callVi (As := [.int (zI (((s1 + j : Nat) : Int)))]) C0 vw_X7_byteAt tw_360 (c_X7_byteAt l G _ hP hT (s1 + j) (by omega)) hM (hP.1) rfl rfl hl.1 rfl (Nat.le_of_ble_eq_true rfl) ⟨rfl, rfl, Nat.le_of_ble_eq_true rfl, Nat.le_of_ble_eq_true rfl, Nat.zero_le _, Nat.zero_le _⟩ dX7_readNumber_67 hS (fun z_67 E15 H locs hp hM hS => ?_)
            obtain ⟨hz_67, hEq⟩ := hp
            rw [hEq] at hM
            refine z_asI (b := (B (s1 + j))) (hz_67.trans (if_pos (by omega))) ?_
            refine z_i2l C0.1 C0.2.1 dX7_readNumber_70 ⟨by omega, by omega⟩ ?_
            refine z_ladd C0.1 C0.2.1 dX7_readNumber_71 ?_
            refine mm_ldc2 (z := 48) C0 tw_745 rfl dX7_readNumber_72 ?_
            refine z_lsub C0.1 C0.2.1 dX7_readNumber_75 ?_
            refine z_asL (a := ((((((10) * ((rv B s1 j)))) + ((B (s1 + j))))) - (48))) (b := (rv B s1 (j + 1))) (by rw [rv_s (by omega)]) ?_
            refine mm_put (v := .long (zL ((rv B s1 (j + 1))))) (fs := [.ref (t + 1), .int (zI ((L : Int))), .int (zI (((s1 + j : Nat) : Int))), .long (zL (v)), .int (zI (kd)), .int (zI (k)), .long (zL (n)), .long (zL ((rv B s1 j)))]) C0 (C := RX7) (T := TX7) (N := 8) iG_X7 tyX7 tyX7_ok nmX7 hM hS (hP.1) rfl 7 (by decide) tw_49 rfl rfl (ty := tyX7 7) (tyX7_ok 7 (by decide)) rfl rfl (Nat.le_of_ble_eq_true rfl) dX7_readNumber_76 (fun H locs hM hS hsz => ?_)
            obtain ⟨E16, hE16⟩ : ∃ X : mE, X = mm_up E3 (t) (.inr (6, [.ref (t + 1), .int (zI ((L : Int))), .int (zI (((s1 + j : Nat) : Int))), .long (zL (v)), .int (zI (kd)), .int (zI (k)), .long (zL (n)), .long (zL ((rv B s1 (j + 1))))])) := ⟨_, rfl⟩
            replace hM : mm_M G E16 H := by rw [hE16]; exact hM
            have frs : ∀ q : Nat, q ≠ t → E16 q = E3 q := fun q h => by rw [hE16]; exact mm_up_n _ _ h
            have hat : E16 (t) = some (.inr (6, [.ref (t + 1), .int (zI ((L : Int))), .int (zI (((s1 + j : Nat) : Int))), .long (zL (v)), .int (zI (kd)), .int (zI (k)), .long (zL (n)), .long (zL ((rv B s1 (j + 1))))])) := by rw [hE16]; exact mm_up_s _ _ _
            have hP : tp G E16 t B L (s1 + j) v kd k n (rv B s1 (j + 1)) := ⟨hat, (frs _ (by omega)).trans hP.2⟩
            have hfr := (fun q h => (frs q (by omega)).trans (hfr q h) : ∀ q : Nat, q ≠ t → E16 q = E0 q)
            refine lv_aload_n C0.1 C0.2.1 dX7_readNumber_79 rfl (lv_at hl 0 rfl) ?_
            refine lv_dup C0.1 C0.2.1 dX7_readNumber_80 rfl ?_
            refine mm_get (fs := [.ref (t + 1), .int (zI ((L : Int))), .int (zI (((s1 + j : Nat) : Int))), .long (zL (v)), .int (zI (kd)), .int (zI (k)), .long (zL (n)), .long (zL ((rv B s1 (j + 1))))]) C0 (C := RX7) (T := TX7) (N := 8) iG_X7 hM (hP.1) rfl 2 (by decide) tw_39 rfl rfl dX7_readNumber_81 ?_
            refine lv_iconst (v := zI 1) C0.1 C0.2.1 dX7_readNumber_84 rfl ?_
            refine z_iadd C0.1 C0.2.1 dX7_readNumber_85 ?_
            refine z_asI (a := ((((s1 + j : Nat) : Int)) + (1))) (b := ((s1 + (j + 1) : Nat) : Int)) (by omega) ?_
            refine mm_put (v := .int (zI (((s1 + (j + 1) : Nat) : Int)))) (fs := [.ref (t + 1), .int (zI ((L : Int))), .int (zI (((s1 + j : Nat) : Int))), .long (zL (v)), .int (zI (kd)), .int (zI (k)), .long (zL (n)), .long (zL ((rv B s1 (j + 1))))]) C0 (C := RX7) (T := TX7) (N := 8) iG_X7 tyX7 tyX7_ok nmX7 hM hS (hP.1) rfl 2 (by decide) tw_39 rfl rfl (ty := tyX7 2) (tyX7_ok 2 (by decide)) rfl rfl (Nat.le_of_ble_eq_true rfl) dX7_readNumber_86 (fun H locs hM hS hsz => ?_)
            obtain ⟨E17, hE17⟩ : ∃ X : mE, X = mm_up E16 (t) (.inr (6, [.ref (t + 1), .int (zI ((L : Int))), .int (zI (((s1 + (j + 1) : Nat) : Int))), .long (zL (v)), .int (zI (kd)), .int (zI (k)), .long (zL (n)), .long (zL ((rv B s1 (j + 1))))])) := ⟨_, rfl⟩
            replace hM : mm_M G E17 H := by rw [hE17]; exact hM
            have frs : ∀ q : Nat, q ≠ t → E17 q = E16 q := fun q h => by rw [hE17]; exact mm_up_n _ _ h
            have hat : E17 (t) = some (.inr (6, [.ref (t + 1), .int (zI ((L : Int))), .int (zI (((s1 + (j + 1) : Nat) : Int))), .long (zL (v)), .int (zI (kd)), .int (zI (k)), .long (zL (n)), .long (zL ((rv B s1 (j + 1))))])) := by rw [hE17]; exact mm_up_s _ _ _
            have hP : tp G E17 t B L (s1 + (j + 1)) v kd k n (rv B s1 (j + 1)) := ⟨hat, (frs _ (by omega)).trans hP.2⟩
            have hfr := (fun q h => (frs q (by omega)).trans (hfr q h) : ∀ q : Nat, q ≠ t → E17 q = E0 q)
            refine lv_goto (tgt := 15) C0.1 C0.2.1 dX7_readNumber_89 (by decide) ?_
            exact ih15  (j + 1) E17 _ _ _ (by omega) (fun i h => (Nat.lt_or_ge i j).elim (hfg i) (fun h2 => by rw [show i = j by omega]; exact hf9)) ((fe_s (a := s1 + j) (by omega) hf9).symm.trans hfe) (hP) (hfr) (by omega) hM hS (lv_sub hl [0, 1, 2, 3] rfl)
  exact L15 (_ + 1) 0 E2 _ _ _ (by omega) (fun i h => absurd h (Nat.not_lt_zero _)) (rfl) (hP) (hfr) (Nat.lt_succ_self _) hM hS (lv_sub hl [1, 2, 3, 0] rfl)

def rX7_readCorners : Room := { frames := 3, cells := 0, slots := 0, locals := 66 }
theorem vw_X7_readCorners : mm_Vw RX7 yX7_readCorners cX7_readCorners 2 (some .int) 0 := ⟨tw_839, tp_15, tw_2, tw_840, by decide +kernel⟩
set_option maxHeartbeats 4000000 in
set_option maxRecDepth 100000 in
theorem c_X7_readCorners (l : Launch) (G : mG) (E0 : mE) {t : Nat} {B : Nat → Int} {L a : Nat} {v kd k n rd : Int} (hP : tp G E0 t B L a v kd k n rd) (hT : okT B L) (ha : a ≤ L) (hk0 : 0 ≤ k) (hk1 : k ≤ 99) : mm_Ci l yX7_readCorners (.code yX7_readCorners cX7_readCorners 2 (some .int) :: wsG) rX7_readCorners G [.ref (t)] E0 (fun z E => z = cnZ B L a ∧ (∃ (a9 : Nat) (k9 rd9 : Int), tp G E t B L a9 v kd k9 n rd9 ∧ a9 ≤ L ∧ 0 ≤ k9 ∧ k9 ≤ 99 ∧ (z = 0 → a9 = skp B L (rnE B L a) + 1 ∧ k9 = rnV B L a)) ∧ ∀ q : Nat, q ≠ t → E q = E0 q) := by
  refine mm_of_i (by decide +kernel) (Nat.le_of_ble_eq_true rfl) ?_
  intro p e s m args below meth c ls C0 hr hlk hM hl hS
  have hl : lv_has ls 2 [(0, .ref (t))] := hl
  have hfr : ∀ q : Nat, q ≠ t → E0 q = E0 q := fun _ _ => rfl
  have hL := hT.1
  refine lv_aload_n C0.1 C0.2.1 dX7_readCorners_0 rfl (lv_at hl 0 rfl) ?_
  refine mm_ldc2 (z := 3) C0 tw_841 rfl dX7_readCorners_1 ?_
  refine mm_ldc2 (z := 99) C0 tw_842 rfl dX7_readCorners_4 ?_
  refine mm_callVi (As := [.long (zL (3)), .long (zL (99))]) C0 vw_X7_readNumber tw_737 (c_X7_readNumber l G _ hP hT ha ⟨by omega, by omega⟩ ⟨by omega, by omega⟩) hM (hP.1) rfl rfl hl.1 rfl (Nat.le_of_ble_eq_true rfl) ⟨rfl, rfl, Nat.le_of_ble_eq_true rfl, Nat.le_of_ble_eq_true rfl, Nat.zero_le _, Nat.zero_le _⟩ dX7_readCorners_7 hS (fun z7 E1 H locs hp hM hS => ?_)
  obtain ⟨hz7, hP, hE9, hv9, fr⟩ := hp
  have hfr := (fun q h => (fr q (by omega)).trans (hfr q h) : ∀ q : Nat, q ≠ t → E1 q = E0 q)
  have hsa := skp_b (B := B) ha
  have hse := skp_b (B := B) hE9
  have hzc := rnZ_c B L a 3 99
  have hzb : -200 ≤ z7 ∧ z7 ≤ 0 := by rcases hzc with ⟨-, h⟩ | ⟨-, h⟩ <;> omega
  obtain ⟨hzb1, hzb2⟩ := hzb
  refine lv_istore_n (lv' := [(1, .int (zI (z7))), (0, .ref (t))]) C0.1 C0.2.1 dX7_readCorners_10 rfl hl (by decide) rfl (fun ls hl => ?_)
  refine lv_iload_n C0.1 C0.2.1 dX7_readCorners_11 rfl (lv_at hl 0 rfl) ?_
  refine z_if_eq (tgt := 17) C0.1 C0.2.1 dX7_readCorners_12 (by decide) ⟨by omega, by omega⟩ (fun c_12 => ?_) (fun c_12 => ?_)
  · skip
    have hX9 : ¬ rnX B L a 3 99 := hzc.elim (fun h => by omega) (fun h => h.1)
    obtain ⟨hk2, hk3⟩ := rn_k hX9
    refine lv_aload_n C0.1 C0.2.1 dX7_readCorners_17 rfl (lv_at hl 1 rfl) ?_
    refine lv_aload_n C0.1 C0.2.1 dX7_readCorners_18 rfl (lv_at hl 1 rfl) ?_
    refine mm_get (fs := [.ref (t + 1), .int (zI ((L : Int))), .int (zI ((rnE B L a : Int))), .long (zL (v)), .int (zI (kd)), .int (zI (k)), .long (zL (n)), .long (zL ((rnV B L a)))]) C0 (C := RX7) (T := TX7) (N := 8) iG_X7 hM (hP.1) rfl 7 (by decide) tw_49 rfl rfl dX7_readCorners_19 ?_
    refine z_l2i C0.1 C0.2.1 dX7_readCorners_22 ?_
    refine mm_put (v := .int (zI ((rnV B L a)))) (fs := [.ref (t + 1), .int (zI ((L : Int))), .int (zI ((rnE B L a : Int))), .long (zL (v)), .int (zI (kd)), .int (zI (k)), .long (zL (n)), .long (zL ((rnV B L a)))]) C0 (C := RX7) (T := TX7) (N := 8) iG_X7 tyX7 tyX7_ok nmX7 hM hS (hP.1) rfl 5 (by decide) tw_45 rfl rfl (ty := tyX7 5) (tyX7_ok 5 (by decide)) rfl rfl (Nat.le_of_ble_eq_true rfl) dX7_readCorners_23 (fun H locs hM hS hsz => ?_)
    obtain ⟨E2, hE2⟩ : ∃ X : mE, X = mm_up E1 (t) (.inr (6, [.ref (t + 1), .int (zI ((L : Int))), .int (zI ((rnE B L a : Int))), .long (zL (v)), .int (zI (kd)), .int (zI ((rnV B L a))), .long (zL (n)), .long (zL ((rnV B L a)))])) := ⟨_, rfl⟩
    replace hM : mm_M G E2 H := by rw [hE2]; exact hM
    have frs : ∀ q : Nat, q ≠ t → E2 q = E1 q := fun q h => by rw [hE2]; exact mm_up_n _ _ h
    have hat : E2 (t) = some (.inr (6, [.ref (t + 1), .int (zI ((L : Int))), .int (zI ((rnE B L a : Int))), .long (zL (v)), .int (zI (kd)), .int (zI ((rnV B L a))), .long (zL (n)), .long (zL ((rnV B L a)))])) := by rw [hE2]; exact mm_up_s _ _ _
    have hP : tp G E2 t B L (rnE B L a) v kd (rnV B L a) n (rnV B L a) := ⟨hat, (frs _ (by omega)).trans hP.2⟩
    have hfr := (fun q h => (frs q (by omega)).trans (hfr q h) : ∀ q : Nat, q ≠ t → E2 q = E0 q)
    refine lv_aload_n C0.1 C0.2.1 dX7_readCorners_26 rfl (lv_at hl 1 rfl) ?_
    refine lv_bipush (v := zI 58) C0.1 C0.2.1 dX7_readCorners_27 rfl ?_
    refine mm_callVi (As := [.int (zI (58))]) C0 vw_X7_pass tw_746 (c_X7_pass l G _ hP hT hE9 (x := 58) ⟨by omega, by omega⟩) hM (hP.1) rfl rfl hl.1 rfl (Nat.le_of_ble_eq_true rfl) ⟨rfl, rfl, Nat.le_of_ble_eq_true rfl, Nat.le_of_ble_eq_true rfl, Nat.zero_le _, Nat.zero_le _⟩ dX7_readCorners_29 hS (fun z_29 E3 H locs hp hM hS => ?_)
    obtain ⟨hz29, fr⟩ := hp
    have hfr := (fun q h => (fr q (by omega)).trans (hfr q h) : ∀ q : Nat, q ≠ t → E3 q = E0 q)
    have hz01 : z_29 = 0 ∨ z_29 = 1 := hz29.elim (fun h => Or.inr h.1) (fun h => Or.inl h.1)
    refine z_if_eq (tgt := 39) C0.1 C0.2.1 dX7_readCorners_32 (by decide) ⟨by omega, by omega⟩ (fun c_32 => ?_) (fun c_32 => ?_)
    · skip
      obtain ⟨hp1, hP⟩ := hz29.elim (fun h => by omega) (fun h => h.2)
      refine lv_aload_n C0.1 C0.2.1 dX7_readCorners_39 rfl (lv_at hl 1 rfl) ?_
      refine mm_callVi (As := []) C0 vw_X7_faultHere tw_750 (c_X7_faultHere l G _ hP hT) hM (hP.1) rfl rfl hl.1 rfl (Nat.le_of_ble_eq_true rfl) ⟨rfl, rfl, Nat.le_of_ble_eq_true rfl, Nat.le_of_ble_eq_true rfl, Nat.zero_le _, Nat.zero_le _⟩ dX7_readCorners_40 hS (fun z_40 E4 H locs hp hM hS => ?_)
      obtain ⟨hz_40, hEq⟩ := hp
      rw [hEq] at hM
      refine z_asI (b := (-20 - (skp B L (rnE B L a) : Int))) (hz_40) ?_
      exact mm_iret (z := (-20 - (skp B L (rnE B L a) : Int))) C0 hr hlk hM hS dX7_readCorners_43 (⟨(cn_2 hX9 hp1).symm, ⟨_, _, _, hP, by omega, by omega, by omega, fun q => by omega⟩, hfr⟩)
    · skip
      obtain ⟨hp1, hp2, hP⟩ := hz29.elim (fun h => h.2) (fun h => by omega)
      refine lv_iconst (v := zI 0) C0.1 C0.2.1 dX7_readCorners_35 rfl ?_
      refine lv_goto (tgt := 43) C0.1 C0.2.1 dX7_readCorners_36 (by decide) ?_
      exact mm_iret (z := 0) C0 hr hlk hM hS dX7_readCorners_43 (⟨(cn_3 hX9 ⟨hp1, hp2⟩).symm, ⟨_, _, _, hP, by omega, by omega, by omega, fun q => ⟨rfl, rfl⟩⟩, hfr⟩)
  · skip
    have hX9 : rnX B L a 3 99 := hzc.elim (fun h => h.1) (fun h => by omega)
    refine lv_iload_n C0.1 C0.2.1 dX7_readCorners_15 rfl (lv_at hl 0 rfl) ?_
    exact mm_iret (z := z7) C0 hr hlk hM hS dX7_readCorners_16 (⟨hz7.trans ((rnZ_x hX9).trans (cn_1 hX9).symm), ⟨_, _, _, hP, hE9, hk0, hk1, fun q => absurd q c_12⟩, hfr⟩)
