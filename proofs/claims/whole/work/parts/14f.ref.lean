theorem rfx.tap {G : mG} {E E1 : mE} {h : Nat} {S : mST} {R : Nat → Nat} {x2 x3 x4 x5 x6 x7 y2 y3 y4 y5 y6 y7 : Int} {B : Nat → Int} {L : Nat} (a : rfx G E h S R x2 x3 x4 x5 x6 x7) (hO : ro G E1 h (L : Int) y2 y3 y4 y5 y6 y7 S.1.1) (hT : E1 (h + 4) = some (mm_I G 100 B)) (fr : ∀ q, (q ≠ h ∧ q ≠ h + 4) → E1 q = E q) : rfx G E1 h (sTap S B L) R y2 y3 y4 y5 y6 y7 := by
  obtain ⟨a1, a2, a3, a4, a5, a6, a7, a8, a9⟩ := a
  exact ⟨hO, a2.kept (fr _ (by omega)), a3, a4.kept (fr _ (by omega)) (fr _ (by omega)), hT, a6.kept (fun q hq => fr q (by omega)), a7.kept (fr _ (by omega)), a8.kept (fun q hq => fr q (by omega)), a9⟩
theorem rdT_k {B : Nat → Int} {L n N : Nat} : ∀ k a : Nat, L - a ≤ k → a ≤ L → rdT B (L - a) a n N = rdT B (L - skp B L a) (skp B L a) n N
  | 0, a, h1, h2 => by rw [skp_e (by omega)]
  | k + 1, a, h1, h2 => by
    by_cases h : a < L ∧ B a = 32
    · rw [skp_s h.1 h.2, rdT_b (r := L - (a + 1)) (by omega) h.2]
      exact rdT_k k (a + 1) (by omega) (by omega)
    · rw [skp_e h]
def nbZ (B : Nat → Int) (L a : Nat) : Int := if skp B L a < L then B (skp B L a) else -1
theorem nbZ_b {B : Nat → Int} {L a : Nat} (h : okT B L) : -1 ≤ nbZ B L a ∧ nbZ B L a ≤ 126 := by
  unfold nbZ
  split
  · rename_i q; have := h.2 _ q; unfold okB at this; omega
  · omega
theorem nbZ_i {B : Nat → Int} {L a : Nat} (h : a ≤ L) : nbZ B L (skp B L a) = nbZ B L a := by unfold nbZ; rw [skp_i h]
theorem nbZ_p {B : Nat → Int} {L a : Nat} (h : skp B L a < L) : nbZ B L a = B (skp B L a) := if_pos h
theorem nbZ_n {B : Nat → Int} {L a : Nat} (h : ¬ skp B L a < L) : nbZ B L a = -1 := if_neg h

def rX10_type : Room := { frames := 1, cells := 0, slots := 0, locals := 25 }
theorem vw_X10_type : mm_Vw RX10 yX10_type cX10_type 5 (some .int) 2 := ⟨tw_1017, tw_1018, tw_10, tw_1019, by decide +kernel⟩
set_option maxHeartbeats 4000000 in
set_option maxRecDepth 100000 in
theorem c_X10_type (l : Launch) (G : mG) (E0 : mE) {h : Nat} {S : mST} (hF : rf G E0 h S) (hok : okR S) {w n : Int} (hr_w : rL w) (hr_n : rI n) : mm_Ci l yX10_type (.code yX10_type cX10_type 5 (some .int) :: wsG) rX10_type G [.ref (h), .long (zL (w)), .int (zI (n))] E0 (fun z E => z = (pf_type S w n).1 ∧ rf G E h (pf_type S w n).2 ∧ ∀ q : Nat, (q < h ∨ h + 13 ≤ q) → E q = E0 q) := by
  refine mm_of_i (by decide +kernel) (Nat.le_of_ble_eq_true rfl) ?_
  intro p e s m args below meth c ls C0 hr hlk hM hl hS
  have hl : lv_has ls 5 [(0, .ref (h)), (1, .long (zL (w))), (3, .int (zI (n)))] := hl
  obtain ⟨hr_w1, hr_w2⟩ := hr_w
  obtain ⟨hr_n1, hr_n2⟩ := hr_n
  obtain ⟨R, x2, x3, x4, x5, x6, x7, hX⟩ := hF
  have hX0 := hX
  obtain ⟨hTk, hPk, hKk, hSk⟩ := hok
  obtain ⟨hO, hR, hRp, ⟨fh, fc, hH, hC, hPa⟩, hTp, hCl, hKp, hSh, him⟩ := hX
  have hL9 := hTk.1
  refine lv_iload_n C0.1 C0.2.1 dX10_type_0 rfl (lv_at hl 2 rfl) ?_
  refine z_i2l C0.1 C0.2.1 dX10_type_1 ⟨by omega, by omega⟩ ?_
  refine lv_lconst (v := zL 1) C0.1 C0.2.1 dX10_type_2 rfl ?_
  refine mm_ldc2 (z := 8) C0 tw_1020 rfl dX10_type_3 ?_
  refine mm_callSi (As := [.long (zL (n)), .long (zL (1)), .long (zL (8))]) C0 sw_X10_in tw_985 (c_X10_in l G _ (v := n) (lo := 1) (hi := 8) ⟨by omega, by omega⟩ ⟨by omega, by omega⟩ ⟨by omega, by omega⟩) hM rfl hl.1 rfl (Nat.le_of_ble_eq_true rfl) ⟨rfl, rfl, Nat.le_of_ble_eq_true rfl, Nat.le_of_ble_eq_true rfl, Nat.zero_le _, Nat.zero_le _⟩ dX10_type_6 hS (fun z_6 E1 H locs hp hM hS => ?_)
  obtain ⟨hz_6, hEq⟩ := hp
  rw [hEq] at hM
  have hz_6b := if01 hz_6
  refine z_if_ne (tgt := 14) C0.1 C0.2.1 dX10_type_9 (by decide) ⟨by omega, by omega⟩ (fun c_9 => ?_) (fun c_9 => ?_)
  · skip
    refine lv_iload_n C0.1 C0.2.1 dX10_type_14 rfl (lv_at hl 2 rfl) ?_
    refine lv_iconst (v := zI 1) C0.1 C0.2.1 dX10_type_15 rfl ?_
    refine z_isub C0.1 C0.2.1 dX10_type_16 ?_
    refine z_asI (a := ((n) - (1))) (b := ((n.toNat : Int) - 1)) (by omega) ?_
    refine lv_istore (lv' := [(4, .int (zI (((n.toNat : Int) - 1)))), (0, .ref (h)), (1, .long (zL (w))), (3, .int (zI (n)))]) C0.1 C0.2.1 dX10_type_17 hl (by decide) rfl (fun ls hl => ?_)
    have L19 : ∀ (k19 : Nat) (u : Nat) (H : Heap) (locs : List Loc) (ls : Array Slot), (u ≤ n.toNat) → (∀ j, u ≤ j → j < n.toNat → okB (bt w j)) → u < k19 → mm_M G E0 H → va_S (mm_A G) s.heap H locs → lv_has ls 5 [(0, .ref (h)), (1, .long (zL (w))), (3, .int (zI (n))), (4, .int (zI ((u : Int) - 1)))] → W p l e rX10_type s m args below meth c H locs 0 0 (mm_Zi G below args s (fun z E => z = (pf_type S w n).1 ∧ rf G E h (pf_type S w n).2 ∧ ∀ q : Nat, (q < h ∨ h + 13 ≤ q) → E q = E0 q)) (F0 m 19 ls []) := by
      intro k19
      induction k19 with
      | zero => intro u H locs ls hu hz hk hM hS hl; exact absurd hk (Nat.not_lt_zero _)
      | succ k19 ih19 =>
        intro u H locs ls hu hz hk19 hM hS hl
        refine lv_iload C0.1 C0.2.1 dX10_type_19 (lv_at hl 3 rfl) ?_
        refine z_if_lt (tgt := 55) C0.1 C0.2.1 dX10_type_21 (by decide) ⟨by omega, by omega⟩ (fun c_21 => ?_) (fun c_21 => ?_)
        · skip
          refine lv_aload_n C0.1 C0.2.1 dX10_type_55 rfl (lv_at hl 0 rfl) ?_
          refine mm_get (fs := [.ref (h + 1), .ref (h + 2), .ref (h + 3), .ref (h + 4), .int (zI (((S.1.2.2 : Nat) : Int))), .int (zI (x2)), .long (zL (x3)), .ref (h + 5), .ref (h + 6), .ref (h + 7), .ref (h + 8), .int (zI (x4)), .int (zI (x5)), .int (zI (x6)), .int (zI (x7)), .int (zI (S.1.1)), .ref (h + 9), .ref (h + 10), .ref (h + 11), .ref (h + 12)]) C0 (C := RX10) (T := TX10) (N := 20) iG_X10 hM (hO) rfl 4 (by decide) tw_920 rfl rfl dX10_type_56 ?_
          refine lv_iload_n C0.1 C0.2.1 dX10_type_59 rfl (lv_at hl 2 rfl) ?_
          refine z_iadd C0.1 C0.2.1 dX10_type_60 ?_
          refine lv_bipush (v := zI 100) C0.1 C0.2.1 dX10_type_61 rfl ?_
          refine z_icmp_le (tgt := 69) C0.1 C0.2.1 dX10_type_63 (by decide) ⟨by omega, by omega⟩ ⟨by omega, by omega⟩ (fun c_63 => ?_) (fun c_63 => ?_)
          · skip
            refine lv_iload_n C0.1 C0.2.1 dX10_type_69 rfl (lv_at hl 2 rfl) ?_
            refine lv_iconst (v := zI 1) C0.1 C0.2.1 dX10_type_70 rfl ?_
            refine z_isub C0.1 C0.2.1 dX10_type_71 ?_
            refine z_asI (a := ((n) - (1))) (b := ((n.toNat : Int) - 1)) (by omega) ?_
            refine lv_istore (lv' := [(4, .int (zI (((n.toNat : Int) - 1)))), (0, .ref (h)), (1, .long (zL (w))), (3, .int (zI (n)))]) C0.1 C0.2.1 dX10_type_72 hl (by decide) rfl (fun ls hl => ?_)
            have L74 : ∀ (k74 : Nat) (u1 L1 : Nat) (B1 : Nat → Int) (E2 : mE) (H : Heap) (locs : List Loc) (ls : Array Slot), (u1 ≤ 8) → (L1 + u1 = S.1.2.2 + n.toNat) → (apB w B1 L1 u1 = apB w S.1.2.1 S.1.2.2 n.toNat) → (ro G E2 h (L1 : Int) x2 x3 x4 x5 x6 x7 S.1.1) → (E2 (h + 4) = some (mm_I G 100 B1)) → (∀ q : Nat, (q ≠ h ∧ q ≠ h + 4) → E2 q = E0 q) → u1 < k74 → mm_M G E2 H → va_S (mm_A G) s.heap H locs → lv_has ls 5 [(0, .ref (h)), (1, .long (zL (w))), (3, .int (zI (n))), (4, .int (zI ((u1 : Int) - 1)))] → W p l e rX10_type s m args below meth c H locs 0 0 (mm_Zi G below args s (fun z E => z = (pf_type S w n).1 ∧ rf G E h (pf_type S w n).2 ∧ ∀ q : Nat, (q < h ∨ h + 13 ≤ q) → E q = E0 q)) (F0 m 74 ls []) := by
              intro k74
              induction k74 with
              | zero => intro u1 L1 B1 E2 H locs ls hu1 hLL hap hO hT hfr hk hM hS hl; exact absurd hk (Nat.not_lt_zero _)
              | succ k74 ih74 =>
                intro u1 L1 B1 E2 H locs ls hu1 hLL hap hO hT hfr hk74 hM hS hl
                refine lv_iload C0.1 C0.2.1 dX10_type_74 (lv_at hl 3 rfl) ?_
                refine z_if_lt (tgt := 116) C0.1 C0.2.1 dX10_type_76 (by decide) ⟨by omega, by omega⟩ (fun c_76 => ?_) (fun c_76 => ?_)
                · skip
                  refine lv_aload_n C0.1 C0.2.1 dX10_type_116 rfl (lv_at hl 0 rfl) ?_
                  refine mm_get (fs := [.ref (h + 1), .ref (h + 2), .ref (h + 3), .ref (h + 4), .int (zI ((L1 : Int))), .int (zI (x2)), .long (zL (x3)), .ref (h + 5), .ref (h + 6), .ref (h + 7), .ref (h + 8), .int (zI (x4)), .int (zI (x5)), .int (zI (x6)), .int (zI (x7)), .int (zI (S.1.1)), .ref (h + 9), .ref (h + 10), .ref (h + 11), .ref (h + 12)]) C0 (C := RX10) (T := TX10) (N := 20) iG_X10 hM (hO) rfl 4 (by decide) tw_920 rfl rfl dX10_type_117 ?_
                  exact mm_iret (z := (L1 : Int)) C0 hr hlk hM hS dX10_type_120 (by have hu0 : u1 = 0 := (by omega); subst hu0; have hLe : L1 = S.1.2.2 + n.toNat := (by omega); subst hLe; have hBe : B1 = apB w S.1.2.1 S.1.2.2 n.toNat := hap; subst hBe; have he : pf_type S w n = (((S.1.2.2 + n.toNat : Nat) : Int), sTap S (apB w S.1.2.1 S.1.2.2 n.toNat) (S.1.2.2 + n.toNat)) := (by unfold pf_type; rw [if_pos ⟨by omega, bq_t (fun i hi => hz i (by omega) hi)⟩, if_neg (by omega)]); rw [he]; exact ⟨rfl, (hX0.tap hO hT hfr).rf, fun q h => hfr q (by omega)⟩)
                · skip
                  refine lv_aload_n C0.1 C0.2.1 dX10_type_79 rfl (lv_at hl 0 rfl) ?_
                  refine mm_get (fs := [.ref (h + 1), .ref (h + 2), .ref (h + 3), .ref (h + 4), .int (zI ((L1 : Int))), .int (zI (x2)), .long (zL (x3)), .ref (h + 5), .ref (h + 6), .ref (h + 7), .ref (h + 8), .int (zI (x4)), .int (zI (x5)), .int (zI (x6)), .int (zI (x7)), .int (zI (S.1.1)), .ref (h + 9), .ref (h + 10), .ref (h + 11), .ref (h + 12)]) C0 (C := RX10) (T := TX10) (N := 20) iG_X10 hM (hO) rfl 3 (by decide) tw_919 rfl rfl dX10_type_80 ?_
                  refine lv_aload_n C0.1 C0.2.1 dX10_type_83 rfl (lv_at hl 0 rfl) ?_
                  refine mm_get (fs := [.ref (h + 1), .ref (h + 2), .ref (h + 3), .ref (h + 4), .int (zI ((L1 : Int))), .int (zI (x2)), .long (zL (x3)), .ref (h + 5), .ref (h + 6), .ref (h + 7), .ref (h + 8), .int (zI (x4)), .int (zI (x5)), .int (zI (x6)), .int (zI (x7)), .int (zI (S.1.1)), .ref (h + 9), .ref (h + 10), .ref (h + 11), .ref (h + 12)]) C0 (C := RX10) (T := TX10) (N := 20) iG_X10 hM (hO) rfl 4 (by decide) tw_920 rfl rfl dX10_type_84 ?_
                  refine lv_lload_n C0.1 C0.2.1 dX10_type_87 rfl (lv_at hl 1 rfl) ?_
                  refine lv_bipush (v := zI 8) C0.1 C0.2.1 dX10_type_88 rfl ?_
                  refine lv_iload C0.1 C0.2.1 dX10_type_90 (lv_at hl 3 rfl) ?_
                  refine z_imul C0.1 C0.2.1 dX10_type_92 ?_
                  refine z_byte (j := u1 - 1) C0.1 C0.2.1 dX10_type_93 ⟨by omega, by omega⟩ (by omega) (by omega) (fun hB9 => ?_)
                  refine mm_ldc2 (z := 255) C0 tw_1021 rfl dX10_type_94 ?_
                  refine lv_land C0.1 C0.2.1 dX10_type_97 ?_
                  rw [hB9]
                  have hbb := bt_b w (u1 - 1)
                  refine z_l2i C0.1 C0.2.1 dX10_type_98 ?_
                  refine mm_iast C0 hM hS (g := B1) (hT) (L1) (i := (L1 : Int)) (x := (bt w (u1 - 1))) (by omega) (by omega) (by decide) dX10_type_99 (fun H locs hM hS hsz => ?_)
                  obtain ⟨E3, hE3⟩ : ∃ X : mE, X = mm_up E2 (h + 4) (mm_I G 100 (zup (B1) (L1) ((bt w (u1 - 1))))) := ⟨_, rfl⟩
                  replace hM : mm_M G E3 H := by rw [hE3]; exact hM
                  have frs : ∀ q : Nat, q ≠ h + 4 → E3 q = E2 q := fun q h => by rw [hE3]; exact mm_up_n _ _ h
                  have hat : E3 (h + 4) = some (mm_I G 100 (zup (B1) (L1) ((bt w (u1 - 1))))) := by rw [hE3]; exact mm_up_s _ _ _
                  have hT := hat
                  have hO := ro.kept hO (frs _ (by omega))
                  have hfr := (fun q h => (frs q (by omega)).trans (hfr q h) : ∀ q : Nat, (q ≠ h ∧ q ≠ h + 4) → E3 q = E0 q)
                  refine lv_aload_n C0.1 C0.2.1 dX10_type_100 rfl (lv_at hl 0 rfl) ?_
                  refine lv_dup C0.1 C0.2.1 dX10_type_101 rfl ?_
                  refine mm_get (fs := [.ref (h + 1), .ref (h + 2), .ref (h + 3), .ref (h + 4), .int (zI ((L1 : Int))), .int (zI (x2)), .long (zL (x3)), .ref (h + 5), .ref (h + 6), .ref (h + 7), .ref (h + 8), .int (zI (x4)), .int (zI (x5)), .int (zI (x6)), .int (zI (x7)), .int (zI (S.1.1)), .ref (h + 9), .ref (h + 10), .ref (h + 11), .ref (h + 12)]) C0 (C := RX10) (T := TX10) (N := 20) iG_X10 hM (hO) rfl 4 (by decide) tw_920 rfl rfl dX10_type_102 ?_
                  refine lv_iconst (v := zI 1) C0.1 C0.2.1 dX10_type_105 rfl ?_
                  refine z_iadd C0.1 C0.2.1 dX10_type_106 ?_
                  refine z_asI (a := (((L1 : Int)) + (1))) (b := ((L1 + 1 : Nat) : Int)) (by omega) ?_
                  refine mm_put (v := .int (zI (((L1 + 1 : Nat) : Int)))) (fs := [.ref (h + 1), .ref (h + 2), .ref (h + 3), .ref (h + 4), .int (zI ((L1 : Int))), .int (zI (x2)), .long (zL (x3)), .ref (h + 5), .ref (h + 6), .ref (h + 7), .ref (h + 8), .int (zI (x4)), .int (zI (x5)), .int (zI (x6)), .int (zI (x7)), .int (zI (S.1.1)), .ref (h + 9), .ref (h + 10), .ref (h + 11), .ref (h + 12)]) C0 (C := RX10) (T := TX10) (N := 20) iG_X10 tyX10 tyX10_ok nmX10 hM hS (hO) rfl 4 (by decide) tw_920 rfl rfl (ty := tyX10 4) (tyX10_ok 4 (by decide)) rfl rfl (Nat.le_of_ble_eq_true rfl) dX10_type_107 (fun H locs hM hS hsz => ?_)
                  obtain ⟨E4, hE4⟩ : ∃ X : mE, X = mm_up E3 (h) (.inr (9, [.ref (h + 1), .ref (h + 2), .ref (h + 3), .ref (h + 4), .int (zI (((L1 + 1 : Nat) : Int))), .int (zI (x2)), .long (zL (x3)), .ref (h + 5), .ref (h + 6), .ref (h + 7), .ref (h + 8), .int (zI (x4)), .int (zI (x5)), .int (zI (x6)), .int (zI (x7)), .int (zI (S.1.1)), .ref (h + 9), .ref (h + 10), .ref (h + 11), .ref (h + 12)])) := ⟨_, rfl⟩
                  replace hM : mm_M G E4 H := by rw [hE4]; exact hM
                  have frs : ∀ q : Nat, q ≠ h → E4 q = E3 q := fun q h => by rw [hE4]; exact mm_up_n _ _ h
                  have hat : E4 (h) = some (.inr (9, [.ref (h + 1), .ref (h + 2), .ref (h + 3), .ref (h + 4), .int (zI (((L1 + 1 : Nat) : Int))), .int (zI (x2)), .long (zL (x3)), .ref (h + 5), .ref (h + 6), .ref (h + 7), .ref (h + 8), .int (zI (x4)), .int (zI (x5)), .int (zI (x6)), .int (zI (x7)), .int (zI (S.1.1)), .ref (h + 9), .ref (h + 10), .ref (h + 11), .ref (h + 12)])) := by rw [hE4]; exact mm_up_s _ _ _
                  have hO : ro G E4 h ((L1 + 1 : Nat) : Int) x2 x3 x4 x5 x6 x7 S.1.1 := hat
                  have hT := (frs _ (by omega)).trans hT
                  have hfr := (fun q h => (frs q (by omega)).trans (hfr q h) : ∀ q : Nat, (q ≠ h ∧ q ≠ h + 4) → E4 q = E0 q)
                  refine lv_iinc (v := zI (((u1 - 1 : Nat) : Int) - 1)) (lv' := [(4, .int (zI (((u1 - 1 : Nat) : Int) - 1))), (0, .ref (h)), (1, .long (zL (w))), (3, .int (zI (n)))]) C0.1 C0.2.1 dX10_type_110 hl (k := 3) rfl (z_inc (a := (u1 : Int) - 1) (n := (-1)) (by omega)) (by decide) rfl (fun ls hl => ?_)
                  refine lv_goto (tgt := 74) C0.1 C0.2.1 dX10_type_113 (by decide) ?_
                  exact ih74  (u1 - 1) (L1 + 1) (zup B1 L1 (bt w (u1 - 1))) E4 _ _ _ (by omega) (by omega) (by rw [← hap]; obtain ⟨u2, rfl⟩ : ∃ u2, u1 = u2 + 1 := ⟨u1 - 1, by omega⟩; rfl) (hO) (hT) (hfr) (by omega) hM hS (lv_sub hl [1, 2, 3, 0] rfl)
            exact L74 (_ + 1) n.toNat S.1.2.2 S.1.2.1 E0 _ _ _ (by omega) (rfl) (rfl) (hO) (hTp) (fun _ _ => rfl) (Nat.lt_succ_self _) hM hS (lv_sub hl [1, 2, 3, 0] rfl)
          · skip
            refine lv_bipush (v := zI (-3)) C0.1 C0.2.1 dX10_type_66 rfl ?_
            exact mm_iret (z := (-3)) C0 hr hlk hM hS dX10_type_68 (by have he : pf_type S w n = ((-3), S) := (by unfold pf_type; rw [if_pos ⟨by omega, bq_t (fun i hi => hz i (by omega) hi)⟩, if_pos (by omega)]); rw [he]; exact ⟨rfl, hX0.rf, fun _ _ => rfl⟩)
        · skip
          refine lv_lload_n C0.1 C0.2.1 dX10_type_24 rfl (lv_at hl 1 rfl) ?_
          refine lv_bipush (v := zI 8) C0.1 C0.2.1 dX10_type_25 rfl ?_
          refine lv_iload C0.1 C0.2.1 dX10_type_27 (lv_at hl 3 rfl) ?_
          refine z_imul C0.1 C0.2.1 dX10_type_29 ?_
          refine z_byte (j := u - 1) C0.1 C0.2.1 dX10_type_30 ⟨by omega, by omega⟩ (by omega) (by omega) (fun hB9 => ?_)
          refine mm_ldc2 (z := 255) C0 tw_1021 rfl dX10_type_31 ?_
          refine lv_land C0.1 C0.2.1 dX10_type_34 ?_
          rw [hB9]
          have hbb := bt_b w (u - 1)
          refine mm_ldc2 (z := 32) C0 tw_1022 rfl dX10_type_35 ?_
          refine mm_ldc2 (z := 126) C0 tw_1023 rfl dX10_type_38 ?_
          refine mm_callSi (As := [.long (zL ((bt w (u - 1)))), .long (zL (32)), .long (zL (126))]) C0 sw_X10_in tw_985 (c_X10_in l G _ (v := bt w (u - 1)) (lo := 32) (hi := 126) ⟨by omega, by omega⟩ ⟨by omega, by omega⟩ ⟨by omega, by omega⟩) hM rfl hl.1 rfl (Nat.le_of_ble_eq_true rfl) ⟨rfl, rfl, Nat.le_of_ble_eq_true rfl, Nat.le_of_ble_eq_true rfl, Nat.zero_le _, Nat.zero_le _⟩ dX10_type_41 hS (fun z_41 E5 H locs hp hM hS => ?_)
          obtain ⟨hz_41, hEq⟩ := hp
          rw [hEq] at hM
          have hz_41b := if01 hz_41
          refine z_if_ne (tgt := 49) C0.1 C0.2.1 dX10_type_44 (by decide) ⟨by omega, by omega⟩ (fun c_44 => ?_) (fun c_44 => ?_)
          · skip
            refine lv_iinc (v := zI (((u - 1 : Nat) : Int) - 1)) (lv' := [(4, .int (zI (((u - 1 : Nat) : Int) - 1))), (0, .ref (h)), (1, .long (zL (w))), (3, .int (zI (n)))]) C0.1 C0.2.1 dX10_type_49 hl (k := 3) rfl (z_inc (a := (u : Int) - 1) (n := (-1)) (by omega)) (by decide) rfl (fun ls hl => ?_)
            refine lv_goto (tgt := 19) C0.1 C0.2.1 dX10_type_52 (by decide) ?_
            exact ih19  (u - 1) _ _ _ (by omega) (fun j h1 h2 => (Nat.lt_or_ge (u - 1) j).elim (fun h3 => hz j (by omega) h2) (fun h3 => by rw [show j = u - 1 by omega]; exact ⟨by omega, by omega⟩))  (by omega) hM hS (lv_sub hl [1, 2, 3, 0] rfl)
          · skip
            refine lv_iconst (v := zI (-1)) C0.1 C0.2.1 dX10_type_47 rfl ?_
            exact mm_iret (z := (-1)) C0 hr hlk hM hS dX10_type_48 (by have he : pf_type S w n = ((-1), S) := (by unfold pf_type; rw [if_neg (fun q => by have q1 := bq_y q.2 (u - 1) (by omega); unfold okB at q1; omega)]); rw [he]; exact ⟨rfl, hX0.rf, fun _ _ => rfl⟩)
    have hn9 : n.toNat ≤ 8 := by omega
    exact L19 (_ + 1) n.toNat _ _ _ (Nat.le_refl _) (fun j h1 h2 => by omega)  (Nat.lt_succ_self _) hM hS (lv_sub hl [1, 2, 3, 0] rfl)
  · skip
    refine lv_iconst (v := zI (-1)) C0.1 C0.2.1 dX10_type_12 rfl ?_
    exact mm_iret (z := (-1)) C0 hr hlk hM hS dX10_type_13 (by have he : pf_type S w n = ((-1), S) := (by unfold pf_type; rw [if_neg (fun q => by have q1 := q.1; omega)]); rw [he]; exact ⟨rfl, hX0.rf, fun _ _ => rfl⟩)

def rX10_nextByte : Room := { frames := 0, cells := 0, slots := 0, locals := 0 }
theorem vw_X10_nextByte : mm_Vw RX10 yX10_nextByte cX10_nextByte 1 (some .int) 0 := ⟨tw_1030, tp_20, tw_10, tw_1031, by decide +kernel⟩
set_option maxHeartbeats 4000000 in
set_option maxRecDepth 100000 in
theorem c_X10_nextByte (l : Launch) (G : mG) (E0 : mE) {h : Nat} {B : Nat → Int} {L a : Nat} {x3 x4 x5 x6 x7 x8 : Int} (hO : ro G E0 h (L : Int) (a : Int) x3 x4 x5 x6 x7 x8) (hT : E0 (h + 4) = some (mm_I G 100 B)) (hk : okT B L) (ha : a ≤ L) : mm_Ci l yX10_nextByte (.code yX10_nextByte cX10_nextByte 1 (some .int) :: wsG) rX10_nextByte G [.ref (h)] E0 (fun z E => z = nbZ B L a ∧ ro G E h (L : Int) ((skp B L a : Nat) : Int) x3 x4 x5 x6 x7 x8 ∧ ∀ q : Nat, q ≠ h → E q = E0 q) := by
  refine mm_of_i (by decide +kernel) (Nat.le_of_ble_eq_true rfl) ?_
  intro p e s m args below meth c ls C0 hr hlk hM hl hS
  have hl : lv_has ls 1 [(0, .ref (h))] := hl
  have hfr : ∀ q : Nat, q ≠ h → E0 q = E0 q := fun _ _ => rfl
  have hL := hk.1
  
  have L0 : ∀ (k0 : Nat) (a1 : Nat) (E1 : mE) (H : Heap) (locs : List Loc) (ls : Array Slot), (a1 ≤ L) → (skp B L a1 = skp B L a) → (ro G E1 h (L : Int) (a1 : Int) x3 x4 x5 x6 x7 x8) → (E1 (h + 4) = some (mm_I G 100 B)) → (∀ q : Nat, q ≠ h → E1 q = E0 q) → L - a1 < k0 → mm_M G E1 H → va_S (mm_A G) s.heap H locs → lv_has ls 1 [(0, .ref (h))] → W p l e rX10_nextByte s m args below meth c H locs 0 0 (mm_Zi G below args s (fun z E => z = nbZ B L a ∧ ro G E h (L : Int) ((skp B L a : Nat) : Int) x3 x4 x5 x6 x7 x8 ∧ ∀ q : Nat, q ≠ h → E q = E0 q)) (F0 m 0 ls []) := by
    intro k0
    induction k0 with
    | zero => intro a1 E1 H locs ls ha1 hsk hO hT hfr hk hM hS hl; exact absurd hk (Nat.not_lt_zero _)
    | succ k0 ih0 =>
      intro a1 E1 H locs ls ha1 hsk hO hT hfr hk0 hM hS hl
      refine lv_aload_n C0.1 C0.2.1 dX10_nextByte_0 rfl (lv_at hl 0 rfl) ?_
      refine mm_get (fs := [.ref (h + 1), .ref (h + 2), .ref (h + 3), .ref (h + 4), .int (zI ((L : Int))), .int (zI ((a1 : Int))), .long (zL (x3)), .ref (h + 5), .ref (h + 6), .ref (h + 7), .ref (h + 8), .int (zI (x4)), .int (zI (x5)), .int (zI (x6)), .int (zI (x7)), .int (zI (x8)), .ref (h + 9), .ref (h + 10), .ref (h + 11), .ref (h + 12)]) C0 (C := RX10) (T := TX10) (N := 20) iG_X10 hM (hO) rfl 5 (by decide) tw_921 rfl rfl dX10_nextByte_1 ?_
      refine lv_aload_n C0.1 C0.2.1 dX10_nextByte_4 rfl (lv_at hl 0 rfl) ?_
      refine mm_get (fs := [.ref (h + 1), .ref (h + 2), .ref (h + 3), .ref (h + 4), .int (zI ((L : Int))), .int (zI ((a1 : Int))), .long (zL (x3)), .ref (h + 5), .ref (h + 6), .ref (h + 7), .ref (h + 8), .int (zI (x4)), .int (zI (x5)), .int (zI (x6)), .int (zI (x7)), .int (zI (x8)), .ref (h + 9), .ref (h + 10), .ref (h + 11), .ref (h + 12)]) C0 (C := RX10) (T := TX10) (N := 20) iG_X10 hM (hO) rfl 4 (by decide) tw_920 rfl rfl dX10_nextByte_5 ?_
      refine z_icmp_ge (tgt := 38) C0.1 C0.2.1 dX10_nextByte_8 (by decide) ⟨by omega, by omega⟩ ⟨by omega, by omega⟩ (fun c_8 => ?_) (fun c_8 => ?_)
      · skip
        have hske : skp B L a1 = a1 := skp_e (by omega)
        refine lv_aload_n C0.1 C0.2.1 dX10_nextByte_38 rfl (lv_at hl 0 rfl) ?_
        refine mm_get (fs := [.ref (h + 1), .ref (h + 2), .ref (h + 3), .ref (h + 4), .int (zI ((L : Int))), .int (zI ((a1 : Int))), .long (zL (x3)), .ref (h + 5), .ref (h + 6), .ref (h + 7), .ref (h + 8), .int (zI (x4)), .int (zI (x5)), .int (zI (x6)), .int (zI (x7)), .int (zI (x8)), .ref (h + 9), .ref (h + 10), .ref (h + 11), .ref (h + 12)]) C0 (C := RX10) (T := TX10) (N := 20) iG_X10 hM (hO) rfl 5 (by decide) tw_921 rfl rfl dX10_nextByte_39 ?_
        refine lv_aload_n C0.1 C0.2.1 dX10_nextByte_42 rfl (lv_at hl 0 rfl) ?_
        refine mm_get (fs := [.ref (h + 1), .ref (h + 2), .ref (h + 3), .ref (h + 4), .int (zI ((L : Int))), .int (zI ((a1 : Int))), .long (zL (x3)), .ref (h + 5), .ref (h + 6), .ref (h + 7), .ref (h + 8), .int (zI (x4)), .int (zI (x5)), .int (zI (x6)), .int (zI (x7)), .int (zI (x8)), .ref (h + 9), .ref (h + 10), .ref (h + 11), .ref (h + 12)]) C0 (C := RX10) (T := TX10) (N := 20) iG_X10 hM (hO) rfl 4 (by decide) tw_920 rfl rfl dX10_nextByte_43 ?_
        refine z_icmp_ge (tgt := 61) C0.1 C0.2.1 dX10_nextByte_46 (by decide) ⟨by omega, by omega⟩ ⟨by omega, by omega⟩ (fun c_46 => ?_) (fun c_46 => ?_)
        · skip
          refine lv_iconst (v := zI (-1)) C0.1 C0.2.1 dX10_nextByte_61 rfl ?_
          exact mm_iret (z := (-1)) C0 hr hlk hM hS dX10_nextByte_62 (⟨by unfold nbZ; rw [← hsk, hske, if_neg (by omega)], by rw [← hsk, hske]; exact hO, hfr⟩)
        · skip
          refine lv_aload_n C0.1 C0.2.1 dX10_nextByte_49 rfl (lv_at hl 0 rfl) ?_
          refine mm_get (fs := [.ref (h + 1), .ref (h + 2), .ref (h + 3), .ref (h + 4), .int (zI ((L : Int))), .int (zI ((a1 : Int))), .long (zL (x3)), .ref (h + 5), .ref (h + 6), .ref (h + 7), .ref (h + 8), .int (zI (x4)), .int (zI (x5)), .int (zI (x6)), .int (zI (x7)), .int (zI (x8)), .ref (h + 9), .ref (h + 10), .ref (h + 11), .ref (h + 12)]) C0 (C := RX10) (T := TX10) (N := 20) iG_X10 hM (hO) rfl 3 (by decide) tw_919 rfl rfl dX10_nextByte_50 ?_
          refine lv_aload_n C0.1 C0.2.1 dX10_nextByte_53 rfl (lv_at hl 0 rfl) ?_
          refine mm_get (fs := [.ref (h + 1), .ref (h + 2), .ref (h + 3), .ref (h + 4), .int (zI ((L : Int))), .int (zI ((a1 : Int))), .long (zL (x3)), .ref (h + 5), .ref (h + 6), .ref (h + 7), .ref (h + 8), .int (zI (x4)), .int (zI (x5)), .int (zI (x6)), .int (zI (x7)), .int (zI (x8)), .ref (h + 9), .ref (h + 10), .ref (h + 11), .ref (h + 12)]) C0 (C := RX10) (T := TX10) (N := 20) iG_X10 hM (hO) rfl 5 (by decide) tw_921 rfl rfl dX10_nextByte_54 ?_
          refine mm_iald C0 hM (g := B) (hT) (a1) (i := (a1 : Int)) (by omega) (by omega) (by decide) dX10_nextByte_57 ?_
          refine lv_goto (tgt := 62) C0.1 C0.2.1 dX10_nextByte_58 (by decide) ?_
          exact mm_iret (z := (B) (a1)) C0 hr hlk hM hS dX10_nextByte_62 (⟨by unfold nbZ; rw [← hsk, hske, if_pos (by omega)], by rw [← hsk, hske]; exact hO, hfr⟩)
      · skip
        refine lv_aload_n C0.1 C0.2.1 dX10_nextByte_11 rfl (lv_at hl 0 rfl) ?_
        refine mm_get (fs := [.ref (h + 1), .ref (h + 2), .ref (h + 3), .ref (h + 4), .int (zI ((L : Int))), .int (zI ((a1 : Int))), .long (zL (x3)), .ref (h + 5), .ref (h + 6), .ref (h + 7), .ref (h + 8), .int (zI (x4)), .int (zI (x5)), .int (zI (x6)), .int (zI (x7)), .int (zI (x8)), .ref (h + 9), .ref (h + 10), .ref (h + 11), .ref (h + 12)]) C0 (C := RX10) (T := TX10) (N := 20) iG_X10 hM (hO) rfl 3 (by decide) tw_919 rfl rfl dX10_nextByte_12 ?_
        refine lv_aload_n C0.1 C0.2.1 dX10_nextByte_15 rfl (lv_at hl 0 rfl) ?_
        refine mm_get (fs := [.ref (h + 1), .ref (h + 2), .ref (h + 3), .ref (h + 4), .int (zI ((L : Int))), .int (zI ((a1 : Int))), .long (zL (x3)), .ref (h + 5), .ref (h + 6), .ref (h + 7), .ref (h + 8), .int (zI (x4)), .int (zI (x5)), .int (zI (x6)), .int (zI (x7)), .int (zI (x8)), .ref (h + 9), .ref (h + 10), .ref (h + 11), .ref (h + 12)]) C0 (C := RX10) (T := TX10) (N := 20) iG_X10 hM (hO) rfl 5 (by decide) tw_921 rfl rfl dX10_nextByte_16 ?_
        refine mm_iald C0 hM (g := B) (hT) (a1) (i := (a1 : Int)) (by omega) (by omega) (by decide) dX10_nextByte_19 ?_
        have hbi := hk.2 a1 (by omega)
        obtain ⟨hbi1, hbi2⟩ := hbi
        refine lv_bipush (v := zI 32) C0.1 C0.2.1 dX10_nextByte_20 rfl ?_
        refine z_icmp_ne (tgt := 38) C0.1 C0.2.1 dX10_nextByte_22 (by decide) ⟨by omega, by omega⟩ ⟨by omega, by omega⟩ (fun c_22 => ?_) (fun c_22 => ?_)
        · skip
          have hske : skp B L a1 = a1 := skp_e (by omega)
          refine lv_aload_n C0.1 C0.2.1 dX10_nextByte_38 rfl (lv_at hl 0 rfl) ?_
          refine mm_get (fs := [.ref (h + 1), .ref (h + 2), .ref (h + 3), .ref (h + 4), .int (zI ((L : Int))), .int (zI ((a1 : Int))), .long (zL (x3)), .ref (h + 5), .ref (h + 6), .ref (h + 7), .ref (h + 8), .int (zI (x4)), .int (zI (x5)), .int (zI (x6)), .int (zI (x7)), .int (zI (x8)), .ref (h + 9), .ref (h + 10), .ref (h + 11), .ref (h + 12)]) C0 (C := RX10) (T := TX10) (N := 20) iG_X10 hM (hO) rfl 5 (by decide) tw_921 rfl rfl dX10_nextByte_39 ?_
          refine lv_aload_n C0.1 C0.2.1 dX10_nextByte_42 rfl (lv_at hl 0 rfl) ?_
          refine mm_get (fs := [.ref (h + 1), .ref (h + 2), .ref (h + 3), .ref (h + 4), .int (zI ((L : Int))), .int (zI ((a1 : Int))), .long (zL (x3)), .ref (h + 5), .ref (h + 6), .ref (h + 7), .ref (h + 8), .int (zI (x4)), .int (zI (x5)), .int (zI (x6)), .int (zI (x7)), .int (zI (x8)), .ref (h + 9), .ref (h + 10), .ref (h + 11), .ref (h + 12)]) C0 (C := RX10) (T := TX10) (N := 20) iG_X10 hM (hO) rfl 4 (by decide) tw_920 rfl rfl dX10_nextByte_43 ?_
          refine z_icmp_ge (tgt := 61) C0.1 C0.2.1 dX10_nextByte_46 (by decide) ⟨by omega, by omega⟩ ⟨by omega, by omega⟩ (fun c_46 => ?_) (fun c_46 => ?_)
          · skip
            refine lv_iconst (v := zI (-1)) C0.1 C0.2.1 dX10_nextByte_61 rfl ?_
            exact mm_iret (z := (-1)) C0 hr hlk hM hS dX10_nextByte_62 (⟨by unfold nbZ; rw [← hsk, hske, if_neg (by omega)], by rw [← hsk, hske]; exact hO, hfr⟩)
          · skip
            refine lv_aload_n C0.1 C0.2.1 dX10_nextByte_49 rfl (lv_at hl 0 rfl) ?_
            refine mm_get (fs := [.ref (h + 1), .ref (h + 2), .ref (h + 3), .ref (h + 4), .int (zI ((L : Int))), .int (zI ((a1 : Int))), .long (zL (x3)), .ref (h + 5), .ref (h + 6), .ref (h + 7), .ref (h + 8), .int (zI (x4)), .int (zI (x5)), .int (zI (x6)), .int (zI (x7)), .int (zI (x8)), .ref (h + 9), .ref (h + 10), .ref (h + 11), .ref (h + 12)]) C0 (C := RX10) (T := TX10) (N := 20) iG_X10 hM (hO) rfl 3 (by decide) tw_919 rfl rfl dX10_nextByte_50 ?_
            refine lv_aload_n C0.1 C0.2.1 dX10_nextByte_53 rfl (lv_at hl 0 rfl) ?_
            refine mm_get (fs := [.ref (h + 1), .ref (h + 2), .ref (h + 3), .ref (h + 4), .int (zI ((L : Int))), .int (zI ((a1 : Int))), .long (zL (x3)), .ref (h + 5), .ref (h + 6), .ref (h + 7), .ref (h + 8), .int (zI (x4)), .int (zI (x5)), .int (zI (x6)), .int (zI (x7)), .int (zI (x8)), .ref (h + 9), .ref (h + 10), .ref (h + 11), .ref (h + 12)]) C0 (C := RX10) (T := TX10) (N := 20) iG_X10 hM (hO) rfl 5 (by decide) tw_921 rfl rfl dX10_nextByte_54 ?_
            refine mm_iald C0 hM (g := B) (hT) (a1) (i := (a1 : Int)) (by omega) (by omega) (by decide) dX10_nextByte_57 ?_
            refine lv_goto (tgt := 62) C0.1 C0.2.1 dX10_nextByte_58 (by decide) ?_
            exact mm_iret (z := (B) (a1)) C0 hr hlk hM hS dX10_nextByte_62 (⟨by unfold nbZ; rw [← hsk, hske, if_pos (by omega)], by rw [← hsk, hske]; exact hO, hfr⟩)
        · skip
          have h32 : B a1 = 32 := c_22
          refine lv_aload_n C0.1 C0.2.1 dX10_nextByte_25 rfl (lv_at hl 0 rfl) ?_
          refine lv_dup C0.1 C0.2.1 dX10_nextByte_26 rfl ?_
          refine mm_get (fs := [.ref (h + 1), .ref (h + 2), .ref (h + 3), .ref (h + 4), .int (zI ((L : Int))), .int (zI ((a1 : Int))), .long (zL (x3)), .ref (h + 5), .ref (h + 6), .ref (h + 7), .ref (h + 8), .int (zI (x4)), .int (zI (x5)), .int (zI (x6)), .int (zI (x7)), .int (zI (x8)), .ref (h + 9), .ref (h + 10), .ref (h + 11), .ref (h + 12)]) C0 (C := RX10) (T := TX10) (N := 20) iG_X10 hM (hO) rfl 5 (by decide) tw_921 rfl rfl dX10_nextByte_27 ?_
          refine lv_iconst (v := zI 1) C0.1 C0.2.1 dX10_nextByte_30 rfl ?_
          refine z_iadd C0.1 C0.2.1 dX10_nextByte_31 ?_
          refine z_asI (a := (((a1 : Int)) + (1))) (b := ((a1 + 1 : Nat) : Int)) (by omega) ?_
          refine mm_put (v := .int (zI (((a1 + 1 : Nat) : Int)))) (fs := [.ref (h + 1), .ref (h + 2), .ref (h + 3), .ref (h + 4), .int (zI ((L : Int))), .int (zI ((a1 : Int))), .long (zL (x3)), .ref (h + 5), .ref (h + 6), .ref (h + 7), .ref (h + 8), .int (zI (x4)), .int (zI (x5)), .int (zI (x6)), .int (zI (x7)), .int (zI (x8)), .ref (h + 9), .ref (h + 10), .ref (h + 11), .ref (h + 12)]) C0 (C := RX10) (T := TX10) (N := 20) iG_X10 tyX10 tyX10_ok nmX10 hM hS (hO) rfl 5 (by decide) tw_921 rfl rfl (ty := tyX10 5) (tyX10_ok 5 (by decide)) rfl rfl (Nat.le_of_ble_eq_true rfl) dX10_nextByte_32 (fun H locs hM hS hsz => ?_)
          obtain ⟨E2, hE2⟩ : ∃ X : mE, X = mm_up E1 (h) (.inr (9, [.ref (h + 1), .ref (h + 2), .ref (h + 3), .ref (h + 4), .int (zI ((L : Int))), .int (zI (((a1 + 1 : Nat) : Int))), .long (zL (x3)), .ref (h + 5), .ref (h + 6), .ref (h + 7), .ref (h + 8), .int (zI (x4)), .int (zI (x5)), .int (zI (x6)), .int (zI (x7)), .int (zI (x8)), .ref (h + 9), .ref (h + 10), .ref (h + 11), .ref (h + 12)])) := ⟨_, rfl⟩
          replace hM : mm_M G E2 H := by rw [hE2]; exact hM
          have frs : ∀ q : Nat, q ≠ h → E2 q = E1 q := fun q h => by rw [hE2]; exact mm_up_n _ _ h
          have hat : E2 (h) = some (.inr (9, [.ref (h + 1), .ref (h + 2), .ref (h + 3), .ref (h + 4), .int (zI ((L : Int))), .int (zI (((a1 + 1 : Nat) : Int))), .long (zL (x3)), .ref (h + 5), .ref (h + 6), .ref (h + 7), .ref (h + 8), .int (zI (x4)), .int (zI (x5)), .int (zI (x6)), .int (zI (x7)), .int (zI (x8)), .ref (h + 9), .ref (h + 10), .ref (h + 11), .ref (h + 12)])) := by rw [hE2]; exact mm_up_s _ _ _
          have hO : ro G E2 h (L : Int) ((a1 + 1 : Nat) : Int) x3 x4 x5 x6 x7 x8 := hat
          have hT := (frs _ (by omega)).trans hT
          have hfr := (fun q h => (frs q (by omega)).trans (hfr q h) : ∀ q : Nat, q ≠ h → E2 q = E0 q)
          refine lv_goto (tgt := 0) C0.1 C0.2.1 dX10_nextByte_35 (by decide) ?_
          exact ih0  (a1 + 1) E2 _ _ _ (by omega) (by rw [← hsk, ← skp_s (by omega) h32]) (hO) (hT) (hfr) (by omega) hM hS (lv_sub hl [0] rfl)
  exact L0 (_ + 1) a E0 _ _ _ (ha) (rfl) (hO) (hT) (hfr) (Nat.lt_succ_self _) hM hS (lv_sub hl [0] rfl)

def rX10_number : Room := { frames := 3, cells := 0, slots := 0, locals := 68 }
theorem vw_X10_number : mm_Vw RX10 yX10_number cX10_number 4 (some .int) 1 := ⟨tw_1025, tw_1026, tw_10, tw_1027, by decide +kernel⟩
set_option maxHeartbeats 4000000 in
set_option maxRecDepth 100000 in
theorem c_X10_number (l : Launch) (G : mG) (E0 : mE) {h : Nat} {S : mST} (hF : rf G E0 h S) (hok : okR S) {pp : Int} (hr_pp : rI pp) : mm_Ci l yX10_number (.code yX10_number cX10_number 4 (some .int) :: wsG) rX10_number G [.ref (h), .int (zI (pp))] E0 (fun z E => z = (pf_number S pp).1 ∧ rf G E h (pf_number S pp).2 ∧ ∀ q : Nat, (q < h ∨ h + 13 ≤ q) → E q = E0 q) := by
  refine mm_of_i (by decide +kernel) (Nat.le_of_ble_eq_true rfl) ?_
  intro p e s m args below meth c ls C0 hr hlk hM hl hS
  have hl : lv_has ls 4 [(0, .ref (h)), (1, .int (zI (pp)))] := hl
  obtain ⟨hr_pp1, hr_pp2⟩ := hr_pp
  obtain ⟨R, x2, x3, x4, x5, x6, x7, hX⟩ := hF
  have hX0 := hX
  obtain ⟨hTk, hPk, hKk, hSk⟩ := hok
  obtain ⟨hO, hR, hRp, ⟨fh, fc, hH, hC, hPa⟩, hTp, hCl, hKp, hSh, him⟩ := hX
  have hL9 := hTk.1
  have hfr : ∀ q : Nat, (q ≠ h ∧ q ≠ h + 1) → E0 q = E0 q := fun _ _ => rfl
  refine lv_iload_n C0.1 C0.2.1 dX10_number_0 rfl (lv_at hl 1 rfl) ?_
  refine mm_callSi (As := [.int (zI (pp))]) C0 sw_X10_isPlace tw_981 (c_X10_isPlace l G _ (i := pp) ⟨by omega, by omega⟩) hM rfl hl.1 rfl (Nat.le_of_ble_eq_true rfl) ⟨rfl, rfl, Nat.le_of_ble_eq_true rfl, Nat.le_of_ble_eq_true rfl, Nat.zero_le _, Nat.zero_le _⟩ dX10_number_1 hS (fun z_1 E1 H locs hp hM hS => ?_)
  obtain ⟨hz_1, hEq⟩ := hp
  rw [hEq] at hM
  have hz_1b := if01 hz_1
  refine z_if_ne (tgt := 9) C0.1 C0.2.1 dX10_number_4 (by decide) ⟨by omega, by omega⟩ (fun c_4 => ?_) (fun c_4 => ?_)
  · skip
    have hpp2 : pp = (pp.toNat : Int) := by omega
    refine lv_aload_n C0.1 C0.2.1 dX10_number_9 rfl (lv_at hl 0 rfl) ?_
    refine lv_iconst (v := zI 0) C0.1 C0.2.1 dX10_number_10 rfl ?_
    refine mm_put (v := .int (zI (0))) (fs := [.ref (h + 1), .ref (h + 2), .ref (h + 3), .ref (h + 4), .int (zI (((S.1.2.2 : Nat) : Int))), .int (zI (x2)), .long (zL (x3)), .ref (h + 5), .ref (h + 6), .ref (h + 7), .ref (h + 8), .int (zI (x4)), .int (zI (x5)), .int (zI (x6)), .int (zI (x7)), .int (zI (S.1.1)), .ref (h + 9), .ref (h + 10), .ref (h + 11), .ref (h + 12)]) C0 (C := RX10) (T := TX10) (N := 20) iG_X10 tyX10 tyX10_ok nmX10 hM hS (hO) rfl 5 (by decide) tw_921 rfl rfl (ty := tyX10 5) (tyX10_ok 5 (by decide)) rfl rfl (Nat.le_of_ble_eq_true rfl) dX10_number_11 (fun H locs hM hS hsz => ?_)
    obtain ⟨E2, hE2⟩ : ∃ X : mE, X = mm_up E0 (h) (.inr (9, [.ref (h + 1), .ref (h + 2), .ref (h + 3), .ref (h + 4), .int (zI (((S.1.2.2 : Nat) : Int))), .int (zI (0)), .long (zL (x3)), .ref (h + 5), .ref (h + 6), .ref (h + 7), .ref (h + 8), .int (zI (x4)), .int (zI (x5)), .int (zI (x6)), .int (zI (x7)), .int (zI (S.1.1)), .ref (h + 9), .ref (h + 10), .ref (h + 11), .ref (h + 12)])) := ⟨_, rfl⟩
    replace hM : mm_M G E2 H := by rw [hE2]; exact hM
    have frs : ∀ q : Nat, q ≠ h → E2 q = E0 q := fun q h => by rw [hE2]; exact mm_up_n _ _ h
    have hat : E2 (h) = some (.inr (9, [.ref (h + 1), .ref (h + 2), .ref (h + 3), .ref (h + 4), .int (zI (((S.1.2.2 : Nat) : Int))), .int (zI (0)), .long (zL (x3)), .ref (h + 5), .ref (h + 6), .ref (h + 7), .ref (h + 8), .int (zI (x4)), .int (zI (x5)), .int (zI (x6)), .int (zI (x7)), .int (zI (S.1.1)), .ref (h + 9), .ref (h + 10), .ref (h + 11), .ref (h + 12)])) := by rw [hE2]; exact mm_up_s _ _ _
    have hO : ro G E2 h (S.1.2.2 : Int) ((0 : Nat) : Int) x3 x4 x5 x6 x7 S.1.1 := hat
    have hTp := (frs _ (by omega)).trans hTp
    have hR := rg.kept hR (frs _ (by omega))
    have hfr := (fun q h => (frs q (by omega)).trans (hfr q h) : ∀ q : Nat, (q ≠ h ∧ q ≠ h + 1) → E2 q = E0 q)
    refine lv_aload_n C0.1 C0.2.1 dX10_number_14 rfl (lv_at hl 0 rfl) ?_
    refine lv_bipush (v := zI 8) C0.1 C0.2.1 dX10_number_15 rfl ?_
    refine lv_lconst (v := zL 0) C0.1 C0.2.1 dX10_number_17 rfl ?_
    refine mm_callVv (As := [.int (zI (8)), .long (zL (0))]) C0 vw_X10_set tw_988 (c_X10_set l G _ hO hR (t := 8) rfl (by omega) 0 rfl (by omega)) hM (hO) rfl rfl hl.1 rfl (Nat.le_of_ble_eq_true rfl) ⟨rfl, rfl, Nat.le_of_ble_eq_true rfl, Nat.le_of_ble_eq_true rfl, Nat.zero_le _, Nat.zero_le _⟩ dX10_number_18 hS (fun E3 H locs hp hM hS => ?_)
    obtain ⟨⟨R1, hR1, v8, kr1⟩, fr⟩ := hp
    have hO := ro.kept hO (fr _ (by omega))
    have hTp := (fr _ (by omega)).trans hTp
    have hfr := (fun q h => (fr q (by omega)).trans (hfr q h) : ∀ q : Nat, (q ≠ h ∧ q ≠ h + 1) → E3 q = E0 q)
    refine lv_iconst (v := zI 0) C0.1 C0.2.1 dX10_number_21 rfl ?_
    refine lv_istore_n (lv' := [(2, .int (zI (0))), (0, .ref (h)), (1, .int (zI (pp)))]) C0.1 C0.2.1 dX10_number_22 rfl hl (by decide) rfl (fun ls hl => ?_)
    have L23 : ∀ (k23 : Nat) (n a1 N : Nat) (R1 : Nat → Nat) (E4 : mE) (H : Heap) (locs : List Loc) (ls : Array Slot), (n ≤ 80) → (a1 ≤ S.1.2.2) → (N < 10 ^ n) → (R1 8 = N) → (∀ r, r < 8 → R1 r = R r) → (rdT S.1.2.1 (S.1.2.2 - a1) a1 n N = (rdT S.1.2.1 S.1.2.2 0 0 0)) → (ro G E4 h (S.1.2.2 : Int) (a1 : Int) x3 x4 x5 x6 x7 S.1.1) → (E4 (h + 4) = some (mm_I G 100 S.1.2.1)) → (rg G E4 h R1) → (∀ q : Nat, (q ≠ h ∧ q ≠ h + 1) → E4 q = E0 q) → S.1.2.2 - a1 < k23 → mm_M G E4 H → va_S (mm_A G) s.heap H locs → lv_has ls 4 [(0, .ref (h)), (1, .int (zI (pp))), (2, .int (zI ((n : Int))))] → W p l e rX10_number s m args below meth c H locs 0 0 (mm_Zi G below args s (fun z E => z = (pf_number S pp).1 ∧ rf G E h (pf_number S pp).2 ∧ ∀ q : Nat, (q < h ∨ h + 13 ≤ q) → E q = E0 q)) (F0 m 23 ls []) := by
      intro k23
      induction k23 with
      | zero => intro n a1 N R1 E4 H locs ls hn ha1 hN v8 kr hrd hO hTp hR1 hfr hk hM hS hl; exact absurd hk (Nat.not_lt_zero _)
      | succ k23 ih23 =>
        intro n a1 N R1 E4 H locs ls hn ha1 hN v8 kr hrd hO hTp hR1 hfr hk23 hM hS hl
        have J81 : ∀ (n a2 N : Nat) (R1 : Nat → Nat) (E5 : mE) (H : Heap) (locs : List Loc) (ls : Array Slot), (n ≤ 80) → (a2 ≤ S.1.2.2) → (R1 8 = N) → (∀ r, r < 8 → R1 r = R r) → (rdT S.1.2.1 (S.1.2.2 - a2) a2 n N = (rdT S.1.2.1 S.1.2.2 0 0 0)) → (n = 80 ∨ (skp S.1.2.1 S.1.2.2 a2 = a2 ∧ (a2 < S.1.2.2 → ¬ (48 ≤ S.1.2.1 a2 ∧ S.1.2.1 a2 ≤ 57)) ∧ ¬ (a2 < S.1.2.2 ∧ S.1.2.1 a2 = 32))) → (ro G E5 h (S.1.2.2 : Int) (a2 : Int) x3 x4 x5 x6 x7 S.1.1) → (E5 (h + 4) = some (mm_I G 100 S.1.2.1)) → (rg G E5 h R1) → (∀ q : Nat, (q ≠ h ∧ q ≠ h + 1) → E5 q = E0 q) → mm_M G E5 H → va_S (mm_A G) s.heap H locs → lv_has ls 4 [(0, .ref (h)), (1, .int (zI (pp))), (2, .int (zI ((n : Int))))] → W p l e rX10_number s m args below meth c H locs 0 0 (mm_Zi G below args s (fun z E => z = (pf_number S pp).1 ∧ rf G E h (pf_number S pp).2 ∧ ∀ q : Nat, (q < h ∨ h + 13 ≤ q) → E q = E0 q)) (F0 m 81 ls []) := by
          intro n a2 N R1 E5 H locs ls hn ha2 v8 kr hrd hsx hO hTp hR1 hfr hM hS hl
          refine lv_iload_n C0.1 C0.2.1 dX10_number_81 rfl (lv_at hl 2 rfl) ?_
          refine z_if_le (tgt := 96) C0.1 C0.2.1 dX10_number_82 (by decide) ⟨by omega, by omega⟩ (fun c_82 => ?_) (fun c_82 => ?_)
          · skip
            refine lv_iconst (v := zI 0) C0.1 C0.2.1 dX10_number_96 rfl ?_
            refine lv_istore_n (lv' := [(3, .int (zI (0))), (0, .ref (h)), (1, .int (zI (pp))), (2, .int (zI ((n : Int))))]) C0.1 C0.2.1 dX10_number_97 rfl hl (by decide) rfl (fun ls hl => ?_)
            refine lv_aload_n C0.1 C0.2.1 dX10_number_98 rfl (lv_at hl 1 rfl) ?_
            refine lv_iconst (v := zI 0) C0.1 C0.2.1 dX10_number_99 rfl ?_
            refine mm_put (v := .int (zI (0))) (fs := [.ref (h + 1), .ref (h + 2), .ref (h + 3), .ref (h + 4), .int (zI (((S.1.2.2 : Nat) : Int))), .int (zI ((a2 : Int))), .long (zL (x3)), .ref (h + 5), .ref (h + 6), .ref (h + 7), .ref (h + 8), .int (zI (x4)), .int (zI (x5)), .int (zI (x6)), .int (zI (x7)), .int (zI (S.1.1)), .ref (h + 9), .ref (h + 10), .ref (h + 11), .ref (h + 12)]) C0 (C := RX10) (T := TX10) (N := 20) iG_X10 tyX10 tyX10_ok nmX10 hM hS (hO) rfl 4 (by decide) tw_920 rfl rfl (ty := tyX10 4) (tyX10_ok 4 (by decide)) rfl rfl (Nat.le_of_ble_eq_true rfl) dX10_number_100 (fun H locs hM hS hsz => ?_)
            obtain ⟨E6, hE6⟩ : ∃ X : mE, X = mm_up E5 (h) (.inr (9, [.ref (h + 1), .ref (h + 2), .ref (h + 3), .ref (h + 4), .int (zI (0)), .int (zI ((a2 : Int))), .long (zL (x3)), .ref (h + 5), .ref (h + 6), .ref (h + 7), .ref (h + 8), .int (zI (x4)), .int (zI (x5)), .int (zI (x6)), .int (zI (x7)), .int (zI (S.1.1)), .ref (h + 9), .ref (h + 10), .ref (h + 11), .ref (h + 12)])) := ⟨_, rfl⟩
            replace hM : mm_M G E6 H := by rw [hE6]; exact hM
            have frs : ∀ q : Nat, q ≠ h → E6 q = E5 q := fun q h => by rw [hE6]; exact mm_up_n _ _ h
            have hat : E6 (h) = some (.inr (9, [.ref (h + 1), .ref (h + 2), .ref (h + 3), .ref (h + 4), .int (zI (0)), .int (zI ((a2 : Int))), .long (zL (x3)), .ref (h + 5), .ref (h + 6), .ref (h + 7), .ref (h + 8), .int (zI (x4)), .int (zI (x5)), .int (zI (x6)), .int (zI (x7)), .int (zI (S.1.1)), .ref (h + 9), .ref (h + 10), .ref (h + 11), .ref (h + 12)])) := by rw [hE6]; exact mm_up_s _ _ _
            have hO : ro G E6 h ((0 : Nat) : Int) _ x3 x4 x5 x6 x7 S.1.1 := hat
            have hX1 := (hX0.w (E1 := fun q => if q = h + 1 then E6 q else E0 q) (R1 := R1) (by obtain ⟨q1, g9, q2, q3⟩ := hR1; exact ⟨q1, g9, (if_pos rfl).trans ((frs _ (by omega)).trans q2), q3⟩) kr (fun q hq => if_neg hq)).tap (E1 := E6) hO ((frs _ (by omega)).trans hTp) (fun q hq => by show _ = ite _ _ _; split; rfl; exact (frs q (by omega)).trans (hfr q (by omega)))
            have hTp := (frs _ (by omega)).trans hTp
            have hR1 := rg.kept hR1 (frs _ (by omega))
            have hfr := (fun q h => (frs q (by omega)).trans (hfr q h) : ∀ q : Nat, (q ≠ h ∧ q ≠ h + 1) → E6 q = E0 q)
            refine lv_iload_n C0.1 C0.2.1 dX10_number_103 rfl (lv_at hl 0 rfl) ?_
            refine z_if_eq (tgt := 117) C0.1 C0.2.1 dX10_number_104 (by decide) ⟨by omega, by omega⟩ (fun c_104 => ?_) (fun c_104 => ?_)
            · skip
              refine lv_bipush (v := zI (-20)) C0.1 C0.2.1 dX10_number_117 rfl ?_
              refine lv_aload_n C0.1 C0.2.1 dX10_number_119 rfl (lv_at hl 1 rfl) ?_
              refine mm_get (fs := [.ref (h + 1), .ref (h + 2), .ref (h + 3), .ref (h + 4), .int (zI (0)), .int (zI ((a2 : Int))), .long (zL (x3)), .ref (h + 5), .ref (h + 6), .ref (h + 7), .ref (h + 8), .int (zI (x4)), .int (zI (x5)), .int (zI (x6)), .int (zI (x7)), .int (zI (S.1.1)), .ref (h + 9), .ref (h + 10), .ref (h + 11), .ref (h + 12)]) C0 (C := RX10) (T := TX10) (N := 20) iG_X10 hM (hO) rfl 5 (by decide) tw_921 rfl rfl dX10_number_120 ?_
              refine z_isub C0.1 C0.2.1 dX10_number_123 ?_
              exact mm_iret (z := (((-20)) - ((a2 : Int)))) C0 hr hlk hM hS dX10_number_124 (by have he : pf_number S pp = ((((-20)) - ((a2 : Int))), sTap S S.1.2.1 0) := (by unfold pf_number; rw [if_pos (by omega), show rdT S.1.2.1 S.1.2.2 0 0 0 = (-20 - (a2 : Int), N) from (by rw [← hrd]; by_cases q : a2 < S.1.2.2; rw [rdT_x (r := S.1.2.2 - (a2 + 1)) (by omega) (by omega) (by unfold fig; omega)]; rw [show S.1.2.2 - a2 = 0 by omega, rdT_0, if_pos (by omega)]), if_pos (show -20 - _ ≠ 0 by omega)]); rw [he]; exact ⟨rfl, hX1.rf, fun q h => hfr q (by omega)⟩)
            · skip
              omega
          · skip
            refine lv_aload_n C0.1 C0.2.1 dX10_number_85 rfl (lv_at hl 0 rfl) ?_
            refine mm_callVi (As := []) C0 vw_X10_nextByte tw_1028 (c_X10_nextByte l G _ (a := a2) hO hTp hTk ha2) hM (hO) rfl rfl hl.1 rfl (Nat.le_of_ble_eq_true rfl) ⟨rfl, rfl, Nat.le_of_ble_eq_true rfl, Nat.le_of_ble_eq_true rfl, Nat.zero_le _, Nat.zero_le _⟩ dX10_number_86 hS (fun z86 E7 H locs hp hM hS => ?_)
            obtain ⟨hz86, hO, fr⟩ := hp
            have hTp := (fr _ (by omega)).trans hTp
            have hR1 := rg.kept hR1 (fr _ (by omega))
            have hfr := (fun q h => (fr q (by omega)).trans (hfr q h) : ∀ q : Nat, (q ≠ h ∧ q ≠ h + 1) → E7 q = E0 q)
            obtain ⟨hsb1, hsb2⟩ := skp_b (B := S.1.2.1) ha2
            have hrk := rdT_k (B := S.1.2.1) (n := n) (N := N) _ a2 (Nat.le_refl _) ha2
            obtain ⟨hnb1, hnb2⟩ := nbZ_b (a := a2) hTk
            have hsno := skp_no (B := S.1.2.1) ha2
            have hnbp := nbZ_p (B := S.1.2.1) (L := S.1.2.2) (a := a2)
            have hnbn := nbZ_n (B := S.1.2.1) (L := S.1.2.2) (a := a2)
            obtain ⟨s2, hs2⟩ : ∃ s2, s2 = skp S.1.2.1 S.1.2.2 a2 := ⟨_, rfl⟩
            rw [← hs2] at hO hsb1 hsb2 hrk hsno hnbp hnbn hsx
            have hsx2 : n = 80 ∨ (s2 < S.1.2.2 → ¬ (48 ≤ S.1.2.1 s2 ∧ S.1.2.1 s2 ≤ 57)) := hsx.elim Or.inl (fun q => Or.inr (by rw [q.1]; exact q.2.1))
            refine z_if_ge (tgt := 96) C0.1 C0.2.1 dX10_number_89 (by decide) ⟨by omega, by omega⟩ (fun c_89 => ?_) (fun c_89 => ?_)
            · skip
              refine lv_iconst (v := zI 0) C0.1 C0.2.1 dX10_number_96 rfl ?_
              refine lv_istore_n (lv' := [(3, .int (zI (0))), (0, .ref (h)), (1, .int (zI (pp))), (2, .int (zI ((n : Int))))]) C0.1 C0.2.1 dX10_number_97 rfl hl (by decide) rfl (fun ls hl => ?_)
              refine lv_aload_n C0.1 C0.2.1 dX10_number_98 rfl (lv_at hl 1 rfl) ?_
              refine lv_iconst (v := zI 0) C0.1 C0.2.1 dX10_number_99 rfl ?_
              refine mm_put (v := .int (zI (0))) (fs := [.ref (h + 1), .ref (h + 2), .ref (h + 3), .ref (h + 4), .int (zI (((S.1.2.2 : Nat) : Int))), .int (zI ((s2 : Int))), .long (zL (x3)), .ref (h + 5), .ref (h + 6), .ref (h + 7), .ref (h + 8), .int (zI (x4)), .int (zI (x5)), .int (zI (x6)), .int (zI (x7)), .int (zI (S.1.1)), .ref (h + 9), .ref (h + 10), .ref (h + 11), .ref (h + 12)]) C0 (C := RX10) (T := TX10) (N := 20) iG_X10 tyX10 tyX10_ok nmX10 hM hS (hO) rfl 4 (by decide) tw_920 rfl rfl (ty := tyX10 4) (tyX10_ok 4 (by decide)) rfl rfl (Nat.le_of_ble_eq_true rfl) dX10_number_100 (fun H locs hM hS hsz => ?_)
              obtain ⟨E8, hE8⟩ : ∃ X : mE, X = mm_up E7 (h) (.inr (9, [.ref (h + 1), .ref (h + 2), .ref (h + 3), .ref (h + 4), .int (zI (0)), .int (zI ((s2 : Int))), .long (zL (x3)), .ref (h + 5), .ref (h + 6), .ref (h + 7), .ref (h + 8), .int (zI (x4)), .int (zI (x5)), .int (zI (x6)), .int (zI (x7)), .int (zI (S.1.1)), .ref (h + 9), .ref (h + 10), .ref (h + 11), .ref (h + 12)])) := ⟨_, rfl⟩
              replace hM : mm_M G E8 H := by rw [hE8]; exact hM
              have frs : ∀ q : Nat, q ≠ h → E8 q = E7 q := fun q h => by rw [hE8]; exact mm_up_n _ _ h
              have hat : E8 (h) = some (.inr (9, [.ref (h + 1), .ref (h + 2), .ref (h + 3), .ref (h + 4), .int (zI (0)), .int (zI ((s2 : Int))), .long (zL (x3)), .ref (h + 5), .ref (h + 6), .ref (h + 7), .ref (h + 8), .int (zI (x4)), .int (zI (x5)), .int (zI (x6)), .int (zI (x7)), .int (zI (S.1.1)), .ref (h + 9), .ref (h + 10), .ref (h + 11), .ref (h + 12)])) := by rw [hE8]; exact mm_up_s _ _ _
              have hO : ro G E8 h ((0 : Nat) : Int) _ x3 x4 x5 x6 x7 S.1.1 := hat
              have hX1 := (hX0.w (E1 := fun q => if q = h + 1 then E8 q else E0 q) (R1 := R1) (by obtain ⟨q1, g9, q2, q3⟩ := hR1; exact ⟨q1, g9, (if_pos rfl).trans ((frs _ (by omega)).trans q2), q3⟩) kr (fun q hq => if_neg hq)).tap (E1 := E8) hO ((frs _ (by omega)).trans hTp) (fun q hq => by show _ = ite _ _ _; split; rfl; exact (frs q (by omega)).trans (hfr q (by omega)))
              have hTp := (frs _ (by omega)).trans hTp
              have hR1 := rg.kept hR1 (frs _ (by omega))
              have hfr := (fun q h => (frs q (by omega)).trans (hfr q h) : ∀ q : Nat, (q ≠ h ∧ q ≠ h + 1) → E8 q = E0 q)
              refine lv_iload_n C0.1 C0.2.1 dX10_number_103 rfl (lv_at hl 0 rfl) ?_
              refine z_if_eq (tgt := 117) C0.1 C0.2.1 dX10_number_104 (by decide) ⟨by omega, by omega⟩ (fun c_104 => ?_) (fun c_104 => ?_)
              · skip
                refine lv_bipush (v := zI (-20)) C0.1 C0.2.1 dX10_number_117 rfl ?_
                refine lv_aload_n C0.1 C0.2.1 dX10_number_119 rfl (lv_at hl 1 rfl) ?_
                refine mm_get (fs := [.ref (h + 1), .ref (h + 2), .ref (h + 3), .ref (h + 4), .int (zI (0)), .int (zI ((s2 : Int))), .long (zL (x3)), .ref (h + 5), .ref (h + 6), .ref (h + 7), .ref (h + 8), .int (zI (x4)), .int (zI (x5)), .int (zI (x6)), .int (zI (x7)), .int (zI (S.1.1)), .ref (h + 9), .ref (h + 10), .ref (h + 11), .ref (h + 12)]) C0 (C := RX10) (T := TX10) (N := 20) iG_X10 hM (hO) rfl 5 (by decide) tw_921 rfl rfl dX10_number_120 ?_
                refine z_isub C0.1 C0.2.1 dX10_number_123 ?_
                exact mm_iret (z := (((-20)) - ((s2 : Int)))) C0 hr hlk hM hS dX10_number_124 (by have he : pf_number S pp = ((((-20)) - ((s2 : Int))), sTap S S.1.2.1 0) := (by unfold pf_number; rw [if_pos (by omega), show rdT S.1.2.1 S.1.2.2 0 0 0 = (-20 - (s2 : Int), N) from (by rw [← hrd, hrk, rdT_x (r := S.1.2.2 - (s2 + 1)) (by omega) (by omega) (by unfold fig; omega)]), if_pos (show -20 - _ ≠ 0 by omega)]); rw [he]; exact ⟨rfl, hX1.rf, fun q h => hfr q (by omega)⟩)
              · skip
                omega
            · skip
              have hse : s2 = S.1.2.2 := Classical.byContradiction fun q => by have q1 := hnbp (by omega); have q2 := hTk.2 s2 (by omega); unfold okB at q2; omega
              have hrd0 : rdT S.1.2.1 S.1.2.2 0 0 0 = (0, N) := by rw [← hrd, hrk, hse, Nat.sub_self, rdT_0, if_neg (by omega)]
              refine lv_iconst (v := zI 1) C0.1 C0.2.1 dX10_number_92 rfl ?_
              refine lv_goto (tgt := 97) C0.1 C0.2.1 dX10_number_93 (by decide) ?_
              refine lv_istore_n (lv' := [(3, .int (zI (1))), (0, .ref (h)), (1, .int (zI (pp))), (2, .int (zI ((n : Int))))]) C0.1 C0.2.1 dX10_number_97 rfl hl (by decide) rfl (fun ls hl => ?_)
              refine lv_aload_n C0.1 C0.2.1 dX10_number_98 rfl (lv_at hl 1 rfl) ?_
              refine lv_iconst (v := zI 0) C0.1 C0.2.1 dX10_number_99 rfl ?_
              refine mm_put (v := .int (zI (0))) (fs := [.ref (h + 1), .ref (h + 2), .ref (h + 3), .ref (h + 4), .int (zI (((S.1.2.2 : Nat) : Int))), .int (zI ((s2 : Int))), .long (zL (x3)), .ref (h + 5), .ref (h + 6), .ref (h + 7), .ref (h + 8), .int (zI (x4)), .int (zI (x5)), .int (zI (x6)), .int (zI (x7)), .int (zI (S.1.1)), .ref (h + 9), .ref (h + 10), .ref (h + 11), .ref (h + 12)]) C0 (C := RX10) (T := TX10) (N := 20) iG_X10 tyX10 tyX10_ok nmX10 hM hS (hO) rfl 4 (by decide) tw_920 rfl rfl (ty := tyX10 4) (tyX10_ok 4 (by decide)) rfl rfl (Nat.le_of_ble_eq_true rfl) dX10_number_100 (fun H locs hM hS hsz => ?_)
              obtain ⟨E9, hE9⟩ : ∃ X : mE, X = mm_up E7 (h) (.inr (9, [.ref (h + 1), .ref (h + 2), .ref (h + 3), .ref (h + 4), .int (zI (0)), .int (zI ((s2 : Int))), .long (zL (x3)), .ref (h + 5), .ref (h + 6), .ref (h + 7), .ref (h + 8), .int (zI (x4)), .int (zI (x5)), .int (zI (x6)), .int (zI (x7)), .int (zI (S.1.1)), .ref (h + 9), .ref (h + 10), .ref (h + 11), .ref (h + 12)])) := ⟨_, rfl⟩
              replace hM : mm_M G E9 H := by rw [hE9]; exact hM
              have frs : ∀ q : Nat, q ≠ h → E9 q = E7 q := fun q h => by rw [hE9]; exact mm_up_n _ _ h
              have hat : E9 (h) = some (.inr (9, [.ref (h + 1), .ref (h + 2), .ref (h + 3), .ref (h + 4), .int (zI (0)), .int (zI ((s2 : Int))), .long (zL (x3)), .ref (h + 5), .ref (h + 6), .ref (h + 7), .ref (h + 8), .int (zI (x4)), .int (zI (x5)), .int (zI (x6)), .int (zI (x7)), .int (zI (S.1.1)), .ref (h + 9), .ref (h + 10), .ref (h + 11), .ref (h + 12)])) := by rw [hE9]; exact mm_up_s _ _ _
              have hO : ro G E9 h ((0 : Nat) : Int) _ x3 x4 x5 x6 x7 S.1.1 := hat
              have hX1 := (hX0.w (E1 := fun q => if q = h + 1 then E9 q else E0 q) (R1 := R1) (by obtain ⟨q1, g9, q2, q3⟩ := hR1; exact ⟨q1, g9, (if_pos rfl).trans ((frs _ (by omega)).trans q2), q3⟩) kr (fun q hq => if_neg hq)).tap (E1 := E9) hO ((frs _ (by omega)).trans hTp) (fun q hq => by show _ = ite _ _ _; split; rfl; exact (frs q (by omega)).trans (hfr q (by omega)))
              have hTp := (frs _ (by omega)).trans hTp
              have hR1 := rg.kept hR1 (frs _ (by omega))
              have hfr := (fun q h => (frs q (by omega)).trans (hfr q h) : ∀ q : Nat, (q ≠ h ∧ q ≠ h + 1) → E9 q = E0 q)
              refine lv_iload_n C0.1 C0.2.1 dX10_number_103 rfl (lv_at hl 0 rfl) ?_
              refine z_if_eq (tgt := 117) C0.1 C0.2.1 dX10_number_104 (by decide) ⟨by omega, by omega⟩ (fun c_104 => ?_) (fun c_104 => ?_)
              · skip
                omega
              · skip
                refine lv_aload_n C0.1 C0.2.1 dX10_number_107 rfl (lv_at hl 1 rfl) ?_
                refine lv_iload_n C0.1 C0.2.1 dX10_number_108 rfl (lv_at hl 2 rfl) ?_
                refine lv_bipush (v := zI 8) C0.1 C0.2.1 dX10_number_109 rfl ?_
                refine mm_callVi (As := [.int (zI (pp)), .int (zI (8))]) C0 vw_X10_come tw_1039 (c_X10_comeS l G _ hX1 hpp2 (by omega) (a := 8) rfl (by omega) v8) hM (hO) rfl rfl hl.1 rfl (Nat.le_of_ble_eq_true rfl) ⟨rfl, rfl, Nat.le_of_ble_eq_true rfl, Nat.le_of_ble_eq_true rfl, Nat.zero_le _, Nat.zero_le _⟩ dX10_number_111 hS (fun z9 E10 H locs hp hM hS => ?_)
                obtain ⟨hz9, ⟨R9, hX9, kr9⟩, fr⟩ := hp
                have hTp := (fr _ (by omega)).trans hTp
                refine lv_goto (tgt := 124) C0.1 C0.2.1 dX10_number_114 (by decide) ?_
                exact mm_iret (z := z9) C0 hr hlk hM hS dX10_number_124 (by have he : pf_number S pp = (lanZ N, lanS (sTap S S.1.2.1 0) pp.toNat N) := (by unfold pf_number; rw [if_pos (by omega), hrd0]; rfl); rw [he]; exact ⟨hz9, hX9.rf, fun q h => (fr q (by omega)).trans (hfr q (by omega))⟩)
        refine lv_iload_n C0.1 C0.2.1 dX10_number_23 rfl (lv_at hl 2 rfl) ?_
        refine lv_bipush (v := zI 80) C0.1 C0.2.1 dX10_number_24 rfl ?_
        refine z_icmp_ge (tgt := 81) C0.1 C0.2.1 dX10_number_26 (by decide) ⟨by omega, by omega⟩ ⟨by omega, by omega⟩ (fun c_26 => ?_) (fun c_26 => ?_)
        · skip
          exact J81 n a1 N R1 E4 _ _ _ (hn) (ha1) (v8) (kr) (hrd) (Or.inl (by omega)) (hO) (hTp) (hR1) (hfr) hM hS (lv_sub hl [0, 1, 2] rfl)
        · skip
          refine lv_aload_n C0.1 C0.2.1 dX10_number_29 rfl (lv_at hl 0 rfl) ?_
          refine mm_callVi (As := []) C0 vw_X10_nextByte tw_1028 (c_X10_nextByte l G _ (a := a1) hO hTp hTk ha1) hM (hO) rfl rfl hl.1 rfl (Nat.le_of_ble_eq_true rfl) ⟨rfl, rfl, Nat.le_of_ble_eq_true rfl, Nat.le_of_ble_eq_true rfl, Nat.zero_le _, Nat.zero_le _⟩ dX10_number_30 hS (fun z30 E11 H locs hp hM hS => ?_)
          obtain ⟨hz30, hO, fr⟩ := hp
          have hTp := (fr _ (by omega)).trans hTp
          have hR1 := rg.kept hR1 (fr _ (by omega))
          have hfr := (fun q h => (fr q (by omega)).trans (hfr q h) : ∀ q : Nat, (q ≠ h ∧ q ≠ h + 1) → E11 q = E0 q)
          obtain ⟨hsb1, hsb2⟩ := skp_b (B := S.1.2.1) ha1
          have hsi := skp_i (B := S.1.2.1) ha1
          have hni := nbZ_i (B := S.1.2.1) ha1
          have hrk := rdT_k (B := S.1.2.1) (n := n) (N := N) _ a1 (Nat.le_refl _) ha1
          obtain ⟨hnb1, hnb2⟩ := nbZ_b (a := a1) hTk
          have hsno := skp_no (B := S.1.2.1) ha1
          have hnbp := nbZ_p (B := S.1.2.1) (L := S.1.2.2) (a := a1)
          have hnbn := nbZ_n (B := S.1.2.1) (L := S.1.2.2) (a := a1)
          obtain ⟨s1, hs1⟩ : ∃ s1, s1 = skp S.1.2.1 S.1.2.2 a1 := ⟨_, rfl⟩
          rw [← hs1] at hO hsb1 hsb2 hsi hni hrk hsno hnbp hnbn
          refine z_i2l C0.1 C0.2.1 dX10_number_33 ⟨by omega, by omega⟩ ?_
          refine mm_ldc2 (z := 48) C0 tw_1032 rfl dX10_number_34 ?_
          refine mm_ldc2 (z := 57) C0 tw_1033 rfl dX10_number_37 ?_
          refine mm_callSi (As := [.long (zL (z30)), .long (zL (48)), .long (zL (57))]) C0 sw_X10_in tw_985 (c_X10_in l G _ (v := z30) (lo := 48) (hi := 57) ⟨by omega, by omega⟩ ⟨by omega, by omega⟩ ⟨by omega, by omega⟩) hM rfl hl.1 rfl (Nat.le_of_ble_eq_true rfl) ⟨rfl, rfl, Nat.le_of_ble_eq_true rfl, Nat.le_of_ble_eq_true rfl, Nat.zero_le _, Nat.zero_le _⟩ dX10_number_40 hS (fun z_40 E12 H locs hp hM hS => ?_)
          obtain ⟨hz_40, hEq⟩ := hp
          rw [hEq] at hM
          have hz_40b := if01 hz_40
          refine z_if_eq (tgt := 81) C0.1 C0.2.1 dX10_number_43 (by decide) ⟨by omega, by omega⟩ (fun c_43 => ?_) (fun c_43 => ?_)
          · skip
            exact J81 n s1 N R1 E11 _ _ _ (hn) (hsb1) (v8) (kr) (by rw [← hrd, hrk]) (Or.inr ⟨hsi, fun q => (by have q1 := hnbp q; omega), hsno⟩) (hO) (hTp) (hR1) (hfr) hM hS (lv_sub hl [0, 1, 2] rfl)
          · skip
            have hfg : 48 ≤ z30 ∧ z30 ≤ 57 := by omega
            have hs1L : s1 < S.1.2.2 := Classical.byContradiction fun q => by have := hnbn q; omega
            have hzB : z30 = S.1.2.1 s1 := hz30.trans (hnbp hs1L)
            refine lv_aload_n C0.1 C0.2.1 dX10_number_46 rfl (lv_at hl 0 rfl) ?_
            refine lv_bipush (v := zI 8) C0.1 C0.2.1 dX10_number_47 rfl ?_
            refine lv_bipush (v := zI 8) C0.1 C0.2.1 dX10_number_49 rfl ?_
            refine mm_ldc2 (z := 10) C0 tw_1034 rfl dX10_number_51 ?_
            refine lv_aload_n C0.1 C0.2.1 dX10_number_54 rfl (lv_at hl 0 rfl) ?_
            refine mm_callVi (As := []) C0 vw_X10_nextByte tw_1028 (c_X10_nextByte l G _ (a := s1) hO hTp hTk hsb1) hM (hO) rfl rfl hl.1 rfl (Nat.le_of_ble_eq_true rfl) ⟨rfl, rfl, Nat.le_of_ble_eq_true rfl, Nat.le_of_ble_eq_true rfl, Nat.zero_le _, Nat.zero_le _⟩ dX10_number_55 hS (fun z55 E13 H locs hp hM hS => ?_)
            obtain ⟨hz55, hO, fr⟩ := hp
            have hTp := (fr _ (by omega)).trans hTp
            have hR1 := rg.kept hR1 (fr _ (by omega))
            have hfr := (fun q h => (fr q (by omega)).trans (hfr q h) : ∀ q : Nat, (q ≠ h ∧ q ≠ h + 1) → E13 q = E0 q)
            rw [hsi] at hO
            rw [hni] at hz55
            refine lv_bipush (v := zI 48) C0.1 C0.2.1 dX10_number_58 rfl ?_
            refine z_isub C0.1 C0.2.1 dX10_number_60 ?_
            refine z_asI (a := ((z55) - (48))) (b := (((z30 - 48).toNat : Nat) : Int)) (by omega) ?_
            refine z_i2l C0.1 C0.2.1 dX10_number_61 ⟨by omega, by omega⟩ ?_
            refine mm_callVv (As := [.int (zI (8)), .int (zI (8)), .long (zL (10)), .long (zL ((((z30 - 48).toNat : Nat) : Int)))]) C0 vw_X10_times tw_1035 (c_X10_times l G _ hO hR1 (t := 8) rfl (by omega) (a := 8) rfl (by omega) v8 10 (z30 - 48).toNat rfl (by omega) (by omega) (by omega) (by have := nl80 (N := 10 * N + (z30 - 48).toNat) (c := n + 1) (by have h9 := rdN (x := z30) hN ⟨by omega, by omega⟩; rw [Nat.mul_comm 10]; exact h9) (by omega); omega)) hM (hO) rfl rfl hl.1 rfl (Nat.le_of_ble_eq_true rfl) ⟨rfl, rfl, Nat.le_of_ble_eq_true rfl, Nat.le_of_ble_eq_true rfl, Nat.zero_le _, Nat.zero_le _⟩ dX10_number_62 hS (fun E14 H locs hp hM hS => ?_)
            obtain ⟨⟨R2, hR2, v82, kr2⟩, fr⟩ := hp
            have hO := ro.kept hO (fr _ (by omega))
            have hTp := (fr _ (by omega)).trans hTp
            have hfr := (fun q h => (fr q (by omega)).trans (hfr q h) : ∀ q : Nat, (q ≠ h ∧ q ≠ h + 1) → E14 q = E0 q)
            refine lv_iinc (v := zI (((n + 1 : Nat) : Int))) (lv' := [(2, .int (zI (((n + 1 : Nat) : Int)))), (0, .ref (h)), (1, .int (zI (pp)))]) C0.1 C0.2.1 dX10_number_65 hl (k := 2) rfl (z_inc (a := (n : Int)) (n := 1) (by omega)) (by decide) rfl (fun ls hl => ?_)
            refine lv_aload_n C0.1 C0.2.1 dX10_number_68 rfl (lv_at hl 1 rfl) ?_
            refine lv_dup C0.1 C0.2.1 dX10_number_69 rfl ?_
            refine mm_get (fs := [.ref (h + 1), .ref (h + 2), .ref (h + 3), .ref (h + 4), .int (zI (((S.1.2.2 : Nat) : Int))), .int (zI ((s1 : Int))), .long (zL (x3)), .ref (h + 5), .ref (h + 6), .ref (h + 7), .ref (h + 8), .int (zI (x4)), .int (zI (x5)), .int (zI (x6)), .int (zI (x7)), .int (zI (S.1.1)), .ref (h + 9), .ref (h + 10), .ref (h + 11), .ref (h + 12)]) C0 (C := RX10) (T := TX10) (N := 20) iG_X10 hM (hO) rfl 5 (by decide) tw_921 rfl rfl dX10_number_70 ?_
            refine lv_iconst (v := zI 1) C0.1 C0.2.1 dX10_number_73 rfl ?_
            refine z_iadd C0.1 C0.2.1 dX10_number_74 ?_
            refine mm_put (v := .int (zI ((((s1 : Int)) + (1))))) (fs := [.ref (h + 1), .ref (h + 2), .ref (h + 3), .ref (h + 4), .int (zI (((S.1.2.2 : Nat) : Int))), .int (zI ((s1 : Int))), .long (zL (x3)), .ref (h + 5), .ref (h + 6), .ref (h + 7), .ref (h + 8), .int (zI (x4)), .int (zI (x5)), .int (zI (x6)), .int (zI (x7)), .int (zI (S.1.1)), .ref (h + 9), .ref (h + 10), .ref (h + 11), .ref (h + 12)]) C0 (C := RX10) (T := TX10) (N := 20) iG_X10 tyX10 tyX10_ok nmX10 hM hS (hO) rfl 5 (by decide) tw_921 rfl rfl (ty := tyX10 5) (tyX10_ok 5 (by decide)) rfl rfl (Nat.le_of_ble_eq_true rfl) dX10_number_75 (fun H locs hM hS hsz => ?_)
            obtain ⟨E15, hE15⟩ : ∃ X : mE, X = mm_up E14 (h) (.inr (9, [.ref (h + 1), .ref (h + 2), .ref (h + 3), .ref (h + 4), .int (zI (((S.1.2.2 : Nat) : Int))), .int (zI ((((s1 : Int)) + (1)))), .long (zL (x3)), .ref (h + 5), .ref (h + 6), .ref (h + 7), .ref (h + 8), .int (zI (x4)), .int (zI (x5)), .int (zI (x6)), .int (zI (x7)), .int (zI (S.1.1)), .ref (h + 9), .ref (h + 10), .ref (h + 11), .ref (h + 12)])) := ⟨_, rfl⟩
            replace hM : mm_M G E15 H := by rw [hE15]; exact hM
            have frs : ∀ q : Nat, q ≠ h → E15 q = E14 q := fun q h => by rw [hE15]; exact mm_up_n _ _ h
            have hat : E15 (h) = some (.inr (9, [.ref (h + 1), .ref (h + 2), .ref (h + 3), .ref (h + 4), .int (zI (((S.1.2.2 : Nat) : Int))), .int (zI ((((s1 : Int)) + (1)))), .long (zL (x3)), .ref (h + 5), .ref (h + 6), .ref (h + 7), .ref (h + 8), .int (zI (x4)), .int (zI (x5)), .int (zI (x6)), .int (zI (x7)), .int (zI (S.1.1)), .ref (h + 9), .ref (h + 10), .ref (h + 11), .ref (h + 12)])) := by rw [hE15]; exact mm_up_s _ _ _
            have hO : ro G E15 h (S.1.2.2 : Int) ((s1 + 1 : Nat) : Int) x3 x4 x5 x6 x7 S.1.1 := hat
            have hTp := (frs _ (by omega)).trans hTp
            have hfr := (fun q h => (frs q (by omega)).trans (hfr q h) : ∀ q : Nat, (q ≠ h ∧ q ≠ h + 1) → E15 q = E0 q)
            have hR2 := rg.kept hR2 (frs _ (by omega))
            refine lv_goto (tgt := 23) C0.1 C0.2.1 dX10_number_78 (by decide) ?_
            exact ih23  (n + 1) (s1 + 1) (10 * N + (z30 - 48).toNat) R2 E15 _ _ _ (by omega) (by omega) (by have h9 := rdN (x := z30) hN ⟨by omega, by omega⟩; rw [Nat.mul_comm 10]; exact h9) (v82) (fun r hr => (kr2 r (by omega)).trans (kr r hr)) (by rw [← hrd, hrk, rdT_f (q := S.1.2.2 - s1) (i := s1) (cnt := n) (N := N) (r := S.1.2.2 - (s1 + 1)) (by omega) (by omega) ⟨by omega, by omega⟩ (by omega), Nat.mul_comm 10]; congr 3; omega) (hO) (hTp) (hR2) (hfr) (by omega) hM hS (lv_sub hl [1, 2, 0] rfl)
    exact L23 (_ + 1) 0 0 0 R1 E3 _ _ _ (Nat.zero_le _) (Nat.zero_le _) (by decide) (v8) (fun r hr => kr1 r (by omega)) (rfl) (hO) (hTp) (hR1) (hfr) (Nat.lt_succ_self _) hM hS (lv_sub hl [1, 2, 0] rfl)
  · skip
    refine lv_iconst (v := zI (-1)) C0.1 C0.2.1 dX10_number_7 rfl ?_
    exact mm_iret (z := (-1)) C0 hr hlk hM hS dX10_number_8 (by have he : pf_number S pp = ((-1), S) := (by unfold pf_number; rw [if_neg (by omega)]); rw [he]; exact ⟨rfl, hX0.rf, fun _ _ => rfl⟩)
