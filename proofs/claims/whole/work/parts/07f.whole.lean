theorem pow_split9 (k : Nat) : 10 ^ k = 10 ^ (k % 9) * 1000000000 ^ (k / 9) := by
  rw [bP_10, ← Nat.pow_add]
  congr 1
  omega
theorem pow_m9 (k : Nat) : 10 ^ (k % 9) < 1000000000 := by
  have hp := Nat.pow_le_pow_right (n := 10) (by omega) (show k % 9 ≤ 8 by omega)
  omega
theorem pow_lt9 (k : Nat) : 10 ^ k < 1000000000 ^ (k / 9 + 1) := by
  rw [pow_split9, bP_s, Nat.mul_comm (1000000000 ^ (k / 9))]
  exact Nat.mul_lt_mul_of_pos_right (pow_m9 k) (bP_pos _)
theorem pow_dg9 {f : Nat → Nat} {k : Nat} (hz : ∀ j, j < k / 9 → f j = 0) : ∀ j, j < k / 9 + 1 → nup f (k / 9) (10 ^ (k % 9)) j = dg (10 ^ k) j := by
  refine dg_of (fun j hj => ?_) ?_
  · unfold nup; split
    · exact pow_m9 k
    · rw [hz j (by omega)]; omega
  · rw [bV_s, bV_nup (Nat.le_refl _), nup_s, bV_zero hz, Nat.zero_add, ← pow_split9]
def rX8_setProduct : Room := { frames := 2, cells := 0, slots := 0, locals := 45 }
theorem vw_X8_setProduct : mm_Vw RX8 yX8_setProduct cX8_setProduct 10 none 2 := ⟨tw_411, tw_412, tw_4, tw_413, by decide +kernel⟩
set_option maxHeartbeats 4000000 in
set_option maxRecDepth 100000 in
theorem c_X8_setProduct (l : Launch) (G : mG) (E0 : mE) {t a b N1 N2 : Nat} (hV : isV G E0 t) (hA : isW G E0 a N1) (hB : isW G E0 b N2) (hna : t + 2 ≤ a ∨ a + 2 ≤ t) (hnb : t + 2 ≤ b ∨ b + 2 ≤ t) (hs : nl N1 + nl N2 ≤ 56) : mm_Cv l yX8_setProduct (.code yX8_setProduct cX8_setProduct 10 none :: wsG) rX8_setProduct G [.ref (t), .ref (a), .ref (b)] E0 (fun E => isW G E t (N1 * N2) ∧ ∀ q : Nat, (q < t ∨ t + 2 ≤ q) → E q = E0 q) := by
  refine mm_of_v (by decide +kernel) (Nat.le_of_ble_eq_true rfl) ?_
  intro p e s m args below meth c ls C0 hr hlk hM hl hS
  have hl : lv_has ls 10 [(0, .ref (t)), (1, .ref (a)), (2, .ref (b))] := hl
  obtain ⟨n, f, hT⟩ := hV
  have hfr : ∀ q : Nat, (q < t ∨ t + 2 ≤ q) → E0 q = E0 q := fun _ _ => rfl
  refine lv_aload_n C0.1 C0.2.1 dX8_setProduct_0 rfl (lv_at hl 1 rfl) ?_
  refine mm_get (fs := [.ref (a + 1), .int (zI (((nl (N1) : Nat) : Int)))]) C0 (C := RX8) (T := TX8) (N := 2) iG_X8 hM (hA.obj) rfl 1 (by decide) tw_82 rfl rfl dX8_setProduct_1 ?_
  refine lv_aload_n C0.1 C0.2.1 dX8_setProduct_4 rfl (lv_at hl 2 rfl) ?_
  refine mm_get (fs := [.ref (b + 1), .int (zI (((nl (N2) : Nat) : Int)))]) C0 (C := RX8) (T := TX8) (N := 2) iG_X8 hM (hB.obj) rfl 1 (by decide) tw_82 rfl rfl dX8_setProduct_5 ?_
  refine z_iadd C0.1 C0.2.1 dX8_setProduct_8 ?_
  refine z_asI (a := ((((nl (N1) : Nat) : Int)) + (((nl (N2) : Nat) : Int)))) (b := ((nl N1 + nl N2 : Nat) : Int)) (by omega) ?_
  refine lv_istore_n (lv' := [(3, .int (zI (((nl N1 + nl N2 : Nat) : Int)))), (0, .ref (t)), (1, .ref (a)), (2, .ref (b))]) C0.1 C0.2.1 dX8_setProduct_9 rfl hl (by decide) rfl (fun ls hl => ?_)
  refine lv_iconst (v := zI 0) C0.1 C0.2.1 dX8_setProduct_10 rfl ?_
  refine lv_istore (lv' := [(4, .int (zI (0))), (3, .int (zI (((nl N1 + nl N2 : Nat) : Int)))), (0, .ref (t)), (1, .ref (a)), (2, .ref (b))]) C0.1 C0.2.1 dX8_setProduct_11 hl (by decide) rfl (fun ls hl => ?_)
  have L13 : ∀ (k13 : Nat) (i : Nat) (f : Nat → Nat) (E1 : mE) (H : Heap) (locs : List Loc) (ls : Array Slot), (i ≤ nl N1 + nl N2) → (∀ j, j < i → f j = 0) → (wR G E1 t n f) → (isW G E1 a N1) → (isW G E1 b N2) → (∀ q : Nat, (q < t ∨ t + 2 ≤ q) → E1 q = E0 q) → nl N1 + nl N2 - i < k13 → mm_M G E1 H → va_S (mm_A G) s.heap H locs → lv_has ls 10 [(0, .ref (t)), (1, .ref (a)), (2, .ref (b)), (3, .int (zI (((nl N1 + nl N2 : Nat) : Int)))), (4, .int (zI ((i : Int))))] → W p l e rX8_setProduct s m args below meth c H locs 0 0 (mm_Zv G below args s (fun E => isW G E t (N1 * N2) ∧ ∀ q : Nat, (q < t ∨ t + 2 ≤ q) → E q = E0 q)) (F0 m 13 ls []) := by
    intro k13
    induction k13 with
    | zero => intro i f E1 H locs ls hi hz hT hA hB hfr hk hM hS hl; exact absurd hk (Nat.not_lt_zero _)
    | succ k13 ih13 =>
      intro i f E1 H locs ls hi hz hT hA hB hfr hk13 hM hS hl
      refine lv_iload C0.1 C0.2.1 dX8_setProduct_13 (lv_at hl 4 rfl) ?_
      refine lv_iload_n C0.1 C0.2.1 dX8_setProduct_15 rfl (lv_at hl 3 rfl) ?_
      refine z_icmp_ge (tgt := 40) C0.1 C0.2.1 dX8_setProduct_16 (by decide) ⟨by omega, by omega⟩ ⟨by omega, by omega⟩ (fun c_16 => ?_) (fun c_16 => ?_)
      · skip
        refine lv_aload_n C0.1 C0.2.1 dX8_setProduct_40 rfl (lv_at hl 0 rfl) ?_
        refine lv_iload_n C0.1 C0.2.1 dX8_setProduct_41 rfl (lv_at hl 3 rfl) ?_
        refine lv_bipush (v := zI 56) C0.1 C0.2.1 dX8_setProduct_42 rfl ?_
        refine z_imin C0.1 C0.2.1 (C0.2.2.1.trans hl.1.symm) C0.2.2.2.1 (C0.2.2.2.2.1 _ tml_tw_290) (C0.2.2.2.2.1 _ tms_min) (C0.2.2.2.2.1 _ tmi) (C0.2.2.2.2.1 _ tmc_min) (Nat.le_of_ble_eq_true rfl) (Nat.le_of_ble_eq_true rfl) (Nat.zero_le _) (Nat.zero_le _) ⟨by omega, by omega⟩ ⟨by omega, by omega⟩ dX8_setProduct_44 ?_
        refine z_asI (a := (min (((nl N1 + nl N2 : Nat) : Int)) (56))) (b := ((nl N1 + nl N2 : Nat) : Int)) (by omega) ?_
        refine mm_put (v := .int (zI (((nl N1 + nl N2 : Nat) : Int)))) (fs := [.ref (t + 1), .int (zI (((n : Nat) : Int)))]) C0 (C := RX8) (T := TX8) (N := 2) iG_X8 tyX8 tyX8_ok nmX8 hM hS (hT.1) rfl 1 (by decide) tw_82 rfl rfl (ty := tyX8 1) (tyX8_ok 1 (by decide)) rfl rfl (Nat.le_of_ble_eq_true rfl) dX8_setProduct_47 (fun H locs hM hS hsz => ?_)
        obtain ⟨E2, hE2⟩ : ∃ X : mE, X = mm_up E1 (t) (.inr (7, [.ref (t + 1), .int (zI (((nl N1 + nl N2 : Nat) : Int)))])) := ⟨_, rfl⟩
        replace hM : mm_M G E2 H := by rw [hE2]; exact hM
        have frs : ∀ q : Nat, q ≠ t → E2 q = E1 q := fun q h => by rw [hE2]; exact mm_up_n _ _ h
        have hat : E2 (t) = some (.inr (7, [.ref (t + 1), .int (zI (((nl N1 + nl N2 : Nat) : Int)))])) := by rw [hE2]; exact mm_up_s _ _ _
        have hT : wR G E2 t (nl N1 + nl N2) f := hT.sz frs hat rfl hs
        have hA := isW.kept hA (frs _ (by omega)) (frs _ (by omega))
        have hB := isW.kept hB (frs _ (by omega)) (frs _ (by omega))
        have hfr := (fun q h => (frs q (by omega)).trans (hfr q h) : ∀ q : Nat, (q < t ∨ t + 2 ≤ q) → E2 q = E0 q)
        refine lv_iconst (v := zI 0) C0.1 C0.2.1 dX8_setProduct_50 rfl ?_
        refine lv_istore (lv' := [(4, .int (zI (0))), (0, .ref (t)), (1, .ref (a)), (2, .ref (b)), (3, .int (zI (((nl N1 + nl N2 : Nat) : Int))))]) C0.1 C0.2.1 dX8_setProduct_51 hl (by decide) rfl (fun ls hl => ?_)
        have L53 : ∀ (k53 : Nat) (i : Nat) (f : Nat → Nat) (E3 : mE) (H : Heap) (locs : List Loc) (ls : Array Slot), (i ≤ nl N1) → (bV f (i + nl N2) = (N1 % 1000000000 ^ i) * N2) → (∀ k, i + nl N2 ≤ k → k < nl N1 + nl N2 → f k = 0) → (wR G E3 t (nl N1 + nl N2) f) → (isW G E3 a N1) → (isW G E3 b N2) → (∀ q : Nat, (q < t ∨ t + 2 ≤ q) → E3 q = E0 q) → nl N1 - i < k53 → mm_M G E3 H → va_S (mm_A G) s.heap H locs → lv_has ls 10 [(0, .ref (t)), (1, .ref (a)), (2, .ref (b)), (3, .int (zI (((nl N1 + nl N2 : Nat) : Int)))), (4, .int (zI ((i : Int))))] → W p l e rX8_setProduct s m args below meth c H locs 0 0 (mm_Zv G below args s (fun E => isW G E t (N1 * N2) ∧ ∀ q : Nat, (q < t ∨ t + 2 ≤ q) → E q = E0 q)) (F0 m 53 ls []) := by
          intro k53
          induction k53 with
          | zero => intro i f E3 H locs ls hi hv hz hT hA hB hfr hk hM hS hl; exact absurd hk (Nat.not_lt_zero _)
          | succ k53 ih53 =>
            intro i f E3 H locs ls hi hv hz hT hA hB hfr hk53 hM hS hl
            have hd1 := dg_lt N1 i
            refine lv_iload C0.1 C0.2.1 dX8_setProduct_53 (lv_at hl 4 rfl) ?_
            refine lv_aload_n C0.1 C0.2.1 dX8_setProduct_55 rfl (lv_at hl 1 rfl) ?_
            refine mm_get (fs := [.ref (a + 1), .int (zI (((nl (N1) : Nat) : Int)))]) C0 (C := RX8) (T := TX8) (N := 2) iG_X8 hM (hA.obj) rfl 1 (by decide) tw_82 rfl rfl dX8_setProduct_56 ?_
            refine z_icmp_ge (tgt := 153) C0.1 C0.2.1 dX8_setProduct_59 (by decide) ⟨by omega, by omega⟩ ⟨by omega, by omega⟩ (fun c_59 => ?_) (fun c_59 => ?_)
            · skip
              have hie : i = nl N1 := by omega
              subst hie
              refine lv_aload_n C0.1 C0.2.1 dX8_setProduct_153 rfl (lv_at hl 0 rfl) ?_
              refine lv_iload_n C0.1 C0.2.1 dX8_setProduct_154 rfl (lv_at hl 3 rfl) ?_
              refine mm_callVv (As := [.int (zI (((nl N1 + nl N2 : Nat) : Int)))]) C0 vw_X8_trim tw_286 (c_X8_trimW l G _ (N := N1 * N2) (m := nl N1 + nl N2) hT (prod_end (nl_self N1) (nl_self N2) (fun j hj => hT.2.2.2 j (by omega)) hv).1 hs rfl (prod_end (nl_self N1) (nl_self N2) (fun j hj => hT.2.2.2 j (by omega)) hv).2) hM (hT.1) rfl rfl hl.1 rfl (Nat.le_of_ble_eq_true rfl) ⟨rfl, rfl, Nat.le_of_ble_eq_true rfl, Nat.le_of_ble_eq_true rfl, Nat.zero_le _, Nat.zero_le _⟩ dX8_setProduct_155 hS (fun E4 H locs hp hM hS => ?_)
              obtain ⟨hW, fr⟩ := hp
              have hA := isW.kept hA (fr _ (by omega)) (fr _ (by omega))
              have hB := isW.kept hB (fr _ (by omega)) (fr _ (by omega))
              have hfr := (fun q h => (fr q (by omega)).trans (hfr q h) : ∀ q : Nat, (q < t ∨ t + 2 ≤ q) → E4 q = E0 q)
              exact mm_vret C0 hr hlk hM hS dX8_setProduct_158 (⟨hW, hfr⟩)
            · skip
              obtain ⟨f0, hf0⟩ : ∃ f0, f0 = f := ⟨f, rfl⟩
              rw [← hf0] at hT hv hz
              have h0 := hv
              refine lv_lconst (v := zL 0) C0.1 C0.2.1 dX8_setProduct_62 rfl ?_
              refine lv_lstore (lv' := [(5, .long (zL (0))), (0, .ref (t)), (1, .ref (a)), (2, .ref (b)), (3, .int (zI (((nl N1 + nl N2 : Nat) : Int)))), (4, .int (zI ((i : Int))))]) C0.1 C0.2.1 dX8_setProduct_63 hl (by decide) rfl (fun ls hl => ?_)
              refine lv_iconst (v := zI 0) C0.1 C0.2.1 dX8_setProduct_65 rfl ?_
              refine lv_istore (lv' := [(7, .int (zI (0))), (5, .long (zL (0))), (0, .ref (t)), (1, .ref (a)), (2, .ref (b)), (3, .int (zI (((nl N1 + nl N2 : Nat) : Int)))), (4, .int (zI ((i : Int))))]) C0.1 C0.2.1 dX8_setProduct_66 hl (by decide) rfl (fun ls hl => ?_)
              have L68 : ∀ (k68 : Nat) (j cy : Nat) (f : Nat → Nat) (E5 : mE) (H : Heap) (locs : List Loc) (ls : Array Slot), (j ≤ nl N2) → (cy < 1000000000) → (bV f (i + j) + cy * 1000000000 ^ (i + j) = bV f0 (i + j) + dg N1 i * (N2 % 1000000000 ^ j) * 1000000000 ^ i) → (∀ k, i + j ≤ k → f k = f0 k) → (wR G E5 t (nl N1 + nl N2) f) → (isW G E5 a N1) → (isW G E5 b N2) → (∀ q : Nat, (q < t ∨ t + 2 ≤ q) → E5 q = E0 q) → nl N2 - j < k68 → mm_M G E5 H → va_S (mm_A G) s.heap H locs → lv_has ls 10 [(0, .ref (t)), (1, .ref (a)), (2, .ref (b)), (3, .int (zI (((nl N1 + nl N2 : Nat) : Int)))), (4, .int (zI ((i : Int)))), (5, .long (zL ((cy : Int)))), (7, .int (zI ((j : Int))))] → W p l e rX8_setProduct s m args below meth c H locs 0 0 (mm_Zv G below args s (fun E => isW G E t (N1 * N2) ∧ ∀ q : Nat, (q < t ∨ t + 2 ≤ q) → E q = E0 q)) (F0 m 68 ls []) := by
                intro k68
                induction k68 with
                | zero => intro j cy f E5 H locs ls hj hcy hw hk hT hA hB hfr hk hM hS hl; exact absurd hk (Nat.not_lt_zero _)
                | succ k68 ih68 =>
                  intro j cy f E5 H locs ls hj hcy hw hk hT hA hB hfr hk68 hM hS hl
                  have hd2 := dg_lt N2 j
                  refine lv_iload C0.1 C0.2.1 dX8_setProduct_68 (lv_at hl 6 rfl) ?_
                  refine lv_aload_n C0.1 C0.2.1 dX8_setProduct_70 rfl (lv_at hl 2 rfl) ?_
                  refine mm_get (fs := [.ref (b + 1), .int (zI (((nl (N2) : Nat) : Int)))]) C0 (C := RX8) (T := TX8) (N := 2) iG_X8 hM (hB.obj) rfl 1 (by decide) tw_82 rfl rfl dX8_setProduct_71 ?_
                  refine z_icmp_ge (tgt := 134) C0.1 C0.2.1 dX8_setProduct_74 (by decide) ⟨by omega, by omega⟩ ⟨by omega, by omega⟩ (fun c_74 => ?_) (fun c_74 => ?_)
                  · skip
                    have hje : j = nl N2 := by omega
                    rw [hje] at hw hk
                    refine lv_aload_n C0.1 C0.2.1 dX8_setProduct_134 rfl (lv_at hl 0 rfl) ?_
                    refine lv_iload C0.1 C0.2.1 dX8_setProduct_135 (lv_at hl 4 rfl) ?_
                    refine lv_aload_n C0.1 C0.2.1 dX8_setProduct_137 rfl (lv_at hl 2 rfl) ?_
                    refine mm_get (fs := [.ref (b + 1), .int (zI (((nl (N2) : Nat) : Int)))]) C0 (C := RX8) (T := TX8) (N := 2) iG_X8 hM (hB.obj) rfl 1 (by decide) tw_82 rfl rfl dX8_setProduct_138 ?_
                    refine z_iadd C0.1 C0.2.1 dX8_setProduct_141 ?_
                    refine lv_lload C0.1 C0.2.1 dX8_setProduct_142 (lv_at hl 5 rfl) ?_
                    refine mm_callVv (As := [.int (zI ((((i : Int)) + (((nl (N2) : Nat) : Int))))), .long (zL ((cy : Int)))]) C0 vw_X8_write tw_282 (c_X8_write l G _ cy rfl hcy hT ⟨by omega, by omega⟩) hM (hT.1) rfl rfl hl.1 rfl (Nat.le_of_ble_eq_true rfl) ⟨rfl, rfl, Nat.le_of_ble_eq_true rfl, Nat.le_of_ble_eq_true rfl, Nat.zero_le _, Nat.zero_le _⟩ dX8_setProduct_144 hS (fun E6 H locs hp hM hS => ?_)
                    obtain ⟨hT, fr⟩ := hp
                    have hA := isW.kept hA (fr _ (by omega)) (fr _ (by omega))
                    have hB := isW.kept hB (fr _ (by omega)) (fr _ (by omega))
                    have hfr := (fun q h => (fr q (by omega)).trans (hfr q h) : ∀ q : Nat, (q < t ∨ t + 2 ≤ q) → E6 q = E0 q)
                    rw [wup_in (i := (i : Int) + ((nl N2 : Nat) : Int)) (k := i + nl N2) (by omega) (by omega)] at hT
                    refine lv_iinc (v := zI (((i + 1 : Nat) : Int))) (lv' := [(4, .int (zI (((i + 1 : Nat) : Int)))), (0, .ref (t)), (1, .ref (a)), (2, .ref (b)), (3, .int (zI (((nl N1 + nl N2 : Nat) : Int)))), (5, .long (zL ((cy : Int)))), (7, .int (zI ((j : Int))))]) C0.1 C0.2.1 dX8_setProduct_147 hl (k := 4) rfl (z_inc (a := (i : Int)) (n := 1) (by omega)) (by decide) rfl (fun ls hl => ?_)
                    refine lv_goto (tgt := 53) C0.1 C0.2.1 dX8_setProduct_150 (by decide) ?_
                    exact ih53  (i + 1) (nup f (i + nl N2) cy) E6 _ _ _ (by omega) (prod_row (nl_self N2) h0 hw) (fun k h1 h2 => by rw [nup_n _ _ (by omega), hk k (by omega)]; exact hz k (by omega) h2) (hT) (hA) (hB) (hfr) (by omega) hM hS (lv_sub hl [1, 2, 3, 4, 0] rfl)
                  · skip
                    have hf9 : f0 (i + j) < 1000000000 := by rw [← hk (i + j) (Nat.le_refl _)]; exact hT.2.2.2 _ (by omega)
                    have hp := mul_bd2 hd1 hd2 hcy hf9
                    refine lv_aload_n C0.1 C0.2.1 dX8_setProduct_77 rfl (lv_at hl 0 rfl) ?_
                    refine lv_iload C0.1 C0.2.1 dX8_setProduct_78 (lv_at hl 4 rfl) ?_
                    refine lv_iload C0.1 C0.2.1 dX8_setProduct_80 (lv_at hl 6 rfl) ?_
                    refine z_iadd C0.1 C0.2.1 dX8_setProduct_82 ?_
                    refine mm_callVl (As := [.int (zI ((((i : Int)) + ((j : Int)))))]) C0 vw_X8_limb tw_308 (c_X8_limb l G _ hT ⟨by omega, by omega⟩) hM (hT.1) rfl rfl hl.1 rfl (Nat.le_of_ble_eq_true rfl) ⟨rfl, rfl, Nat.le_of_ble_eq_true rfl, Nat.le_of_ble_eq_true rfl, Nat.zero_le _, Nat.zero_le _⟩ dX8_setProduct_83 hS (fun z_83 E7 H locs hp hM hS => ?_)
                    obtain ⟨hz_83, hEq⟩ := hp
                    rw [hEq] at hM
                    refine z_asL (b := ((f0 (i + j) : Nat) : Int)) (hz_83.trans ((lmb_in (k := i + j) (by omega) (by omega)).trans (by rw [hk (i + j) (Nat.le_refl _)]))) ?_
                    refine lv_aload_n C0.1 C0.2.1 dX8_setProduct_86 rfl (lv_at hl 1 rfl) ?_
                    refine lv_iload C0.1 C0.2.1 dX8_setProduct_87 (lv_at hl 4 rfl) ?_
                    refine mm_callVl (As := [.int (zI ((i : Int)))]) C0 vw_X8_limb tw_308 (c_X8_limbW l G _ hA i rfl ⟨by omega, by omega⟩) hM (hA.obj) rfl rfl hl.1 rfl (Nat.le_of_ble_eq_true rfl) ⟨rfl, rfl, Nat.le_of_ble_eq_true rfl, Nat.le_of_ble_eq_true rfl, Nat.zero_le _, Nat.zero_le _⟩ dX8_setProduct_89 hS (fun z_89 E8 H locs hp hM hS => ?_)
                    obtain ⟨hz_89, hEq⟩ := hp
                    rw [hEq] at hM
                    refine z_asL (b := (dg N1 i : Int)) (hz_89) ?_
                    refine lv_aload_n C0.1 C0.2.1 dX8_setProduct_92 rfl (lv_at hl 2 rfl) ?_
                    refine lv_iload C0.1 C0.2.1 dX8_setProduct_93 (lv_at hl 6 rfl) ?_
                    refine mm_callVl (As := [.int (zI ((j : Int)))]) C0 vw_X8_limb tw_308 (c_X8_limbW l G _ hB j rfl ⟨by omega, by omega⟩) hM (hB.obj) rfl rfl hl.1 rfl (Nat.le_of_ble_eq_true rfl) ⟨rfl, rfl, Nat.le_of_ble_eq_true rfl, Nat.le_of_ble_eq_true rfl, Nat.zero_le _, Nat.zero_le _⟩ dX8_setProduct_95 hS (fun z_95 E9 H locs hp hM hS => ?_)
                    obtain ⟨hz_95, hEq⟩ := hp
                    rw [hEq] at hM
                    refine z_asL (b := (dg N2 j : Int)) (hz_95) ?_
                    refine z_lmul C0.1 C0.2.1 dX8_setProduct_98 ?_
                    refine z_ladd C0.1 C0.2.1 dX8_setProduct_99 ?_
                    refine lv_lload C0.1 C0.2.1 dX8_setProduct_100 (lv_at hl 5 rfl) ?_
                    refine z_ladd C0.1 C0.2.1 dX8_setProduct_102 ?_
                    refine z_asL (a := ((((((f0 (i + j) : Nat) : Int)) + ((((dg N1 i : Int)) * ((dg N2 j : Int)))))) + ((cy : Int)))) (b := ((f0 (i + j) + dg N1 i * dg N2 j + cy : Nat) : Int)) (by simp only [Int.natCast_add, Int.natCast_mul]) ?_
                    refine lv_lstore (lv' := [(8, .long (zL (((f0 (i + j) + dg N1 i * dg N2 j + cy : Nat) : Int)))), (0, .ref (t)), (1, .ref (a)), (2, .ref (b)), (3, .int (zI (((nl N1 + nl N2 : Nat) : Int)))), (4, .int (zI ((i : Int)))), (5, .long (zL ((cy : Int)))), (7, .int (zI ((j : Int))))]) C0.1 C0.2.1 dX8_setProduct_103 hl (by decide) rfl (fun ls hl => ?_)
                    refine lv_lload C0.1 C0.2.1 dX8_setProduct_105 (lv_at hl 0 rfl) ?_
                    refine mm_ldc2 (z := 1000000000) C0 tw_281 rfl dX8_setProduct_107 ?_
                    refine z_ldivp C0.1 C0.2.1 dX8_setProduct_110 ⟨by omega, by omega⟩ ⟨by omega, by omega⟩ (by omega) (by omega) ?_
                    refine z_asL (a := ((((f0 (i + j) + dg N1 i * dg N2 j + cy : Nat) : Int)) / (1000000000))) (b := (((f0 (i + j) + dg N1 i * dg N2 j + cy) / 1000000000 : Nat) : Int)) (by omega) ?_
                    refine lv_lstore (lv' := [(5, .long (zL ((((f0 (i + j) + dg N1 i * dg N2 j + cy) / 1000000000 : Nat) : Int)))), (8, .long (zL (((f0 (i + j) + dg N1 i * dg N2 j + cy : Nat) : Int)))), (0, .ref (t)), (1, .ref (a)), (2, .ref (b)), (3, .int (zI (((nl N1 + nl N2 : Nat) : Int)))), (4, .int (zI ((i : Int)))), (7, .int (zI ((j : Int))))]) C0.1 C0.2.1 dX8_setProduct_111 hl (by decide) rfl (fun ls hl => ?_)
                    refine lv_aload_n C0.1 C0.2.1 dX8_setProduct_113 rfl (lv_at hl 2 rfl) ?_
                    refine lv_iload C0.1 C0.2.1 dX8_setProduct_114 (lv_at hl 6 rfl) ?_
                    refine lv_iload C0.1 C0.2.1 dX8_setProduct_116 (lv_at hl 7 rfl) ?_
                    refine z_iadd C0.1 C0.2.1 dX8_setProduct_118 ?_
                    refine lv_lload C0.1 C0.2.1 dX8_setProduct_119 (lv_at hl 1 rfl) ?_
                    refine mm_ldc2 (z := 1000000000) C0 tw_281 rfl dX8_setProduct_121 ?_
                    refine z_lremp C0.1 C0.2.1 dX8_setProduct_124 ⟨by omega, by omega⟩ ⟨by omega, by omega⟩ (by omega) (by omega) ?_
                    refine mm_callVv (As := [.int (zI ((((i : Int)) + ((j : Int))))), .long (zL (((((f0 (i + j) + dg N1 i * dg N2 j + cy : Nat) : Int)) % (1000000000))))]) C0 vw_X8_write tw_282 (c_X8_write l G _ ((f0 (i + j) + dg N1 i * dg N2 j + cy) % 1000000000) (by omega) (by omega) hT ⟨by omega, by omega⟩) hM (hT.1) rfl rfl hl.1 rfl (Nat.le_of_ble_eq_true rfl) ⟨rfl, rfl, Nat.le_of_ble_eq_true rfl, Nat.le_of_ble_eq_true rfl, Nat.zero_le _, Nat.zero_le _⟩ dX8_setProduct_125 hS (fun E10 H locs hp hM hS => ?_)
                    obtain ⟨hT, fr⟩ := hp
                    have hA := isW.kept hA (fr _ (by omega)) (fr _ (by omega))
                    have hB := isW.kept hB (fr _ (by omega)) (fr _ (by omega))
                    have hfr := (fun q h => (fr q (by omega)).trans (hfr q h) : ∀ q : Nat, (q < t ∨ t + 2 ≤ q) → E10 q = E0 q)
                    rw [wup_in (i := (i : Int) + (j : Int)) (k := i + j) (by omega) (by omega)] at hT
                    refine lv_iinc (v := zI (((j + 1 : Nat) : Int))) (lv' := [(7, .int (zI (((j + 1 : Nat) : Int)))), (5, .long (zL ((((f0 (i + j) + dg N1 i * dg N2 j + cy) / 1000000000 : Nat) : Int)))), (8, .long (zL (((f0 (i + j) + dg N1 i * dg N2 j + cy : Nat) : Int)))), (0, .ref (t)), (1, .ref (a)), (2, .ref (b)), (3, .int (zI (((nl N1 + nl N2 : Nat) : Int)))), (4, .int (zI ((i : Int))))]) C0.1 C0.2.1 dX8_setProduct_128 hl (k := 7) rfl (z_inc (a := (j : Int)) (n := 1) (by omega)) (by decide) rfl (fun ls hl => ?_)
                    refine lv_goto (tgt := 68) C0.1 C0.2.1 dX8_setProduct_131 (by decide) ?_
                    exact ih68  (j + 1) ((f0 (i + j) + dg N1 i * dg N2 j + cy) / 1000000000) (nup f (i + j) ((f0 (i + j) + dg N1 i * dg N2 j + cy) % 1000000000)) E10 _ _ _ (by omega) (by omega) (prod_step hw) (fun k h1 => by rw [nup_n _ _ (by omega)]; exact hk k (by omega)) (hT) (hA) (hB) (hfr) (by omega) hM hS (lv_sub hl [3, 4, 5, 6, 7, 1, 0] rfl)
              exact L68 (_ + 1) 0 0 f0 E3 _ _ _ (Nat.zero_le _) (by omega) (by simp [Nat.mod_one]) (fun _ _ => rfl) (hT) (hA) (hB) (hfr) (Nat.lt_succ_self _) hM hS (lv_sub hl [2, 3, 4, 5, 6, 1, 0] rfl)
        exact L53 (_ + 1) 0 f E2 _ _ _ (Nat.zero_le _) (by rw [bV_zero (fun j hj => hz j (by omega)), Nat.pow_zero, Nat.mod_one, Nat.zero_mul]) (fun k h1 h2 => hz k (by omega)) (hT) (hA) (hB) (hfr) (Nat.lt_succ_self _) hM hS (lv_sub hl [1, 2, 3, 4, 0] rfl)
      · skip
        refine lv_iload C0.1 C0.2.1 dX8_setProduct_19 (lv_at hl 4 rfl) ?_
        refine lv_bipush (v := zI 56) C0.1 C0.2.1 dX8_setProduct_21 rfl ?_
        refine z_icmp_ge (tgt := 40) C0.1 C0.2.1 dX8_setProduct_23 (by decide) ⟨by omega, by omega⟩ ⟨by omega, by omega⟩ (fun c_23 => ?_) (fun c_23 => ?_)
        · skip
          refine lv_aload_n C0.1 C0.2.1 dX8_setProduct_40 rfl (lv_at hl 0 rfl) ?_
          refine lv_iload_n C0.1 C0.2.1 dX8_setProduct_41 rfl (lv_at hl 3 rfl) ?_
          refine lv_bipush (v := zI 56) C0.1 C0.2.1 dX8_setProduct_42 rfl ?_
          refine z_imin C0.1 C0.2.1 (C0.2.2.1.trans hl.1.symm) C0.2.2.2.1 (C0.2.2.2.2.1 _ tml_tw_290) (C0.2.2.2.2.1 _ tms_min) (C0.2.2.2.2.1 _ tmi) (C0.2.2.2.2.1 _ tmc_min) (Nat.le_of_ble_eq_true rfl) (Nat.le_of_ble_eq_true rfl) (Nat.zero_le _) (Nat.zero_le _) ⟨by omega, by omega⟩ ⟨by omega, by omega⟩ dX8_setProduct_44 ?_
          refine z_asI (a := (min (((nl N1 + nl N2 : Nat) : Int)) (56))) (b := ((nl N1 + nl N2 : Nat) : Int)) (by omega) ?_
          refine mm_put (v := .int (zI (((nl N1 + nl N2 : Nat) : Int)))) (fs := [.ref (t + 1), .int (zI (((n : Nat) : Int)))]) C0 (C := RX8) (T := TX8) (N := 2) iG_X8 tyX8 tyX8_ok nmX8 hM hS (hT.1) rfl 1 (by decide) tw_82 rfl rfl (ty := tyX8 1) (tyX8_ok 1 (by decide)) rfl rfl (Nat.le_of_ble_eq_true rfl) dX8_setProduct_47 (fun H locs hM hS hsz => ?_)
          obtain ⟨E11, hE11⟩ : ∃ X : mE, X = mm_up E1 (t) (.inr (7, [.ref (t + 1), .int (zI (((nl N1 + nl N2 : Nat) : Int)))])) := ⟨_, rfl⟩
          replace hM : mm_M G E11 H := by rw [hE11]; exact hM
          have frs : ∀ q : Nat, q ≠ t → E11 q = E1 q := fun q h => by rw [hE11]; exact mm_up_n _ _ h
          have hat : E11 (t) = some (.inr (7, [.ref (t + 1), .int (zI (((nl N1 + nl N2 : Nat) : Int)))])) := by rw [hE11]; exact mm_up_s _ _ _
          have hT : wR G E11 t (nl N1 + nl N2) f := hT.sz frs hat rfl hs
          have hA := isW.kept hA (frs _ (by omega)) (frs _ (by omega))
          have hB := isW.kept hB (frs _ (by omega)) (frs _ (by omega))
          have hfr := (fun q h => (frs q (by omega)).trans (hfr q h) : ∀ q : Nat, (q < t ∨ t + 2 ≤ q) → E11 q = E0 q)
          refine lv_iconst (v := zI 0) C0.1 C0.2.1 dX8_setProduct_50 rfl ?_
          refine lv_istore (lv' := [(4, .int (zI (0))), (0, .ref (t)), (1, .ref (a)), (2, .ref (b)), (3, .int (zI (((nl N1 + nl N2 : Nat) : Int))))]) C0.1 C0.2.1 dX8_setProduct_51 hl (by decide) rfl (fun ls hl => ?_)
          have L53 : ∀ (k53 : Nat) (i : Nat) (f : Nat → Nat) (E12 : mE) (H : Heap) (locs : List Loc) (ls : Array Slot), (i ≤ nl N1) → (bV f (i + nl N2) = (N1 % 1000000000 ^ i) * N2) → (∀ k, i + nl N2 ≤ k → k < nl N1 + nl N2 → f k = 0) → (wR G E12 t (nl N1 + nl N2) f) → (isW G E12 a N1) → (isW G E12 b N2) → (∀ q : Nat, (q < t ∨ t + 2 ≤ q) → E12 q = E0 q) → nl N1 - i < k53 → mm_M G E12 H → va_S (mm_A G) s.heap H locs → lv_has ls 10 [(0, .ref (t)), (1, .ref (a)), (2, .ref (b)), (3, .int (zI (((nl N1 + nl N2 : Nat) : Int)))), (4, .int (zI ((i : Int))))] → W p l e rX8_setProduct s m args below meth c H locs 0 0 (mm_Zv G below args s (fun E => isW G E t (N1 * N2) ∧ ∀ q : Nat, (q < t ∨ t + 2 ≤ q) → E q = E0 q)) (F0 m 53 ls []) := by
            intro k53
            induction k53 with
            | zero => intro i f E12 H locs ls hi hv hz hT hA hB hfr hk hM hS hl; exact absurd hk (Nat.not_lt_zero _)
            | succ k53 ih53 =>
              intro i f E12 H locs ls hi hv hz hT hA hB hfr hk53 hM hS hl
              have hd1 := dg_lt N1 i
              refine lv_iload C0.1 C0.2.1 dX8_setProduct_53 (lv_at hl 4 rfl) ?_
              refine lv_aload_n C0.1 C0.2.1 dX8_setProduct_55 rfl (lv_at hl 1 rfl) ?_
              refine mm_get (fs := [.ref (a + 1), .int (zI (((nl (N1) : Nat) : Int)))]) C0 (C := RX8) (T := TX8) (N := 2) iG_X8 hM (hA.obj) rfl 1 (by decide) tw_82 rfl rfl dX8_setProduct_56 ?_
              refine z_icmp_ge (tgt := 153) C0.1 C0.2.1 dX8_setProduct_59 (by decide) ⟨by omega, by omega⟩ ⟨by omega, by omega⟩ (fun c_59 => ?_) (fun c_59 => ?_)
              · skip
                have hie : i = nl N1 := by omega
                subst hie
                refine lv_aload_n C0.1 C0.2.1 dX8_setProduct_153 rfl (lv_at hl 0 rfl) ?_
                refine lv_iload_n C0.1 C0.2.1 dX8_setProduct_154 rfl (lv_at hl 3 rfl) ?_
                refine mm_callVv (As := [.int (zI (((nl N1 + nl N2 : Nat) : Int)))]) C0 vw_X8_trim tw_286 (c_X8_trimW l G _ (N := N1 * N2) (m := nl N1 + nl N2) hT (prod_end (nl_self N1) (nl_self N2) (fun j hj => hT.2.2.2 j (by omega)) hv).1 hs rfl (prod_end (nl_self N1) (nl_self N2) (fun j hj => hT.2.2.2 j (by omega)) hv).2) hM (hT.1) rfl rfl hl.1 rfl (Nat.le_of_ble_eq_true rfl) ⟨rfl, rfl, Nat.le_of_ble_eq_true rfl, Nat.le_of_ble_eq_true rfl, Nat.zero_le _, Nat.zero_le _⟩ dX8_setProduct_155 hS (fun E13 H locs hp hM hS => ?_)
                obtain ⟨hW, fr⟩ := hp
                have hA := isW.kept hA (fr _ (by omega)) (fr _ (by omega))
                have hB := isW.kept hB (fr _ (by omega)) (fr _ (by omega))
                have hfr := (fun q h => (fr q (by omega)).trans (hfr q h) : ∀ q : Nat, (q < t ∨ t + 2 ≤ q) → E13 q = E0 q)
                exact mm_vret C0 hr hlk hM hS dX8_setProduct_158 (⟨hW, hfr⟩)
              · skip
                obtain ⟨f0, hf0⟩ : ∃ f0, f0 = f := ⟨f, rfl⟩
                rw [← hf0] at hT hv hz
                have h0 := hv
                refine lv_lconst (v := zL 0) C0.1 C0.2.1 dX8_setProduct_62 rfl ?_
                refine lv_lstore (lv' := [(5, .long (zL (0))), (0, .ref (t)), (1, .ref (a)), (2, .ref (b)), (3, .int (zI (((nl N1 + nl N2 : Nat) : Int)))), (4, .int (zI ((i : Int))))]) C0.1 C0.2.1 dX8_setProduct_63 hl (by decide) rfl (fun ls hl => ?_)
                refine lv_iconst (v := zI 0) C0.1 C0.2.1 dX8_setProduct_65 rfl ?_
                refine lv_istore (lv' := [(7, .int (zI (0))), (5, .long (zL (0))), (0, .ref (t)), (1, .ref (a)), (2, .ref (b)), (3, .int (zI (((nl N1 + nl N2 : Nat) : Int)))), (4, .int (zI ((i : Int))))]) C0.1 C0.2.1 dX8_setProduct_66 hl (by decide) rfl (fun ls hl => ?_)
                have L68 : ∀ (k68 : Nat) (j cy : Nat) (f : Nat → Nat) (E14 : mE) (H : Heap) (locs : List Loc) (ls : Array Slot), (j ≤ nl N2) → (cy < 1000000000) → (bV f (i + j) + cy * 1000000000 ^ (i + j) = bV f0 (i + j) + dg N1 i * (N2 % 1000000000 ^ j) * 1000000000 ^ i) → (∀ k, i + j ≤ k → f k = f0 k) → (wR G E14 t (nl N1 + nl N2) f) → (isW G E14 a N1) → (isW G E14 b N2) → (∀ q : Nat, (q < t ∨ t + 2 ≤ q) → E14 q = E0 q) → nl N2 - j < k68 → mm_M G E14 H → va_S (mm_A G) s.heap H locs → lv_has ls 10 [(0, .ref (t)), (1, .ref (a)), (2, .ref (b)), (3, .int (zI (((nl N1 + nl N2 : Nat) : Int)))), (4, .int (zI ((i : Int)))), (5, .long (zL ((cy : Int)))), (7, .int (zI ((j : Int))))] → W p l e rX8_setProduct s m args below meth c H locs 0 0 (mm_Zv G below args s (fun E => isW G E t (N1 * N2) ∧ ∀ q : Nat, (q < t ∨ t + 2 ≤ q) → E q = E0 q)) (F0 m 68 ls []) := by
                  intro k68
                  induction k68 with
                  | zero => intro j cy f E14 H locs ls hj hcy hw hk hT hA hB hfr hk hM hS hl; exact absurd hk (Nat.not_lt_zero _)
                  | succ k68 ih68 =>
                    intro j cy f E14 H locs ls hj hcy hw hk hT hA hB hfr hk68 hM hS hl
                    have hd2 := dg_lt N2 j
                    refine lv_iload C0.1 C0.2.1 dX8_setProduct_68 (lv_at hl 6 rfl) ?_
                    refine lv_aload_n C0.1 C0.2.1 dX8_setProduct_70 rfl (lv_at hl 2 rfl) ?_
                    refine mm_get (fs := [.ref (b + 1), .int (zI (((nl (N2) : Nat) : Int)))]) C0 (C := RX8) (T := TX8) (N := 2) iG_X8 hM (hB.obj) rfl 1 (by decide) tw_82 rfl rfl dX8_setProduct_71 ?_
                    refine z_icmp_ge (tgt := 134) C0.1 C0.2.1 dX8_setProduct_74 (by decide) ⟨by omega, by omega⟩ ⟨by omega, by omega⟩ (fun c_74 => ?_) (fun c_74 => ?_)
                    · skip
                      have hje : j = nl N2 := by omega
                      rw [hje] at hw hk
                      refine lv_aload_n C0.1 C0.2.1 dX8_setProduct_134 rfl (lv_at hl 0 rfl) ?_
                      refine lv_iload C0.1 C0.2.1 dX8_setProduct_135 (lv_at hl 4 rfl) ?_
                      refine lv_aload_n C0.1 C0.2.1 dX8_setProduct_137 rfl (lv_at hl 2 rfl) ?_
                      refine mm_get (fs := [.ref (b + 1), .int (zI (((nl (N2) : Nat) : Int)))]) C0 (C := RX8) (T := TX8) (N := 2) iG_X8 hM (hB.obj) rfl 1 (by decide) tw_82 rfl rfl dX8_setProduct_138 ?_
                      refine z_iadd C0.1 C0.2.1 dX8_setProduct_141 ?_
                      refine lv_lload C0.1 C0.2.1 dX8_setProduct_142 (lv_at hl 5 rfl) ?_
                      refine mm_callVv (As := [.int (zI ((((i : Int)) + (((nl (N2) : Nat) : Int))))), .long (zL ((cy : Int)))]) C0 vw_X8_write tw_282 (c_X8_write l G _ cy rfl hcy hT ⟨by omega, by omega⟩) hM (hT.1) rfl rfl hl.1 rfl (Nat.le_of_ble_eq_true rfl) ⟨rfl, rfl, Nat.le_of_ble_eq_true rfl, Nat.le_of_ble_eq_true rfl, Nat.zero_le _, Nat.zero_le _⟩ dX8_setProduct_144 hS (fun E15 H locs hp hM hS => ?_)
                      obtain ⟨hT, fr⟩ := hp
                      have hA := isW.kept hA (fr _ (by omega)) (fr _ (by omega))
                      have hB := isW.kept hB (fr _ (by omega)) (fr _ (by omega))
                      have hfr := (fun q h => (fr q (by omega)).trans (hfr q h) : ∀ q : Nat, (q < t ∨ t + 2 ≤ q) → E15 q = E0 q)
                      rw [wup_in (i := (i : Int) + ((nl N2 : Nat) : Int)) (k := i + nl N2) (by omega) (by omega)] at hT
                      refine lv_iinc (v := zI (((i + 1 : Nat) : Int))) (lv' := [(4, .int (zI (((i + 1 : Nat) : Int)))), (0, .ref (t)), (1, .ref (a)), (2, .ref (b)), (3, .int (zI (((nl N1 + nl N2 : Nat) : Int)))), (5, .long (zL ((cy : Int)))), (7, .int (zI ((j : Int))))]) C0.1 C0.2.1 dX8_setProduct_147 hl (k := 4) rfl (z_inc (a := (i : Int)) (n := 1) (by omega)) (by decide) rfl (fun ls hl => ?_)
                      refine lv_goto (tgt := 53) C0.1 C0.2.1 dX8_setProduct_150 (by decide) ?_
                      exact ih53  (i + 1) (nup f (i + nl N2) cy) E15 _ _ _ (by omega) (prod_row (nl_self N2) h0 hw) (fun k h1 h2 => by rw [nup_n _ _ (by omega), hk k (by omega)]; exact hz k (by omega) h2) (hT) (hA) (hB) (hfr) (by omega) hM hS (lv_sub hl [1, 2, 3, 4, 0] rfl)
                    · skip
                      have hf9 : f0 (i + j) < 1000000000 := by rw [← hk (i + j) (Nat.le_refl _)]; exact hT.2.2.2 _ (by omega)
                      have hp := mul_bd2 hd1 hd2 hcy hf9
                      refine lv_aload_n C0.1 C0.2.1 dX8_setProduct_77 rfl (lv_at hl 0 rfl) ?_
                      refine lv_iload C0.1 C0.2.1 dX8_setProduct_78 (lv_at hl 4 rfl) ?_
                      refine lv_iload C0.1 C0.2.1 dX8_setProduct_80 (lv_at hl 6 rfl) ?_
                      refine z_iadd C0.1 C0.2.1 dX8_setProduct_82 ?_
                      refine mm_callVl (As := [.int (zI ((((i : Int)) + ((j : Int)))))]) C0 vw_X8_limb tw_308 (c_X8_limb l G _ hT ⟨by omega, by omega⟩) hM (hT.1) rfl rfl hl.1 rfl (Nat.le_of_ble_eq_true rfl) ⟨rfl, rfl, Nat.le_of_ble_eq_true rfl, Nat.le_of_ble_eq_true rfl, Nat.zero_le _, Nat.zero_le _⟩ dX8_setProduct_83 hS (fun z_83 E16 H locs hp hM hS => ?_)
                      obtain ⟨hz_83, hEq⟩ := hp
                      rw [hEq] at hM
                      refine z_asL (b := ((f0 (i + j) : Nat) : Int)) (hz_83.trans ((lmb_in (k := i + j) (by omega) (by omega)).trans (by rw [hk (i + j) (Nat.le_refl _)]))) ?_
                      refine lv_aload_n C0.1 C0.2.1 dX8_setProduct_86 rfl (lv_at hl 1 rfl) ?_
                      refine lv_iload C0.1 C0.2.1 dX8_setProduct_87 (lv_at hl 4 rfl) ?_
                      refine mm_callVl (As := [.int (zI ((i : Int)))]) C0 vw_X8_limb tw_308 (c_X8_limbW l G _ hA i rfl ⟨by omega, by omega⟩) hM (hA.obj) rfl rfl hl.1 rfl (Nat.le_of_ble_eq_true rfl) ⟨rfl, rfl, Nat.le_of_ble_eq_true rfl, Nat.le_of_ble_eq_true rfl, Nat.zero_le _, Nat.zero_le _⟩ dX8_setProduct_89 hS (fun z_89 E17 H locs hp hM hS => ?_)
                      obtain ⟨hz_89, hEq⟩ := hp
                      rw [hEq] at hM
                      refine z_asL (b := (dg N1 i : Int)) (hz_89) ?_
                      refine lv_aload_n C0.1 C0.2.1 dX8_setProduct_92 rfl (lv_at hl 2 rfl) ?_
                      refine lv_iload C0.1 C0.2.1 dX8_setProduct_93 (lv_at hl 6 rfl) ?_
                      refine mm_callVl (As := [.int (zI ((j : Int)))]) C0 vw_X8_limb tw_308 (c_X8_limbW l G _ hB j rfl ⟨by omega, by omega⟩) hM (hB.obj) rfl rfl hl.1 rfl (Nat.le_of_ble_eq_true rfl) ⟨rfl, rfl, Nat.le_of_ble_eq_true rfl, Nat.le_of_ble_eq_true rfl, Nat.zero_le _, Nat.zero_le _⟩ dX8_setProduct_95 hS (fun z_95 E18 H locs hp hM hS => ?_)
                      obtain ⟨hz_95, hEq⟩ := hp
                      rw [hEq] at hM
                      refine z_asL (b := (dg N2 j : Int)) (hz_95) ?_
                      refine z_lmul C0.1 C0.2.1 dX8_setProduct_98 ?_
                      refine z_ladd C0.1 C0.2.1 dX8_setProduct_99 ?_
                      refine lv_lload C0.1 C0.2.1 dX8_setProduct_100 (lv_at hl 5 rfl) ?_
                      refine z_ladd C0.1 C0.2.1 dX8_setProduct_102 ?_
                      refine z_asL (a := ((((((f0 (i + j) : Nat) : Int)) + ((((dg N1 i : Int)) * ((dg N2 j : Int)))))) + ((cy : Int)))) (b := ((f0 (i + j) + dg N1 i * dg N2 j + cy : Nat) : Int)) (by simp only [Int.natCast_add, Int.natCast_mul]) ?_
                      refine lv_lstore (lv' := [(8, .long (zL (((f0 (i + j) + dg N1 i * dg N2 j + cy : Nat) : Int)))), (0, .ref (t)), (1, .ref (a)), (2, .ref (b)), (3, .int (zI (((nl N1 + nl N2 : Nat) : Int)))), (4, .int (zI ((i : Int)))), (5, .long (zL ((cy : Int)))), (7, .int (zI ((j : Int))))]) C0.1 C0.2.1 dX8_setProduct_103 hl (by decide) rfl (fun ls hl => ?_)
                      refine lv_lload C0.1 C0.2.1 dX8_setProduct_105 (lv_at hl 0 rfl) ?_
                      refine mm_ldc2 (z := 1000000000) C0 tw_281 rfl dX8_setProduct_107 ?_
                      refine z_ldivp C0.1 C0.2.1 dX8_setProduct_110 ⟨by omega, by omega⟩ ⟨by omega, by omega⟩ (by omega) (by omega) ?_
                      refine z_asL (a := ((((f0 (i + j) + dg N1 i * dg N2 j + cy : Nat) : Int)) / (1000000000))) (b := (((f0 (i + j) + dg N1 i * dg N2 j + cy) / 1000000000 : Nat) : Int)) (by omega) ?_
                      refine lv_lstore (lv' := [(5, .long (zL ((((f0 (i + j) + dg N1 i * dg N2 j + cy) / 1000000000 : Nat) : Int)))), (8, .long (zL (((f0 (i + j) + dg N1 i * dg N2 j + cy : Nat) : Int)))), (0, .ref (t)), (1, .ref (a)), (2, .ref (b)), (3, .int (zI (((nl N1 + nl N2 : Nat) : Int)))), (4, .int (zI ((i : Int)))), (7, .int (zI ((j : Int))))]) C0.1 C0.2.1 dX8_setProduct_111 hl (by decide) rfl (fun ls hl => ?_)
                      refine lv_aload_n C0.1 C0.2.1 dX8_setProduct_113 rfl (lv_at hl 2 rfl) ?_
                      refine lv_iload C0.1 C0.2.1 dX8_setProduct_114 (lv_at hl 6 rfl) ?_
                      refine lv_iload C0.1 C0.2.1 dX8_setProduct_116 (lv_at hl 7 rfl) ?_
                      refine z_iadd C0.1 C0.2.1 dX8_setProduct_118 ?_
                      refine lv_lload C0.1 C0.2.1 dX8_setProduct_119 (lv_at hl 1 rfl) ?_
                      refine mm_ldc2 (z := 1000000000) C0 tw_281 rfl dX8_setProduct_121 ?_
                      refine z_lremp C0.1 C0.2.1 dX8_setProduct_124 ⟨by omega, by omega⟩ ⟨by omega, by omega⟩ (by omega) (by omega) ?_
                      refine mm_callVv (As := [.int (zI ((((i : Int)) + ((j : Int))))), .long (zL (((((f0 (i + j) + dg N1 i * dg N2 j + cy : Nat) : Int)) % (1000000000))))]) C0 vw_X8_write tw_282 (c_X8_write l G _ ((f0 (i + j) + dg N1 i * dg N2 j + cy) % 1000000000) (by omega) (by omega) hT ⟨by omega, by omega⟩) hM (hT.1) rfl rfl hl.1 rfl (Nat.le_of_ble_eq_true rfl) ⟨rfl, rfl, Nat.le_of_ble_eq_true rfl, Nat.le_of_ble_eq_true rfl, Nat.zero_le _, Nat.zero_le _⟩ dX8_setProduct_125 hS (fun E19 H locs hp hM hS => ?_)
                      obtain ⟨hT, fr⟩ := hp
                      have hA := isW.kept hA (fr _ (by omega)) (fr _ (by omega))
                      have hB := isW.kept hB (fr _ (by omega)) (fr _ (by omega))
                      have hfr := (fun q h => (fr q (by omega)).trans (hfr q h) : ∀ q : Nat, (q < t ∨ t + 2 ≤ q) → E19 q = E0 q)
                      rw [wup_in (i := (i : Int) + (j : Int)) (k := i + j) (by omega) (by omega)] at hT
                      refine lv_iinc (v := zI (((j + 1 : Nat) : Int))) (lv' := [(7, .int (zI (((j + 1 : Nat) : Int)))), (5, .long (zL ((((f0 (i + j) + dg N1 i * dg N2 j + cy) / 1000000000 : Nat) : Int)))), (8, .long (zL (((f0 (i + j) + dg N1 i * dg N2 j + cy : Nat) : Int)))), (0, .ref (t)), (1, .ref (a)), (2, .ref (b)), (3, .int (zI (((nl N1 + nl N2 : Nat) : Int)))), (4, .int (zI ((i : Int))))]) C0.1 C0.2.1 dX8_setProduct_128 hl (k := 7) rfl (z_inc (a := (j : Int)) (n := 1) (by omega)) (by decide) rfl (fun ls hl => ?_)
                      refine lv_goto (tgt := 68) C0.1 C0.2.1 dX8_setProduct_131 (by decide) ?_
                      exact ih68  (j + 1) ((f0 (i + j) + dg N1 i * dg N2 j + cy) / 1000000000) (nup f (i + j) ((f0 (i + j) + dg N1 i * dg N2 j + cy) % 1000000000)) E19 _ _ _ (by omega) (by omega) (prod_step hw) (fun k h1 => by rw [nup_n _ _ (by omega)]; exact hk k (by omega)) (hT) (hA) (hB) (hfr) (by omega) hM hS (lv_sub hl [3, 4, 5, 6, 7, 1, 0] rfl)
                exact L68 (_ + 1) 0 0 f0 E12 _ _ _ (Nat.zero_le _) (by omega) (by simp [Nat.mod_one]) (fun _ _ => rfl) (hT) (hA) (hB) (hfr) (Nat.lt_succ_self _) hM hS (lv_sub hl [2, 3, 4, 5, 6, 1, 0] rfl)
          exact L53 (_ + 1) 0 f E11 _ _ _ (Nat.zero_le _) (by rw [bV_zero (fun j hj => hz j (by omega)), Nat.pow_zero, Nat.mod_one, Nat.zero_mul]) (fun k h1 h2 => hz k (by omega)) (hT) (hA) (hB) (hfr) (Nat.lt_succ_self _) hM hS (lv_sub hl [1, 2, 3, 4, 0] rfl)
        · skip
          refine lv_aload_n C0.1 C0.2.1 dX8_setProduct_26 rfl (lv_at hl 0 rfl) ?_
          refine mm_get (fs := [.ref (t + 1), .int (zI (((n : Nat) : Int)))]) C0 (C := RX8) (T := TX8) (N := 2) iG_X8 hM (hT.1) rfl 0 (by decide) tw_80 rfl rfl dX8_setProduct_27 ?_
          refine lv_iload C0.1 C0.2.1 dX8_setProduct_30 (lv_at hl 4 rfl) ?_
          refine lv_lconst (v := zL 0) C0.1 C0.2.1 dX8_setProduct_32 rfl ?_
          refine mm_last C0 hM hS (g := (fun j => (f j : Int))) (hT.2.1) (i) (i := (i : Int)) (x := 0) (by omega) (by omega) (by decide) dX8_setProduct_33 (fun H locs hM hS hsz => ?_)
          obtain ⟨E20, hE20⟩ : ∃ X : mE, X = mm_up E1 (t + 1) (mm_J G 56 (zup ((fun j => (f j : Int))) (i) (0))) := ⟨_, rfl⟩
          replace hM : mm_M G E20 H := by rw [hE20]; exact hM
          have frs : ∀ q : Nat, q ≠ t + 1 → E20 q = E1 q := fun q h => by rw [hE20]; exact mm_up_n _ _ h
          have hat : E20 (t + 1) = some (mm_J G 56 (zup ((fun j => (f j : Int))) (i) (0))) := by rw [hE20]; exact mm_up_s _ _ _
          have hT : wR G E20 t n (nup f i 0) := hT.st frs hat rfl (by omega)
          have hA := isW.kept hA (frs _ (by omega)) (frs _ (by omega))
          have hB := isW.kept hB (frs _ (by omega)) (frs _ (by omega))
          have hfr := (fun q h => (frs q (by omega)).trans (hfr q h) : ∀ q : Nat, (q < t ∨ t + 2 ≤ q) → E20 q = E0 q)
          refine lv_iinc (v := zI (((i + 1 : Nat) : Int))) (lv' := [(4, .int (zI (((i + 1 : Nat) : Int)))), (0, .ref (t)), (1, .ref (a)), (2, .ref (b)), (3, .int (zI (((nl N1 + nl N2 : Nat) : Int))))]) C0.1 C0.2.1 dX8_setProduct_34 hl (k := 4) rfl (z_inc (a := (i : Int)) (n := 1) (by omega)) (by decide) rfl (fun ls hl => ?_)
          refine lv_goto (tgt := 13) C0.1 C0.2.1 dX8_setProduct_37 (by decide) ?_
          exact ih13  (i + 1) (nup f i 0) E20 _ _ _ (by omega) (fun j hj => if q : j = i then (by subst q; exact nup_s _ _ _) else (by rw [nup_n _ _ q]; exact hz j (by omega))) (hT) (hA) (hB) (hfr) (by omega) hM hS (lv_sub hl [1, 2, 3, 4, 0] rfl)
  exact L13 (_ + 1) 0 f E0 _ _ _ (Nat.zero_le _) (fun j hj => absurd hj (Nat.not_lt_zero _)) (hT) (hA) (hB) (hfr) (Nat.lt_succ_self _) hM hS (lv_sub hl [2, 3, 4, 1, 0] rfl)

def rX8_countFigures : Room := { frames := 1, cells := 0, slots := 0, locals := 21 }
theorem vw_X8_countFigures : mm_Vw RX8 yX8_countFigures cX8_countFigures 5 (some .int) 0 := ⟨tw_313, tw_314, tw_4, tw_315, by decide +kernel⟩
set_option maxHeartbeats 4000000 in
set_option maxRecDepth 100000 in
theorem c_X8_countFigures (l : Launch) (G : mG) (E0 : mE) {t N : Nat} (hT : isW G E0 t N) : mm_Ci l yX8_countFigures (.code yX8_countFigures cX8_countFigures 5 (some .int) :: wsG) rX8_countFigures G [.ref (t)] E0 (fun z E => z = (fgs N : Int) ∧ E = E0) := by
  refine mm_of_i (by decide +kernel) (Nat.le_of_ble_eq_true rfl) ?_
  intro p e s m args below meth c ls C0 hr hlk hM hl hS
  have hl : lv_has ls 5 [(0, .ref (t))] := hl
  have hle := hT.le
  refine lv_aload_n C0.1 C0.2.1 dX8_countFigures_0 rfl (lv_at hl 0 rfl) ?_
  refine mm_get (fs := [.ref (t + 1), .int (zI (((nl (N) : Nat) : Int)))]) C0 (C := RX8) (T := TX8) (N := 2) iG_X8 hM (hT.obj) rfl 1 (by decide) tw_82 rfl rfl dX8_countFigures_1 ?_
  refine z_if_ne (tgt := 9) C0.1 C0.2.1 dX8_countFigures_4 (by decide) ⟨by omega, by omega⟩ (fun c_4 => ?_) (fun c_4 => ?_)
  · skip
    have hN : N ≠ 0 := fun q => c_4 (by rw [q, nl_0]; rfl)
    have hn0 := nl_pos.mpr hN
    have htop := dg_lt N (nl N - 1)
    refine lv_aload_n C0.1 C0.2.1 dX8_countFigures_9 rfl (lv_at hl 0 rfl) ?_
    refine mm_get (fs := [.ref (t + 1), .int (zI (((nl (N) : Nat) : Int)))]) C0 (C := RX8) (T := TX8) (N := 2) iG_X8 hM (hT.obj) rfl 1 (by decide) tw_82 rfl rfl dX8_countFigures_10 ?_
    refine lv_iconst (v := zI 1) C0.1 C0.2.1 dX8_countFigures_13 rfl ?_
    refine z_isub C0.1 C0.2.1 dX8_countFigures_14 ?_
    refine lv_bipush (v := zI 9) C0.1 C0.2.1 dX8_countFigures_15 rfl ?_
    refine z_imul C0.1 C0.2.1 dX8_countFigures_17 ?_
    refine z_asI (a := ((((((nl (N) : Nat) : Int)) - (1))) * (9))) (b := ((9 * (nl N - 1) : Nat) : Int)) (by omega) ?_
    refine lv_istore_n (lv' := [(1, .int (zI (((9 * (nl N - 1) : Nat) : Int)))), (0, .ref (t))]) C0.1 C0.2.1 dX8_countFigures_18 rfl hl (by decide) rfl (fun ls hl => ?_)
    refine lv_aload_n C0.1 C0.2.1 dX8_countFigures_19 rfl (lv_at hl 1 rfl) ?_
    refine lv_aload_n C0.1 C0.2.1 dX8_countFigures_20 rfl (lv_at hl 1 rfl) ?_
    refine mm_get (fs := [.ref (t + 1), .int (zI (((nl (N) : Nat) : Int)))]) C0 (C := RX8) (T := TX8) (N := 2) iG_X8 hM (hT.obj) rfl 1 (by decide) tw_82 rfl rfl dX8_countFigures_21 ?_
    refine lv_iconst (v := zI 1) C0.1 C0.2.1 dX8_countFigures_24 rfl ?_
    refine z_isub C0.1 C0.2.1 dX8_countFigures_25 ?_
    refine mm_callVl (As := [.int (zI (((((nl (N) : Nat) : Int)) - (1))))]) C0 vw_X8_limb tw_308 (c_X8_limbW l G _ hT (nl N - 1) (by omega) ⟨by omega, by omega⟩) hM (hT.obj) rfl rfl hl.1 rfl (Nat.le_of_ble_eq_true rfl) ⟨rfl, rfl, Nat.le_of_ble_eq_true rfl, Nat.le_of_ble_eq_true rfl, Nat.zero_le _, Nat.zero_le _⟩ dX8_countFigures_26 hS (fun z_26 E1 H locs hp hM hS => ?_)
    obtain ⟨hz_26, hEq⟩ := hp
    rw [hEq] at hM
    refine z_asL (b := (dg N (nl N - 1) : Int)) (hz_26) ?_
    refine lv_lstore_n (lv' := [(2, .long (zL ((dg N (nl N - 1) : Int)))), (1, .int (zI (((9 * (nl N - 1) : Nat) : Int)))), (0, .ref (t))]) C0.1 C0.2.1 dX8_countFigures_29 rfl hl (by decide) rfl (fun ls hl => ?_)
    refine lv_iconst (v := zI 0) C0.1 C0.2.1 dX8_countFigures_30 rfl ?_
    refine lv_istore (lv' := [(4, .int (zI (0))), (2, .long (zL ((dg N (nl N - 1) : Int)))), (1, .int (zI (((9 * (nl N - 1) : Nat) : Int)))), (0, .ref (t))]) C0.1 C0.2.1 dX8_countFigures_31 hl (by decide) rfl (fun ls hl => ?_)
    have L33 : ∀ (k33 : Nat) (i x : Nat) (H : Heap) (locs : List Loc) (ls : Array Slot), (i ≤ 9) → (i + dl x = dl (dg N (nl N - 1))) → (x < 10 ^ (9 - i)) → 9 - i < k33 → mm_M G E0 H → va_S (mm_A G) s.heap H locs → lv_has ls 5 [(0, .ref (t)), (1, .int (zI (((9 * (nl N - 1) + i : Nat) : Int)))), (2, .long (zL ((x : Int)))), (4, .int (zI ((i : Int))))] → W p l e rX8_countFigures s m args below meth c H locs 0 0 (mm_Zi G below args s (fun z E => z = (fgs N : Int) ∧ E = E0)) (F0 m 33 ls []) := by
      intro k33
      induction k33 with
      | zero => intro i x H locs ls hi hx hx2 hk hM hS hl; exact absurd hk (Nat.not_lt_zero _)
      | succ k33 ih33 =>
        intro i x H locs ls hi hx hx2 hk33 hM hS hl
        have hxb : x < 1000000000 := Nat.lt_of_lt_of_le hx2 (by have := Nat.pow_le_pow_right (n := 10) (by omega) (show 9 - i ≤ 9 by omega); omega)
        refine lv_iload C0.1 C0.2.1 dX8_countFigures_33 (lv_at hl 3 rfl) ?_
        refine lv_bipush (v := zI 9) C0.1 C0.2.1 dX8_countFigures_35 rfl ?_
        refine z_icmp_ge (tgt := 61) C0.1 C0.2.1 dX8_countFigures_37 (by decide) ⟨by omega, by omega⟩ ⟨by omega, by omega⟩ (fun c_37 => ?_) (fun c_37 => ?_)
        · skip
          have hx9 : dl x = 0 := by rw [show 9 - i = 0 by omega] at hx2; rw [show x = 0 by simpa using hx2]; exact dl_0
          refine lv_iload_n C0.1 C0.2.1 dX8_countFigures_61 rfl (lv_at hl 1 rfl) ?_
          exact mm_iret (z := ((9 * (nl N - 1) + i : Nat) : Int)) C0 hr hlk hM hS dX8_countFigures_62 (⟨by have hx0 : dl x = 0 := hx9; rw [fgs_p hN]; omega, rfl⟩)
        · skip
          refine lv_lload_n C0.1 C0.2.1 dX8_countFigures_40 rfl (lv_at hl 2 rfl) ?_
          refine lv_lconst (v := zL 0) C0.1 C0.2.1 dX8_countFigures_41 rfl ?_
          refine z_lcmp_le (tgt := 61) C0.1 C0.2.1 dX8_countFigures_42 dX8_countFigures_43 (by decide) ⟨by omega, by omega⟩ ⟨by omega, by omega⟩ (fun c_42 => ?_) (fun c_42 => ?_)
          · skip
            have hx9 : dl x = 0 := by rw [show x = 0 by omega]; exact dl_0
            refine lv_iload_n C0.1 C0.2.1 dX8_countFigures_61 rfl (lv_at hl 1 rfl) ?_
            exact mm_iret (z := ((9 * (nl N - 1) + i : Nat) : Int)) C0 hr hlk hM hS dX8_countFigures_62 (⟨by have hx0 : dl x = 0 := hx9; rw [fgs_p hN]; omega, rfl⟩)
          · skip
            refine lv_iinc (v := zI (((9 * (nl N - 1) + (i + 1) : Nat) : Int))) (lv' := [(1, .int (zI (((9 * (nl N - 1) + (i + 1) : Nat) : Int)))), (0, .ref (t)), (2, .long (zL ((x : Int)))), (4, .int (zI ((i : Int))))]) C0.1 C0.2.1 dX8_countFigures_46 hl (k := 1) rfl (z_inc (a := ((9 * (nl N - 1) + i : Nat) : Int)) (n := 1) (by omega)) (by decide) rfl (fun ls hl => ?_)
            refine lv_lload_n C0.1 C0.2.1 dX8_countFigures_49 rfl (lv_at hl 2 rfl) ?_
            refine mm_ldc2 (z := 10) C0 tw_316 rfl dX8_countFigures_50 ?_
            refine z_ldivp C0.1 C0.2.1 dX8_countFigures_53 ⟨by omega, by omega⟩ ⟨by omega, by omega⟩ (by omega) (by omega) ?_
            refine z_asL (a := (((x : Int)) / (10))) (b := ((x / 10 : Nat) : Int)) (by omega) ?_
            refine lv_lstore_n (lv' := [(2, .long (zL (((x / 10 : Nat) : Int)))), (1, .int (zI (((9 * (nl N - 1) + (i + 1) : Nat) : Int)))), (0, .ref (t)), (4, .int (zI ((i : Int))))]) C0.1 C0.2.1 dX8_countFigures_54 rfl hl (by decide) rfl (fun ls hl => ?_)
            refine lv_iinc (v := zI (((i + 1 : Nat) : Int))) (lv' := [(4, .int (zI (((i + 1 : Nat) : Int)))), (2, .long (zL (((x / 10 : Nat) : Int)))), (1, .int (zI (((9 * (nl N - 1) + (i + 1) : Nat) : Int)))), (0, .ref (t))]) C0.1 C0.2.1 dX8_countFigures_55 hl (k := 3) rfl (z_inc (a := (i : Int)) (n := 1) (by omega)) (by decide) rfl (fun ls hl => ?_)
            refine lv_goto (tgt := 33) C0.1 C0.2.1 dX8_countFigures_58 (by decide) ?_
            exact ih33  (i + 1) (x / 10) _ _ _ (by omega) (by rw [← hx, dl_s (by omega : x ≠ 0)]; omega) (by rw [Nat.div_lt_iff_lt_mul (by omega), ← Nat.pow_succ, show (9 - (i + 1)).succ = 9 - i by omega]; exact hx2)  (by omega) hM hS (lv_sub hl [3, 2, 1, 0] rfl)
    exact L33 (_ + 1) 0 (dg N (nl N - 1)) _ _ _ (Nat.zero_le _) (Nat.zero_add _) (dg_lt _ _)  (Nat.lt_succ_self _) hM hS (lv_sub hl [3, 2, 1, 0] rfl)
  · skip
    have hN : N = 0 := nl_eq0.mp (by omega)
    refine lv_iconst (v := zI 1) C0.1 C0.2.1 dX8_countFigures_7 rfl ?_
    exact mm_iret (z := 1) C0 hr hlk hM hS dX8_countFigures_8 (⟨by rw [hN, fgs_0]; rfl, rfl⟩)

def rX8_setPowerOfTen : Room := { frames := 2, cells := 0, slots := 0, locals := 45 }
theorem vw_X8_setPowerOfTen : mm_Vw RX8 yX8_setPowerOfTen cX8_setPowerOfTen 6 none 1 := ⟨tw_476, tw_477, tw_4, tw_478, by decide +kernel⟩
set_option maxHeartbeats 4000000 in
set_option maxRecDepth 100000 in
theorem c_X8_setPowerOfTen (l : Launch) (G : mG) (E0 : mE) {t : Nat} {x : Int} (k : Nat) (hx : x = (k : Int)) (hV : isV G E0 t) (hk : k < 504) : mm_Cv l yX8_setPowerOfTen (.code yX8_setPowerOfTen cX8_setPowerOfTen 6 none :: wsG) rX8_setPowerOfTen G [.ref (t), .int (zI (x))] E0 (fun E => isW G E t (10 ^ k) ∧ ∀ q : Nat, (q < t ∨ t + 2 ≤ q) → E q = E0 q) := by
  refine mm_of_v (by decide +kernel) (Nat.le_of_ble_eq_true rfl) ?_
  intro p e s m args below meth c ls C0 hr hlk hM hl hS
  have hl : lv_has ls 6 [(0, .ref (t)), (1, .int (zI (x)))] := hl
  obtain ⟨n, f, hT⟩ := hV
  have hfr : ∀ q : Nat, (q < t ∨ t + 2 ≤ q) → E0 q = E0 q := fun _ _ => rfl
  refine lv_iload_n C0.1 C0.2.1 dX8_setPowerOfTen_0 rfl (lv_at hl 1 rfl) ?_
  refine lv_bipush (v := zI 9) C0.1 C0.2.1 dX8_setPowerOfTen_1 rfl ?_
  refine z_idivp C0.1 C0.2.1 dX8_setPowerOfTen_3 ⟨by omega, by omega⟩ ⟨by omega, by omega⟩ (by omega) (by omega) ?_
  refine z_asI (a := ((x) / (9))) (b := ((k / 9 : Nat) : Int)) (by omega) ?_
  refine lv_istore_n (lv' := [(2, .int (zI (((k / 9 : Nat) : Int)))), (0, .ref (t)), (1, .int (zI (x)))]) C0.1 C0.2.1 dX8_setPowerOfTen_4 rfl hl (by decide) rfl (fun ls hl => ?_)
  refine lv_iconst (v := zI 0) C0.1 C0.2.1 dX8_setPowerOfTen_5 rfl ?_
  refine lv_istore_n (lv' := [(3, .int (zI (0))), (2, .int (zI (((k / 9 : Nat) : Int)))), (0, .ref (t)), (1, .int (zI (x)))]) C0.1 C0.2.1 dX8_setPowerOfTen_6 rfl hl (by decide) rfl (fun ls hl => ?_)
  have L7 : ∀ (k7 : Nat) (i : Nat) (f : Nat → Nat) (E1 : mE) (H : Heap) (locs : List Loc) (ls : Array Slot), (i ≤ k / 9 + 1) → (∀ j, j < i → f j = 0) → (wR G E1 t n f) → (∀ q : Nat, (q < t ∨ t + 2 ≤ q) → E1 q = E0 q) → k / 9 + 1 - i < k7 → mm_M G E1 H → va_S (mm_A G) s.heap H locs → lv_has ls 6 [(0, .ref (t)), (1, .int (zI (x))), (2, .int (zI (((k / 9 : Nat) : Int)))), (3, .int (zI ((i : Int))))] → W p l e rX8_setPowerOfTen s m args below meth c H locs 0 0 (mm_Zv G below args s (fun E => isW G E t (10 ^ k) ∧ ∀ q : Nat, (q < t ∨ t + 2 ≤ q) → E q = E0 q)) (F0 m 7 ls []) := by
    intro k7
    induction k7 with
    | zero => intro i f E1 H locs ls hi hz hT hfr hk hM hS hl; exact absurd hk (Nat.not_lt_zero _)
    | succ k7 ih7 =>
      intro i f E1 H locs ls hi hz hT hfr hk7 hM hS hl
      refine lv_iload_n C0.1 C0.2.1 dX8_setPowerOfTen_7 rfl (lv_at hl 3 rfl) ?_
      refine lv_iload_n C0.1 C0.2.1 dX8_setPowerOfTen_8 rfl (lv_at hl 2 rfl) ?_
      refine z_icmp_gt (tgt := 31) C0.1 C0.2.1 dX8_setPowerOfTen_9 (by decide) ⟨by omega, by omega⟩ ⟨by omega, by omega⟩ (fun c_9 => ?_) (fun c_9 => ?_)
      · skip
        refine lv_lconst (v := zL 1) C0.1 C0.2.1 dX8_setPowerOfTen_31 rfl ?_
        refine lv_lstore_n (lv' := [(3, .long (zL (1))), (0, .ref (t)), (1, .int (zI (x))), (2, .int (zI (((k / 9 : Nat) : Int))))]) C0.1 C0.2.1 dX8_setPowerOfTen_32 rfl hl (by decide) rfl (fun ls hl => ?_)
        refine lv_iconst (v := zI 0) C0.1 C0.2.1 dX8_setPowerOfTen_33 rfl ?_
        refine lv_istore (lv' := [(5, .int (zI (0))), (3, .long (zL (1))), (0, .ref (t)), (1, .int (zI (x))), (2, .int (zI (((k / 9 : Nat) : Int))))]) C0.1 C0.2.1 dX8_setPowerOfTen_34 hl (by decide) rfl (fun ls hl => ?_)
        have L36 : ∀ (k36 : Nat) (i : Nat) (H : Heap) (locs : List Loc) (ls : Array Slot), (i ≤ k % 9) → k % 9 - i < k36 → mm_M G E1 H → va_S (mm_A G) s.heap H locs → lv_has ls 6 [(0, .ref (t)), (1, .int (zI (x))), (2, .int (zI (((k / 9 : Nat) : Int)))), (3, .long (zL (((10 ^ i : Nat) : Int)))), (5, .int (zI ((i : Int))))] → W p l e rX8_setPowerOfTen s m args below meth c H locs 0 0 (mm_Zv G below args s (fun E => isW G E t (10 ^ k) ∧ ∀ q : Nat, (q < t ∨ t + 2 ≤ q) → E q = E0 q)) (F0 m 36 ls []) := by
          intro k36
          induction k36 with
          | zero => intro i H locs ls hi2 hk hM hS hl; exact absurd hk (Nat.not_lt_zero _)
          | succ k36 ih36 =>
            intro i H locs ls hi2 hk36 hM hS hl
            have hp := Nat.pow_le_pow_right (n := 10) (by omega) (show i ≤ 8 by omega)
            refine lv_iload C0.1 C0.2.1 dX8_setPowerOfTen_36 (lv_at hl 4 rfl) ?_
            refine lv_iload_n C0.1 C0.2.1 dX8_setPowerOfTen_38 rfl (lv_at hl 1 rfl) ?_
            refine lv_bipush (v := zI 9) C0.1 C0.2.1 dX8_setPowerOfTen_39 rfl ?_
            refine z_iremp C0.1 C0.2.1 dX8_setPowerOfTen_41 ⟨by omega, by omega⟩ ⟨by omega, by omega⟩ (by omega) (by omega) ?_
            refine z_icmp_ge (tgt := 57) C0.1 C0.2.1 dX8_setPowerOfTen_42 (by decide) ⟨by omega, by omega⟩ ⟨by omega, by omega⟩ (fun c_42 => ?_) (fun c_42 => ?_)
            · skip
              have hie : i = k % 9 := by omega
              refine lv_aload_n C0.1 C0.2.1 dX8_setPowerOfTen_57 rfl (lv_at hl 0 rfl) ?_
              refine lv_iload_n C0.1 C0.2.1 dX8_setPowerOfTen_58 rfl (lv_at hl 2 rfl) ?_
              refine lv_lload_n C0.1 C0.2.1 dX8_setPowerOfTen_59 rfl (lv_at hl 3 rfl) ?_
              refine mm_callVv (As := [.int (zI (((k / 9 : Nat) : Int))), .long (zL (((10 ^ i : Nat) : Int)))]) C0 vw_X8_write tw_282 (c_X8_write l G _ (10 ^ i) rfl (by rw [hie]; exact pow_m9 k) hT ⟨by omega, by omega⟩) hM (hT.1) rfl rfl hl.1 rfl (Nat.le_of_ble_eq_true rfl) ⟨rfl, rfl, Nat.le_of_ble_eq_true rfl, Nat.le_of_ble_eq_true rfl, Nat.zero_le _, Nat.zero_le _⟩ dX8_setPowerOfTen_60 hS (fun E2 H locs hp hM hS => ?_)
              obtain ⟨hT, fr⟩ := hp
              have hfr := (fun q h => (fr q (by omega)).trans (hfr q h) : ∀ q : Nat, (q < t ∨ t + 2 ≤ q) → E2 q = E0 q)
              rw [wup_in (i := ((k / 9 : Nat) : Int)) (k := k / 9) rfl (by omega), hie] at hT
              refine lv_aload_n C0.1 C0.2.1 dX8_setPowerOfTen_63 rfl (lv_at hl 0 rfl) ?_
              refine lv_iload_n C0.1 C0.2.1 dX8_setPowerOfTen_64 rfl (lv_at hl 2 rfl) ?_
              refine lv_iconst (v := zI 1) C0.1 C0.2.1 dX8_setPowerOfTen_65 rfl ?_
              refine z_iadd C0.1 C0.2.1 dX8_setPowerOfTen_66 ?_
              refine mm_callVv (As := [.int (zI (((((k / 9 : Nat) : Int)) + (1))))]) C0 vw_X8_trim tw_286 (c_X8_trimW l G _ (N := 10 ^ k) (m := k / 9 + 1) hT (pow_lt9 k) (by omega) (by omega) (pow_dg9 (fun j hj => hz j (by omega)))) hM (hT.1) rfl rfl hl.1 rfl (Nat.le_of_ble_eq_true rfl) ⟨rfl, rfl, Nat.le_of_ble_eq_true rfl, Nat.le_of_ble_eq_true rfl, Nat.zero_le _, Nat.zero_le _⟩ dX8_setPowerOfTen_67 hS (fun E3 H locs hp hM hS => ?_)
              obtain ⟨hW, fr⟩ := hp
              have hfr := (fun q h => (fr q (by omega)).trans (hfr q h) : ∀ q : Nat, (q < t ∨ t + 2 ≤ q) → E3 q = E0 q)
              exact mm_vret C0 hr hlk hM hS dX8_setPowerOfTen_70 (⟨hW, hfr⟩)
            · skip
              refine lv_lload_n C0.1 C0.2.1 dX8_setPowerOfTen_45 rfl (lv_at hl 3 rfl) ?_
              refine mm_ldc2 (z := 10) C0 tw_316 rfl dX8_setPowerOfTen_46 ?_
              refine z_lmul C0.1 C0.2.1 dX8_setPowerOfTen_49 ?_
              refine z_asL (a := ((((10 ^ i : Nat) : Int)) * (10))) (b := ((10 ^ (i + 1) : Nat) : Int)) (by rw [Nat.pow_succ, Int.natCast_mul]; rfl) ?_
              refine lv_lstore_n (lv' := [(3, .long (zL (((10 ^ (i + 1) : Nat) : Int)))), (0, .ref (t)), (1, .int (zI (x))), (2, .int (zI (((k / 9 : Nat) : Int)))), (5, .int (zI ((i : Int))))]) C0.1 C0.2.1 dX8_setPowerOfTen_50 rfl hl (by decide) rfl (fun ls hl => ?_)
              refine lv_iinc (v := zI (((i + 1 : Nat) : Int))) (lv' := [(5, .int (zI (((i + 1 : Nat) : Int)))), (3, .long (zL (((10 ^ (i + 1) : Nat) : Int)))), (0, .ref (t)), (1, .int (zI (x))), (2, .int (zI (((k / 9 : Nat) : Int))))]) C0.1 C0.2.1 dX8_setPowerOfTen_51 hl (k := 4) rfl (z_inc (a := (i : Int)) (n := 1) (by omega)) (by decide) rfl (fun ls hl => ?_)
              refine lv_goto (tgt := 36) C0.1 C0.2.1 dX8_setPowerOfTen_54 (by decide) ?_
              exact ih36  (i + 1) _ _ _ (by omega)  (by omega) hM hS (lv_sub hl [2, 3, 4, 1, 0] rfl)
        exact L36 (_ + 1) 0 _ _ _ (Nat.zero_le _)  (Nat.lt_succ_self _) hM hS (lv_sub hl [2, 3, 4, 1, 0] rfl)
      · skip
        refine lv_iload_n C0.1 C0.2.1 dX8_setPowerOfTen_12 rfl (lv_at hl 3 rfl) ?_
        refine lv_bipush (v := zI 56) C0.1 C0.2.1 dX8_setPowerOfTen_13 rfl ?_
        refine z_icmp_ge (tgt := 31) C0.1 C0.2.1 dX8_setPowerOfTen_15 (by decide) ⟨by omega, by omega⟩ ⟨by omega, by omega⟩ (fun c_15 => ?_) (fun c_15 => ?_)
        · skip
          refine lv_lconst (v := zL 1) C0.1 C0.2.1 dX8_setPowerOfTen_31 rfl ?_
          refine lv_lstore_n (lv' := [(3, .long (zL (1))), (0, .ref (t)), (1, .int (zI (x))), (2, .int (zI (((k / 9 : Nat) : Int))))]) C0.1 C0.2.1 dX8_setPowerOfTen_32 rfl hl (by decide) rfl (fun ls hl => ?_)
          refine lv_iconst (v := zI 0) C0.1 C0.2.1 dX8_setPowerOfTen_33 rfl ?_
          refine lv_istore (lv' := [(5, .int (zI (0))), (3, .long (zL (1))), (0, .ref (t)), (1, .int (zI (x))), (2, .int (zI (((k / 9 : Nat) : Int))))]) C0.1 C0.2.1 dX8_setPowerOfTen_34 hl (by decide) rfl (fun ls hl => ?_)
          have L36 : ∀ (k36 : Nat) (i : Nat) (H : Heap) (locs : List Loc) (ls : Array Slot), (i ≤ k % 9) → k % 9 - i < k36 → mm_M G E1 H → va_S (mm_A G) s.heap H locs → lv_has ls 6 [(0, .ref (t)), (1, .int (zI (x))), (2, .int (zI (((k / 9 : Nat) : Int)))), (3, .long (zL (((10 ^ i : Nat) : Int)))), (5, .int (zI ((i : Int))))] → W p l e rX8_setPowerOfTen s m args below meth c H locs 0 0 (mm_Zv G below args s (fun E => isW G E t (10 ^ k) ∧ ∀ q : Nat, (q < t ∨ t + 2 ≤ q) → E q = E0 q)) (F0 m 36 ls []) := by
            intro k36
            induction k36 with
            | zero => intro i H locs ls hi2 hk hM hS hl; exact absurd hk (Nat.not_lt_zero _)
            | succ k36 ih36 =>
              intro i H locs ls hi2 hk36 hM hS hl
              have hp := Nat.pow_le_pow_right (n := 10) (by omega) (show i ≤ 8 by omega)
              refine lv_iload C0.1 C0.2.1 dX8_setPowerOfTen_36 (lv_at hl 4 rfl) ?_
              refine lv_iload_n C0.1 C0.2.1 dX8_setPowerOfTen_38 rfl (lv_at hl 1 rfl) ?_
              refine lv_bipush (v := zI 9) C0.1 C0.2.1 dX8_setPowerOfTen_39 rfl ?_
              refine z_iremp C0.1 C0.2.1 dX8_setPowerOfTen_41 ⟨by omega, by omega⟩ ⟨by omega, by omega⟩ (by omega) (by omega) ?_
              refine z_icmp_ge (tgt := 57) C0.1 C0.2.1 dX8_setPowerOfTen_42 (by decide) ⟨by omega, by omega⟩ ⟨by omega, by omega⟩ (fun c_42 => ?_) (fun c_42 => ?_)
              · skip
                have hie : i = k % 9 := by omega
                refine lv_aload_n C0.1 C0.2.1 dX8_setPowerOfTen_57 rfl (lv_at hl 0 rfl) ?_
                refine lv_iload_n C0.1 C0.2.1 dX8_setPowerOfTen_58 rfl (lv_at hl 2 rfl) ?_
                refine lv_lload_n C0.1 C0.2.1 dX8_setPowerOfTen_59 rfl (lv_at hl 3 rfl) ?_
                refine mm_callVv (As := [.int (zI (((k / 9 : Nat) : Int))), .long (zL (((10 ^ i : Nat) : Int)))]) C0 vw_X8_write tw_282 (c_X8_write l G _ (10 ^ i) rfl (by rw [hie]; exact pow_m9 k) hT ⟨by omega, by omega⟩) hM (hT.1) rfl rfl hl.1 rfl (Nat.le_of_ble_eq_true rfl) ⟨rfl, rfl, Nat.le_of_ble_eq_true rfl, Nat.le_of_ble_eq_true rfl, Nat.zero_le _, Nat.zero_le _⟩ dX8_setPowerOfTen_60 hS (fun E4 H locs hp hM hS => ?_)
                obtain ⟨hT, fr⟩ := hp
                have hfr := (fun q h => (fr q (by omega)).trans (hfr q h) : ∀ q : Nat, (q < t ∨ t + 2 ≤ q) → E4 q = E0 q)
                rw [wup_in (i := ((k / 9 : Nat) : Int)) (k := k / 9) rfl (by omega), hie] at hT
                refine lv_aload_n C0.1 C0.2.1 dX8_setPowerOfTen_63 rfl (lv_at hl 0 rfl) ?_
                refine lv_iload_n C0.1 C0.2.1 dX8_setPowerOfTen_64 rfl (lv_at hl 2 rfl) ?_
                refine lv_iconst (v := zI 1) C0.1 C0.2.1 dX8_setPowerOfTen_65 rfl ?_
                refine z_iadd C0.1 C0.2.1 dX8_setPowerOfTen_66 ?_
                refine mm_callVv (As := [.int (zI (((((k / 9 : Nat) : Int)) + (1))))]) C0 vw_X8_trim tw_286 (c_X8_trimW l G _ (N := 10 ^ k) (m := k / 9 + 1) hT (pow_lt9 k) (by omega) (by omega) (pow_dg9 (fun j hj => hz j (by omega)))) hM (hT.1) rfl rfl hl.1 rfl (Nat.le_of_ble_eq_true rfl) ⟨rfl, rfl, Nat.le_of_ble_eq_true rfl, Nat.le_of_ble_eq_true rfl, Nat.zero_le _, Nat.zero_le _⟩ dX8_setPowerOfTen_67 hS (fun E5 H locs hp hM hS => ?_)
                obtain ⟨hW, fr⟩ := hp
                have hfr := (fun q h => (fr q (by omega)).trans (hfr q h) : ∀ q : Nat, (q < t ∨ t + 2 ≤ q) → E5 q = E0 q)
                exact mm_vret C0 hr hlk hM hS dX8_setPowerOfTen_70 (⟨hW, hfr⟩)
              · skip
                refine lv_lload_n C0.1 C0.2.1 dX8_setPowerOfTen_45 rfl (lv_at hl 3 rfl) ?_
                refine mm_ldc2 (z := 10) C0 tw_316 rfl dX8_setPowerOfTen_46 ?_
                refine z_lmul C0.1 C0.2.1 dX8_setPowerOfTen_49 ?_
                refine z_asL (a := ((((10 ^ i : Nat) : Int)) * (10))) (b := ((10 ^ (i + 1) : Nat) : Int)) (by rw [Nat.pow_succ, Int.natCast_mul]; rfl) ?_
                refine lv_lstore_n (lv' := [(3, .long (zL (((10 ^ (i + 1) : Nat) : Int)))), (0, .ref (t)), (1, .int (zI (x))), (2, .int (zI (((k / 9 : Nat) : Int)))), (5, .int (zI ((i : Int))))]) C0.1 C0.2.1 dX8_setPowerOfTen_50 rfl hl (by decide) rfl (fun ls hl => ?_)
                refine lv_iinc (v := zI (((i + 1 : Nat) : Int))) (lv' := [(5, .int (zI (((i + 1 : Nat) : Int)))), (3, .long (zL (((10 ^ (i + 1) : Nat) : Int)))), (0, .ref (t)), (1, .int (zI (x))), (2, .int (zI (((k / 9 : Nat) : Int))))]) C0.1 C0.2.1 dX8_setPowerOfTen_51 hl (k := 4) rfl (z_inc (a := (i : Int)) (n := 1) (by omega)) (by decide) rfl (fun ls hl => ?_)
                refine lv_goto (tgt := 36) C0.1 C0.2.1 dX8_setPowerOfTen_54 (by decide) ?_
                exact ih36  (i + 1) _ _ _ (by omega)  (by omega) hM hS (lv_sub hl [2, 3, 4, 1, 0] rfl)
          exact L36 (_ + 1) 0 _ _ _ (Nat.zero_le _)  (Nat.lt_succ_self _) hM hS (lv_sub hl [2, 3, 4, 1, 0] rfl)
        · skip
          refine lv_aload_n C0.1 C0.2.1 dX8_setPowerOfTen_18 rfl (lv_at hl 0 rfl) ?_
          refine mm_get (fs := [.ref (t + 1), .int (zI (((n : Nat) : Int)))]) C0 (C := RX8) (T := TX8) (N := 2) iG_X8 hM (hT.1) rfl 0 (by decide) tw_80 rfl rfl dX8_setPowerOfTen_19 ?_
          refine lv_iload_n C0.1 C0.2.1 dX8_setPowerOfTen_22 rfl (lv_at hl 3 rfl) ?_
          refine lv_lconst (v := zL 0) C0.1 C0.2.1 dX8_setPowerOfTen_23 rfl ?_
          refine mm_last C0 hM hS (g := (fun j => (f j : Int))) (hT.2.1) (i) (i := (i : Int)) (x := 0) (by omega) (by omega) (by decide) dX8_setPowerOfTen_24 (fun H locs hM hS hsz => ?_)
          obtain ⟨E6, hE6⟩ : ∃ X : mE, X = mm_up E1 (t + 1) (mm_J G 56 (zup ((fun j => (f j : Int))) (i) (0))) := ⟨_, rfl⟩
          replace hM : mm_M G E6 H := by rw [hE6]; exact hM
          have frs : ∀ q : Nat, q ≠ t + 1 → E6 q = E1 q := fun q h => by rw [hE6]; exact mm_up_n _ _ h
          have hat : E6 (t + 1) = some (mm_J G 56 (zup ((fun j => (f j : Int))) (i) (0))) := by rw [hE6]; exact mm_up_s _ _ _
          have hT : wR G E6 t n (nup f i 0) := hT.st frs hat rfl (by omega)
          have hfr := (fun q h => (frs q (by omega)).trans (hfr q h) : ∀ q : Nat, (q < t ∨ t + 2 ≤ q) → E6 q = E0 q)
          refine lv_iinc (v := zI (((i + 1 : Nat) : Int))) (lv' := [(3, .int (zI (((i + 1 : Nat) : Int)))), (0, .ref (t)), (1, .int (zI (x))), (2, .int (zI (((k / 9 : Nat) : Int))))]) C0.1 C0.2.1 dX8_setPowerOfTen_25 hl (k := 3) rfl (z_inc (a := (i : Int)) (n := 1) (by omega)) (by decide) rfl (fun ls hl => ?_)
          refine lv_goto (tgt := 7) C0.1 C0.2.1 dX8_setPowerOfTen_28 (by decide) ?_
          exact ih7  (i + 1) (nup f i 0) E6 _ _ _ (by omega) (fun j hj => if q : j = i then (by subst q; exact nup_s _ _ _) else (by rw [nup_n _ _ q]; exact hz j (by omega))) (hT) (hfr) (by omega) hM hS (lv_sub hl [1, 2, 3, 0] rfl)
  exact L7 (_ + 1) 0 f E0 _ _ _ (Nat.zero_le _) (fun j hj => absurd hj (Nat.not_lt_zero _)) (hT) (hfr) (Nat.lt_succ_self _) hM hS (lv_sub hl [2, 3, 1, 0] rfl)
