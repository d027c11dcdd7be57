def rX8_copy : Room := { frames := 2, cells := 0, slots := 0, locals := 45 }
theorem vw_X8_copy : mm_Vw RX8 yX8_copy cX8_copy 3 none 1 := ⟨tw_305, tw_306, tw_4, tw_307, by decide +kernel⟩
set_option maxHeartbeats 4000000 in
set_option maxRecDepth 100000 in
theorem c_X8_copy (l : Launch) (G : mG) (E0 : mE) {t o N : Nat} (hV : isV G E0 t) (hO : isW G E0 o N) (hne : t + 2 ≤ o ∨ o + 2 ≤ t) : mm_Cv l yX8_copy (.code yX8_copy cX8_copy 3 none :: wsG) rX8_copy G [.ref (t), .ref (o)] E0 (fun E => isW G E t N ∧ ∀ q : Nat, (q < t ∨ t + 2 ≤ q) → E q = E0 q) := by
  refine mm_of_v (by decide +kernel) (Nat.le_of_ble_eq_true rfl) ?_
  intro p e s m args below meth c ls C0 hr hlk hM hl hS
  have hl : lv_has ls 3 [(0, .ref (t)), (1, .ref (o))] := hl
  obtain ⟨n, f, hT⟩ := hV
  have hfr : ∀ q : Nat, (q < t ∨ t + 2 ≤ q) → E0 q = E0 q := fun _ _ => rfl
  have hle := hO.le
  refine lv_iconst (v := zI 0) C0.1 C0.2.1 dX8_copy_0 rfl ?_
  refine lv_istore_n (lv' := [(2, .int (zI (0))), (0, .ref (t)), (1, .ref (o))]) C0.1 C0.2.1 dX8_copy_1 rfl hl (by decide) rfl (fun ls hl => ?_)
  have L2 : ∀ (k2 : Nat) (i : Nat) (f : Nat → Nat) (E1 : mE) (H : Heap) (locs : List Loc) (ls : Array Slot), (i ≤ nl N) → (∀ j, j < i → f j = dg N j) → (wR G E1 t n f) → (isW G E1 o N) → (∀ q : Nat, (q < t ∨ t + 2 ≤ q) → E1 q = E0 q) → nl N - i < k2 → mm_M G E1 H → va_S (mm_A G) s.heap H locs → lv_has ls 3 [(0, .ref (t)), (1, .ref (o)), (2, .int (zI ((i : Int))))] → W p l e rX8_copy s m args below meth c H locs 0 0 (mm_Zv G below args s (fun E => isW G E t N ∧ ∀ q : Nat, (q < t ∨ t + 2 ≤ q) → E q = E0 q)) (F0 m 2 ls []) := by
    intro k2
    induction k2 with
    | zero => intro i f E1 H locs ls hi hf hT hO hfr hk hM hS hl; exact absurd hk (Nat.not_lt_zero _)
    | succ k2 ih2 =>
      intro i f E1 H locs ls hi hf hT hO hfr hk2 hM hS hl
      refine lv_iload_n C0.1 C0.2.1 dX8_copy_2 rfl (lv_at hl 2 rfl) ?_
      refine lv_aload_n C0.1 C0.2.1 dX8_copy_3 rfl (lv_at hl 1 rfl) ?_
      refine mm_get (fs := [.ref (o + 1), .int (zI (((nl (N) : Nat) : Int)))]) C0 (C := RX8) (T := TX8) (N := 2) iG_X8 hM (hO.obj) rfl 1 (by decide) tw_82 rfl rfl dX8_copy_4 ?_
      refine z_icmp_ge (tgt := 26) C0.1 C0.2.1 dX8_copy_7 (by decide) ⟨by omega, by omega⟩ ⟨by omega, by omega⟩ (fun c_7 => ?_) (fun c_7 => ?_)
      · skip
        refine lv_aload_n C0.1 C0.2.1 dX8_copy_26 rfl (lv_at hl 0 rfl) ?_
        refine lv_aload_n C0.1 C0.2.1 dX8_copy_27 rfl (lv_at hl 1 rfl) ?_
        refine mm_get (fs := [.ref (o + 1), .int (zI (((nl (N) : Nat) : Int)))]) C0 (C := RX8) (T := TX8) (N := 2) iG_X8 hM (hO.obj) rfl 1 (by decide) tw_82 rfl rfl dX8_copy_28 ?_
        refine mm_callVv (As := [.int (zI (((nl (N) : Nat) : Int)))]) C0 vw_X8_trim tw_286 (c_X8_trimW l G _ (N := N) (m := nl N) hT (nl_self N) hle rfl (fun j hj => hf j (by omega))) hM (hT.1) rfl rfl hl.1 rfl (Nat.le_of_ble_eq_true rfl) ⟨rfl, rfl, Nat.le_of_ble_eq_true rfl, Nat.le_of_ble_eq_true rfl, Nat.zero_le _, Nat.zero_le _⟩ dX8_copy_31 hS (fun E2 H locs hp hM hS => ?_)
        obtain ⟨hW, fr⟩ := hp
        have hO := isW.kept hO (fr _ (by omega)) (fr _ (by omega))
        have hfr := (fun q h => (fr q (by omega)).trans (hfr q h) : ∀ q : Nat, (q < t ∨ t + 2 ≤ q) → E2 q = E0 q)
        exact mm_vret C0 hr hlk hM hS dX8_copy_34 (⟨hW, hfr⟩)
      · skip
        refine lv_aload_n C0.1 C0.2.1 dX8_copy_10 rfl (lv_at hl 0 rfl) ?_
        refine lv_iload_n C0.1 C0.2.1 dX8_copy_11 rfl (lv_at hl 2 rfl) ?_
        refine lv_aload_n C0.1 C0.2.1 dX8_copy_12 rfl (lv_at hl 1 rfl) ?_
        refine lv_iload_n C0.1 C0.2.1 dX8_copy_13 rfl (lv_at hl 2 rfl) ?_
        refine mm_callVl (As := [.int (zI ((i : Int)))]) C0 vw_X8_limb tw_308 (c_X8_limbW l G _ hO i rfl ⟨by omega, by omega⟩) hM (hO.obj) rfl rfl hl.1 rfl (Nat.le_of_ble_eq_true rfl) ⟨rfl, rfl, Nat.le_of_ble_eq_true rfl, Nat.le_of_ble_eq_true rfl, Nat.zero_le _, Nat.zero_le _⟩ dX8_copy_14 hS (fun z_14 E3 H locs hp hM hS => ?_)
        obtain ⟨hz_14, hEq⟩ := hp
        rw [hEq] at hM
        refine z_asL (b := (dg N i : Int)) (hz_14) ?_
        refine mm_callVv (As := [.int (zI ((i : Int))), .long (zL ((dg N i : Int)))]) C0 vw_X8_write tw_282 (c_X8_write l G _ (dg N i) rfl (dg_lt N i) hT ⟨by omega, by omega⟩) hM (hT.1) rfl rfl hl.1 rfl (Nat.le_of_ble_eq_true rfl) ⟨rfl, rfl, Nat.le_of_ble_eq_true rfl, Nat.le_of_ble_eq_true rfl, Nat.zero_le _, Nat.zero_le _⟩ dX8_copy_17 hS (fun E4 H locs hp hM hS => ?_)
        obtain ⟨hT, fr⟩ := hp
        have hO := isW.kept hO (fr _ (by omega)) (fr _ (by omega))
        have hfr := (fun q h => (fr q (by omega)).trans (hfr q h) : ∀ q : Nat, (q < t ∨ t + 2 ≤ q) → E4 q = E0 q)
        rw [wup_in (i := (i : Int)) (k := i) rfl (by omega)] at hT
        refine lv_iinc (v := zI (((i + 1 : Nat) : Int))) (lv' := [(2, .int (zI (((i + 1 : Nat) : Int)))), (0, .ref (t)), (1, .ref (o))]) C0.1 C0.2.1 dX8_copy_20 hl (k := 2) rfl (z_inc (a := (i : Int)) (n := 1) (by omega)) (by decide) rfl (fun ls hl => ?_)
        refine lv_goto (tgt := 2) C0.1 C0.2.1 dX8_copy_23 (by decide) ?_
        exact ih2  (i + 1) (nup f i (dg N i)) E4 _ _ _ (by omega) (fun j hj => if q : j = i then (by subst q; exact nup_s _ _ _) else (by rw [nup_n _ _ q]; exact hf j (by omega))) (hT) (hO) (hfr) (by omega) hM hS (lv_sub hl [1, 2, 0] rfl)
  exact L2 (_ + 1) 0 f E0 _ _ _ (Nat.zero_le _) (fun j hj => absurd hj (Nat.not_lt_zero _)) (hT) (hO) (hfr) (Nat.lt_succ_self _) hM hS (lv_sub hl [1, 2, 0] rfl)

def rX8_add : Room := { frames := 2, cells := 0, slots := 0, locals := 45 }
theorem vw_X8_add : mm_Vw RX8 yX8_add cX8_add 8 none 1 := ⟨tw_378, tw_379, tw_4, tw_380, by decide +kernel⟩
set_option maxHeartbeats 4000000 in
set_option maxRecDepth 100000 in
theorem c_X8_add (l : Launch) (G : mG) (E0 : mE) {t o N1 N2 : Nat} (hA : isW G E0 t N1) (hO : isW G E0 o N2) (hne : t + 2 ≤ o ∨ o + 2 ≤ t) (h1 : nl N1 < 56) (h2 : nl N2 < 56) : mm_Cv l yX8_add (.code yX8_add cX8_add 8 none :: wsG) rX8_add G [.ref (t), .ref (o)] E0 (fun E => isW G E t (N1 + N2) ∧ ∀ q : Nat, (q < t ∨ t + 2 ≤ q) → E q = E0 q) := by
  refine mm_of_v (by decide +kernel) (Nat.le_of_ble_eq_true rfl) ?_
  intro p e s m args below meth c ls C0 hr hlk hM hl hS
  have hl : lv_has ls 8 [(0, .ref (t)), (1, .ref (o))] := hl
  obtain ⟨f, hT, hf⟩ := hA
  have hfr : ∀ q : Nat, (q < t ∨ t + 2 ≤ q) → E0 q = E0 q := fun _ _ => rfl
  refine lv_aload_n C0.1 C0.2.1 dX8_add_0 rfl (lv_at hl 0 rfl) ?_
  refine mm_get (fs := [.ref (t + 1), .int (zI (((nl N1 : Nat) : Int)))]) C0 (C := RX8) (T := TX8) (N := 2) iG_X8 hM (hT.1) rfl 1 (by decide) tw_82 rfl rfl dX8_add_1 ?_
  refine lv_aload_n C0.1 C0.2.1 dX8_add_4 rfl (lv_at hl 1 rfl) ?_
  refine mm_get (fs := [.ref (o + 1), .int (zI (((nl (N2) : Nat) : Int)))]) C0 (C := RX8) (T := TX8) (N := 2) iG_X8 hM (hO.obj) rfl 1 (by decide) tw_82 rfl rfl dX8_add_5 ?_
  refine z_imax C0.1 C0.2.1 (C0.2.2.1.trans hl.1.symm) C0.2.2.2.1 (C0.2.2.2.2.1 _ tml_tw_293) (C0.2.2.2.2.1 _ tms_max) (C0.2.2.2.2.1 _ tmi) (C0.2.2.2.2.1 _ tmc_max) (Nat.le_of_ble_eq_true rfl) (Nat.le_of_ble_eq_true rfl) (Nat.zero_le _) (Nat.zero_le _) ⟨by omega, by omega⟩ ⟨by omega, by omega⟩ dX8_add_8 ?_
  refine z_asI (a := (max (((nl N1 : Nat) : Int)) (((nl (N2) : Nat) : Int)))) (b := ((max (nl N1) (nl N2) : Nat) : Int)) (by omega) ?_
  refine lv_istore_n (lv' := [(2, .int (zI (((max (nl N1) (nl N2) : Nat) : Int)))), (0, .ref (t)), (1, .ref (o))]) C0.1 C0.2.1 dX8_add_11 rfl hl (by decide) rfl (fun ls hl => ?_)
  refine lv_lconst (v := zL 0) C0.1 C0.2.1 dX8_add_12 rfl ?_
  refine lv_lstore_n (lv' := [(3, .long (zL (0))), (2, .int (zI (((max (nl N1) (nl N2) : Nat) : Int)))), (0, .ref (t)), (1, .ref (o))]) C0.1 C0.2.1 dX8_add_13 rfl hl (by decide) rfl (fun ls hl => ?_)
  refine lv_iconst (v := zI 0) C0.1 C0.2.1 dX8_add_14 rfl ?_
  refine lv_istore (lv' := [(5, .int (zI (0))), (3, .long (zL (0))), (2, .int (zI (((max (nl N1) (nl N2) : Nat) : Int)))), (0, .ref (t)), (1, .ref (o))]) C0.1 C0.2.1 dX8_add_15 hl (by decide) rfl (fun ls hl => ?_)
  have L17 : ∀ (k17 : Nat) (i cy : Nat) (f : Nat → Nat) (E1 : mE) (H : Heap) (locs : List Loc) (ls : Array Slot), (i ≤ max (nl N1) (nl N2) + 1) → (cy ≤ 1) → (∀ j, i ≤ j → j < nl N1 → f j = dg N1 j) → (bV f i + cy * 1000000000 ^ i = N1 % 1000000000 ^ i + N2 % 1000000000 ^ i) → (wR G E1 t (nl N1) f) → (isW G E1 o N2) → (∀ q : Nat, (q < t ∨ t + 2 ≤ q) → E1 q = E0 q) → max (nl N1) (nl N2) + 1 - i < k17 → mm_M G E1 H → va_S (mm_A G) s.heap H locs → lv_has ls 8 [(0, .ref (t)), (1, .ref (o)), (2, .int (zI (((max (nl N1) (nl N2) : Nat) : Int)))), (3, .long (zL ((cy : Int)))), (5, .int (zI ((i : Int))))] → W p l e rX8_add s m args below meth c H locs 0 0 (mm_Zv G below args s (fun E => isW G E t (N1 + N2) ∧ ∀ q : Nat, (q < t ∨ t + 2 ≤ q) → E q = E0 q)) (F0 m 17 ls []) := by
    intro k17
    induction k17 with
    | zero => intro i cy f E1 H locs ls hi hc hf hv hT hO hfr hk hM hS hl; exact absurd hk (Nat.not_lt_zero _)
    | succ k17 ih17 =>
      intro i cy f E1 H locs ls hi hc hf hv hT hO hfr hk17 hM hS hl
      have hd1 := dg_lt N1 i
      have hd2 := dg_lt N2 i
      refine lv_iload C0.1 C0.2.1 dX8_add_17 (lv_at hl 4 rfl) ?_
      refine lv_iload_n C0.1 C0.2.1 dX8_add_19 rfl (lv_at hl 2 rfl) ?_
      refine z_icmp_gt (tgt := 75) C0.1 C0.2.1 dX8_add_20 (by decide) ⟨by omega, by omega⟩ ⟨by omega, by omega⟩ (fun c_20 => ?_) (fun c_20 => ?_)
      · skip
        have hie : i = max (nl N1) (nl N2) + 1 := by omega
        subst hie
        refine lv_aload_n C0.1 C0.2.1 dX8_add_75 rfl (lv_at hl 0 rfl) ?_
        refine lv_iload_n C0.1 C0.2.1 dX8_add_76 rfl (lv_at hl 2 rfl) ?_
        refine lv_iconst (v := zI 1) C0.1 C0.2.1 dX8_add_77 rfl ?_
        refine z_iadd C0.1 C0.2.1 dX8_add_78 ?_
        refine mm_callVv (As := [.int (zI (((((max (nl N1) (nl N2) : Nat) : Int)) + (1))))]) C0 vw_X8_trim tw_286 (c_X8_trimW l G _ (N := N1 + N2) (m := max (nl N1) (nl N2) + 1) hT (add_lt (by omega) (by omega)) (by omega) (by omega) (add_end (c := cy) (by omega) (by omega) (fun j hj => hT.2.2.2 j (by omega)) hv)) hM (hT.1) rfl rfl hl.1 rfl (Nat.le_of_ble_eq_true rfl) ⟨rfl, rfl, Nat.le_of_ble_eq_true rfl, Nat.le_of_ble_eq_true rfl, Nat.zero_le _, Nat.zero_le _⟩ dX8_add_79 hS (fun E2 H locs hp hM hS => ?_)
        obtain ⟨hW, fr⟩ := hp
        have hO := isW.kept hO (fr _ (by omega)) (fr _ (by omega))
        have hfr := (fun q h => (fr q (by omega)).trans (hfr q h) : ∀ q : Nat, (q < t ∨ t + 2 ≤ q) → E2 q = E0 q)
        exact mm_vret C0 hr hlk hM hS dX8_add_82 (⟨hW, hfr⟩)
      · skip
        refine lv_aload_n C0.1 C0.2.1 dX8_add_23 rfl (lv_at hl 0 rfl) ?_
        refine lv_iload C0.1 C0.2.1 dX8_add_24 (lv_at hl 4 rfl) ?_
        refine mm_callVl (As := [.int (zI ((i : Int)))]) C0 vw_X8_limb tw_308 (c_X8_limb l G _ hT ⟨by omega, by omega⟩) hM (hT.1) rfl rfl hl.1 rfl (Nat.le_of_ble_eq_true rfl) ⟨rfl, rfl, Nat.le_of_ble_eq_true rfl, Nat.le_of_ble_eq_true rfl, Nat.zero_le _, Nat.zero_le _⟩ dX8_add_26 hS (fun z_26 E3 H locs hp hM hS => ?_)
        obtain ⟨hz_26, hEq⟩ := hp
        rw [hEq] at hM
        refine z_asL (b := (dg N1 i : Int)) (hz_26.trans (lmb_dg2 rfl (fun h => hf i (Nat.le_refl i) h))) ?_
        refine lv_aload_n C0.1 C0.2.1 dX8_add_29 rfl (lv_at hl 1 rfl) ?_
        refine lv_iload C0.1 C0.2.1 dX8_add_30 (lv_at hl 4 rfl) ?_
        refine mm_callVl (As := [.int (zI ((i : Int)))]) C0 vw_X8_limb tw_308 (c_X8_limbW l G _ hO i rfl ⟨by omega, by omega⟩) hM (hO.obj) rfl rfl hl.1 rfl (Nat.le_of_ble_eq_true rfl) ⟨rfl, rfl, Nat.le_of_ble_eq_true rfl, Nat.le_of_ble_eq_true rfl, Nat.zero_le _, Nat.zero_le _⟩ dX8_add_32 hS (fun z_32 E4 H locs hp hM hS => ?_)
        obtain ⟨hz_32, hEq⟩ := hp
        rw [hEq] at hM
        refine z_asL (b := (dg N2 i : Int)) (hz_32) ?_
        refine z_ladd C0.1 C0.2.1 dX8_add_35 ?_
        refine lv_lload_n C0.1 C0.2.1 dX8_add_36 rfl (lv_at hl 3 rfl) ?_
        refine z_ladd C0.1 C0.2.1 dX8_add_37 ?_
        refine z_asL (a := (((((dg N1 i : Int)) + ((dg N2 i : Int)))) + ((cy : Int)))) (b := ((dg N1 i + dg N2 i + cy : Nat) : Int)) (by omega) ?_
        refine lv_lstore (lv' := [(6, .long (zL (((dg N1 i + dg N2 i + cy : Nat) : Int)))), (0, .ref (t)), (1, .ref (o)), (2, .int (zI (((max (nl N1) (nl N2) : Nat) : Int)))), (3, .long (zL ((cy : Int)))), (5, .int (zI ((i : Int))))]) C0.1 C0.2.1 dX8_add_38 hl (by decide) rfl (fun ls hl => ?_)
        refine lv_lload C0.1 C0.2.1 dX8_add_40 (lv_at hl 0 rfl) ?_
        refine mm_ldc2 (z := 1000000000) C0 tw_281 rfl dX8_add_42 ?_
        refine z_lcmp_lt (tgt := 53) C0.1 C0.2.1 dX8_add_45 dX8_add_46 (by decide) ⟨by omega, by omega⟩ ⟨by omega, by omega⟩ (fun c_45 => ?_) (fun c_45 => ?_)
        · skip
          refine lv_lconst (v := zL 0) C0.1 C0.2.1 dX8_add_53 rfl ?_
          refine lv_lstore_n (lv' := [(3, .long (zL (0))), (6, .long (zL (((dg N1 i + dg N2 i + cy : Nat) : Int)))), (0, .ref (t)), (1, .ref (o)), (2, .int (zI (((max (nl N1) (nl N2) : Nat) : Int)))), (5, .int (zI ((i : Int))))]) C0.1 C0.2.1 dX8_add_54 rfl hl (by decide) rfl (fun ls hl => ?_)
          refine lv_aload_n C0.1 C0.2.1 dX8_add_55 rfl (lv_at hl 2 rfl) ?_
          refine lv_iload C0.1 C0.2.1 dX8_add_56 (lv_at hl 5 rfl) ?_
          refine lv_lload C0.1 C0.2.1 dX8_add_58 (lv_at hl 1 rfl) ?_
          refine lv_lload_n C0.1 C0.2.1 dX8_add_60 rfl (lv_at hl 0 rfl) ?_
          refine mm_ldc2 (z := 1000000000) C0 tw_281 rfl dX8_add_61 ?_
          refine z_lmul C0.1 C0.2.1 dX8_add_64 ?_
          refine z_lsub C0.1 C0.2.1 dX8_add_65 ?_
          refine mm_callVv (As := [.int (zI ((i : Int))), .long (zL (((((dg N1 i + dg N2 i + cy : Nat) : Int)) - (((0) * (1000000000))))))]) C0 vw_X8_write tw_282 (c_X8_write l G _ (dg N1 i + dg N2 i + cy - 0 * 1000000000) (by omega) (by omega) hT ⟨by omega, by omega⟩) hM (hT.1) rfl rfl hl.1 rfl (Nat.le_of_ble_eq_true rfl) ⟨rfl, rfl, Nat.le_of_ble_eq_true rfl, Nat.le_of_ble_eq_true rfl, Nat.zero_le _, Nat.zero_le _⟩ dX8_add_66 hS (fun E5 H locs hp hM hS => ?_)
          obtain ⟨hT, fr⟩ := hp
          have hO := isW.kept hO (fr _ (by omega)) (fr _ (by omega))
          have hfr := (fun q h => (fr q (by omega)).trans (hfr q h) : ∀ q : Nat, (q < t ∨ t + 2 ≤ q) → E5 q = E0 q)
          rw [wup_in (i := (i : Int)) (k := i) rfl (by omega)] at hT
          refine lv_iinc (v := zI (((i + 1 : Nat) : Int))) (lv' := [(5, .int (zI (((i + 1 : Nat) : Int)))), (3, .long (zL (0))), (6, .long (zL (((dg N1 i + dg N2 i + cy : Nat) : Int)))), (0, .ref (t)), (1, .ref (o)), (2, .int (zI (((max (nl N1) (nl N2) : Nat) : Int))))]) C0.1 C0.2.1 dX8_add_69 hl (k := 5) rfl (z_inc (a := (i : Int)) (n := 1) (by omega)) (by decide) rfl (fun ls hl => ?_)
          refine lv_goto (tgt := 17) C0.1 C0.2.1 dX8_add_72 (by decide) ?_
          exact ih17  (i + 1) 0 (nup f i (dg N1 i + dg N2 i + cy - 0 * 1000000000)) E5 _ _ _ (by omega) (by omega) (fun j h1 h2 => by rw [nup_n _ _ (by omega)]; exact hf j (by omega) h2) (add_step hv (by omega)) (hT) (hO) (hfr) (by omega) hM hS (lv_sub hl [3, 4, 5, 1, 0] rfl)
        · skip
          refine lv_lconst (v := zL 1) C0.1 C0.2.1 dX8_add_49 rfl ?_
          refine lv_goto (tgt := 54) C0.1 C0.2.1 dX8_add_50 (by decide) ?_
          refine lv_lstore_n (lv' := [(3, .long (zL (1))), (6, .long (zL (((dg N1 i + dg N2 i + cy : Nat) : Int)))), (0, .ref (t)), (1, .ref (o)), (2, .int (zI (((max (nl N1) (nl N2) : Nat) : Int)))), (5, .int (zI ((i : Int))))]) C0.1 C0.2.1 dX8_add_54 rfl hl (by decide) rfl (fun ls hl => ?_)
          refine lv_aload_n C0.1 C0.2.1 dX8_add_55 rfl (lv_at hl 2 rfl) ?_
          refine lv_iload C0.1 C0.2.1 dX8_add_56 (lv_at hl 5 rfl) ?_
          refine lv_lload C0.1 C0.2.1 dX8_add_58 (lv_at hl 1 rfl) ?_
          refine lv_lload_n C0.1 C0.2.1 dX8_add_60 rfl (lv_at hl 0 rfl) ?_
          refine mm_ldc2 (z := 1000000000) C0 tw_281 rfl dX8_add_61 ?_
          refine z_lmul C0.1 C0.2.1 dX8_add_64 ?_
          refine z_lsub C0.1 C0.2.1 dX8_add_65 ?_
          refine mm_callVv (As := [.int (zI ((i : Int))), .long (zL (((((dg N1 i + dg N2 i + cy : Nat) : Int)) - (((1) * (1000000000))))))]) C0 vw_X8_write tw_282 (c_X8_write l G _ (dg N1 i + dg N2 i + cy - 1 * 1000000000) (by omega) (by omega) hT ⟨by omega, by omega⟩) hM (hT.1) rfl rfl hl.1 rfl (Nat.le_of_ble_eq_true rfl) ⟨rfl, rfl, Nat.le_of_ble_eq_true rfl, Nat.le_of_ble_eq_true rfl, Nat.zero_le _, Nat.zero_le _⟩ dX8_add_66 hS (fun E6 H locs hp hM hS => ?_)
          obtain ⟨hT, fr⟩ := hp
          have hO := isW.kept hO (fr _ (by omega)) (fr _ (by omega))
          have hfr := (fun q h => (fr q (by omega)).trans (hfr q h) : ∀ q : Nat, (q < t ∨ t + 2 ≤ q) → E6 q = E0 q)
          rw [wup_in (i := (i : Int)) (k := i) rfl (by omega)] at hT
          refine lv_iinc (v := zI (((i + 1 : Nat) : Int))) (lv' := [(5, .int (zI (((i + 1 : Nat) : Int)))), (3, .long (zL (1))), (6, .long (zL (((dg N1 i + dg N2 i + cy : Nat) : Int)))), (0, .ref (t)), (1, .ref (o)), (2, .int (zI (((max (nl N1) (nl N2) : Nat) : Int))))]) C0.1 C0.2.1 dX8_add_69 hl (k := 5) rfl (z_inc (a := (i : Int)) (n := 1) (by omega)) (by decide) rfl (fun ls hl => ?_)
          refine lv_goto (tgt := 17) C0.1 C0.2.1 dX8_add_72 (by decide) ?_
          exact ih17  (i + 1) 1 (nup f i (dg N1 i + dg N2 i + cy - 1 * 1000000000)) E6 _ _ _ (by omega) (by omega) (fun j h1 h2 => by rw [nup_n _ _ (by omega)]; exact hf j (by omega) h2) (add_step hv (by omega)) (hT) (hO) (hfr) (by omega) hM hS (lv_sub hl [3, 4, 5, 1, 0] rfl)
  exact L17 (_ + 1) 0 0 f E0 _ _ _ (Nat.zero_le _) (Nat.zero_le _) (fun j _ h => hf j h) (by simp [bV, Nat.mod_one]) (hT) (hO) (hfr) (Nat.lt_succ_self _) hM hS (lv_sub hl [3, 4, 2, 1, 0] rfl)

def rX8_compareWith : Room := { frames := 1, cells := 0, slots := 0, locals := 21 }
theorem vw_X8_compareWith : mm_Vw RX8 yX8_compareWith cX8_compareWith 3 (some .int) 1 := ⟨tw_403, tw_404, tw_4, tw_405, by decide +kernel⟩
set_option maxHeartbeats 4000000 in
set_option maxRecDepth 100000 in
theorem c_X8_compareWith (l : Launch) (G : mG) (E0 : mE) {t o N1 N2 : Nat} (hT : isW G E0 t N1) (hO : isW G E0 o N2) : mm_Ci l yX8_compareWith (.code yX8_compareWith cX8_compareWith 3 (some .int) :: wsG) rX8_compareWith G [.ref (t), .ref (o)] E0 (fun z E => z = cmpZ N1 N2 ∧ E = E0) := by
  refine mm_of_i (by decide +kernel) (Nat.le_of_ble_eq_true rfl) ?_
  intro p e s m args below meth c ls C0 hr hlk hM hl hS
  have hl : lv_has ls 3 [(0, .ref (t)), (1, .ref (o))] := hl
  have hle := hT.le
  have hle2 := hO.le
  refine lv_aload_n C0.1 C0.2.1 dX8_compareWith_0 rfl (lv_at hl 0 rfl) ?_
  refine mm_get (fs := [.ref (t + 1), .int (zI (((nl (N1) : Nat) : Int)))]) C0 (C := RX8) (T := TX8) (N := 2) iG_X8 hM (hT.obj) rfl 1 (by decide) tw_82 rfl rfl dX8_compareWith_1 ?_
  refine lv_aload_n C0.1 C0.2.1 dX8_compareWith_4 rfl (lv_at hl 1 rfl) ?_
  refine mm_get (fs := [.ref (o + 1), .int (zI (((nl (N2) : Nat) : Int)))]) C0 (C := RX8) (T := TX8) (N := 2) iG_X8 hM (hO.obj) rfl 1 (by decide) tw_82 rfl rfl dX8_compareWith_5 ?_
  refine z_icmp_eq (tgt := 28) C0.1 C0.2.1 dX8_compareWith_8 (by decide) ⟨by omega, by omega⟩ ⟨by omega, by omega⟩ (fun c_8 => ?_) (fun c_8 => ?_)
  · skip
    refine lv_aload_n C0.1 C0.2.1 dX8_compareWith_28 rfl (lv_at hl 0 rfl) ?_
    refine mm_get (fs := [.ref (t + 1), .int (zI (((nl (N1) : Nat) : Int)))]) C0 (C := RX8) (T := TX8) (N := 2) iG_X8 hM (hT.obj) rfl 1 (by decide) tw_82 rfl rfl dX8_compareWith_29 ?_
    refine lv_iconst (v := zI 1) C0.1 C0.2.1 dX8_compareWith_32 rfl ?_
    refine z_isub C0.1 C0.2.1 dX8_compareWith_33 ?_
    refine lv_istore_n (lv' := [(2, .int (zI (((((nl (N1) : Nat) : Int)) - (1))))), (0, .ref (t)), (1, .ref (o))]) C0.1 C0.2.1 dX8_compareWith_34 rfl hl (by decide) rfl (fun ls hl => ?_)
    have L35 : ∀ (k35 : Nat) (u : Nat) (H : Heap) (locs : List Loc) (ls : Array Slot), (u ≤ nl N1) → (∀ j, u ≤ j → dg N1 j = dg N2 j) → u < k35 → mm_M G E0 H → va_S (mm_A G) s.heap H locs → lv_has ls 3 [(0, .ref (t)), (1, .ref (o)), (2, .int (zI ((u : Int) - 1)))] → W p l e rX8_compareWith s m args below meth c H locs 0 0 (mm_Zi G below args s (fun z E => z = cmpZ N1 N2 ∧ E = E0)) (F0 m 35 ls []) := by
      intro k35
      induction k35 with
      | zero => intro u H locs ls hu hz hk hM hS hl; exact absurd hk (Nat.not_lt_zero _)
      | succ k35 ih35 =>
        intro u H locs ls hu hz hk35 hM hS hl
        refine lv_iload_n C0.1 C0.2.1 dX8_compareWith_35 rfl (lv_at hl 2 rfl) ?_
        refine z_if_lt (tgt := 79) C0.1 C0.2.1 dX8_compareWith_36 (by decide) ⟨by omega, by omega⟩ (fun c_36 => ?_) (fun c_36 => ?_)
        · skip
          refine lv_iconst (v := zI 0) C0.1 C0.2.1 dX8_compareWith_79 rfl ?_
          exact mm_iret (z := 0) C0 hr hlk hM hS dX8_compareWith_80 (⟨(cmpZ_eq (dg_ext (fun j => hz j (by omega)))).symm, rfl⟩)
        · skip
          refine lv_aload_n C0.1 C0.2.1 dX8_compareWith_39 rfl (lv_at hl 0 rfl) ?_
          refine lv_iload_n C0.1 C0.2.1 dX8_compareWith_40 rfl (lv_at hl 2 rfl) ?_
          refine mm_callVl (As := [.int (zI ((u : Int) - 1))]) C0 vw_X8_limb tw_308 (c_X8_limbW l G _ hT (u - 1) (by omega) ⟨by omega, by omega⟩) hM (hT.obj) rfl rfl hl.1 rfl (Nat.le_of_ble_eq_true rfl) ⟨rfl, rfl, Nat.le_of_ble_eq_true rfl, Nat.le_of_ble_eq_true rfl, Nat.zero_le _, Nat.zero_le _⟩ dX8_compareWith_41 hS (fun z_41 E1 H locs hp hM hS => ?_)
          obtain ⟨hz_41, hEq⟩ := hp
          rw [hEq] at hM
          refine z_asL (b := (dg N1 (u - 1) : Int)) (hz_41) ?_
          have hd1 := dg_lt N1 (u - 1)
          have hd2 := dg_lt N2 (u - 1)
          refine lv_aload_n C0.1 C0.2.1 dX8_compareWith_44 rfl (lv_at hl 1 rfl) ?_
          refine lv_iload_n C0.1 C0.2.1 dX8_compareWith_45 rfl (lv_at hl 2 rfl) ?_
          refine mm_callVl (As := [.int (zI ((u : Int) - 1))]) C0 vw_X8_limb tw_308 (c_X8_limbW l G _ hO (u - 1) (by omega) ⟨by omega, by omega⟩) hM (hO.obj) rfl rfl hl.1 rfl (Nat.le_of_ble_eq_true rfl) ⟨rfl, rfl, Nat.le_of_ble_eq_true rfl, Nat.le_of_ble_eq_true rfl, Nat.zero_le _, Nat.zero_le _⟩ dX8_compareWith_46 hS (fun z_46 E2 H locs hp hM hS => ?_)
          obtain ⟨hz_46, hEq⟩ := hp
          rw [hEq] at hM
          refine z_asL (b := (dg N2 (u - 1) : Int)) (hz_46) ?_
          refine z_lcmp_eq (tgt := 73) C0.1 C0.2.1 dX8_compareWith_49 dX8_compareWith_50 (by decide) ⟨by omega, by omega⟩ ⟨by omega, by omega⟩ (fun c_49 => ?_) (fun c_49 => ?_)
          · skip
            refine lv_iinc (v := zI (((u - 1 : Nat) : Int) - 1)) (lv' := [(2, .int (zI (((u - 1 : Nat) : Int) - 1))), (0, .ref (t)), (1, .ref (o))]) C0.1 C0.2.1 dX8_compareWith_73 hl (k := 2) rfl (z_inc (a := (u : Int) - 1) (n := (-1)) (by omega)) (by decide) rfl (fun ls hl => ?_)
            refine lv_goto (tgt := 35) C0.1 C0.2.1 dX8_compareWith_76 (by decide) ?_
            exact ih35  (u - 1) _ _ _ (by omega) (fun j hj => if q : j = u - 1 then (by subst q; omega) else hz j (by omega))  (by omega) hM hS (lv_sub hl [1, 2, 0] rfl)
          · skip
            refine lv_aload_n C0.1 C0.2.1 dX8_compareWith_53 rfl (lv_at hl 0 rfl) ?_
            refine lv_iload_n C0.1 C0.2.1 dX8_compareWith_54 rfl (lv_at hl 2 rfl) ?_
            refine mm_callVl (As := [.int (zI ((u : Int) - 1))]) C0 vw_X8_limb tw_308 (c_X8_limbW l G _ hT (u - 1) (by omega) ⟨by omega, by omega⟩) hM (hT.obj) rfl rfl hl.1 rfl (Nat.le_of_ble_eq_true rfl) ⟨rfl, rfl, Nat.le_of_ble_eq_true rfl, Nat.le_of_ble_eq_true rfl, Nat.zero_le _, Nat.zero_le _⟩ dX8_compareWith_55 hS (fun z_55 E3 H locs hp hM hS => ?_)
            obtain ⟨hz_55, hEq⟩ := hp
            rw [hEq] at hM
            refine z_asL (b := (dg N1 (u - 1) : Int)) (hz_55) ?_
            refine lv_aload_n C0.1 C0.2.1 dX8_compareWith_58 rfl (lv_at hl 1 rfl) ?_
            refine lv_iload_n C0.1 C0.2.1 dX8_compareWith_59 rfl (lv_at hl 2 rfl) ?_
            refine mm_callVl (As := [.int (zI ((u : Int) - 1))]) C0 vw_X8_limb tw_308 (c_X8_limbW l G _ hO (u - 1) (by omega) ⟨by omega, by omega⟩) hM (hO.obj) rfl rfl hl.1 rfl (Nat.le_of_ble_eq_true rfl) ⟨rfl, rfl, Nat.le_of_ble_eq_true rfl, Nat.le_of_ble_eq_true rfl, Nat.zero_le _, Nat.zero_le _⟩ dX8_compareWith_60 hS (fun z_60 E4 H locs hp hM hS => ?_)
            obtain ⟨hz_60, hEq⟩ := hp
            rw [hEq] at hM
            refine z_asL (b := (dg N2 (u - 1) : Int)) (hz_60) ?_
            refine z_lcmp_le (tgt := 71) C0.1 C0.2.1 dX8_compareWith_63 dX8_compareWith_64 (by decide) ⟨by omega, by omega⟩ ⟨by omega, by omega⟩ (fun c_63 => ?_) (fun c_63 => ?_)
            · skip
              refine lv_iconst (v := zI (-1)) C0.1 C0.2.1 dX8_compareWith_71 rfl ?_
              exact mm_iret (z := (-1)) C0 hr hlk hM hS dX8_compareWith_72 (⟨(cmpZ_lt (dg_cmp (u := u - 1) (fun j hj => hz j (by omega)) (by omega))).symm, rfl⟩)
            · skip
              refine lv_iconst (v := zI 1) C0.1 C0.2.1 dX8_compareWith_67 rfl ?_
              refine lv_goto (tgt := 72) C0.1 C0.2.1 dX8_compareWith_68 (by decide) ?_
              exact mm_iret (z := 1) C0 hr hlk hM hS dX8_compareWith_72 (⟨(cmpZ_gt (dg_cmp (u := u - 1) (fun j hj => (hz j (by omega)).symm) (by omega))).symm, rfl⟩)
    exact L35 (_ + 1) (nl N1) _ _ _ (Nat.le_refl _) (fun j hj => by rw [dg_hi hj, dg_hi (by omega)])  (Nat.lt_succ_self _) hM hS (lv_sub hl [1, 2, 0] rfl)
  · skip
    refine lv_aload_n C0.1 C0.2.1 dX8_compareWith_11 rfl (lv_at hl 0 rfl) ?_
    refine mm_get (fs := [.ref (t + 1), .int (zI (((nl (N1) : Nat) : Int)))]) C0 (C := RX8) (T := TX8) (N := 2) iG_X8 hM (hT.obj) rfl 1 (by decide) tw_82 rfl rfl dX8_compareWith_12 ?_
    refine lv_aload_n C0.1 C0.2.1 dX8_compareWith_15 rfl (lv_at hl 1 rfl) ?_
    refine mm_get (fs := [.ref (o + 1), .int (zI (((nl (N2) : Nat) : Int)))]) C0 (C := RX8) (T := TX8) (N := 2) iG_X8 hM (hO.obj) rfl 1 (by decide) tw_82 rfl rfl dX8_compareWith_16 ?_
    refine z_icmp_le (tgt := 26) C0.1 C0.2.1 dX8_compareWith_19 (by decide) ⟨by omega, by omega⟩ ⟨by omega, by omega⟩ (fun c_19 => ?_) (fun c_19 => ?_)
    · skip
      refine lv_iconst (v := zI (-1)) C0.1 C0.2.1 dX8_compareWith_26 rfl ?_
      exact mm_iret (z := (-1)) C0 hr hlk hM hS dX8_compareWith_27 (⟨(cmpZ_lt (nl_cmp (by omega))).symm, rfl⟩)
    · skip
      refine lv_iconst (v := zI 1) C0.1 C0.2.1 dX8_compareWith_22 rfl ?_
      refine lv_goto (tgt := 27) C0.1 C0.2.1 dX8_compareWith_23 (by decide) ?_
      exact mm_iret (z := 1) C0 hr hlk hM hS dX8_compareWith_27 (⟨(cmpZ_gt (nl_cmp (by omega))).symm, rfl⟩)
