def rX8_subtract : Room := { frames := 2, cells := 0, slots := 0, locals := 45 }
theorem vw_X8_subtract : mm_Vw RX8 yX8_subtract cX8_subtract 8 none 1 := ⟨tw_463, tw_464, tw_4, tw_465, by decide +kernel⟩
set_option maxHeartbeats 4000000 in
set_option maxRecDepth 100000 in
theorem c_X8_subtract (l : Launch) (G : mG) (E0 : mE) {t o N1 N2 : Nat} (hA : isW G E0 t N1) (hO : isW G E0 o N2) (hne : t + 2 ≤ o ∨ o + 2 ≤ t) (hle : N2 ≤ N1) : mm_Cv l yX8_subtract (.code yX8_subtract cX8_subtract 8 none :: wsG) rX8_subtract G [.ref (t), .ref (o)] E0 (fun E => isW G E t (N1 - N2) ∧ ∀ q : Nat, (q < t ∨ t + 2 ≤ q) → E q = E0 q) := by
  refine mm_of_v (by decide +kernel) (Nat.le_of_ble_eq_true rfl) ?_
  intro p e s m args below meth c ls C0 hr hlk hM hl hS
  have hl : lv_has ls 8 [(0, .ref (t)), (1, .ref (o))] := hl
  have hn1 := hA.le
  obtain ⟨f, hT, hf⟩ := hA
  have hfr : ∀ q : Nat, (q < t ∨ t + 2 ≤ q) → E0 q = E0 q := fun _ _ => rfl
  refine lv_aload_n C0.1 C0.2.1 dX8_subtract_0 rfl (lv_at hl 0 rfl) ?_
  refine mm_get (fs := [.ref (t + 1), .int (zI (((nl N1 : Nat) : Int)))]) C0 (C := RX8) (T := TX8) (N := 2) iG_X8 hM (hT.1) rfl 1 (by decide) tw_82 rfl rfl dX8_subtract_1 ?_
  refine lv_istore_n (lv' := [(2, .int (zI (((nl N1 : Nat) : Int)))), (0, .ref (t)), (1, .ref (o))]) C0.1 C0.2.1 dX8_subtract_4 rfl hl (by decide) rfl (fun ls hl => ?_)
  refine lv_lconst (v := zL 0) C0.1 C0.2.1 dX8_subtract_5 rfl ?_
  refine lv_lstore_n (lv' := [(3, .long (zL (0))), (2, .int (zI (((nl N1 : Nat) : Int)))), (0, .ref (t)), (1, .ref (o))]) C0.1 C0.2.1 dX8_subtract_6 rfl hl (by decide) rfl (fun ls hl => ?_)
  refine lv_iconst (v := zI 0) C0.1 C0.2.1 dX8_subtract_7 rfl ?_
  refine lv_istore (lv' := [(5, .int (zI (0))), (3, .long (zL (0))), (2, .int (zI (((nl N1 : Nat) : Int)))), (0, .ref (t)), (1, .ref (o))]) C0.1 C0.2.1 dX8_subtract_8 hl (by decide) rfl (fun ls hl => ?_)
  have L10 : ∀ (k10 : Nat) (i cy : Nat) (f : Nat → Nat) (E1 : mE) (H : Heap) (locs : List Loc) (ls : Array Slot), (i ≤ nl N1) → (cy ≤ 1) → (∀ j, i ≤ j → j < nl N1 → f j = dg N1 j) → (bV f i + N2 % 1000000000 ^ i = N1 % 1000000000 ^ i + cy * 1000000000 ^ i) → (wR G E1 t (nl N1) f) → (isW G E1 o N2) → (∀ q : Nat, (q < t ∨ t + 2 ≤ q) → E1 q = E0 q) → nl N1 - i < k10 → mm_M G E1 H → va_S (mm_A G) s.heap H locs → lv_has ls 8 [(0, .ref (t)), (1, .ref (o)), (2, .int (zI (((nl N1 : Nat) : Int)))), (3, .long (zL ((cy : Int)))), (5, .int (zI ((i : Int))))] → W p l e rX8_subtract s m args below meth c H locs 0 0 (mm_Zv G below args s (fun E => isW G E t (N1 - N2) ∧ ∀ q : Nat, (q < t ∨ t + 2 ≤ q) → E q = E0 q)) (F0 m 10 ls []) := by
    intro k10
    induction k10 with
    | zero => intro i cy f E1 H locs ls hi hc hf hv hT hO hfr hk hM hS hl; exact absurd hk (Nat.not_lt_zero _)
    | succ k10 ih10 =>
      intro i cy f E1 H locs ls hi hc hf hv hT hO hfr hk10 hM hS hl
      have hd1 := dg_lt N1 i
      have hd2 := dg_lt N2 i
      refine lv_iload C0.1 C0.2.1 dX8_subtract_10 (lv_at hl 4 rfl) ?_
      refine lv_iload_n C0.1 C0.2.1 dX8_subtract_12 rfl (lv_at hl 2 rfl) ?_
      refine z_icmp_ge (tgt := 66) C0.1 C0.2.1 dX8_subtract_13 (by decide) ⟨by omega, by omega⟩ ⟨by omega, by omega⟩ (fun c_13 => ?_) (fun c_13 => ?_)
      · skip
        have hie : i = nl N1 := by omega
        subst hie
        refine lv_aload_n C0.1 C0.2.1 dX8_subtract_66 rfl (lv_at hl 0 rfl) ?_
        refine lv_iload_n C0.1 C0.2.1 dX8_subtract_67 rfl (lv_at hl 2 rfl) ?_
        refine mm_callVv (As := [.int (zI (((nl N1 : Nat) : Int)))]) C0 vw_X8_trim tw_286 (c_X8_trimW l G _ (N := N1 - N2) (m := nl N1) hT (Nat.lt_of_le_of_lt (Nat.sub_le _ _) (nl_self N1)) hn1 rfl (sub_end (c := cy) hle (nl_self N1) (fun j hj => hT.2.2.2 j (by omega)) hv)) hM (hT.1) rfl rfl hl.1 rfl (Nat.le_of_ble_eq_true rfl) ⟨rfl, rfl, Nat.le_of_ble_eq_true rfl, Nat.le_of_ble_eq_true rfl, Nat.zero_le _, Nat.zero_le _⟩ dX8_subtract_68 hS (fun E2 H locs hp hM hS => ?_)
        obtain ⟨hW, fr⟩ := hp
        have hO := isW.kept hO (fr _ (by omega)) (fr _ (by omega))
        have hfr := (fun q h => (fr q (by omega)).trans (hfr q h) : ∀ q : Nat, (q < t ∨ t + 2 ≤ q) → E2 q = E0 q)
        exact mm_vret C0 hr hlk hM hS dX8_subtract_71 (⟨hW, hfr⟩)
      · skip
        refine lv_aload_n C0.1 C0.2.1 dX8_subtract_16 rfl (lv_at hl 0 rfl) ?_
        refine lv_iload C0.1 C0.2.1 dX8_subtract_17 (lv_at hl 4 rfl) ?_
        refine mm_callVl (As := [.int (zI ((i : Int)))]) C0 vw_X8_limb tw_308 (c_X8_limb l G _ hT ⟨by omega, by omega⟩) hM (hT.1) rfl rfl hl.1 rfl (Nat.le_of_ble_eq_true rfl) ⟨rfl, rfl, Nat.le_of_ble_eq_true rfl, Nat.le_of_ble_eq_true rfl, Nat.zero_le _, Nat.zero_le _⟩ dX8_subtract_19 hS (fun z_19 E3 H locs hp hM hS => ?_)
        obtain ⟨hz_19, hEq⟩ := hp
        rw [hEq] at hM
        refine z_asL (b := (dg N1 i : Int)) (hz_19.trans (lmb_dg2 rfl (fun h => hf i (Nat.le_refl i) h))) ?_
        refine lv_aload_n C0.1 C0.2.1 dX8_subtract_22 rfl (lv_at hl 1 rfl) ?_
        refine lv_iload C0.1 C0.2.1 dX8_subtract_23 (lv_at hl 4 rfl) ?_
        refine mm_callVl (As := [.int (zI ((i : Int)))]) C0 vw_X8_limb tw_308 (c_X8_limbW l G _ hO i rfl ⟨by omega, by omega⟩) hM (hO.obj) rfl rfl hl.1 rfl (Nat.le_of_ble_eq_true rfl) ⟨rfl, rfl, Nat.le_of_ble_eq_true rfl, Nat.le_of_ble_eq_true rfl, Nat.zero_le _, Nat.zero_le _⟩ dX8_subtract_25 hS (fun z_25 E4 H locs hp hM hS => ?_)
        obtain ⟨hz_25, hEq⟩ := hp
        rw [hEq] at hM
        refine z_asL (b := (dg N2 i : Int)) (hz_25) ?_
        refine z_lsub C0.1 C0.2.1 dX8_subtract_28 ?_
        refine lv_lload_n C0.1 C0.2.1 dX8_subtract_29 rfl (lv_at hl 3 rfl) ?_
        refine z_lsub C0.1 C0.2.1 dX8_subtract_30 ?_
        refine z_asL (a := (((((dg N1 i : Int)) - ((dg N2 i : Int)))) - ((cy : Int)))) (b := (dg N1 i : Int) - (dg N2 i : Int) - (cy : Int)) (rfl) ?_
        refine lv_lstore (lv' := [(6, .long (zL ((dg N1 i : Int) - (dg N2 i : Int) - (cy : Int)))), (0, .ref (t)), (1, .ref (o)), (2, .int (zI (((nl N1 : Nat) : Int)))), (3, .long (zL ((cy : Int)))), (5, .int (zI ((i : Int))))]) C0.1 C0.2.1 dX8_subtract_31 hl (by decide) rfl (fun ls hl => ?_)
        refine lv_lload C0.1 C0.2.1 dX8_subtract_33 (lv_at hl 0 rfl) ?_
        refine lv_lconst (v := zL 0) C0.1 C0.2.1 dX8_subtract_35 rfl ?_
        refine z_lcmp_ge (tgt := 44) C0.1 C0.2.1 dX8_subtract_36 dX8_subtract_37 (by decide) ⟨by omega, by omega⟩ ⟨by omega, by omega⟩ (fun c_36 => ?_) (fun c_36 => ?_)
        · skip
          refine lv_lconst (v := zL 0) C0.1 C0.2.1 dX8_subtract_44 rfl ?_
          refine lv_lstore_n (lv' := [(3, .long (zL (0))), (6, .long (zL ((dg N1 i : Int) - (dg N2 i : Int) - (cy : Int)))), (0, .ref (t)), (1, .ref (o)), (2, .int (zI (((nl N1 : Nat) : Int)))), (5, .int (zI ((i : Int))))]) C0.1 C0.2.1 dX8_subtract_45 rfl hl (by decide) rfl (fun ls hl => ?_)
          refine lv_aload_n C0.1 C0.2.1 dX8_subtract_46 rfl (lv_at hl 2 rfl) ?_
          refine lv_iload C0.1 C0.2.1 dX8_subtract_47 (lv_at hl 5 rfl) ?_
          refine lv_lload C0.1 C0.2.1 dX8_subtract_49 (lv_at hl 1 rfl) ?_
          refine lv_lload_n C0.1 C0.2.1 dX8_subtract_51 rfl (lv_at hl 0 rfl) ?_
          refine mm_ldc2 (z := 1000000000) C0 tw_281 rfl dX8_subtract_52 ?_
          refine z_lmul C0.1 C0.2.1 dX8_subtract_55 ?_
          refine z_ladd C0.1 C0.2.1 dX8_subtract_56 ?_
          refine mm_callVv (As := [.int (zI ((i : Int))), .long (zL ((((dg N1 i : Int) - (dg N2 i : Int) - (cy : Int)) + (((0) * (1000000000))))))]) C0 vw_X8_write tw_282 (c_X8_write l G _ (dg N1 i + 0 * 1000000000 - dg N2 i - cy) (by omega) (by omega) hT ⟨by omega, by omega⟩) hM (hT.1) rfl rfl hl.1 rfl (Nat.le_of_ble_eq_true rfl) ⟨rfl, rfl, Nat.le_of_ble_eq_true rfl, Nat.le_of_ble_eq_true rfl, Nat.zero_le _, Nat.zero_le _⟩ dX8_subtract_57 hS (fun E5 H locs hp hM hS => ?_)
          obtain ⟨hT, fr⟩ := hp
          have hO := isW.kept hO (fr _ (by omega)) (fr _ (by omega))
          have hfr := (fun q h => (fr q (by omega)).trans (hfr q h) : ∀ q : Nat, (q < t ∨ t + 2 ≤ q) → E5 q = E0 q)
          rw [wup_in (i := (i : Int)) (k := i) rfl (by omega)] at hT
          refine lv_iinc (v := zI (((i + 1 : Nat) : Int))) (lv' := [(5, .int (zI (((i + 1 : Nat) : Int)))), (3, .long (zL (0))), (6, .long (zL ((dg N1 i : Int) - (dg N2 i : Int) - (cy : Int)))), (0, .ref (t)), (1, .ref (o)), (2, .int (zI (((nl N1 : Nat) : Int))))]) C0.1 C0.2.1 dX8_subtract_60 hl (k := 5) rfl (z_inc (a := (i : Int)) (n := 1) (by omega)) (by decide) rfl (fun ls hl => ?_)
          refine lv_goto (tgt := 10) C0.1 C0.2.1 dX8_subtract_63 (by decide) ?_
          exact ih10  (i + 1) 0 (nup f i (dg N1 i + 0 * 1000000000 - dg N2 i - cy)) E5 _ _ _ (by omega) (by omega) (fun j h1 h2 => by rw [nup_n _ _ (by omega)]; exact hf j (by omega) h2) (sub_step hv (by omega)) (hT) (hO) (hfr) (by omega) hM hS (lv_sub hl [3, 4, 5, 1, 0] rfl)
        · skip
          refine lv_lconst (v := zL 1) C0.1 C0.2.1 dX8_subtract_40 rfl ?_
          refine lv_goto (tgt := 45) C0.1 C0.2.1 dX8_subtract_41 (by decide) ?_
          refine lv_lstore_n (lv' := [(3, .long (zL (1))), (6, .long (zL ((dg N1 i : Int) - (dg N2 i : Int) - (cy : Int)))), (0, .ref (t)), (1, .ref (o)), (2, .int (zI (((nl N1 : Nat) : Int)))), (5, .int (zI ((i : Int))))]) C0.1 C0.2.1 dX8_subtract_45 rfl hl (by decide) rfl (fun ls hl => ?_)
          refine lv_aload_n C0.1 C0.2.1 dX8_subtract_46 rfl (lv_at hl 2 rfl) ?_
          refine lv_iload C0.1 C0.2.1 dX8_subtract_47 (lv_at hl 5 rfl) ?_
          refine lv_lload C0.1 C0.2.1 dX8_subtract_49 (lv_at hl 1 rfl) ?_
          refine lv_lload_n C0.1 C0.2.1 dX8_subtract_51 rfl (lv_at hl 0 rfl) ?_
          refine mm_ldc2 (z := 1000000000) C0 tw_281 rfl dX8_subtract_52 ?_
          refine z_lmul C0.1 C0.2.1 dX8_subtract_55 ?_
          refine z_ladd C0.1 C0.2.1 dX8_subtract_56 ?_
          refine mm_callVv (As := [.int (zI ((i : Int))), .long (zL ((((dg N1 i : Int) - (dg N2 i : Int) - (cy : Int)) + (((1) * (1000000000))))))]) C0 vw_X8_write tw_282 (c_X8_write l G _ (dg N1 i + 1 * 1000000000 - dg N2 i - cy) (by omega) (by omega) hT ⟨by omega, by omega⟩) hM (hT.1) rfl rfl hl.1 rfl (Nat.le_of_ble_eq_true rfl) ⟨rfl, rfl, Nat.le_of_ble_eq_true rfl, Nat.le_of_ble_eq_true rfl, Nat.zero_le _, Nat.zero_le _⟩ dX8_subtract_57 hS (fun E6 H locs hp hM hS => ?_)
          obtain ⟨hT, fr⟩ := hp
          have hO := isW.kept hO (fr _ (by omega)) (fr _ (by omega))
          have hfr := (fun q h => (fr q (by omega)).trans (hfr q h) : ∀ q : Nat, (q < t ∨ t + 2 ≤ q) → E6 q = E0 q)
          rw [wup_in (i := (i : Int)) (k := i) rfl (by omega)] at hT
          refine lv_iinc (v := zI (((i + 1 : Nat) : Int))) (lv' := [(5, .int (zI (((i + 1 : Nat) : Int)))), (3, .long (zL (1))), (6, .long (zL ((dg N1 i : Int) - (dg N2 i : Int) - (cy : Int)))), (0, .ref (t)), (1, .ref (o)), (2, .int (zI (((nl N1 : Nat) : Int))))]) C0.1 C0.2.1 dX8_subtract_60 hl (k := 5) rfl (z_inc (a := (i : Int)) (n := 1) (by omega)) (by decide) rfl (fun ls hl => ?_)
          refine lv_goto (tgt := 10) C0.1 C0.2.1 dX8_subtract_63 (by decide) ?_
          exact ih10  (i + 1) 1 (nup f i (dg N1 i + 1 * 1000000000 - dg N2 i - cy)) E6 _ _ _ (by omega) (by omega) (fun j h1 h2 => by rw [nup_n _ _ (by omega)]; exact hf j (by omega) h2) (sub_step hv (by omega)) (hT) (hO) (hfr) (by omega) hM hS (lv_sub hl [3, 4, 5, 1, 0] rfl)
  exact L10 (_ + 1) 0 0 f E0 _ _ _ (Nat.zero_le _) (Nat.zero_le _) (fun j _ h => hf j h) (by simp [bV, Nat.mod_one]) (hT) (hO) (hfr) (Nat.lt_succ_self _) hM hS (lv_sub hl [3, 4, 2, 1, 0] rfl)

def rX8_scale : Room := { frames := 2, cells := 0, slots := 0, locals := 45 }
theorem vw_X8_scale : mm_Vw RX8 yX8_scale cX8_scale 11 none 2 := ⟨tw_374, tw_375, tw_4, tw_376, by decide +kernel⟩
set_option maxHeartbeats 4000000 in
set_option maxRecDepth 100000 in
theorem c_X8_scale (l : Launch) (G : mG) (E0 : mE) {t N : Nat} {x y : Int} (a b : Nat) (hx : x = (a : Int)) (hy : y = (b : Int)) (hA : isW G E0 t N) (ha : a < 1000000000) (hb : b < 1000000000) (hn : nl N < 56) : mm_Cv l yX8_scale (.code yX8_scale cX8_scale 11 none :: wsG) rX8_scale G [.ref (t), .long (zL (x)), .long (zL (y))] E0 (fun E => isW G E t (N * a + b) ∧ ∀ q : Nat, (q < t ∨ t + 2 ≤ q) → E q = E0 q) := by
  refine mm_of_v (by decide +kernel) (Nat.le_of_ble_eq_true rfl) ?_
  intro p e s m args below meth c ls C0 hr hlk hM hl hS
  have hl : lv_has ls 11 [(0, .ref (t)), (1, .long (zL (x))), (3, .long (zL (y)))] := hl
  obtain ⟨f, hT, hf⟩ := hA
  have hfr : ∀ q : Nat, (q < t ∨ t + 2 ≤ q) → E0 q = E0 q := fun _ _ => rfl
  refine lv_aload_n C0.1 C0.2.1 dX8_scale_0 rfl (lv_at hl 0 rfl) ?_
  refine mm_get (fs := [.ref (t + 1), .int (zI (((nl N : Nat) : Int)))]) C0 (C := RX8) (T := TX8) (N := 2) iG_X8 hM (hT.1) rfl 1 (by decide) tw_82 rfl rfl dX8_scale_1 ?_
  refine lv_istore (lv' := [(5, .int (zI (((nl N : Nat) : Int)))), (0, .ref (t)), (1, .long (zL (x))), (3, .long (zL (y)))]) C0.1 C0.2.1 dX8_scale_4 hl (by decide) rfl (fun ls hl => ?_)
  refine lv_lload_n C0.1 C0.2.1 dX8_scale_6 rfl (lv_at hl 3 rfl) ?_
  refine lv_lstore (lv' := [(6, .long (zL (y))), (5, .int (zI (((nl N : Nat) : Int)))), (0, .ref (t)), (1, .long (zL (x))), (3, .long (zL (y)))]) C0.1 C0.2.1 dX8_scale_7 hl (by decide) rfl (fun ls hl => ?_)
  refine lv_iconst (v := zI 0) C0.1 C0.2.1 dX8_scale_9 rfl ?_
  refine lv_istore (lv' := [(8, .int (zI (0))), (6, .long (zL (y))), (5, .int (zI (((nl N : Nat) : Int)))), (0, .ref (t)), (1, .long (zL (x))), (3, .long (zL (y)))]) C0.1 C0.2.1 dX8_scale_10 hl (by decide) rfl (fun ls hl => ?_)
  have L12 : ∀ (k12 : Nat) (i cy : Nat) (f : Nat → Nat) (E1 : mE) (H : Heap) (locs : List Loc) (ls : Array Slot), (i ≤ nl N + 1) → (cy < 1000000000) → (∀ j, i ≤ j → j < nl N → f j = dg N j) → (bV f i + cy * 1000000000 ^ i = (N % 1000000000 ^ i) * a + b) → (wR G E1 t (nl N) f) → (∀ q : Nat, (q < t ∨ t + 2 ≤ q) → E1 q = E0 q) → nl N + 1 - i < k12 → mm_M G E1 H → va_S (mm_A G) s.heap H locs → lv_has ls 11 [(0, .ref (t)), (1, .long (zL (x))), (5, .int (zI (((nl N : Nat) : Int)))), (6, .long (zL ((cy : Int)))), (8, .int (zI ((i : Int))))] → W p l e rX8_scale s m args below meth c H locs 0 0 (mm_Zv G below args s (fun E => isW G E t (N * a + b) ∧ ∀ q : Nat, (q < t ∨ t + 2 ≤ q) → E q = E0 q)) (F0 m 12 ls []) := by
    intro k12
    induction k12 with
    | zero => intro i cy f E1 H locs ls hi hc hf hv hT hfr hk hM hS hl; exact absurd hk (Nat.not_lt_zero _)
    | succ k12 ih12 =>
      intro i cy f E1 H locs ls hi hc hf hv hT hfr hk12 hM hS hl
      have hd1 := dg_lt N i
      have hp := mul_bd hd1 ha hc
      refine lv_iload C0.1 C0.2.1 dX8_scale_12 (lv_at hl 4 rfl) ?_
      refine lv_iload C0.1 C0.2.1 dX8_scale_14 (lv_at hl 2 rfl) ?_
      refine z_icmp_gt (tgt := 58) C0.1 C0.2.1 dX8_scale_16 (by decide) ⟨by omega, by omega⟩ ⟨by omega, by omega⟩ (fun c_16 => ?_) (fun c_16 => ?_)
      · skip
        have hie : i = nl N + 1 := by omega
        subst hie
        refine lv_aload_n C0.1 C0.2.1 dX8_scale_58 rfl (lv_at hl 0 rfl) ?_
        refine lv_iload C0.1 C0.2.1 dX8_scale_59 (lv_at hl 2 rfl) ?_
        refine lv_iconst (v := zI 1) C0.1 C0.2.1 dX8_scale_61 rfl ?_
        refine z_iadd C0.1 C0.2.1 dX8_scale_62 ?_
        refine mm_callVv (As := [.int (zI (((((nl N : Nat) : Int)) + (1))))]) C0 vw_X8_trim tw_286 (c_X8_trimW l G _ (N := N * a + b) (m := nl N + 1) hT (scale_lt (nl_self N) ha hb) (by omega) (by omega) (scale_end (c := cy) (nl_self N) ha hb (fun j hj => hT.2.2.2 j (by omega)) hv)) hM (hT.1) rfl rfl hl.1 rfl (Nat.le_of_ble_eq_true rfl) ⟨rfl, rfl, Nat.le_of_ble_eq_true rfl, Nat.le_of_ble_eq_true rfl, Nat.zero_le _, Nat.zero_le _⟩ dX8_scale_63 hS (fun E2 H locs hp hM hS => ?_)
        obtain ⟨hW, fr⟩ := hp
        have hfr := (fun q h => (fr q (by omega)).trans (hfr q h) : ∀ q : Nat, (q < t ∨ t + 2 ≤ q) → E2 q = E0 q)
        exact mm_vret C0 hr hlk hM hS dX8_scale_66 (⟨hW, hfr⟩)
      · skip
        refine lv_aload_n C0.1 C0.2.1 dX8_scale_19 rfl (lv_at hl 0 rfl) ?_
        refine lv_iload C0.1 C0.2.1 dX8_scale_20 (lv_at hl 4 rfl) ?_
        refine mm_callVl (As := [.int (zI ((i : Int)))]) C0 vw_X8_limb tw_308 (c_X8_limb l G _ hT ⟨by omega, by omega⟩) hM (hT.1) rfl rfl hl.1 rfl (Nat.le_of_ble_eq_true rfl) ⟨rfl, rfl, Nat.le_of_ble_eq_true rfl, Nat.le_of_ble_eq_true rfl, Nat.zero_le _, Nat.zero_le _⟩ dX8_scale_22 hS (fun z_22 E3 H locs hp hM hS => ?_)
        obtain ⟨hz_22, hEq⟩ := hp
        rw [hEq] at hM
        refine z_asL (b := (dg N i : Int)) (hz_22.trans (lmb_dg2 rfl (fun h => hf i (Nat.le_refl i) h))) ?_
        refine lv_lload_n C0.1 C0.2.1 dX8_scale_25 rfl (lv_at hl 1 rfl) ?_
        refine z_lmul C0.1 C0.2.1 dX8_scale_26 ?_
        refine lv_lload C0.1 C0.2.1 dX8_scale_27 (lv_at hl 3 rfl) ?_
        refine z_ladd C0.1 C0.2.1 dX8_scale_29 ?_
        refine z_asL (a := (((((dg N i : Int)) * (x))) + ((cy : Int)))) (b := ((dg N i * a + cy : Nat) : Int)) (by rw [hx, Int.natCast_add, Int.natCast_mul]) ?_
        refine lv_lstore (lv' := [(9, .long (zL (((dg N i * a + cy : Nat) : Int)))), (0, .ref (t)), (1, .long (zL (x))), (5, .int (zI (((nl N : Nat) : Int)))), (6, .long (zL ((cy : Int)))), (8, .int (zI ((i : Int))))]) C0.1 C0.2.1 dX8_scale_30 hl (by decide) rfl (fun ls hl => ?_)
        refine lv_lload C0.1 C0.2.1 dX8_scale_32 (lv_at hl 0 rfl) ?_
        refine mm_ldc2 (z := 1000000000) C0 tw_281 rfl dX8_scale_34 ?_
        refine z_ldivp C0.1 C0.2.1 dX8_scale_37 ⟨by omega, by omega⟩ ⟨by omega, by omega⟩ (by omega) (by omega) ?_
        refine z_asL (a := ((((dg N i * a + cy : Nat) : Int)) / (1000000000))) (b := (((dg N i * a + cy) / 1000000000 : Nat) : Int)) (by omega) ?_
        refine lv_lstore (lv' := [(6, .long (zL ((((dg N i * a + cy) / 1000000000 : Nat) : Int)))), (9, .long (zL (((dg N i * a + cy : Nat) : Int)))), (0, .ref (t)), (1, .long (zL (x))), (5, .int (zI (((nl N : Nat) : Int)))), (8, .int (zI ((i : Int))))]) C0.1 C0.2.1 dX8_scale_38 hl (by decide) rfl (fun ls hl => ?_)
        refine lv_aload_n C0.1 C0.2.1 dX8_scale_40 rfl (lv_at hl 2 rfl) ?_
        refine lv_iload C0.1 C0.2.1 dX8_scale_41 (lv_at hl 5 rfl) ?_
        refine lv_lload C0.1 C0.2.1 dX8_scale_43 (lv_at hl 1 rfl) ?_
        refine mm_ldc2 (z := 1000000000) C0 tw_281 rfl dX8_scale_45 ?_
        refine z_lremp C0.1 C0.2.1 dX8_scale_48 ⟨by omega, by omega⟩ ⟨by omega, by omega⟩ (by omega) (by omega) ?_
        refine mm_callVv (As := [.int (zI ((i : Int))), .long (zL (((((dg N i * a + cy : Nat) : Int)) % (1000000000))))]) C0 vw_X8_write tw_282 (c_X8_write l G _ ((dg N i * a + cy) % 1000000000) (by omega) (by omega) hT ⟨by omega, by omega⟩) hM (hT.1) rfl rfl hl.1 rfl (Nat.le_of_ble_eq_true rfl) ⟨rfl, rfl, Nat.le_of_ble_eq_true rfl, Nat.le_of_ble_eq_true rfl, Nat.zero_le _, Nat.zero_le _⟩ dX8_scale_49 hS (fun E4 H locs hp hM hS => ?_)
        obtain ⟨hT, fr⟩ := hp
        have hfr := (fun q h => (fr q (by omega)).trans (hfr q h) : ∀ q : Nat, (q < t ∨ t + 2 ≤ q) → E4 q = E0 q)
        rw [wup_in (i := (i : Int)) (k := i) rfl (by omega)] at hT
        refine lv_iinc (v := zI (((i + 1 : Nat) : Int))) (lv' := [(8, .int (zI (((i + 1 : Nat) : Int)))), (6, .long (zL ((((dg N i * a + cy) / 1000000000 : Nat) : Int)))), (9, .long (zL (((dg N i * a + cy : Nat) : Int)))), (0, .ref (t)), (1, .long (zL (x))), (5, .int (zI (((nl N : Nat) : Int))))]) C0.1 C0.2.1 dX8_scale_52 hl (k := 5) rfl (z_inc (a := (i : Int)) (n := 1) (by omega)) (by decide) rfl (fun ls hl => ?_)
        refine lv_goto (tgt := 12) C0.1 C0.2.1 dX8_scale_55 (by decide) ?_
        exact ih12  (i + 1) ((dg N i * a + cy) / 1000000000) (nup f i ((dg N i * a + cy) % 1000000000)) E4 _ _ _ (by omega) (by omega) (fun j h1 h2 => by rw [nup_n _ _ (by omega)]; exact hf j (by omega) h2) (scale_step hv) (hT) (hfr) (by omega) hM hS (lv_sub hl [3, 4, 5, 1, 0] rfl)
  exact L12 (_ + 1) 0 b f E0 _ _ _ (Nat.zero_le _) (hb) (fun j _ h => hf j h) (by simp [bV, Nat.mod_one]) (hT) (hfr) (Nat.lt_succ_self _) hM hS (by rw [hy] at hl; exact lv_sub hl [3, 4, 2, 1, 0] rfl)

def rX8_shrink : Room := { frames := 2, cells := 0, slots := 0, locals := 45 }
theorem vw_X8_shrink : mm_Vw RX8 yX8_shrink cX8_shrink 8 (some .long) 1 := ⟨tw_423, tw_424, tw_4, tw_425, by decide +kernel⟩
set_option maxHeartbeats 4000000 in
set_option maxRecDepth 100000 in
theorem c_X8_shrink (l : Launch) (G : mG) (E0 : mE) {t N : Nat} {x : Int} (d : Nat) (hx : x = (d : Int)) (hA : isW G E0 t N) (hd : 0 < d) (hd2 : d < 1000000000) : mm_Cl l yX8_shrink (.code yX8_shrink cX8_shrink 8 (some .long) :: wsG) rX8_shrink G [.ref (t), .long (zL (x))] E0 (fun z E => z = ((N % d : Nat) : Int) ∧ isW G E t (N / d) ∧ ∀ q : Nat, (q < t ∨ t + 2 ≤ q) → E q = E0 q) := by
  refine mm_of_l (by decide +kernel) (Nat.le_of_ble_eq_true rfl) ?_
  intro p e s m args below meth c ls C0 hr hlk hM hl hS
  have hl : lv_has ls 8 [(0, .ref (t)), (1, .long (zL (x)))] := hl
  have hn1 := hA.le
  obtain ⟨f, hT, hf⟩ := hA
  have hfr : ∀ q : Nat, (q < t ∨ t + 2 ≤ q) → E0 q = E0 q := fun _ _ => rfl
  refine lv_lload_n C0.1 C0.2.1 dX8_shrink_0 rfl (lv_at hl 1 rfl) ?_
  refine lv_lconst (v := zL 0) C0.1 C0.2.1 dX8_shrink_1 rfl ?_
  refine z_lcmp_gt (tgt := 8) C0.1 C0.2.1 dX8_shrink_2 dX8_shrink_3 (by decide) ⟨by omega, by omega⟩ ⟨by omega, by omega⟩ (fun c_2 => ?_) (fun c_2 => ?_)
  · skip
    refine lv_lconst (v := zL 0) C0.1 C0.2.1 dX8_shrink_8 rfl ?_
    refine lv_lstore_n (lv' := [(3, .long (zL (0))), (0, .ref (t)), (1, .long (zL (x)))]) C0.1 C0.2.1 dX8_shrink_9 rfl hl (by decide) rfl (fun ls hl => ?_)
    refine lv_aload_n C0.1 C0.2.1 dX8_shrink_10 rfl (lv_at hl 1 rfl) ?_
    refine mm_get (fs := [.ref (t + 1), .int (zI (((nl N : Nat) : Int)))]) C0 (C := RX8) (T := TX8) (N := 2) iG_X8 hM (hT.1) rfl 1 (by decide) tw_82 rfl rfl dX8_shrink_11 ?_
    refine lv_iconst (v := zI 1) C0.1 C0.2.1 dX8_shrink_14 rfl ?_
    refine z_isub C0.1 C0.2.1 dX8_shrink_15 ?_
    refine lv_istore (lv' := [(5, .int (zI (((((nl N : Nat) : Int)) - (1))))), (3, .long (zL (0))), (0, .ref (t)), (1, .long (zL (x)))]) C0.1 C0.2.1 dX8_shrink_16 hl (by decide) rfl (fun ls hl => ?_)
    have L18 : ∀ (k18 : Nat) (u r : Nat) (f : Nat → Nat) (E1 : mE) (H : Heap) (locs : List Loc) (ls : Array Slot), (u ≤ nl N) → (r = N / 1000000000 ^ u % d) → (∀ j, j < u → f j = dg N j) → (∀ j, u ≤ j → j < nl N → f j = dg (N / d) j) → (wR G E1 t (nl N) f) → (∀ q : Nat, (q < t ∨ t + 2 ≤ q) → E1 q = E0 q) → u < k18 → mm_M G E1 H → va_S (mm_A G) s.heap H locs → lv_has ls 8 [(0, .ref (t)), (1, .long (zL (x))), (3, .long (zL ((r : Int)))), (5, .int (zI ((u : Int) - 1)))] → W p l e rX8_shrink s m args below meth c H locs 0 0 (mm_Zl G below args s (fun z E => z = ((N % d : Nat) : Int) ∧ isW G E t (N / d) ∧ ∀ q : Nat, (q < t ∨ t + 2 ≤ q) → E q = E0 q)) (F0 m 18 ls []) := by
      intro k18
      induction k18 with
      | zero => intro u r f E1 H locs ls hu hrr hf hf2 hT hfr hk hM hS hl; exact absurd hk (Nat.not_lt_zero _)
      | succ k18 ih18 =>
        intro u r f E1 H locs ls hu hrr hf hf2 hT hfr hk18 hM hS hl
        have hrd : r < d := by rw [hrr]; exact Nat.mod_lt _ hd
        refine lv_iload C0.1 C0.2.1 dX8_shrink_18 (lv_at hl 3 rfl) ?_
        refine z_if_lt (tgt := 58) C0.1 C0.2.1 dX8_shrink_20 (by decide) ⟨by omega, by omega⟩ (fun c_20 => ?_) (fun c_20 => ?_)
        · skip
          have hu0 : u = 0 := by omega
          subst hu0
          refine lv_aload_n C0.1 C0.2.1 dX8_shrink_58 rfl (lv_at hl 0 rfl) ?_
          refine lv_aload_n C0.1 C0.2.1 dX8_shrink_59 rfl (lv_at hl 0 rfl) ?_
          refine mm_get (fs := [.ref (t + 1), .int (zI (((nl N : Nat) : Int)))]) C0 (C := RX8) (T := TX8) (N := 2) iG_X8 hM (hT.1) rfl 1 (by decide) tw_82 rfl rfl dX8_shrink_60 ?_
          refine mm_callVv (As := [.int (zI (((nl N : Nat) : Int)))]) C0 vw_X8_trim tw_286 (c_X8_trimW l G _ (N := N / d) (m := nl N) hT (Nat.lt_of_le_of_lt (Nat.div_le_self _ _) (nl_self N)) hn1 rfl (fun j hj => hf2 j (by omega) hj)) hM (hT.1) rfl rfl hl.1 rfl (Nat.le_of_ble_eq_true rfl) ⟨rfl, rfl, Nat.le_of_ble_eq_true rfl, Nat.le_of_ble_eq_true rfl, Nat.zero_le _, Nat.zero_le _⟩ dX8_shrink_63 hS (fun E2 H locs hp hM hS => ?_)
          obtain ⟨hW, fr⟩ := hp
          have hfr := (fun q h => (fr q (by omega)).trans (hfr q h) : ∀ q : Nat, (q < t ∨ t + 2 ≤ q) → E2 q = E0 q)
          refine lv_lload_n C0.1 C0.2.1 dX8_shrink_66 rfl (lv_at hl 2 rfl) ?_
          exact mm_lret (z := (r : Int)) C0 hr hlk hM hS dX8_shrink_67 (⟨by rw [hrr, Nat.pow_zero, Nat.div_one], hW, hfr⟩)
        · skip
          obtain ⟨q1, q2, q3⟩ := shr_q (N := N) (u := u - 1) hd (by rw [hrr, show u - 1 + 1 = u by omega] : r = N / 1000000000 ^ (u - 1 + 1) % d)
          have hd1 := dg_lt N (u - 1)
          refine lv_lload_n C0.1 C0.2.1 dX8_shrink_23 rfl (lv_at hl 2 rfl) ?_
          refine mm_ldc2 (z := 1000000000) C0 tw_281 rfl dX8_shrink_24 ?_
          refine z_lmul C0.1 C0.2.1 dX8_shrink_27 ?_
          refine lv_aload_n C0.1 C0.2.1 dX8_shrink_28 rfl (lv_at hl 0 rfl) ?_
          refine lv_iload C0.1 C0.2.1 dX8_shrink_29 (lv_at hl 3 rfl) ?_
          refine mm_callVl (As := [.int (zI ((u : Int) - 1))]) C0 vw_X8_limb tw_308 (c_X8_limb l G _ hT ⟨by omega, by omega⟩) hM (hT.1) rfl rfl hl.1 rfl (Nat.le_of_ble_eq_true rfl) ⟨rfl, rfl, Nat.le_of_ble_eq_true rfl, Nat.le_of_ble_eq_true rfl, Nat.zero_le _, Nat.zero_le _⟩ dX8_shrink_31 hS (fun z_31 E3 H locs hp hM hS => ?_)
          obtain ⟨hz_31, hEq⟩ := hp
          rw [hEq] at hM
          refine z_asL (b := (dg N (u - 1) : Int)) (hz_31.trans (lmb_dg2 (by omega) (fun h => hf (u - 1) (by omega)))) ?_
          refine z_ladd C0.1 C0.2.1 dX8_shrink_34 ?_
          refine z_asL (a := (((((r : Int)) * (1000000000))) + ((dg N (u - 1) : Int)))) (b := ((r * 1000000000 + dg N (u - 1) : Nat) : Int)) (by omega) ?_
          refine lv_lstore (lv' := [(6, .long (zL (((r * 1000000000 + dg N (u - 1) : Nat) : Int)))), (0, .ref (t)), (1, .long (zL (x))), (3, .long (zL ((r : Int)))), (5, .int (zI ((u : Int) - 1)))]) C0.1 C0.2.1 dX8_shrink_35 hl (by decide) rfl (fun ls hl => ?_)
          refine lv_aload_n C0.1 C0.2.1 dX8_shrink_37 rfl (lv_at hl 1 rfl) ?_
          refine lv_iload C0.1 C0.2.1 dX8_shrink_38 (lv_at hl 4 rfl) ?_
          refine lv_lload C0.1 C0.2.1 dX8_shrink_40 (lv_at hl 0 rfl) ?_
          refine lv_lload_n C0.1 C0.2.1 dX8_shrink_42 rfl (lv_at hl 2 rfl) ?_
          refine z_ldivp C0.1 C0.2.1 dX8_shrink_43 ⟨by omega, by omega⟩ ⟨by omega, by omega⟩ (by omega) (by omega) ?_
          refine z_asL (a := ((((r * 1000000000 + dg N (u - 1) : Nat) : Int)) / (x))) (b := (((r * 1000000000 + dg N (u - 1)) / d : Nat) : Int)) (by rw [hx, Int.natCast_ediv]) ?_
          refine mm_callVv (As := [.int (zI ((u : Int) - 1)), .long (zL ((((r * 1000000000 + dg N (u - 1)) / d : Nat) : Int)))]) C0 vw_X8_write tw_282 (c_X8_write l G _ ((r * 1000000000 + dg N (u - 1)) / d) rfl q3 hT ⟨by omega, by omega⟩) hM (hT.1) rfl rfl hl.1 rfl (Nat.le_of_ble_eq_true rfl) ⟨rfl, rfl, Nat.le_of_ble_eq_true rfl, Nat.le_of_ble_eq_true rfl, Nat.zero_le _, Nat.zero_le _⟩ dX8_shrink_44 hS (fun E4 H locs hp hM hS => ?_)
          obtain ⟨hT, fr⟩ := hp
          have hfr := (fun q h => (fr q (by omega)).trans (hfr q h) : ∀ q : Nat, (q < t ∨ t + 2 ≤ q) → E4 q = E0 q)
          rw [wup_in (i := (u : Int) - 1) (k := u - 1) (by omega) (by omega)] at hT
          refine lv_lload C0.1 C0.2.1 dX8_shrink_47 (lv_at hl 0 rfl) ?_
          refine lv_lload_n C0.1 C0.2.1 dX8_shrink_49 rfl (lv_at hl 2 rfl) ?_
          refine z_lremp C0.1 C0.2.1 dX8_shrink_50 ⟨by omega, by omega⟩ ⟨by omega, by omega⟩ (by omega) (by omega) ?_
          refine z_asL (a := ((((r * 1000000000 + dg N (u - 1) : Nat) : Int)) % (x))) (b := (((r * 1000000000 + dg N (u - 1)) % d : Nat) : Int)) (by rw [hx, Int.natCast_emod]) ?_
          refine lv_lstore_n (lv' := [(3, .long (zL ((((r * 1000000000 + dg N (u - 1)) % d : Nat) : Int)))), (6, .long (zL (((r * 1000000000 + dg N (u - 1) : Nat) : Int)))), (0, .ref (t)), (1, .long (zL (x))), (5, .int (zI ((u : Int) - 1)))]) C0.1 C0.2.1 dX8_shrink_51 rfl hl (by decide) rfl (fun ls hl => ?_)
          refine lv_iinc (v := zI (((u - 1 : Nat) : Int) - 1)) (lv' := [(5, .int (zI (((u - 1 : Nat) : Int) - 1))), (3, .long (zL ((((r * 1000000000 + dg N (u - 1)) % d : Nat) : Int)))), (6, .long (zL (((r * 1000000000 + dg N (u - 1) : Nat) : Int)))), (0, .ref (t)), (1, .long (zL (x)))]) C0.1 C0.2.1 dX8_shrink_52 hl (k := 4) rfl (z_inc (a := (u : Int) - 1) (n := (-1)) (by omega)) (by decide) rfl (fun ls hl => ?_)
          refine lv_goto (tgt := 18) C0.1 C0.2.1 dX8_shrink_55 (by decide) ?_
          exact ih18  (u - 1) ((r * 1000000000 + dg N (u - 1)) % d) (nup f (u - 1) ((r * 1000000000 + dg N (u - 1)) / d)) E4 _ _ _ (by omega) (q2.symm) (fun j hj => by rw [nup_n _ _ (by omega)]; exact hf j (by omega)) (fun j h1 h2 => if q : j = u - 1 then (by subst q; rw [nup_s, q1]) else (by rw [nup_n _ _ q]; exact hf2 j (by omega) h2)) (hT) (hfr) (by omega) hM hS (lv_sub hl [3, 4, 1, 0] rfl)
    exact L18 (_ + 1) (nl N) 0 f E0 _ _ _ (Nat.le_refl _) (by rw [Nat.div_eq_of_lt (nl_self N), Nat.zero_mod]) (hf) (fun j h1 h2 => by omega) (hT) (hfr) (Nat.lt_succ_self _) hM hS (lv_sub hl [2, 3, 1, 0] rfl)
  · skip
    omega
