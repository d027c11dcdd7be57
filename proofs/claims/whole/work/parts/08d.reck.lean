def rX4_takeAway : Room := { frames := 2, cells := 0, slots := 0, locals := 50 }
theorem vw_X4_takeAway : mm_Vw RX4 yX4_takeAway cX4_takeAway 10 none 3 := ⟨tw_446, tp_6, tw_3, tw_447, by decide +kernel⟩
set_option maxHeartbeats 4000000 in
set_option maxRecDepth 100000 in
theorem c_X4_takeAway (l : Launch) (G : mG) (E0 : mE) {r m1 mq D : Nat} {f fq : Nat → Nat} (g j n : Nat) (hk : rk G E0 r) (hR : wR G E0 (r + 3) m1 f) (hQ : wR G E0 (r + 1) mq fq) (hD : isW G E0 (r + 5) D) (hjn : j + n < m1) (hn : nl D ≤ n + 1) (hD0 : 0 < D) (hg : g < 1000000000) (hq1 : bV (sh f j) (n + 1) / D ≤ g) (hq2 : g ≤ bV (sh f j) (n + 1) / D + 4) : mm_Cv l yX4_takeAway (.code yX4_takeAway cX4_takeAway 10 none :: wsG) rX4_takeAway G [.ref (r), .long (zL ((g : Int))), .int (zI ((j : Int))), .int (zI ((n : Int)))] E0 (fun E => (∃ f1 : Nat → Nat, wR G E (r + 3) m1 f1 ∧ wR G E (r + 1) mq (nup fq j (bV (sh f j) (n + 1) / D)) ∧ (∀ k, (k < j ∨ j + n < k) → f1 k = f k) ∧ bV (sh f1 j) (n + 1) = bV (sh f j) (n + 1) % D) ∧ ∀ q : Nat, (q < r + 1 ∨ r + 5 ≤ q) → E q = E0 q) := by
  refine mm_of_v (by decide +kernel) (Nat.le_of_ble_eq_true rfl) ?_
  intro p e s m args below meth c ls C0 hr hlk hM hl hS
  have hl : lv_has ls 10 [(0, .ref (r)), (1, .long (zL ((g : Int)))), (3, .int (zI ((j : Int)))), (4, .int (zI ((n : Int))))] := hl
  have hm1 := hR.2.2.1
  have hDn := (nl_le _ _).mp hn
  have hfr : ∀ q : Nat, (q < r + 1 ∨ r + 5 ≤ q) → E0 q = E0 q := fun _ _ => rfl
  refine lv_lconst (v := zL 0) C0.1 C0.2.1 dX4_takeAway_0 rfl ?_
  refine lv_lstore (lv' := [(5, .long (zL (0))), (0, .ref (r)), (1, .long (zL ((g : Int)))), (3, .int (zI ((j : Int)))), (4, .int (zI ((n : Int))))]) C0.1 C0.2.1 dX4_takeAway_1 hl (by decide) rfl (fun ls hl => ?_)
  refine lv_iconst (v := zI 0) C0.1 C0.2.1 dX4_takeAway_3 rfl ?_
  refine lv_istore (lv' := [(7, .int (zI (0))), (5, .long (zL (0))), (0, .ref (r)), (1, .long (zL ((g : Int)))), (3, .int (zI ((j : Int)))), (4, .int (zI ((n : Int))))]) C0.1 C0.2.1 dX4_takeAway_4 hl (by decide) rfl (fun ls hl => ?_)
  have L6 : ∀ (k6 : Nat) (i : Nat) (debt : Int) (f1 : Nat → Nat) (E1 : mE) (H : Heap) (locs : List Loc) (ls : Array Slot), (i ≤ n + 1) → (-999999999 ≤ debt ∧ debt ≤ 0) → (∀ k, (k < j ∨ j + i ≤ k) → f1 k = f k) → (tkI f1 f D i j g debt) → (wR G E1 (r + 3) m1 f1) → (rk G E1 r) → (wR G E1 (r + 1) mq fq) → (isW G E1 (r + 5) D) → (∀ q : Nat, (q < r + 1 ∨ r + 5 ≤ q) → E1 q = E0 q) → n + 1 - i < k6 → mm_M G E1 H → va_S (mm_A G) s.heap H locs → lv_has ls 10 [(0, .ref (r)), (1, .long (zL ((g : Int)))), (3, .int (zI ((j : Int)))), (4, .int (zI ((n : Int)))), (5, .long (zL (debt))), (7, .int (zI ((i : Int))))] → W p l e rX4_takeAway s m args below meth c H locs 0 0 (mm_Zv G below args s (fun E => (∃ f1 : Nat → Nat, wR G E (r + 3) m1 f1 ∧ wR G E (r + 1) mq (nup fq j (bV (sh f j) (n + 1) / D)) ∧ (∀ k, (k < j ∨ j + n < k) → f1 k = f k) ∧ bV (sh f1 j) (n + 1) = bV (sh f j) (n + 1) % D) ∧ ∀ q : Nat, (q < r + 1 ∨ r + 5 ≤ q) → E q = E0 q)) (F0 m 6 ls []) := by
    intro k6
    induction k6 with
    | zero => intro i debt f1 E1 H locs ls hi hdb hff hv hR hk hQ hD hfr hk hM hS hl; exact absurd hk (Nat.not_lt_zero _)
    | succ k6 ih6 =>
      intro i debt f1 E1 H locs ls hi hdb hff hv hR hk hQ hD hfr hk6 hM hS hl
      have hd2 := dg_lt D i
      refine lv_iload C0.1 C0.2.1 dX4_takeAway_6 (lv_at hl 5 rfl) ?_
      refine lv_iload C0.1 C0.2.1 dX4_takeAway_8 (lv_at hl 3 rfl) ?_
      refine z_icmp_gt (tgt := 76) C0.1 C0.2.1 dX4_takeAway_10 (by decide) ⟨by omega, by omega⟩ ⟨by omega, by omega⟩ (fun c_10 => ?_) (fun c_10 => ?_)
      · skip
        have hie : i = n + 1 := by omega
        refine lv_lload_n C0.1 C0.2.1 dX4_takeAway_76 rfl (lv_at hl 1 rfl) ?_
        refine lv_lstore (lv' := [(7, .long (zL ((g : Int)))), (0, .ref (r)), (1, .long (zL ((g : Int)))), (3, .int (zI ((j : Int)))), (4, .int (zI ((n : Int)))), (5, .long (zL (debt)))]) C0.1 C0.2.1 dX4_takeAway_77 hl (by decide) rfl (fun ls hl => ?_)
        refine lv_iconst (v := zI 0) C0.1 C0.2.1 dX4_takeAway_79 rfl ?_
        refine lv_istore (lv' := [(9, .int (zI (0))), (7, .long (zL ((g : Int)))), (0, .ref (r)), (1, .long (zL ((g : Int)))), (3, .int (zI ((j : Int)))), (4, .int (zI ((n : Int)))), (5, .long (zL (debt)))]) C0.1 C0.2.1 dX4_takeAway_80 hl (by decide) rfl (fun ls hl => ?_)
        have L82 : ∀ (k82 : Nat) (t : Nat) (debt : Int) (f1 : Nat → Nat) (E2 : mE) (H : Heap) (locs : List Loc) (ls : Array Slot), (t ≤ g - bV (sh f j) (n + 1) / D) → (-999999999 ≤ debt ∧ debt ≤ 1) → (∀ k, (k < j ∨ j + n < k) → f1 k = f k) → (tkJ f1 f D n j g t debt) → (wR G E2 (r + 3) m1 f1) → (rk G E2 r) → (wR G E2 (r + 1) mq fq) → (isW G E2 (r + 5) D) → (∀ q : Nat, (q < r + 1 ∨ r + 5 ≤ q) → E2 q = E0 q) → 4 - t < k82 → mm_M G E2 H → va_S (mm_A G) s.heap H locs → lv_has ls 10 [(0, .ref (r)), (1, .long (zL ((g : Int)))), (3, .int (zI ((j : Int)))), (4, .int (zI ((n : Int)))), (5, .long (zL (debt))), (7, .long (zL ((g : Int) - (t : Int)))), (9, .int (zI ((t : Int))))] → W p l e rX4_takeAway s m args below meth c H locs 0 0 (mm_Zv G below args s (fun E => (∃ f1 : Nat → Nat, wR G E (r + 3) m1 f1 ∧ wR G E (r + 1) mq (nup fq j (bV (sh f j) (n + 1) / D)) ∧ (∀ k, (k < j ∨ j + n < k) → f1 k = f k) ∧ bV (sh f1 j) (n + 1) = bV (sh f j) (n + 1) % D) ∧ ∀ q : Nat, (q < r + 1 ∨ r + 5 ≤ q) → E q = E0 q)) (F0 m 82 ls []) := by
          intro k82
          induction k82 with
          | zero => intro t debt f1 E2 H locs ls ht hdb hff hv hR hk hQ hD hfr hk hM hS hl; exact absurd hk (Nat.not_lt_zero _)
          | succ k82 ih82 =>
            intro t debt f1 E2 H locs ls ht hdb hff hv hR hk hQ hD hfr hk82 hM hS hl
            have hWt : bV (sh f1 j) (n + 1) < 1000000000 ^ (n + 1) := bV_lt (fun k hk => hR.2.2.2 (j + k) (by omega))
            obtain ⟨td1, td2⟩ := tk_done hD0 (Nat.le_of_lt hDn) hWt hv hq1 ht
            refine lv_iload C0.1 C0.2.1 dX4_takeAway_82 (lv_at hl 6 rfl) ?_
            refine lv_iconst (v := zI 4) C0.1 C0.2.1 dX4_takeAway_84 rfl ?_
            refine z_icmp_ge (tgt := 119) C0.1 C0.2.1 dX4_takeAway_85 (by decide) ⟨by omega, by omega⟩ ⟨by omega, by omega⟩ (fun c_85 => ?_) (fun c_85 => ?_)
            · skip
              obtain ⟨te1, te2⟩ := td2 (by have := td1; omega)
              refine lv_aload_n C0.1 C0.2.1 dX4_takeAway_119 rfl (lv_at hl 0 rfl) ?_
              refine mm_get (fs := [.ref (r + 1), .ref (r + 3), .ref (r + 5), .ref (r + 7), .ref (r + 9)]) C0 (C := RX4) (T := TX4) (N := 5) iG_X4 hM (hk) rfl 0 (by decide) tw_92 rfl rfl dX4_takeAway_120 ?_
              refine lv_iload_n C0.1 C0.2.1 dX4_takeAway_123 rfl (lv_at hl 2 rfl) ?_
              refine lv_lload C0.1 C0.2.1 dX4_takeAway_124 (lv_at hl 5 rfl) ?_
              refine z_asL (a := (g : Int) - (t : Int)) (b := ((bV (sh f j) (n + 1) / D : Nat) : Int)) (by omega) ?_
              refine mm_callVv (As := [.int (zI ((j : Int))), .long (zL (((bV (sh f j) (n + 1) / D : Nat) : Int)))]) C0 vw_X8_write tw_454 (c_X8_write l G _ (bV (sh f j) (n + 1) / D) rfl (by omega) hQ ⟨by omega, by omega⟩) hM (hQ.1) rfl rfl hl.1 rfl (Nat.le_of_ble_eq_true rfl) ⟨rfl, rfl, Nat.le_of_ble_eq_true rfl, Nat.le_of_ble_eq_true rfl, Nat.zero_le _, Nat.zero_le _⟩ dX4_takeAway_126 hS (fun E3 H locs hp hM hS => ?_)
              obtain ⟨hQ, fr⟩ := hp
              have hR := wR.kept hR (fr _ (by omega)) (fr _ (by omega))
              have hk := rk.kept hk (fr _ (by omega))
              have hD := isW.kept hD (fr _ (by omega)) (fr _ (by omega))
              have hfr := (fun q h => (fr q (by omega)).trans (hfr q h) : ∀ q : Nat, (q < r + 1 ∨ r + 5 ≤ q) → E3 q = E0 q)
              rw [wup_in (i := (j : Int)) (k := j) rfl (by omega)] at hQ
              exact mm_vret C0 hr hlk hM hS dX4_takeAway_129 (⟨⟨f1, hR, hQ, hff, te2⟩, hfr⟩)
            · skip
              refine lv_lload C0.1 C0.2.1 dX4_takeAway_88 (lv_at hl 4 rfl) ?_
              refine lv_lconst (v := zL 0) C0.1 C0.2.1 dX4_takeAway_90 rfl ?_
              refine z_lcmp_ge (tgt := 119) C0.1 C0.2.1 dX4_takeAway_91 dX4_takeAway_92 (by decide) ⟨by omega, by omega⟩ ⟨by omega, by omega⟩ (fun c_91 => ?_) (fun c_91 => ?_)
              · skip
                obtain ⟨te1, te2⟩ := td2 (by omega)
                refine lv_aload_n C0.1 C0.2.1 dX4_takeAway_119 rfl (lv_at hl 0 rfl) ?_
                refine mm_get (fs := [.ref (r + 1), .ref (r + 3), .ref (r + 5), .ref (r + 7), .ref (r + 9)]) C0 (C := RX4) (T := TX4) (N := 5) iG_X4 hM (hk) rfl 0 (by decide) tw_92 rfl rfl dX4_takeAway_120 ?_
                refine lv_iload_n C0.1 C0.2.1 dX4_takeAway_123 rfl (lv_at hl 2 rfl) ?_
                refine lv_lload C0.1 C0.2.1 dX4_takeAway_124 (lv_at hl 5 rfl) ?_
                refine z_asL (a := (g : Int) - (t : Int)) (b := ((bV (sh f j) (n + 1) / D : Nat) : Int)) (by omega) ?_
                refine mm_callVv (As := [.int (zI ((j : Int))), .long (zL (((bV (sh f j) (n + 1) / D : Nat) : Int)))]) C0 vw_X8_write tw_454 (c_X8_write l G _ (bV (sh f j) (n + 1) / D) rfl (by omega) hQ ⟨by omega, by omega⟩) hM (hQ.1) rfl rfl hl.1 rfl (Nat.le_of_ble_eq_true rfl) ⟨rfl, rfl, Nat.le_of_ble_eq_true rfl, Nat.le_of_ble_eq_true rfl, Nat.zero_le _, Nat.zero_le _⟩ dX4_takeAway_126 hS (fun E4 H locs hp hM hS => ?_)
                obtain ⟨hQ, fr⟩ := hp
                have hR := wR.kept hR (fr _ (by omega)) (fr _ (by omega))
                have hk := rk.kept hk (fr _ (by omega))
                have hD := isW.kept hD (fr _ (by omega)) (fr _ (by omega))
                have hfr := (fun q h => (fr q (by omega)).trans (hfr q h) : ∀ q : Nat, (q < r + 1 ∨ r + 5 ≤ q) → E4 q = E0 q)
                rw [wup_in (i := (j : Int)) (k := j) rfl (by omega)] at hQ
                exact mm_vret C0 hr hlk hM hS dX4_takeAway_129 (⟨⟨f1, hR, hQ, hff, te2⟩, hfr⟩)
              · skip
                refine lv_lload C0.1 C0.2.1 dX4_takeAway_95 (lv_at hl 4 rfl) ?_
                refine lv_aload_n C0.1 C0.2.1 dX4_takeAway_97 rfl (lv_at hl 0 rfl) ?_
                refine lv_iload_n C0.1 C0.2.1 dX4_takeAway_98 rfl (lv_at hl 2 rfl) ?_
                refine lv_iload C0.1 C0.2.1 dX4_takeAway_99 (lv_at hl 3 rfl) ?_
                refine mm_callVl (As := [.int (zI ((j : Int))), .int (zI ((n : Int)))]) C0 vw_X4_giveBack tw_455 (c_X4_giveBack l G _ j n hk hR hD hjn hn) hM (hk) rfl rfl hl.1 rfl (Nat.le_of_ble_eq_true rfl) ⟨rfl, rfl, Nat.le_of_ble_eq_true rfl, Nat.le_of_ble_eq_true rfl, Nat.zero_le _, Nat.zero_le _⟩ dX4_takeAway_101 hS (fun z2 E5 H locs hp hM hS => ?_)
                obtain ⟨⟨cy, f2, hz2, hcy, hR, hg2, hb2⟩, fr⟩ := hp
                have hk := rk.kept hk (fr _ (by omega))
                have hQ := wR.kept hQ (fr _ (by omega)) (fr _ (by omega))
                have hD := isW.kept hD (fr _ (by omega)) (fr _ (by omega))
                have hfr := (fun q h => (fr q (by omega)).trans (hfr q h) : ∀ q : Nat, (q < r + 1 ∨ r + 5 ≤ q) → E5 q = E0 q)
                refine z_asL (b := (cy : Int)) (hz2) ?_
                refine z_ladd C0.1 C0.2.1 dX4_takeAway_104 ?_
                refine lv_lstore (lv' := [(5, .long (zL (((debt) + ((cy : Int)))))), (0, .ref (r)), (1, .long (zL ((g : Int)))), (3, .int (zI ((j : Int)))), (4, .int (zI ((n : Int)))), (7, .long (zL ((g : Int) - (t : Int)))), (9, .int (zI ((t : Int))))]) C0.1 C0.2.1 dX4_takeAway_105 hl (by decide) rfl (fun ls hl => ?_)
                refine lv_lload C0.1 C0.2.1 dX4_takeAway_107 (lv_at hl 5 rfl) ?_
                refine lv_lconst (v := zL 1) C0.1 C0.2.1 dX4_takeAway_109 rfl ?_
                refine z_lsub C0.1 C0.2.1 dX4_takeAway_110 ?_
                refine z_asL (a := (((g : Int) - (t : Int)) - (1))) (b := (g : Int) - ((t + 1 : Nat) : Int)) (by omega) ?_
                refine lv_lstore (lv' := [(7, .long (zL ((g : Int) - ((t + 1 : Nat) : Int)))), (5, .long (zL (((debt) + ((cy : Int)))))), (0, .ref (r)), (1, .long (zL ((g : Int)))), (3, .int (zI ((j : Int)))), (4, .int (zI ((n : Int)))), (9, .int (zI ((t : Int))))]) C0.1 C0.2.1 dX4_takeAway_111 hl (by decide) rfl (fun ls hl => ?_)
                refine lv_iinc (v := zI (((t + 1 : Nat) : Int))) (lv' := [(9, .int (zI (((t + 1 : Nat) : Int)))), (7, .long (zL ((g : Int) - ((t + 1 : Nat) : Int)))), (5, .long (zL (((debt) + ((cy : Int)))))), (0, .ref (r)), (1, .long (zL ((g : Int)))), (3, .int (zI ((j : Int)))), (4, .int (zI ((n : Int))))]) C0.1 C0.2.1 dX4_takeAway_113 hl (k := 6) rfl (z_inc (a := (t : Int)) (n := 1) (by omega)) (by decide) rfl (fun ls hl => ?_)
                refine lv_goto (tgt := 82) C0.1 C0.2.1 dX4_takeAway_116 (by decide) ?_
                exact ih82  (t + 1) (debt + (cy : Int)) f2 E5 _ _ _ (by omega) (⟨by omega, by omega⟩) (fun k h => (hg2 k h).trans (hff k h)) (tkJ_s hb2 hv) (hR) (hk) (hQ) (hD) (hfr) (by omega) hM hS (lv_sub hl [3, 4, 5, 6, 2, 1, 0] rfl)
        exact L82 (_ + 1) 0 debt f1 E1 _ _ _ (Nat.zero_le _) (⟨by omega, by omega⟩) (fun k h => hff k (by omega)) (tkI_J hv hie hDn) (hR) (hk) (hQ) (hD) (hfr) (Nat.lt_succ_self _) hM hS (lv_sub hl [2, 3, 4, 5, 6, 1, 0] rfl)
      · skip
        have hf9 : f (i + j) < 1000000000 := by rw [← hff (i + j) (by omega)]; exact hR.2.2.2 _ (by omega)
        have hmb : g * dg D i ≤ 999999999 * 999999999 := Nat.mul_le_mul (by omega) (by omega)
        have hmb0 : ((g * dg D i : Nat) : Int) = (g : Int) * (dg D i : Int) := Int.natCast_mul _ _
        refine lv_aload_n C0.1 C0.2.1 dX4_takeAway_13 rfl (lv_at hl 0 rfl) ?_
        refine mm_get (fs := [.ref (r + 1), .ref (r + 3), .ref (r + 5), .ref (r + 7), .ref (r + 9)]) C0 (C := RX4) (T := TX4) (N := 5) iG_X4 hM (hk) rfl 1 (by decide) tw_94 rfl rfl dX4_takeAway_14 ?_
        refine lv_iload C0.1 C0.2.1 dX4_takeAway_17 (lv_at hl 5 rfl) ?_
        refine lv_iload_n C0.1 C0.2.1 dX4_takeAway_19 rfl (lv_at hl 2 rfl) ?_
        refine z_iadd C0.1 C0.2.1 dX4_takeAway_20 ?_
        refine mm_callVl (As := [.int (zI ((((i : Int)) + ((j : Int)))))]) C0 vw_X8_limb tw_421 (c_X8_limb l G _ hR ⟨by omega, by omega⟩) hM (hR.1) rfl rfl hl.1 rfl (Nat.le_of_ble_eq_true rfl) ⟨rfl, rfl, Nat.le_of_ble_eq_true rfl, Nat.le_of_ble_eq_true rfl, Nat.zero_le _, Nat.zero_le _⟩ dX4_takeAway_21 hS (fun z_21 E6 H locs hp hM hS => ?_)
        obtain ⟨hz_21, hEq⟩ := hp
        rw [hEq] at hM
        refine z_asL (b := ((f (i + j) : Nat) : Int)) (hz_21.trans ((lmb_in (k := i + j) (by omega) (by omega)).trans (by rw [hff (i + j) (by omega)]))) ?_
        refine lv_lload_n C0.1 C0.2.1 dX4_takeAway_24 rfl (lv_at hl 1 rfl) ?_
        refine lv_aload_n C0.1 C0.2.1 dX4_takeAway_25 rfl (lv_at hl 0 rfl) ?_
        refine mm_get (fs := [.ref (r + 1), .ref (r + 3), .ref (r + 5), .ref (r + 7), .ref (r + 9)]) C0 (C := RX4) (T := TX4) (N := 5) iG_X4 hM (hk) rfl 2 (by decide) tw_96 rfl rfl dX4_takeAway_26 ?_
        refine lv_iload C0.1 C0.2.1 dX4_takeAway_29 (lv_at hl 5 rfl) ?_
        refine mm_callVl (As := [.int (zI ((i : Int)))]) C0 vw_X8_limb tw_421 (c_X8_limbW l G _ hD i rfl ⟨by omega, by omega⟩) hM (hD.obj) rfl rfl hl.1 rfl (Nat.le_of_ble_eq_true rfl) ⟨rfl, rfl, Nat.le_of_ble_eq_true rfl, Nat.le_of_ble_eq_true rfl, Nat.zero_le _, Nat.zero_le _⟩ dX4_takeAway_31 hS (fun z_31 E7 H locs hp hM hS => ?_)
        obtain ⟨hz_31, hEq⟩ := hp
        rw [hEq] at hM
        refine z_asL (b := (dg D i : Int)) (hz_31) ?_
        refine z_lmul C0.1 C0.2.1 dX4_takeAway_34 ?_
        refine z_lsub C0.1 C0.2.1 dX4_takeAway_35 ?_
        refine lv_lload C0.1 C0.2.1 dX4_takeAway_36 (lv_at hl 4 rfl) ?_
        refine z_ladd C0.1 C0.2.1 dX4_takeAway_38 ?_
        refine z_asL (a := ((((((f (i + j) : Nat) : Int)) - ((((g : Int)) * ((dg D i : Int)))))) + (debt))) (b := ((f (i + j) : Int) - (g : Int) * (dg D i : Int) + debt)) (rfl) ?_
        refine lv_lstore (lv' := [(8, .long (zL (((f (i + j) : Int) - (g : Int) * (dg D i : Int) + debt)))), (0, .ref (r)), (1, .long (zL ((g : Int)))), (3, .int (zI ((j : Int)))), (4, .int (zI ((n : Int)))), (5, .long (zL (debt))), (7, .int (zI ((i : Int))))]) C0.1 C0.2.1 dX4_takeAway_39 hl (by decide) rfl (fun ls hl => ?_)
        refine lv_lload C0.1 C0.2.1 dX4_takeAway_41 (lv_at hl 0 rfl) ?_
        refine mm_ldc2 (z := 1000000000) C0 tw_430 rfl dX4_takeAway_43 ?_
        refine mm_callSl (As := [.long (zL (((f (i + j) : Int) - (g : Int) * (dg D i : Int) + debt))), .long (zL (1000000000))]) C0 sw_J9_floorDiv_f86c9 tw_448 (c_J9_floorDiv_f86c9 l G _ ⟨by omega, by omega⟩ (by omega) ⟨by omega, by omega⟩) hM rfl hl.1 rfl (Nat.le_of_ble_eq_true rfl) ⟨rfl, rfl, Nat.le_of_ble_eq_true rfl, Nat.le_of_ble_eq_true rfl, Nat.zero_le _, Nat.zero_le _⟩ dX4_takeAway_46 hS (fun z_46 E8 H locs hp hM hS => ?_)
        obtain ⟨hz_46, hEq⟩ := hp
        rw [hEq] at hM
        refine z_asL (b := ((f (i + j) : Int) - (g : Int) * (dg D i : Int) + debt) / 1000000000) (hz_46) ?_
        refine lv_lstore (lv' := [(5, .long (zL (((f (i + j) : Int) - (g : Int) * (dg D i : Int) + debt) / 1000000000))), (8, .long (zL (((f (i + j) : Int) - (g : Int) * (dg D i : Int) + debt)))), (0, .ref (r)), (1, .long (zL ((g : Int)))), (3, .int (zI ((j : Int)))), (4, .int (zI ((n : Int)))), (7, .int (zI ((i : Int))))]) C0.1 C0.2.1 dX4_takeAway_49 hl (by decide) rfl (fun ls hl => ?_)
        refine lv_aload_n C0.1 C0.2.1 dX4_takeAway_51 rfl (lv_at hl 2 rfl) ?_
        refine mm_get (fs := [.ref (r + 1), .ref (r + 3), .ref (r + 5), .ref (r + 7), .ref (r + 9)]) C0 (C := RX4) (T := TX4) (N := 5) iG_X4 hM (hk) rfl 1 (by decide) tw_94 rfl rfl dX4_takeAway_52 ?_
        refine lv_iload C0.1 C0.2.1 dX4_takeAway_55 (lv_at hl 6 rfl) ?_
        refine lv_iload_n C0.1 C0.2.1 dX4_takeAway_57 rfl (lv_at hl 4 rfl) ?_
        refine z_iadd C0.1 C0.2.1 dX4_takeAway_58 ?_
        refine lv_lload C0.1 C0.2.1 dX4_takeAway_59 (lv_at hl 1 rfl) ?_
        refine mm_ldc2 (z := 1000000000) C0 tw_430 rfl dX4_takeAway_61 ?_
        refine mm_callSl (As := [.long (zL (((f (i + j) : Int) - (g : Int) * (dg D i : Int) + debt))), .long (zL (1000000000))]) C0 sw_J9_floorMod_f86c9 tw_451 (c_J9_floorMod_f86c9 l G _ ⟨by omega, by omega⟩ (by omega) ⟨by omega, by omega⟩) hM rfl hl.1 rfl (Nat.le_of_ble_eq_true rfl) ⟨rfl, rfl, Nat.le_of_ble_eq_true rfl, Nat.le_of_ble_eq_true rfl, Nat.zero_le _, Nat.zero_le _⟩ dX4_takeAway_64 hS (fun z_64 E9 H locs hp hM hS => ?_)
        obtain ⟨hz_64, hEq⟩ := hp
        rw [hEq] at hM
        refine z_asL (b := ((f (i + j) : Int) - (g : Int) * (dg D i : Int) + debt) % 1000000000) (hz_64) ?_
        refine mm_callVv (As := [.int (zI ((((i : Int)) + ((j : Int))))), .long (zL (((f (i + j) : Int) - (g : Int) * (dg D i : Int) + debt) % 1000000000))]) C0 vw_X8_write tw_454 (c_X8_write l G _ (((f (i + j) : Int) - (g : Int) * (dg D i : Int) + debt) % 1000000000).toNat (by omega) (by omega) hR ⟨by omega, by omega⟩) hM (hR.1) rfl rfl hl.1 rfl (Nat.le_of_ble_eq_true rfl) ⟨rfl, rfl, Nat.le_of_ble_eq_true rfl, Nat.le_of_ble_eq_true rfl, Nat.zero_le _, Nat.zero_le _⟩ dX4_takeAway_67 hS (fun E10 H locs hp hM hS => ?_)
        obtain ⟨hR, fr⟩ := hp
        have hk := rk.kept hk (fr _ (by omega))
        have hQ := wR.kept hQ (fr _ (by omega)) (fr _ (by omega))
        have hD := isW.kept hD (fr _ (by omega)) (fr _ (by omega))
        have hfr := (fun q h => (fr q (by omega)).trans (hfr q h) : ∀ q : Nat, (q < r + 1 ∨ r + 5 ≤ q) → E10 q = E0 q)
        rw [wup_in (i := (i : Int) + (j : Int)) (k := i + j) (by omega) (by omega)] at hR
        refine lv_iinc (v := zI (((i + 1 : Nat) : Int))) (lv' := [(7, .int (zI (((i + 1 : Nat) : Int)))), (5, .long (zL (((f (i + j) : Int) - (g : Int) * (dg D i : Int) + debt) / 1000000000))), (8, .long (zL (((f (i + j) : Int) - (g : Int) * (dg D i : Int) + debt)))), (0, .ref (r)), (1, .long (zL ((g : Int)))), (3, .int (zI ((j : Int)))), (4, .int (zI ((n : Int))))]) C0.1 C0.2.1 dX4_takeAway_70 hl (k := 6) rfl (z_inc (a := (i : Int)) (n := 1) (by omega)) (by decide) rfl (fun ls hl => ?_)
        refine lv_goto (tgt := 6) C0.1 C0.2.1 dX4_takeAway_73 (by decide) ?_
        exact ih6  (i + 1) (((f (i + j) : Int) - (g : Int) * (dg D i : Int) + debt) / 1000000000) (nup f1 (i + j) (((f (i + j) : Int) - (g : Int) * (dg D i : Int) + debt) % 1000000000).toNat) E10 _ _ _ (by omega) (⟨by omega, by omega⟩) (fun k h => by rw [nup_n _ _ (by omega)]; exact hff k (by omega)) (tk_step hv (by omega)) (hR) (hk) (hQ) (hD) (hfr) (by omega) hM hS (lv_sub hl [3, 4, 5, 6, 1, 0] rfl)
  exact L6 (_ + 1) 0 0 f E0 _ _ _ (Nat.zero_le _) (⟨by omega, by omega⟩) (fun _ _ => rfl) (by simp [tkI, bV, Nat.mod_one]) (hR) (hk) (hQ) (hD) (hfr) (Nat.lt_succ_self _) hM hS (lv_sub hl [2, 3, 4, 5, 1, 0] rfl)
