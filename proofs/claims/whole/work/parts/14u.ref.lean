def rX10_readClaims : Room := { frames := 4, cells := 0, slots := 0, locals := 86 }
theorem vw_X10_readClaims : mm_Vw RX10 yX10_readClaims cX10_readClaims 3 (some .boolean) 0 := ⟨tw_1057, tp_25, tw_10, tw_1058, by decide +kernel⟩
set_option maxHeartbeats 4000000 in
set_option maxRecDepth 100000 in
theorem c_X10_readClaims (l : Launch) (G : mG) (E0 : mE) {h : Nat} {B : Nat → Int} {L : Nat} {x2 x3 x4 x5 x6 x7 x8 : Int} (hO : ro G E0 h (L : Int) x2 x3 x4 x5 x6 x7 x8) (hT : E0 (h + 4) = some (mm_I G 100 B)) (hk : okT B L) {c1 c2 c3 c4 : Nat → Int} (h4c : cl4 G E0 h c1 c2 c3 c4) : mm_Ci l yX10_readClaims (.code yX10_readClaims cX10_readClaims 3 (some .boolean) :: wsG) rX10_readClaims G [.ref (h)] E0 (fun z E => ((z = 1 ∧ ∃ (m : Nat) (d1 d2 d3 d4 : Nat → Int), 1 ≤ m ∧ m ≤ 8 ∧ (∃ y2 y3, ro G E h (L : Int) y2 y3 (m : Int) x5 x6 x7 x8) ∧ cl4 G E h d1 d2 d3 d4 ∧ (∀ j, j < m → clAt B L (clA B L j) d1 d2 d3 d4 j ∧ clZ B L (clA B L j) = 0) ∧ jdg B L 8 0 0 (-4) = wf B L m) ∨ (z = 0 ∧ ∃ a9 y3 y4, ro G E h (L : Int) ((a9 : Nat) : Int) y3 y4 x5 x6 x7 x8 ∧ a9 ≤ L ∧ (∃ d1 d2 d3 d4, cl4 G E h d1 d2 d3 d4) ∧ jdg B L 8 0 0 (-4) = -20 - ((skp B L a9 : Nat) : Int))) ∧ ∀ q : Nat, (q ≠ h ∧ ¬ (h + 5 ≤ q ∧ q ≤ h + 8)) → E q = E0 q) := by
  refine mm_of_i (by decide +kernel) (Nat.le_of_ble_eq_true rfl) ?_
  intro p e s m args below meth c ls C0 hr hlk hM hl hS
  have hl : lv_has ls 3 [(0, .ref (h))] := hl
  have hfr : ∀ q : Nat, (q ≠ h ∧ ¬ (h + 5 ≤ q ∧ q ≤ h + 8)) → E0 q = E0 q := fun _ _ => rfl
  have hL := hk.1
  
  refine lv_aload_n C0.1 C0.2.1 dX10_readClaims_0 rfl (lv_at hl 0 rfl) ?_
  refine lv_iconst (v := zI 0) C0.1 C0.2.1 dX10_readClaims_1 rfl ?_
  refine z_asI (a := 0) (b := ((clA B L 0 : Nat) : Int)) (rfl) ?_
  refine mm_put (v := .int (zI (((clA B L 0 : Nat) : Int)))) (fs := [.ref (h + 1), .ref (h + 2), .ref (h + 3), .ref (h + 4), .int (zI ((L : Int))), .int (zI (x2)), .long (zL (x3)), .ref (h + 5), .ref (h + 6), .ref (h + 7), .ref (h + 8), .int (zI (x4)), .int (zI (x5)), .int (zI (x6)), .int (zI (x7)), .int (zI (x8)), .ref (h + 9), .ref (h + 10), .ref (h + 11), .ref (h + 12)]) C0 (C := RX10) (T := TX10) (N := 20) iG_X10 tyX10 tyX10_ok nmX10 hM hS (hO) rfl 5 (by decide) tw_921 rfl rfl (ty := tyX10 5) (tyX10_ok 5 (by decide)) rfl rfl (Nat.le_of_ble_eq_true rfl) dX10_readClaims_2 (fun H locs hM hS hsz => ?_)
  obtain ⟨E1, hE1⟩ : ∃ X : mE, X = mm_up E0 (h) (.inr (9, [.ref (h + 1), .ref (h + 2), .ref (h + 3), .ref (h + 4), .int (zI ((L : Int))), .int (zI (((clA B L 0 : Nat) : Int))), .long (zL (x3)), .ref (h + 5), .ref (h + 6), .ref (h + 7), .ref (h + 8), .int (zI (x4)), .int (zI (x5)), .int (zI (x6)), .int (zI (x7)), .int (zI (x8)), .ref (h + 9), .ref (h + 10), .ref (h + 11), .ref (h + 12)])) := ⟨_, rfl⟩
  replace hM : mm_M G E1 H := by rw [hE1]; exact hM
  have frs : ∀ q : Nat, q ≠ h → E1 q = E0 q := fun q h => by rw [hE1]; exact mm_up_n _ _ h
  have hat : E1 (h) = some (.inr (9, [.ref (h + 1), .ref (h + 2), .ref (h + 3), .ref (h + 4), .int (zI ((L : Int))), .int (zI (((clA B L 0 : Nat) : Int))), .long (zL (x3)), .ref (h + 5), .ref (h + 6), .ref (h + 7), .ref (h + 8), .int (zI (x4)), .int (zI (x5)), .int (zI (x6)), .int (zI (x7)), .int (zI (x8)), .ref (h + 9), .ref (h + 10), .ref (h + 11), .ref (h + 12)])) := by rw [hE1]; exact mm_up_s _ _ _
  have hO : ro G E1 h (L : Int) ((clA B L 0 : Nat) : Int) x3 x4 x5 x6 x7 x8 := hat
  have h4c := h4c.kept (fun q hq => frs q (by omega))
  have hT := (frs _ (by omega)).trans hT
  have hfr := (fun q h => (frs q (by omega)).trans (hfr q h) : ∀ q : Nat, (q ≠ h ∧ ¬ (h + 5 ≤ q ∧ q ≤ h + 8)) → E1 q = E0 q)
  refine lv_iconst (v := zI 0) C0.1 C0.2.1 dX10_readClaims_5 rfl ?_
  refine lv_istore_n (lv' := [(1, .int (zI (0))), (0, .ref (h))]) C0.1 C0.2.1 dX10_readClaims_6 rfl hl (by decide) rfl (fun ls hl => ?_)
  have L7 : ∀ (k7 : Nat) (i : Nat) (y3 y4 : Int) (d1 d2 d3 d4 : Nat → Int) (E2 : mE) (H : Heap) (locs : List Loc) (ls : Array Slot), (i ≤ 7) → (clA B L i ≤ L) → (∀ j, j < i → clAt B L (clA B L j) d1 d2 d3 d4 j ∧ clZ B L (clA B L j) = 0) → (jdg B L 8 0 0 (-4) = jdg B L (8 - i) i (clA B L i) (wf B L i)) → (ro G E2 h (L : Int) ((clA B L i : Nat) : Int) y3 y4 x5 x6 x7 x8) → (E2 (h + 4) = some (mm_I G 100 B)) → (cl4 G E2 h d1 d2 d3 d4) → (∀ q : Nat, (q ≠ h ∧ ¬ (h + 5 ≤ q ∧ q ≤ h + 8)) → E2 q = E0 q) → 8 - i < k7 → mm_M G E2 H → va_S (mm_A G) s.heap H locs → lv_has ls 3 [(0, .ref (h)), (1, .int (zI ((i : Int))))] → W p l e rX10_readClaims s m args below meth c H locs 0 0 (mm_Zi G below args s (fun z E => ((z = 1 ∧ ∃ (m : Nat) (d1 d2 d3 d4 : Nat → Int), 1 ≤ m ∧ m ≤ 8 ∧ (∃ y2 y3, ro G E h (L : Int) y2 y3 (m : Int) x5 x6 x7 x8) ∧ cl4 G E h d1 d2 d3 d4 ∧ (∀ j, j < m → clAt B L (clA B L j) d1 d2 d3 d4 j ∧ clZ B L (clA B L j) = 0) ∧ jdg B L 8 0 0 (-4) = wf B L m) ∨ (z = 0 ∧ ∃ a9 y3 y4, ro G E h (L : Int) ((a9 : Nat) : Int) y3 y4 x5 x6 x7 x8 ∧ a9 ≤ L ∧ (∃ d1 d2 d3 d4, cl4 G E h d1 d2 d3 d4) ∧ jdg B L 8 0 0 (-4) = -20 - ((skp B L a9 : Nat) : Int))) ∧ ∀ q : Nat, (q ≠ h ∧ ¬ (h + 5 ≤ q ∧ q ≤ h + 8)) → E q = E0 q)) (F0 m 7 ls []) := by
    intro k7
    induction k7 with
    | zero => intro i y3 y4 d1 d2 d3 d4 E2 H locs ls hi ha hdt hj9 hO hT h4c hfr hk hM hS hl; exact absurd hk (Nat.not_lt_zero _)
    | succ k7 ih7 =>
      intro i y3 y4 d1 d2 d3 d4 E2 H locs ls hi ha hdt hj9 hO hT h4c hfr hk7 hM hS hl
      refine lv_iload_n C0.1 C0.2.1 dX10_readClaims_7 rfl (lv_at hl 1 rfl) ?_
      refine lv_bipush (v := zI 8) C0.1 C0.2.1 dX10_readClaims_8 rfl ?_
      refine z_icmp_ge (tgt := 71) C0.1 C0.2.1 dX10_readClaims_10 (by decide) ⟨by omega, by omega⟩ ⟨by omega, by omega⟩ (fun c_10 => ?_) (fun c_10 => ?_)
      · skip
        refine lv_iconst (v := zI 0) C0.1 C0.2.1 dX10_readClaims_71 rfl ?_
        exact mm_zret (z := 0) C0 hr hlk hM hS (by omega) dX10_readClaims_72 (by exfalso; omega)
      · skip
        refine lv_aload_n C0.1 C0.2.1 dX10_readClaims_13 rfl (lv_at hl 0 rfl) ?_
        refine lv_iload_n C0.1 C0.2.1 dX10_readClaims_14 rfl (lv_at hl 1 rfl) ?_
        refine mm_callVi (As := [.int (zI ((i : Int)))]) C0 vw_X10_readClaim tw_1059 (c_X10_readClaim l G _ hO hT hk ha h4c (k := i) rfl (by omega)) hM (hO) rfl rfl hl.1 rfl (Nat.le_of_ble_eq_true rfl) ⟨rfl, rfl, Nat.le_of_ble_eq_true rfl, Nat.le_of_ble_eq_true rfl, Nat.zero_le _, Nat.zero_le _⟩ dX10_readClaims_15 hS (fun z15 E3 H locs hp hM hS => ?_)
        obtain ⟨hz15, fr⟩ := hp
        have hT := (fr _ (by omega)).trans hT
        have hfr := (fun q h => (fr q (by omega)).trans (hfr q h) : ∀ q : Nat, (q ≠ h ∧ ¬ (h + 5 ≤ q ∧ q ≤ h + 8)) → E3 q = E0 q)
        have hz01 : z15 = 0 ∨ z15 = 1 := hz15.elim (fun h => Or.inr h.1) (fun h => Or.inl h.1)
        refine z_if_ne (tgt := 23) C0.1 C0.2.1 dX10_readClaims_18 (by decide) ⟨by omega, by omega⟩ (fun c_18 => ?_) (fun c_18 => ?_)
        · skip
          obtain ⟨hcz, ⟨y9, hO⟩, hLe9, e1, e2, e3, e4, h4c, hcA, hcB⟩ := hz15.elim (fun h => h.2) (fun h => by omega)
          have hdt2 : ∀ j, j < i + 1 → clAt B L (clA B L j) e1 e2 e3 e4 j ∧ clZ B L (clA B L j) = 0 := fun j hj => by
            by_cases q : j = i
            · subst q; exact ⟨hcA, hcz⟩
            · obtain ⟨b1, b2, b3, b4⟩ := hcB j q
              obtain ⟨⟨f1, f2, f3, f4, f5⟩, f6⟩ := hdt j (by omega)
              exact ⟨⟨b1.trans f1, b2.trans f2, fun q2 => b3.trans (f3 q2), fun q2 => b3.trans (f4 q2), b4.trans f5⟩, f6⟩
          clear hz15
          refine lv_aload_n C0.1 C0.2.1 dX10_readClaims_23 rfl (lv_at hl 0 rfl) ?_
          refine lv_iload_n C0.1 C0.2.1 dX10_readClaims_24 rfl (lv_at hl 1 rfl) ?_
          refine lv_iconst (v := zI 1) C0.1 C0.2.1 dX10_readClaims_25 rfl ?_
          refine z_iadd C0.1 C0.2.1 dX10_readClaims_26 ?_
          refine mm_put (v := .int (zI ((((i : Int)) + (1))))) (fs := [.ref (h + 1), .ref (h + 2), .ref (h + 3), .ref (h + 4), .int (zI ((L : Int))), .int (zI (((rnE B L (clP5 B L (clA B L i)) : Nat) : Int))), .long (zL (y9)), .ref (h + 5), .ref (h + 6), .ref (h + 7), .ref (h + 8), .int (zI (y4)), .int (zI (x5)), .int (zI (x6)), .int (zI (x7)), .int (zI (x8)), .ref (h + 9), .ref (h + 10), .ref (h + 11), .ref (h + 12)]) C0 (C := RX10) (T := TX10) (N := 20) iG_X10 tyX10 tyX10_ok nmX10 hM hS (hO) rfl 11 (by decide) tw_927 rfl rfl (ty := tyX10 11) (tyX10_ok 11 (by decide)) rfl rfl (Nat.le_of_ble_eq_true rfl) dX10_readClaims_27 (fun H locs hM hS hsz => ?_)
          obtain ⟨E4, hE4⟩ : ∃ X : mE, X = mm_up E3 (h) (.inr (9, [.ref (h + 1), .ref (h + 2), .ref (h + 3), .ref (h + 4), .int (zI ((L : Int))), .int (zI (((rnE B L (clP5 B L (clA B L i)) : Nat) : Int))), .long (zL (y9)), .ref (h + 5), .ref (h + 6), .ref (h + 7), .ref (h + 8), .int (zI ((((i : Int)) + (1)))), .int (zI (x5)), .int (zI (x6)), .int (zI (x7)), .int (zI (x8)), .ref (h + 9), .ref (h + 10), .ref (h + 11), .ref (h + 12)])) := ⟨_, rfl⟩
          replace hM : mm_M G E4 H := by rw [hE4]; exact hM
          have frs : ∀ q : Nat, q ≠ h → E4 q = E3 q := fun q h => by rw [hE4]; exact mm_up_n _ _ h
          have hat : E4 (h) = some (.inr (9, [.ref (h + 1), .ref (h + 2), .ref (h + 3), .ref (h + 4), .int (zI ((L : Int))), .int (zI (((rnE B L (clP5 B L (clA B L i)) : Nat) : Int))), .long (zL (y9)), .ref (h + 5), .ref (h + 6), .ref (h + 7), .ref (h + 8), .int (zI ((((i : Int)) + (1)))), .int (zI (x5)), .int (zI (x6)), .int (zI (x7)), .int (zI (x8)), .ref (h + 9), .ref (h + 10), .ref (h + 11), .ref (h + 12)])) := by rw [hE4]; exact mm_up_s _ _ _
          have hO : ro G E4 h (L : Int) ((rnE B L (clP5 B L (clA B L i)) : Nat) : Int) y9 ((i : Int) + 1) x5 x6 x7 x8 := hat
          have h4c := h4c.kept (fun q hq => frs q (by omega))
          have hT := (frs _ (by omega)).trans hT
          have hfr := (fun q h => (frs q (by omega)).trans (hfr q h) : ∀ q : Nat, (q ≠ h ∧ ¬ (h + 5 ≤ q ∧ q ≤ h + 8)) → E4 q = E0 q)
          refine lv_aload_n C0.1 C0.2.1 dX10_readClaims_30 rfl (lv_at hl 0 rfl) ?_
          refine mm_callVi (As := []) C0 vw_X10_nextByte tw_1028 (c_X10_nextByte l G _ hO hT hk hLe9) hM (hO) rfl rfl hl.1 rfl (Nat.le_of_ble_eq_true rfl) ⟨rfl, rfl, Nat.le_of_ble_eq_true rfl, Nat.le_of_ble_eq_true rfl, Nat.zero_le _, Nat.zero_le _⟩ dX10_readClaims_31 hS (fun z31 E5 H locs hp hM hS => ?_)
          obtain ⟨hz31, hO, fr⟩ := hp
          have hT := (fr _ (by omega)).trans hT
          have hfr := (fun q h => (fr q (by omega)).trans (hfr q h) : ∀ q : Nat, (q ≠ h ∧ ¬ (h + 5 ≤ q ∧ q ≤ h + 8)) → E5 q = E0 q)
          have h4c := h4c.kept (fun q hq => fr q (by omega))
          have hO : ro G E5 h (L : Int) ((clE B L (clA B L i) : Nat) : Int) y9 ((i : Int) + 1) x5 x6 x7 x8 := hO
          obtain ⟨hnb1, hnb2⟩ := nbZ_b (a := rnE B L (clP5 B L (clA B L i))) hk
          have hce : clE B L (clA B L i) ≤ L := clE_b hLe9
          have hcsi : skp B L (clE B L (clA B L i)) = clE B L (clA B L i) := skp_i (B := B) hLe9
          have hcs : (clE B L (clA B L i) < L ∧ z31 = B (clE B L (clA B L i)) ∧ 32 ≤ z31) ∨ (¬ clE B L (clA B L i) < L ∧ z31 = -1) := by
            by_cases q : clE B L (clA B L i) < L
            · have h8 := hk.2 _ q; unfold okB at h8; exact Or.inl ⟨q, hz31.trans (nbZ_p q), by rw [hz31, show nbZ B L (rnE B L (clP5 B L (clA B L i))) = B (clE B L (clA B L i)) from nbZ_p q]; exact h8.1⟩
            · exact Or.inr ⟨q, hz31.trans (nbZ_n q)⟩
          refine lv_istore_n (lv' := [(2, .int (zI (z31))), (0, .ref (h)), (1, .int (zI ((i : Int))))]) C0.1 C0.2.1 dX10_readClaims_34 rfl hl (by decide) rfl (fun ls hl => ?_)
          refine lv_iload_n C0.1 C0.2.1 dX10_readClaims_35 rfl (lv_at hl 0 rfl) ?_
          refine z_if_ge (tgt := 41) C0.1 C0.2.1 dX10_readClaims_36 (by decide) ⟨by omega, by omega⟩ (fun c_36 => ?_) (fun c_36 => ?_)
          · skip
            refine lv_iload_n C0.1 C0.2.1 dX10_readClaims_41 rfl (lv_at hl 0 rfl) ?_
            refine lv_bipush (v := zI 44) C0.1 C0.2.1 dX10_readClaims_42 rfl ?_
            refine z_icmp_ne (tgt := 53) C0.1 C0.2.1 dX10_readClaims_44 (by decide) ⟨by omega, by omega⟩ ⟨by omega, by omega⟩ (fun c_44 => ?_) (fun c_44 => ?_)
            · skip
              refine lv_iconst (v := zI 0) C0.1 C0.2.1 dX10_readClaims_53 rfl ?_
              exact mm_zret (z := 0) C0 hr hlk hM hS (by omega) dX10_readClaims_54 (⟨Or.inr ⟨rfl, clE B L (clA B L i), _, _, hO, hce, ⟨_, _, _, _, h4c⟩, by rw [hj9, jdg_s (r := 7 - i) (by omega), if_neg (fun q => q hcz), if_neg (by omega), if_pos (by omega), hcsi]⟩, hfr⟩)
            · skip
              refine lv_iload_n C0.1 C0.2.1 dX10_readClaims_47 rfl (lv_at hl 2 rfl) ?_
              refine lv_bipush (v := zI 7) C0.1 C0.2.1 dX10_readClaims_48 rfl ?_
              refine z_icmp_ne (tgt := 55) C0.1 C0.2.1 dX10_readClaims_50 (by decide) ⟨by omega, by omega⟩ ⟨by omega, by omega⟩ (fun c_50 => ?_) (fun c_50 => ?_)
              · skip
                refine lv_aload_n C0.1 C0.2.1 dX10_readClaims_55 rfl (lv_at hl 1 rfl) ?_
                refine lv_dup C0.1 C0.2.1 dX10_readClaims_56 rfl ?_
                refine mm_get (fs := [.ref (h + 1), .ref (h + 2), .ref (h + 3), .ref (h + 4), .int (zI ((L : Int))), .int (zI (((clE B L (clA B L i) : Nat) : Int))), .long (zL (y9)), .ref (h + 5), .ref (h + 6), .ref (h + 7), .ref (h + 8), .int (zI (((i : Int) + 1))), .int (zI (x5)), .int (zI (x6)), .int (zI (x7)), .int (zI (x8)), .ref (h + 9), .ref (h + 10), .ref (h + 11), .ref (h + 12)]) C0 (C := RX10) (T := TX10) (N := 20) iG_X10 hM (hO) rfl 5 (by decide) tw_921 rfl rfl dX10_readClaims_57 ?_
                refine lv_iconst (v := zI 1) C0.1 C0.2.1 dX10_readClaims_60 rfl ?_
                refine z_iadd C0.1 C0.2.1 dX10_readClaims_61 ?_
                refine z_asI (a := ((((clE B L (clA B L i) : Nat) : Int)) + (1))) (b := ((clA B L (i + 1) : Nat) : Int)) (by show _ = ((clE B L (clA B L i) + 1 : Nat) : Int); omega) ?_
                refine mm_put (v := .int (zI (((clA B L (i + 1) : Nat) : Int)))) (fs := [.ref (h + 1), .ref (h + 2), .ref (h + 3), .ref (h + 4), .int (zI ((L : Int))), .int (zI (((clE B L (clA B L i) : Nat) : Int))), .long (zL (y9)), .ref (h + 5), .ref (h + 6), .ref (h + 7), .ref (h + 8), .int (zI (((i : Int) + 1))), .int (zI (x5)), .int (zI (x6)), .int (zI (x7)), .int (zI (x8)), .ref (h + 9), .ref (h + 10), .ref (h + 11), .ref (h + 12)]) C0 (C := RX10) (T := TX10) (N := 20) iG_X10 tyX10 tyX10_ok nmX10 hM hS (hO) rfl 5 (by decide) tw_921 rfl rfl (ty := tyX10 5) (tyX10_ok 5 (by decide)) rfl rfl (Nat.le_of_ble_eq_true rfl) dX10_readClaims_62 (fun H locs hM hS hsz => ?_)
                obtain ⟨E6, hE6⟩ : ∃ X : mE, X = mm_up E5 (h) (.inr (9, [.ref (h + 1), .ref (h + 2), .ref (h + 3), .ref (h + 4), .int (zI ((L : Int))), .int (zI (((clA B L (i + 1) : Nat) : Int))), .long (zL (y9)), .ref (h + 5), .ref (h + 6), .ref (h + 7), .ref (h + 8), .int (zI (((i : Int) + 1))), .int (zI (x5)), .int (zI (x6)), .int (zI (x7)), .int (zI (x8)), .ref (h + 9), .ref (h + 10), .ref (h + 11), .ref (h + 12)])) := ⟨_, rfl⟩
                replace hM : mm_M G E6 H := by rw [hE6]; exact hM
                have frs : ∀ q : Nat, q ≠ h → E6 q = E5 q := fun q h => by rw [hE6]; exact mm_up_n _ _ h
                have hat : E6 (h) = some (.inr (9, [.ref (h + 1), .ref (h + 2), .ref (h + 3), .ref (h + 4), .int (zI ((L : Int))), .int (zI (((clA B L (i + 1) : Nat) : Int))), .long (zL (y9)), .ref (h + 5), .ref (h + 6), .ref (h + 7), .ref (h + 8), .int (zI (((i : Int) + 1))), .int (zI (x5)), .int (zI (x6)), .int (zI (x7)), .int (zI (x8)), .ref (h + 9), .ref (h + 10), .ref (h + 11), .ref (h + 12)])) := by rw [hE6]; exact mm_up_s _ _ _
                have hO : ro G E6 h (L : Int) ((clA B L (i + 1) : Nat) : Int) y9 ((i : Int) + 1) x5 x6 x7 x8 := hat
                have h4c := h4c.kept (fun q hq => frs q (by omega))
                have hT := (frs _ (by omega)).trans hT
                have hfr := (fun q h => (frs q (by omega)).trans (hfr q h) : ∀ q : Nat, (q ≠ h ∧ ¬ (h + 5 ≤ q ∧ q ≤ h + 8)) → E6 q = E0 q)
                refine lv_iinc (v := zI (((i + 1 : Nat) : Int))) (lv' := [(1, .int (zI (((i + 1 : Nat) : Int)))), (2, .int (zI (z31))), (0, .ref (h))]) C0.1 C0.2.1 dX10_readClaims_65 hl (k := 2) rfl (z_inc (a := (i : Int)) (n := 1) (by omega)) (by decide) rfl (fun ls hl => ?_)
                refine lv_goto (tgt := 7) C0.1 C0.2.1 dX10_readClaims_68 (by decide) ?_
                exact ih7  (i + 1) _ _ e1 e2 e3 e4 E6 _ _ _ (by omega) (by show clE B L (clA B L i) + 1 ≤ L; omega) (hdt2) (by rw [hj9, jdg_s (r := 7 - i) (by omega), if_neg (fun q => q hcz), if_neg (by omega), if_neg (by omega), show 8 - (i + 1) = 7 - i by omega]; rfl) (hO) (hT) (h4c) (hfr) (by omega) hM hS (lv_sub hl [2, 0] rfl)
              · skip
                refine lv_iconst (v := zI 0) C0.1 C0.2.1 dX10_readClaims_53 rfl ?_
                exact mm_zret (z := 0) C0 hr hlk hM hS (by omega) dX10_readClaims_54 (⟨Or.inr ⟨rfl, clE B L (clA B L i), _, _, hO, hce, ⟨_, _, _, _, h4c⟩, by rw [hj9, jdg_s (r := 7 - i) (by omega), if_neg (fun q => q hcz), if_neg (by omega), if_pos (by omega), hcsi]⟩, hfr⟩)
          · skip
            refine lv_iconst (v := zI 1) C0.1 C0.2.1 dX10_readClaims_39 rfl ?_
            exact mm_zret (z := 1) C0 hr hlk hM hS (by omega) dX10_readClaims_40 (⟨Or.inl ⟨rfl, i + 1, e1, e2, e3, e4, by omega, by omega, ⟨_, _, hO⟩, h4c, hdt2, by rw [hj9, jdg_s (r := 7 - i) (by omega), if_neg (fun q => q hcz), if_pos (by omega)]; rfl⟩, hfr⟩)
        · skip
          obtain ⟨hcz, a9, y9, hO, hcf, ha9, e1, e2, e3, e4, h4c⟩ := hz15.elim (fun h => by omega) (fun h => h.2)
          clear hz15
          refine lv_iconst (v := zI 0) C0.1 C0.2.1 dX10_readClaims_21 rfl ?_
          exact mm_zret (z := 0) C0 hr hlk hM hS (by omega) dX10_readClaims_22 (⟨Or.inr ⟨rfl, a9, _, _, hO, ha9, ⟨_, _, _, _, h4c⟩, by rw [hj9, jdg_s (r := 7 - i) (by omega), if_pos hcz, hcf]⟩, hfr⟩)
  exact L7 (_ + 1) 0 x3 x4 c1 c2 c3 c4 E1 _ _ _ (Nat.zero_le _) (Nat.zero_le _) (fun j hj => absurd hj (Nat.not_lt_zero _)) (rfl) (hO) (hT) (h4c) (hfr) (Nat.lt_succ_self _) hM hS (lv_sub hl [1, 0] rfl)

theorem clZ_k {B : Nat → Int} {L a : Nat} (h : clZ B L a = 0) (q6 : 3 ≤ clD B L a) : rnV B L (clP2 B L a + 1) ≤ 99 := by
  unfold clZ at h
  split at h
  · omega
  · split at h
    · omega
    · split at h
      · omega
      · split at h
        · rename_i q5; exact absurd h q5.2
        · rename_i q5
          have h8 : cnZ B L (clP2 B L a + 1) = 0 := Classical.byContradiction fun q => q5 ⟨q6, q⟩
          unfold cnZ at h8
          split at h8
          · omega
          · rename_i q7; exact (rn_k q7).2
theorem rfx.claims {G : mG} {E E1 : mE} {h : Nat} {S : mST} {R R1 : Nat → Nat} {x2 x3 x4 x5 x6 x7 y2 y3 y4 y5 y6 y7 : Int} {d1 d2 d3 d4 : Nat → Int} (a : rfx G E h S R x2 x3 x4 x5 x6 x7) (hO : ro G E1 h ((0 : Nat) : Int) y2 y3 y4 y5 y6 y7 S.1.1) (hR : rg G E1 h R1) (hp : ∀ r, r < 8 → R1 r = R r) (hT : E1 (h + 4) = some (mm_I G 100 S.1.2.1)) (hc : cl4 G E1 h d1 d2 d3 d4) (fr : ∀ q, (q ≠ h ∧ q ≠ h + 1 ∧ ¬ (h + 5 ≤ q ∧ q ≤ h + 8)) → E1 q = E q) : rfx G E1 h (sTap S S.1.2.1 0) R1 y2 y3 y4 y5 y6 y7 := by
  obtain ⟨a1, a2, a3, a4, a5, a6, a7, a8, a9⟩ := a
  exact ⟨hO, hR, fun i hi => (hp i hi).trans (a3 i hi), a4.kept (fr _ (by omega)) (fr _ (by omega)), hT, ⟨d1, d2, d3, d4, hc⟩, a7.kept (fr _ (by omega)), a8.kept (fun q hq => fr q (by omega)), a9⟩

def rX10_claims : Room := { frames := 5, cells := 0, slots := 0, locals := 108 }
theorem vw_X10_claims : mm_Vw RX10 yX10_claims cX10_claims 3 (some .int) 0 := ⟨tw_1052, tw_1053, tw_10, tw_1054, by decide +kernel⟩
set_option maxHeartbeats 4000000 in
set_option maxRecDepth 100000 in
theorem c_X10_claims (l : Launch) (G : mG) (E0 : mE) {h : Nat} {S : mST} (hF : rf G E0 h S) (hok : okR S) : mm_Ci l yX10_claims (.code yX10_claims cX10_claims 3 (some .int) :: wsG) rX10_claims G [.ref (h)] E0 (fun z E => z = (pf_claims S).1 ∧ rf G E h (pf_claims S).2 ∧ ∀ q : Nat, (q < h ∨ h + 13 ≤ q) → E q = E0 q) := by
  refine mm_of_i (by decide +kernel) (Nat.le_of_ble_eq_true rfl) ?_
  intro p e s m args below meth c ls C0 hr hlk hM hl hS
  have hl : lv_has ls 3 [(0, .ref (h))] := hl
  obtain ⟨R, x2, x3, x4, x5, x6, x7, hX⟩ := hF
  have hX0 := hX
  obtain ⟨hTk, hPk, hKk, hSk⟩ := hok
  obtain ⟨hO, hR, hRp, ⟨fh, fc, hH, hC, hPa⟩, hTp, hCl, hKp, hSh, him⟩ := hX
  obtain ⟨c1, c2, c3, c4, h4c⟩ := id hCl
  have h4c : cl4 G E0 h c1 c2 c3 c4 := h4c
  have hL9 := hTk.1
  refine lv_aload_n C0.1 C0.2.1 dX10_claims_0 rfl (lv_at hl 0 rfl) ?_
  refine mm_callVi (As := []) C0 vw_X10_readClaims tw_1055 (c_X10_readClaims l G _ hO hTp hTk h4c) hM (hO) rfl rfl hl.1 rfl (Nat.le_of_ble_eq_true rfl) ⟨rfl, rfl, Nat.le_of_ble_eq_true rfl, Nat.le_of_ble_eq_true rfl, Nat.zero_le _, Nat.zero_le _⟩ dX10_claims_1 hS (fun z1 E1 H locs hp hM hS => ?_)
  obtain ⟨hz1, fr⟩ := hp
  have hTp := (fr _ (by omega)).trans hTp
  have hz01 : z1 = 0 ∨ z1 = 1 := hz1.elim (fun h => Or.inr h.1) (fun h => Or.inl h.1)
  have hfr := fr
  refine lv_istore_n (lv' := [(1, .int (zI (z1))), (0, .ref (h))]) C0.1 C0.2.1 dX10_claims_4 rfl hl (by decide) rfl (fun ls hl => ?_)
  refine lv_iload_n C0.1 C0.2.1 dX10_claims_5 rfl (lv_at hl 0 rfl) ?_
  refine z_if_ne (tgt := 14) C0.1 C0.2.1 dX10_claims_6 (by decide) ⟨by omega, by omega⟩ (fun c_6 => ?_) (fun c_6 => ?_)
  · skip
    obtain ⟨m9, d1, d2, d3, d4, hm1, hm8, ⟨y2, y3, hO⟩, h4c, hdt, hjw⟩ := hz1.elim (fun h => h.2) (fun h => by omega)
    clear hz1
    have hfr9 := hfr
    refine lv_aload_n C0.1 C0.2.1 dX10_claims_14 rfl (lv_at hl 1 rfl) ?_
    refine lv_iconst (v := zI 0) C0.1 C0.2.1 dX10_claims_15 rfl ?_
    refine mm_put (v := .int (zI (0))) (fs := [.ref (h + 1), .ref (h + 2), .ref (h + 3), .ref (h + 4), .int (zI (((S.1.2.2 : Nat) : Int))), .int (zI (y2)), .long (zL (y3)), .ref (h + 5), .ref (h + 6), .ref (h + 7), .ref (h + 8), .int (zI ((m9 : Int))), .int (zI (x5)), .int (zI (x6)), .int (zI (x7)), .int (zI (S.1.1)), .ref (h + 9), .ref (h + 10), .ref (h + 11), .ref (h + 12)]) C0 (C := RX10) (T := TX10) (N := 20) iG_X10 tyX10 tyX10_ok nmX10 hM hS (hO) rfl 4 (by decide) tw_920 rfl rfl (ty := tyX10 4) (tyX10_ok 4 (by decide)) rfl rfl (Nat.le_of_ble_eq_true rfl) dX10_claims_16 (fun H locs hM hS hsz => ?_)
    obtain ⟨E2, hE2⟩ : ∃ X : mE, X = mm_up E1 (h) (.inr (9, [.ref (h + 1), .ref (h + 2), .ref (h + 3), .ref (h + 4), .int (zI (0)), .int (zI (y2)), .long (zL (y3)), .ref (h + 5), .ref (h + 6), .ref (h + 7), .ref (h + 8), .int (zI ((m9 : Int))), .int (zI (x5)), .int (zI (x6)), .int (zI (x7)), .int (zI (S.1.1)), .ref (h + 9), .ref (h + 10), .ref (h + 11), .ref (h + 12)])) := ⟨_, rfl⟩
    replace hM : mm_M G E2 H := by rw [hE2]; exact hM
    have frs : ∀ q : Nat, q ≠ h → E2 q = E1 q := fun q h => by rw [hE2]; exact mm_up_n _ _ h
    have hat : E2 (h) = some (.inr (9, [.ref (h + 1), .ref (h + 2), .ref (h + 3), .ref (h + 4), .int (zI (0)), .int (zI (y2)), .long (zL (y3)), .ref (h + 5), .ref (h + 6), .ref (h + 7), .ref (h + 8), .int (zI ((m9 : Int))), .int (zI (x5)), .int (zI (x6)), .int (zI (x7)), .int (zI (S.1.1)), .ref (h + 9), .ref (h + 10), .ref (h + 11), .ref (h + 12)])) := by rw [hE2]; exact mm_up_s _ _ _
    have hO : ro G E2 h ((0 : Nat) : Int) y2 y3 (m9 : Int) x5 x6 x7 S.1.1 := hat
    have h4c := h4c.kept (fun q hq => frs q (by omega))
    have hTp := (frs _ (by omega)).trans hTp
    have hfr7 : ∀ q, (q ≠ h ∧ ¬ (h + 5 ≤ q ∧ q ≤ h + 8)) → E2 q = E0 q := fun q hq => (frs q hq.1).trans (hfr9 q hq)
    refine lv_iload_n C0.1 C0.2.1 dX10_claims_19 rfl (lv_at hl 0 rfl) ?_
    refine z_if_ne (tgt := 31) C0.1 C0.2.1 dX10_claims_20 (by decide) ⟨by omega, by omega⟩ (fun c_20 => ?_) (fun c_20 => ?_)
    · skip
      refine lv_iconst (v := zI 0) C0.1 C0.2.1 dX10_claims_31 rfl ?_
      refine lv_istore_n (lv' := [(2, .int (zI (0))), (1, .int (zI (z1))), (0, .ref (h))]) C0.1 C0.2.1 dX10_claims_32 rfl hl (by decide) rfl (fun ls hl => ?_)
      have L33 : ∀ (k33 : Nat) (k : Nat) (R1 : Nat → Nat) (E3 : mE) (H : Heap) (locs : List Loc) (ls : Array Slot), (k ≤ m9) → (wf S.1.2.1 S.1.2.2 k = -4) → (∀ r, r < 8 → R1 r = R r) → (ro G E3 h ((0 : Nat) : Int) y2 y3 (m9 : Int) x5 x6 x7 S.1.1) → (rg G E3 h R1) → (cl4 G E3 h d1 d2 d3 d4) → (E3 (h + 4) = some (mm_I G 100 S.1.2.1)) → (∀ q : Nat, (q ≠ h ∧ q ≠ h + 1 ∧ ¬ (h + 5 ≤ q ∧ q ≤ h + 8)) → E3 q = E0 q) → m9 - k < k33 → mm_M G E3 H → va_S (mm_A G) s.heap H locs → lv_has ls 3 [(0, .ref (h)), (2, .int (zI ((k : Int))))] → W p l e rX10_claims s m args below meth c H locs 0 0 (mm_Zi G below args s (fun z E => z = (pf_claims S).1 ∧ rf G E h (pf_claims S).2 ∧ ∀ q : Nat, (q < h ∨ h + 13 ≤ q) → E q = E0 q)) (F0 m 33 ls []) := by
        intro k33
        induction k33 with
        | zero => intro k R1 E3 H locs ls hkm hwk k1 hO hR1 h4c hTp hfr hk hM hS hl; exact absurd hk (Nat.not_lt_zero _)
        | succ k33 ih33 =>
          intro k R1 E3 H locs ls hkm hwk k1 hO hR1 h4c hTp hfr hk33 hM hS hl
          refine lv_iload_n C0.1 C0.2.1 dX10_claims_33 rfl (lv_at hl 1 rfl) ?_
          refine lv_aload_n C0.1 C0.2.1 dX10_claims_34 rfl (lv_at hl 0 rfl) ?_
          refine mm_get (fs := [.ref (h + 1), .ref (h + 2), .ref (h + 3), .ref (h + 4), .int (zI (((0 : Nat) : Int))), .int (zI (y2)), .long (zL (y3)), .ref (h + 5), .ref (h + 6), .ref (h + 7), .ref (h + 8), .int (zI ((m9 : Int))), .int (zI (x5)), .int (zI (x6)), .int (zI (x7)), .int (zI (S.1.1)), .ref (h + 9), .ref (h + 10), .ref (h + 11), .ref (h + 12)]) C0 (C := RX10) (T := TX10) (N := 20) iG_X10 hM (hO) rfl 11 (by decide) tw_927 rfl rfl dX10_claims_35 ?_
          refine z_icmp_ge (tgt := 103) C0.1 C0.2.1 dX10_claims_38 (by decide) ⟨by omega, by omega⟩ ⟨by omega, by omega⟩ (fun c_38 => ?_) (fun c_38 => ?_)
          · skip
            have hke : k = m9 := by omega
            refine lv_bipush (v := zI (-4)) C0.1 C0.2.1 dX10_claims_103 rfl ?_
            exact mm_iret (z := (-4)) C0 hr hlk hM hS dX10_claims_105 (by have he : pf_claims S = (jdg S.1.2.1 S.1.2.2 8 0 0 (-4), sTap S S.1.2.1 0) := (rfl); rw [he]; exact ⟨by rw [hjw, ← hke, hwk], (hX0.claims hO hR1 k1 hTp h4c (fun q hq => hfr q hq)).rf, fun q hq => hfr q (by omega)⟩)
          · skip
            obtain ⟨⟨f1, f2, f3, f4, f5⟩, f6⟩ := hdt k (by omega)
            obtain ⟨⟨hv1, hv2⟩, ⟨hd1, hd2⟩, hkd3, ⟨hn1, hn2⟩⟩ := clZ_0 f6
            have hk99 : 3 ≤ clD S.1.2.1 S.1.2.2 (clA S.1.2.1 S.1.2.2 k) → rnV S.1.2.1 S.1.2.2 (clP2 S.1.2.1 S.1.2.2 (clA S.1.2.1 S.1.2.2 k) + 1) ≤ 99 := fun q => clZ_k f6 q
            refine lv_aload_n C0.1 C0.2.1 dX10_claims_41 rfl (lv_at hl 0 rfl) ?_
            refine lv_bipush (v := zI 8) C0.1 C0.2.1 dX10_claims_42 rfl ?_
            refine lv_aload_n C0.1 C0.2.1 dX10_claims_44 rfl (lv_at hl 0 rfl) ?_
            refine mm_get (fs := [.ref (h + 1), .ref (h + 2), .ref (h + 3), .ref (h + 4), .int (zI (((0 : Nat) : Int))), .int (zI (y2)), .long (zL (y3)), .ref (h + 5), .ref (h + 6), .ref (h + 7), .ref (h + 8), .int (zI ((m9 : Int))), .int (zI (x5)), .int (zI (x6)), .int (zI (x7)), .int (zI (S.1.1)), .ref (h + 9), .ref (h + 10), .ref (h + 11), .ref (h + 12)]) C0 (C := RX10) (T := TX10) (N := 20) iG_X10 hM (hO) rfl 10 (by decide) tw_926 rfl rfl dX10_claims_45 ?_
            refine lv_iload_n C0.1 C0.2.1 dX10_claims_48 rfl (lv_at hl 1 rfl) ?_
            refine mm_iald C0 hM (g := d4) (h4c.2.2.2) (k) (i := (k : Int)) (by omega) (by omega) (by decide) dX10_claims_49 ?_
            refine z_i2l C0.1 C0.2.1 dX10_claims_50 ⟨by omega, by omega⟩ ?_
            refine mm_callVv (As := [.int (zI (8)), .long (zL ((d4) (k)))]) C0 vw_X10_set tw_988 (c_X10_set l G _ hO hR1 (t := 8) rfl (by omega) (rnV S.1.2.1 S.1.2.2 (clP5 S.1.2.1 S.1.2.2 (clA S.1.2.1 S.1.2.2 k))).toNat (by omega) (by omega)) hM (hO) rfl rfl hl.1 rfl (Nat.le_of_ble_eq_true rfl) ⟨rfl, rfl, Nat.le_of_ble_eq_true rfl, Nat.le_of_ble_eq_true rfl, Nat.zero_le _, Nat.zero_le _⟩ dX10_claims_51 hS (fun E4 H locs hp hM hS => ?_)
            obtain ⟨⟨R2, hR2, v8, kr2⟩, fr⟩ := hp
            have hO := ro.kept hO (fr _ (by omega))
            have h4c := cl4.kept h4c (fun q hq => fr q (by omega))
            have hTp := (fr _ (by omega)).trans hTp
            have hfr := (fun q h => (fr q (by omega)).trans (hfr q h) : ∀ q : Nat, (q ≠ h ∧ q ≠ h + 1 ∧ ¬ (h + 5 ≤ q ∧ q ≤ h + 8)) → E4 q = E0 q)
            refine lv_aload_n C0.1 C0.2.1 dX10_claims_54 rfl (lv_at hl 0 rfl) ?_
            refine lv_aload_n C0.1 C0.2.1 dX10_claims_55 rfl (lv_at hl 0 rfl) ?_
            refine mm_get (fs := [.ref (h + 1), .ref (h + 2), .ref (h + 3), .ref (h + 4), .int (zI (((0 : Nat) : Int))), .int (zI (y2)), .long (zL (y3)), .ref (h + 5), .ref (h + 6), .ref (h + 7), .ref (h + 8), .int (zI ((m9 : Int))), .int (zI (x5)), .int (zI (x6)), .int (zI (x7)), .int (zI (S.1.1)), .ref (h + 9), .ref (h + 10), .ref (h + 11), .ref (h + 12)]) C0 (C := RX10) (T := TX10) (N := 20) iG_X10 hM (hO) rfl 8 (by decide) tw_924 rfl rfl dX10_claims_56 ?_
            refine lv_iload_n C0.1 C0.2.1 dX10_claims_59 rfl (lv_at hl 1 rfl) ?_
            refine mm_iald C0 hM (g := d2) (h4c.2.1) (k) (i := (k : Int)) (by omega) (by omega) (by decide) dX10_claims_60 ?_
            refine lv_aload_n C0.1 C0.2.1 dX10_claims_61 rfl (lv_at hl 0 rfl) ?_
            refine mm_get (fs := [.ref (h + 1), .ref (h + 2), .ref (h + 3), .ref (h + 4), .int (zI (((0 : Nat) : Int))), .int (zI (y2)), .long (zL (y3)), .ref (h + 5), .ref (h + 6), .ref (h + 7), .ref (h + 8), .int (zI ((m9 : Int))), .int (zI (x5)), .int (zI (x6)), .int (zI (x7)), .int (zI (S.1.1)), .ref (h + 9), .ref (h + 10), .ref (h + 11), .ref (h + 12)]) C0 (C := RX10) (T := TX10) (N := 20) iG_X10 hM (hO) rfl 9 (by decide) tw_925 rfl rfl dX10_claims_62 ?_
            refine lv_iload_n C0.1 C0.2.1 dX10_claims_65 rfl (lv_at hl 1 rfl) ?_
            refine mm_iald C0 hM (g := d3) (h4c.2.2.1) (k) (i := (k : Int)) (by omega) (by omega) (by decide) dX10_claims_66 ?_
            refine lv_bipush (v := zI 8) C0.1 C0.2.1 dX10_claims_67 rfl ?_
            refine mm_callVv (As := [.int (zI ((d2) (k))), .int (zI ((d3) (k))), .int (zI (8))]) C0 vw_X10_findNth tw_1077 (c_X10_findNth l G _ hO hR2 (b := 8) rfl (by omega) v8 (k := (if 3 ≤ clD S.1.2.1 S.1.2.2 (clA S.1.2.1 S.1.2.2 k) then (rnV S.1.2.1 S.1.2.2 (clP2 S.1.2.1 S.1.2.2 (clA S.1.2.1 S.1.2.2 k) + 1)).toNat else 0)) (by split <;> omega) (by split <;> omega) (kd := (clD S.1.2.1 S.1.2.2 (clA S.1.2.1 S.1.2.2 k)).toNat) (by omega) (by omega) (fun q => by rw [if_pos (by omega)]; omega) (Nat.le_trans (nlL (by omega)) (by omega))) hM (hO) rfl rfl hl.1 rfl (Nat.le_of_ble_eq_true rfl) ⟨rfl, rfl, Nat.le_of_ble_eq_true rfl, Nat.le_of_ble_eq_true rfl, Nat.zero_le _, Nat.zero_le _⟩ dX10_claims_69 hS (fun E5 H locs hp hM hS => ?_)
            obtain ⟨⟨R3, hR3, v9, kr3⟩, fr⟩ := hp
            have hO := ro.kept hO (fr _ (by omega))
            have h4c := cl4.kept h4c (fun q hq => fr q (by omega))
            have hTp := (fr _ (by omega)).trans hTp
            have hfr := (fun q h => (fr q (by omega)).trans (hfr q h) : ∀ q : Nat, (q ≠ h ∧ q ≠ h + 1 ∧ ¬ (h + 5 ≤ q ∧ q ≤ h + 8)) → E5 q = E0 q)
            have v9 : R3 9 = shp (clD S.1.2.1 S.1.2.2 (clA S.1.2.1 S.1.2.2 k)).toNat (rnV S.1.2.1 S.1.2.2 (clP2 S.1.2.1 S.1.2.2 (clA S.1.2.1 S.1.2.2 k) + 1)).toNat (rnV S.1.2.1 S.1.2.2 (clP5 S.1.2.1 S.1.2.2 (clA S.1.2.1 S.1.2.2 k))).toNat := by rw [v9]; split; rfl; exact shp_kk (by omega)
            refine lv_aload_n C0.1 C0.2.1 dX10_claims_72 rfl (lv_at hl 0 rfl) ?_
            refine lv_bipush (v := zI 10) C0.1 C0.2.1 dX10_claims_73 rfl ?_
            refine lv_aload_n C0.1 C0.2.1 dX10_claims_75 rfl (lv_at hl 0 rfl) ?_
            refine mm_get (fs := [.ref (h + 1), .ref (h + 2), .ref (h + 3), .ref (h + 4), .int (zI (((0 : Nat) : Int))), .int (zI (y2)), .long (zL (y3)), .ref (h + 5), .ref (h + 6), .ref (h + 7), .ref (h + 8), .int (zI ((m9 : Int))), .int (zI (x5)), .int (zI (x6)), .int (zI (x7)), .int (zI (S.1.1)), .ref (h + 9), .ref (h + 10), .ref (h + 11), .ref (h + 12)]) C0 (C := RX10) (T := TX10) (N := 20) iG_X10 hM (hO) rfl 7 (by decide) tw_923 rfl rfl dX10_claims_76 ?_
            refine lv_iload_n C0.1 C0.2.1 dX10_claims_79 rfl (lv_at hl 1 rfl) ?_
            refine mm_lald C0 hM (g := d1) (h4c.1) (k) (i := (k : Int)) (by omega) (by omega) (by decide) dX10_claims_80 ?_
            refine mm_callVv (As := [.int (zI (10)), .long (zL ((d1) (k)))]) C0 vw_X10_set tw_988 (c_X10_set l G _ hO hR3 (t := 10) rfl (by omega) (rnV S.1.2.1 S.1.2.2 (clA S.1.2.1 S.1.2.2 k)).toNat (by omega) (by omega)) hM (hO) rfl rfl hl.1 rfl (Nat.le_of_ble_eq_true rfl) ⟨rfl, rfl, Nat.le_of_ble_eq_true rfl, Nat.le_of_ble_eq_true rfl, Nat.zero_le _, Nat.zero_le _⟩ dX10_claims_81 hS (fun E6 H locs hp hM hS => ?_)
            obtain ⟨⟨R4, hR4, v10, kr4⟩, fr⟩ := hp
            have hO := ro.kept hO (fr _ (by omega))
            have h4c := cl4.kept h4c (fun q hq => fr q (by omega))
            have hTp := (fr _ (by omega)).trans hTp
            have hfr := (fun q h => (fr q (by omega)).trans (hfr q h) : ∀ q : Nat, (q ≠ h ∧ q ≠ h + 1 ∧ ¬ (h + 5 ≤ q ∧ q ≤ h + 8)) → E6 q = E0 q)
            refine lv_aload_n C0.1 C0.2.1 dX10_claims_84 rfl (lv_at hl 0 rfl) ?_
            refine lv_bipush (v := zI 9) C0.1 C0.2.1 dX10_claims_85 rfl ?_
            refine lv_bipush (v := zI 10) C0.1 C0.2.1 dX10_claims_87 rfl ?_
            refine mm_callVi (As := [.int (zI (9)), .int (zI (10))]) C0 vw_X10_compare tw_1105 (c_X10_compare l G _ hO hR4 (a := 9) rfl (by omega) ((kr4 9 (by omega)).trans v9) (b := 10) rfl (by omega) v10) hM (hO) rfl rfl hl.1 rfl (Nat.le_of_ble_eq_true rfl) ⟨rfl, rfl, Nat.le_of_ble_eq_true rfl, Nat.le_of_ble_eq_true rfl, Nat.zero_le _, Nat.zero_le _⟩ dX10_claims_89 hS (fun z_89 E7 H locs hp hM hS => ?_)
            obtain ⟨hz_89, hEq⟩ := hp
            rw [hEq] at hM
            have hcz : -1 ≤ z_89 ∧ z_89 ≤ 1 := hz_89 ▸ cmpZ_b _ _
            have hc0 : z_89 = 0 ↔ soP S.1.2.1 S.1.2.2 (clA S.1.2.1 S.1.2.2 k) := by rw [hz_89, cmpZ_0]
            clear hz_89
            obtain ⟨hcz1, hcz2⟩ := hcz
            have k4 : ∀ r, r < 8 → R4 r = R r := fun r q => (kr4 r (by omega)).trans ((kr3 r (by omega) (by omega) (by omega)).trans ((kr2 r (by omega)).trans (k1 r q)))
            refine z_if_eq (tgt := 97) C0.1 C0.2.1 dX10_claims_92 (by decide) ⟨by omega, by omega⟩ (fun c_92 => ?_) (fun c_92 => ?_)
            · skip
              refine lv_iinc (v := zI (((k + 1 : Nat) : Int))) (lv' := [(2, .int (zI (((k + 1 : Nat) : Int)))), (0, .ref (h))]) C0.1 C0.2.1 dX10_claims_97 hl (k := 1) rfl (z_inc (a := (k : Int)) (n := 1) (by omega)) (by decide) rfl (fun ls hl => ?_)
              refine lv_goto (tgt := 33) C0.1 C0.2.1 dX10_claims_100 (by decide) ?_
              exact ih33  (k + 1) R4 E6 _ _ _ (by omega) (by show jdW S.1.2.1 S.1.2.2 (clA S.1.2.1 S.1.2.2 k) k (wf S.1.2.1 S.1.2.2 k) = -4; rw [hwk]; exact if_neg (fun q => q.2 (hc0.mp (by omega)))) (k4) (hO) (hR4) (h4c) (hTp) (hfr) (by omega) hM hS (lv_sub hl [1, 0] rfl)
            · skip
              refine lv_iload_n C0.1 C0.2.1 dX10_claims_95 rfl (lv_at hl 1 rfl) ?_
              exact mm_iret (z := (k : Int)) C0 hr hlk hM hS dX10_claims_96 (by have he : pf_claims S = (jdg S.1.2.1 S.1.2.2 8 0 0 (-4), sTap S S.1.2.1 0) := (rfl); rw [he]; exact ⟨by rw [hjw, show m9 = k + 1 + (m9 - (k + 1)) by omega]; exact (wf_st (by show jdW S.1.2.1 S.1.2.2 (clA S.1.2.1 S.1.2.2 k) k (wf S.1.2.1 S.1.2.2 k) = _; rw [hwk]; exact if_pos ⟨rfl, fun q => c_92 (hc0.mpr q)⟩) _).symm, (hX0.claims hO hR4 k4 hTp h4c (fun q hq => hfr q hq)).rf, fun q hq => hfr q (by omega)⟩)
      exact L33 (_ + 1) 0 R E2 _ _ _ (Nat.zero_le _) (rfl) (fun _ _ => rfl) (hO) ((hR.kept (hfr7 _ (by omega)))) (h4c) (hTp) ((fun q hq => hfr7 q (by omega))) (Nat.lt_succ_self _) hM hS (lv_sub hl [2, 0] rfl)
    · skip
      omega
  · skip
    obtain ⟨a9, y3, y4, hO, ha9, ⟨d1, d2, d3, d4, h4c⟩, hjw⟩ := hz1.elim (fun h => by omega) (fun h => h.2)
    clear hz1
    refine lv_aload_n C0.1 C0.2.1 dX10_claims_9 rfl (lv_at hl 1 rfl) ?_
    refine mm_callVi (As := []) C0 vw_X10_nextByte tw_1028 (c_X10_nextByte l G _ hO hTp hTk ha9) hM (hO) rfl rfl hl.1 rfl (Nat.le_of_ble_eq_true rfl) ⟨rfl, rfl, Nat.le_of_ble_eq_true rfl, Nat.le_of_ble_eq_true rfl, Nat.zero_le _, Nat.zero_le _⟩ dX10_claims_10 hS (fun z10 E8 H locs hp hM hS => ?_)
    obtain ⟨hz10, hO, fr⟩ := hp
    have hTp := (fr _ (by omega)).trans hTp
    have hfr9 : ∀ q, (q ≠ h ∧ ¬ (h + 5 ≤ q ∧ q ≤ h + 8)) → E8 q = E0 q := fun q hq => (fr q hq.1).trans (hfr q hq)
    have h4c := h4c.kept (fun q hq => fr q (by omega))
    have hsb := skp_b (B := S.1.2.1) ha9
    refine lv_pop C0.1 C0.2.1 dX10_claims_13 rfl ?_
    refine lv_aload_n C0.1 C0.2.1 dX10_claims_14 rfl (lv_at hl 1 rfl) ?_
    refine lv_iconst (v := zI 0) C0.1 C0.2.1 dX10_claims_15 rfl ?_
    refine mm_put (v := .int (zI (0))) (fs := [.ref (h + 1), .ref (h + 2), .ref (h + 3), .ref (h + 4), .int (zI (((S.1.2.2 : Nat) : Int))), .int (zI (((skp S.1.2.1 S.1.2.2 a9 : Nat) : Int))), .long (zL (y3)), .ref (h + 5), .ref (h + 6), .ref (h + 7), .ref (h + 8), .int (zI (y4)), .int (zI (x5)), .int (zI (x6)), .int (zI (x7)), .int (zI (S.1.1)), .ref (h + 9), .ref (h + 10), .ref (h + 11), .ref (h + 12)]) C0 (C := RX10) (T := TX10) (N := 20) iG_X10 tyX10 tyX10_ok nmX10 hM hS (hO) rfl 4 (by decide) tw_920 rfl rfl (ty := tyX10 4) (tyX10_ok 4 (by decide)) rfl rfl (Nat.le_of_ble_eq_true rfl) dX10_claims_16 (fun H locs hM hS hsz => ?_)
    obtain ⟨E9, hE9⟩ : ∃ X : mE, X = mm_up E8 (h) (.inr (9, [.ref (h + 1), .ref (h + 2), .ref (h + 3), .ref (h + 4), .int (zI (0)), .int (zI (((skp S.1.2.1 S.1.2.2 a9 : Nat) : Int))), .long (zL (y3)), .ref (h + 5), .ref (h + 6), .ref (h + 7), .ref (h + 8), .int (zI (y4)), .int (zI (x5)), .int (zI (x6)), .int (zI (x7)), .int (zI (S.1.1)), .ref (h + 9), .ref (h + 10), .ref (h + 11), .ref (h + 12)])) := ⟨_, rfl⟩
    replace hM : mm_M G E9 H := by rw [hE9]; exact hM
    have frs : ∀ q : Nat, q ≠ h → E9 q = E8 q := fun q h => by rw [hE9]; exact mm_up_n _ _ h
    have hat : E9 (h) = some (.inr (9, [.ref (h + 1), .ref (h + 2), .ref (h + 3), .ref (h + 4), .int (zI (0)), .int (zI (((skp S.1.2.1 S.1.2.2 a9 : Nat) : Int))), .long (zL (y3)), .ref (h + 5), .ref (h + 6), .ref (h + 7), .ref (h + 8), .int (zI (y4)), .int (zI (x5)), .int (zI (x6)), .int (zI (x7)), .int (zI (S.1.1)), .ref (h + 9), .ref (h + 10), .ref (h + 11), .ref (h + 12)])) := by rw [hE9]; exact mm_up_s _ _ _
    have hO : ro G E9 h ((0 : Nat) : Int) ((skp S.1.2.1 S.1.2.2 a9 : Nat) : Int) y3 y4 x5 x6 x7 S.1.1 := hat
    have h4c := h4c.kept (fun q hq => frs q (by omega))
    have hTp := (frs _ (by omega)).trans hTp
    have hfr7 : ∀ q, (q ≠ h ∧ ¬ (h + 5 ≤ q ∧ q ≤ h + 8)) → E9 q = E0 q := fun q hq => (frs q hq.1).trans (hfr9 q hq)
    refine lv_iload_n C0.1 C0.2.1 dX10_claims_19 rfl (lv_at hl 0 rfl) ?_
    refine z_if_ne (tgt := 31) C0.1 C0.2.1 dX10_claims_20 (by decide) ⟨by omega, by omega⟩ (fun c_20 => ?_) (fun c_20 => ?_)
    · skip
      omega
    · skip
      refine lv_bipush (v := zI (-20)) C0.1 C0.2.1 dX10_claims_23 rfl ?_
      refine lv_aload_n C0.1 C0.2.1 dX10_claims_25 rfl (lv_at hl 1 rfl) ?_
      refine mm_get (fs := [.ref (h + 1), .ref (h + 2), .ref (h + 3), .ref (h + 4), .int (zI (0)), .int (zI (((skp S.1.2.1 S.1.2.2 a9 : Nat) : Int))), .long (zL (y3)), .ref (h + 5), .ref (h + 6), .ref (h + 7), .ref (h + 8), .int (zI (y4)), .int (zI (x5)), .int (zI (x6)), .int (zI (x7)), .int (zI (S.1.1)), .ref (h + 9), .ref (h + 10), .ref (h + 11), .ref (h + 12)]) C0 (C := RX10) (T := TX10) (N := 20) iG_X10 hM (hO) rfl 5 (by decide) tw_921 rfl rfl dX10_claims_26 ?_
      refine z_isub C0.1 C0.2.1 dX10_claims_29 ?_
      exact mm_iret (z := (((-20)) - (((skp S.1.2.1 S.1.2.2 a9 : Nat) : Int)))) C0 hr hlk hM hS dX10_claims_30 (by have he : pf_claims S = (jdg S.1.2.1 S.1.2.2 8 0 0 (-4), sTap S S.1.2.1 0) := (rfl); rw [he]; exact ⟨by rw [hjw], (hX0.claims hO (hR.kept (hfr7 _ (by omega))) (fun _ _ => rfl) hTp h4c (fun q hq => hfr7 q (by omega))).rf, fun q hq => hfr7 q (by omega)⟩)
