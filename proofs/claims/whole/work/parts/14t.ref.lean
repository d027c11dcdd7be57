def rX10_image : Room := { frames := 0, cells := 0, slots := 0, locals := 0 }
theorem vw_X10_image : mm_Vw RX10 yX10_image cX10_image 2 (some .int) 0 := ⟨tw_1290, tw_1291, tw_10, tw_1292, by decide +kernel⟩
set_option maxHeartbeats 4000000 in
set_option maxRecDepth 100000 in
theorem c_X10_image (l : Launch) (G : mG) (E0 : mE) {h : Nat} {S : mST} (hF : rf G E0 h S) (hok : okR S) : mm_Ci l yX10_image (.code yX10_image cX10_image 2 (some .int) :: wsG) rX10_image G [.ref (h)] E0 (fun z E => z = (pf_image S).1 ∧ rf G E h (pf_image S).2 ∧ ∀ q : Nat, (q < h ∨ h + 13 ≤ q) → E q = E0 q) := by
  refine mm_of_i (by decide +kernel) (Nat.le_of_ble_eq_true rfl) ?_
  intro p e s m args below meth c ls C0 hr hlk hM hl hS
  have hl : lv_has ls 2 [(0, .ref (h))] := hl
  obtain ⟨R, x2, x3, x4, x5, x6, x7, hX⟩ := hF
  have hX0 := hX
  obtain ⟨hTk, hPk, hKk, hSk⟩ := hok
  obtain ⟨hO, hR, hRp, ⟨fh, fc, hH, hC, hPa⟩, hTp, hCl, hKp, hSh, him⟩ := hX
  obtain ⟨gk, hK, hKa⟩ := hKp
  obtain ⟨hB9, g, hg, hR9⟩ := id hR
  have hfr : ∀ q : Nat, (q ≠ h + 9) → E0 q = E0 q := fun _ _ => rfl
  refine lv_iconst (v := zI 0) C0.1 C0.2.1 dX10_image_0 rfl ?_
  refine lv_istore_n (lv' := [(1, .int (zI (0))), (0, .ref (h))]) C0.1 C0.2.1 dX10_image_1 rfl hl (by decide) rfl (fun ls hl => ?_)
  have L2 : ∀ (k2 : Nat) (k : Nat) (g2 : Nat → Int) (E1 : mE) (H : Heap) (locs : List Loc) (ls : Array Slot), (k ≤ 640) → (∀ x, x < k → g2 x = g x) → (ro G E1 h ((S.1.2.2 : Nat) : Int) x2 x3 x4 x5 x6 x7 S.1.1) → (E1 (h + 1) = some (mm_I G 1280 g)) → (E1 (h + 2) = some (mm_I G 8 fh)) → (E1 (h + 3) = some (mm_I G 8 fc)) → (E1 (h + 9) = some (mm_I G 656 g2)) → (∀ q : Nat, (q ≠ h + 9) → E1 q = E0 q) → 640 - k < k2 → mm_M G E1 H → va_S (mm_A G) s.heap H locs → lv_has ls 2 [(0, .ref (h)), (1, .int (zI ((k : Int))))] → W p l e rX10_image s m args below meth c H locs 0 0 (mm_Zi G below args s (fun z E => z = (pf_image S).1 ∧ rf G E h (pf_image S).2 ∧ ∀ q : Nat, (q < h ∨ h + 13 ≤ q) → E q = E0 q)) (F0 m 2 ls []) := by
    intro k2
    induction k2 with
    | zero => intro k g2 E1 H locs ls hk9 hf hO hg hH hC hK hfr hk hM hS hl; exact absurd hk (Nat.not_lt_zero _)
    | succ k2 ih2 =>
      intro k g2 E1 H locs ls hk9 hf hO hg hH hC hK hfr hk2 hM hS hl
      refine lv_iload_n C0.1 C0.2.1 dX10_image_2 rfl (lv_at hl 1 rfl) ?_
      refine lv_sipush (v := zI 640) C0.1 C0.2.1 dX10_image_3 rfl ?_
      refine z_icmp_ge (tgt := 27) C0.1 C0.2.1 dX10_image_6 (by decide) ⟨by omega, by omega⟩ ⟨by omega, by omega⟩ (fun c_6 => ?_) (fun c_6 => ?_)
      · skip
        refine lv_iconst (v := zI 0) C0.1 C0.2.1 dX10_image_27 rfl ?_
        refine lv_istore_n (lv' := [(1, .int (zI (0))), (0, .ref (h))]) C0.1 C0.2.1 dX10_image_28 rfl hl (by decide) rfl (fun ls hl => ?_)
        have L29 : ∀ (k29 : Nat) (k : Nat) (g3 : Nat → Int) (E2 : mE) (H : Heap) (locs : List Loc) (ls : Array Slot), (k ≤ 8) → (∀ x, x < 640 → g3 x = g x) → (∀ x, x < k → g3 (640 + x) = fh x ∧ g3 (648 + x) = fc x) → (ro G E2 h ((S.1.2.2 : Nat) : Int) x2 x3 x4 x5 x6 x7 S.1.1) → (E2 (h + 2) = some (mm_I G 8 fh)) → (E2 (h + 3) = some (mm_I G 8 fc)) → (E2 (h + 9) = some (mm_I G 656 g3)) → (∀ q : Nat, (q ≠ h + 9) → E2 q = E0 q) → 8 - k < k29 → mm_M G E2 H → va_S (mm_A G) s.heap H locs → lv_has ls 2 [(0, .ref (h)), (1, .int (zI ((k : Int))))] → W p l e rX10_image s m args below meth c H locs 0 0 (mm_Zi G below args s (fun z E => z = (pf_image S).1 ∧ rf G E h (pf_image S).2 ∧ ∀ q : Nat, (q < h ∨ h + 13 ≤ q) → E q = E0 q)) (F0 m 29 ls []) := by
          intro k29
          induction k29 with
          | zero => intro k g3 E2 H locs ls hk9 hf1 hf2 hO hH hC hK hfr hk hM hS hl; exact absurd hk (Nat.not_lt_zero _)
          | succ k29 ih29 =>
            intro k g3 E2 H locs ls hk9 hf1 hf2 hO hH hC hK hfr hk29 hM hS hl
            refine lv_iload_n C0.1 C0.2.1 dX10_image_29 rfl (lv_at hl 1 rfl) ?_
            refine lv_bipush (v := zI 8) C0.1 C0.2.1 dX10_image_30 rfl ?_
            refine z_icmp_ge (tgt := 73) C0.1 C0.2.1 dX10_image_32 (by decide) ⟨by omega, by omega⟩ ⟨by omega, by omega⟩ (fun c_32 => ?_) (fun c_32 => ?_)
            · skip
              have hke : k = 8 := by omega
              subst hke
              refine lv_aload_n C0.1 C0.2.1 dX10_image_73 rfl (lv_at hl 0 rfl) ?_
              refine lv_iconst (v := zI 1) C0.1 C0.2.1 dX10_image_74 rfl ?_
              refine mm_put (v := .int (zI (1))) (fs := [.ref (h + 1), .ref (h + 2), .ref (h + 3), .ref (h + 4), .int (zI (((S.1.2.2 : Nat) : Int))), .int (zI (x2)), .long (zL (x3)), .ref (h + 5), .ref (h + 6), .ref (h + 7), .ref (h + 8), .int (zI (x4)), .int (zI (x5)), .int (zI (x6)), .int (zI (x7)), .int (zI (S.1.1)), .ref (h + 9), .ref (h + 10), .ref (h + 11), .ref (h + 12)]) C0 (C := RX10) (T := TX10) (N := 20) iG_X10 tyX10 tyX10_ok nmX10 hM hS (hO) rfl 15 (by decide) tw_931 rfl rfl (ty := tyX10 15) (tyX10_ok 15 (by decide)) rfl rfl (Nat.le_of_ble_eq_true rfl) dX10_image_75 (fun H locs hM hS hsz => ?_)
              obtain ⟨E3, hE3⟩ : ∃ X : mE, X = mm_up E2 (h) (.inr (9, [.ref (h + 1), .ref (h + 2), .ref (h + 3), .ref (h + 4), .int (zI (((S.1.2.2 : Nat) : Int))), .int (zI (x2)), .long (zL (x3)), .ref (h + 5), .ref (h + 6), .ref (h + 7), .ref (h + 8), .int (zI (x4)), .int (zI (x5)), .int (zI (x6)), .int (zI (x7)), .int (zI (1)), .ref (h + 9), .ref (h + 10), .ref (h + 11), .ref (h + 12)])) := ⟨_, rfl⟩
              replace hM : mm_M G E3 H := by rw [hE3]; exact hM
              have frs : ∀ q : Nat, q ≠ h → E3 q = E2 q := fun q h => by rw [hE3]; exact mm_up_n _ _ h
              have hat : E3 (h) = some (.inr (9, [.ref (h + 1), .ref (h + 2), .ref (h + 3), .ref (h + 4), .int (zI (((S.1.2.2 : Nat) : Int))), .int (zI (x2)), .long (zL (x3)), .ref (h + 5), .ref (h + 6), .ref (h + 7), .ref (h + 8), .int (zI (x4)), .int (zI (x5)), .int (zI (x6)), .int (zI (x7)), .int (zI (1)), .ref (h + 9), .ref (h + 10), .ref (h + 11), .ref (h + 12)])) := by rw [hE3]; exact mm_up_s _ _ _
              have hO2 : ro G E3 h ((S.1.2.2 : Nat) : Int) x2 x3 x4 x5 x6 x7 1 := hat
              have hfq : ∀ q, (q ≠ h ∧ q ≠ h + 9) → E3 q = E0 q := fun q hq => (frs q (by omega)).trans (hfr q hq.2)
              have hH := (frs _ (by omega)).trans hH
              have hC := (frs _ (by omega)).trans hC
              have hK := (frs _ (by omega)).trans hK
              refine lv_iconst (v := zI 1) C0.1 C0.2.1 dX10_image_78 rfl ?_
              exact mm_iret (z := 1) C0 hr hlk hM hS dX10_image_79 (⟨rfl, ⟨R, x2, x3, x4, x5, x6, x7, hO2, hR.kept (hfq _ (by omega)), hRp, ⟨fh, fc, hH, hC, hPa⟩, (hfq _ (by omega)).trans hTp, hCl.kept (fun q hq => hfq q (by omega)), ⟨g3, hK, fun i hi => ⟨fun j hj => by rw [hf1 _ (by omega), hR9 i (by omega) j hj, hRp i hi]; rfl, by rw [(hf2 i hi).1]; exact (hPa i hi).1, by rw [(hf2 i hi).2]; exact (hPa i hi).2⟩⟩, hSh.kept (fun q hq => hfq q (by omega)), Or.inr rfl⟩, fun q hq => hfq q (by omega)⟩)
            · skip
              refine lv_aload_n C0.1 C0.2.1 dX10_image_35 rfl (lv_at hl 0 rfl) ?_
              refine mm_get (fs := [.ref (h + 1), .ref (h + 2), .ref (h + 3), .ref (h + 4), .int (zI (((S.1.2.2 : Nat) : Int))), .int (zI (x2)), .long (zL (x3)), .ref (h + 5), .ref (h + 6), .ref (h + 7), .ref (h + 8), .int (zI (x4)), .int (zI (x5)), .int (zI (x6)), .int (zI (x7)), .int (zI (S.1.1)), .ref (h + 9), .ref (h + 10), .ref (h + 11), .ref (h + 12)]) C0 (C := RX10) (T := TX10) (N := 20) iG_X10 hM (hO) rfl 16 (by decide) tw_932 rfl rfl dX10_image_36 ?_
              refine lv_sipush (v := zI 640) C0.1 C0.2.1 dX10_image_39 rfl ?_
              refine lv_iload_n C0.1 C0.2.1 dX10_image_42 rfl (lv_at hl 1 rfl) ?_
              refine z_iadd C0.1 C0.2.1 dX10_image_43 ?_
              refine lv_aload_n C0.1 C0.2.1 dX10_image_44 rfl (lv_at hl 0 rfl) ?_
              refine mm_get (fs := [.ref (h + 1), .ref (h + 2), .ref (h + 3), .ref (h + 4), .int (zI (((S.1.2.2 : Nat) : Int))), .int (zI (x2)), .long (zL (x3)), .ref (h + 5), .ref (h + 6), .ref (h + 7), .ref (h + 8), .int (zI (x4)), .int (zI (x5)), .int (zI (x6)), .int (zI (x7)), .int (zI (S.1.1)), .ref (h + 9), .ref (h + 10), .ref (h + 11), .ref (h + 12)]) C0 (C := RX10) (T := TX10) (N := 20) iG_X10 hM (hO) rfl 1 (by decide) tw_917 rfl rfl dX10_image_45 ?_
              refine lv_iload_n C0.1 C0.2.1 dX10_image_48 rfl (lv_at hl 1 rfl) ?_
              refine mm_iald C0 hM (g := fh) (hH) (k) (i := (k : Int)) (by omega) (by omega) (by decide) dX10_image_49 ?_
              refine z_asI (b := (fh k)) (rfl) ?_
              refine mm_iast C0 hM hS (g := g3) (hK) (640 + k) (i := ((640) + ((k : Int)))) (x := (fh k)) (by omega) (by omega) (by decide) dX10_image_50 (fun H locs hM hS hsz => ?_)
              obtain ⟨E4, hE4⟩ : ∃ X : mE, X = mm_up E2 (h + 9) (mm_I G 656 (zup (g3) (640 + k) ((fh k)))) := ⟨_, rfl⟩
              replace hM : mm_M G E4 H := by rw [hE4]; exact hM
              have frs : ∀ q : Nat, q ≠ h + 9 → E4 q = E2 q := fun q h => by rw [hE4]; exact mm_up_n _ _ h
              have hat : E4 (h + 9) = some (mm_I G 656 (zup (g3) (640 + k) ((fh k)))) := by rw [hE4]; exact mm_up_s _ _ _
              have hK := hat
              have hO := ro.kept hO (frs _ (by omega))
              have hH := (frs _ (by omega)).trans hH
              have hC := (frs _ (by omega)).trans hC
              have hfr := (fun q h => (frs q (by omega)).trans (hfr q h) : ∀ q : Nat, (q ≠ h + 9) → E4 q = E0 q)
              refine lv_aload_n C0.1 C0.2.1 dX10_image_51 rfl (lv_at hl 0 rfl) ?_
              refine mm_get (fs := [.ref (h + 1), .ref (h + 2), .ref (h + 3), .ref (h + 4), .int (zI (((S.1.2.2 : Nat) : Int))), .int (zI (x2)), .long (zL (x3)), .ref (h + 5), .ref (h + 6), .ref (h + 7), .ref (h + 8), .int (zI (x4)), .int (zI (x5)), .int (zI (x6)), .int (zI (x7)), .int (zI (S.1.1)), .ref (h + 9), .ref (h + 10), .ref (h + 11), .ref (h + 12)]) C0 (C := RX10) (T := TX10) (N := 20) iG_X10 hM (hO) rfl 16 (by decide) tw_932 rfl rfl dX10_image_52 ?_
              refine lv_sipush (v := zI 648) C0.1 C0.2.1 dX10_image_55 rfl ?_
              refine lv_iload_n C0.1 C0.2.1 dX10_image_58 rfl (lv_at hl 1 rfl) ?_
              refine z_iadd C0.1 C0.2.1 dX10_image_59 ?_
              refine lv_aload_n C0.1 C0.2.1 dX10_image_60 rfl (lv_at hl 0 rfl) ?_
              refine mm_get (fs := [.ref (h + 1), .ref (h + 2), .ref (h + 3), .ref (h + 4), .int (zI (((S.1.2.2 : Nat) : Int))), .int (zI (x2)), .long (zL (x3)), .ref (h + 5), .ref (h + 6), .ref (h + 7), .ref (h + 8), .int (zI (x4)), .int (zI (x5)), .int (zI (x6)), .int (zI (x7)), .int (zI (S.1.1)), .ref (h + 9), .ref (h + 10), .ref (h + 11), .ref (h + 12)]) C0 (C := RX10) (T := TX10) (N := 20) iG_X10 hM (hO) rfl 2 (by decide) tw_918 rfl rfl dX10_image_61 ?_
              refine lv_iload_n C0.1 C0.2.1 dX10_image_64 rfl (lv_at hl 1 rfl) ?_
              refine mm_iald C0 hM (g := fc) (hC) (k) (i := (k : Int)) (by omega) (by omega) (by decide) dX10_image_65 ?_
              refine z_asI (b := (fc k)) (rfl) ?_
              refine mm_iast C0 hM hS (g := (zup g3 (640 + k) (fh k))) (hK) (648 + k) (i := ((648) + ((k : Int)))) (x := (fc k)) (by omega) (by omega) (by decide) dX10_image_66 (fun H locs hM hS hsz => ?_)
              obtain ⟨E5, hE5⟩ : ∃ X : mE, X = mm_up E4 (h + 9) (mm_I G 656 (zup ((zup g3 (640 + k) (fh k))) (648 + k) ((fc k)))) := ⟨_, rfl⟩
              replace hM : mm_M G E5 H := by rw [hE5]; exact hM
              have frs : ∀ q : Nat, q ≠ h + 9 → E5 q = E4 q := fun q h => by rw [hE5]; exact mm_up_n _ _ h
              have hat : E5 (h + 9) = some (mm_I G 656 (zup ((zup g3 (640 + k) (fh k))) (648 + k) ((fc k)))) := by rw [hE5]; exact mm_up_s _ _ _
              have hK := hat
              have hO := ro.kept hO (frs _ (by omega))
              have hH := (frs _ (by omega)).trans hH
              have hC := (frs _ (by omega)).trans hC
              have hfr := (fun q h => (frs q (by omega)).trans (hfr q h) : ∀ q : Nat, (q ≠ h + 9) → E5 q = E0 q)
              refine lv_iinc (v := zI (((k + 1 : Nat) : Int))) (lv' := [(1, .int (zI (((k + 1 : Nat) : Int)))), (0, .ref (h))]) C0.1 C0.2.1 dX10_image_67 hl (k := 1) rfl (z_inc (a := (k : Int)) (n := 1) (by omega)) (by decide) rfl (fun ls hl => ?_)
              refine lv_goto (tgt := 29) C0.1 C0.2.1 dX10_image_70 (by decide) ?_
              exact ih29  (k + 1) (zup (zup g3 (640 + k) (fh k)) (648 + k) (fc k)) E5 _ _ _ (by omega) (fun x hx => by rw [zup_n _ _ (by omega), zup_n _ _ (by omega)]; exact hf1 x hx) (fun x hx => if q : x = k then (by subst q; exact ⟨by rw [zup_n _ _ (by omega), zup_s], zup_s _ _ _⟩) else (by rw [zup_n _ _ (by omega), zup_n _ _ (by omega), zup_n _ _ (by omega), zup_n _ _ (by omega)]; exact hf2 x (by omega))) (hO) (hH) (hC) (hK) (hfr) (by omega) hM hS (lv_sub hl [1, 0] rfl)
        exact L29 (_ + 1) 0 g2 E1 _ _ _ (Nat.zero_le _) (fun x hx => hf x (by omega)) (fun x hx => absurd hx (Nat.not_lt_zero _)) (hO) (hH) (hC) (hK) (hfr) (Nat.lt_succ_self _) hM hS (lv_sub hl [1, 0] rfl)
      · skip
        refine lv_aload_n C0.1 C0.2.1 dX10_image_9 rfl (lv_at hl 0 rfl) ?_
        refine mm_get (fs := [.ref (h + 1), .ref (h + 2), .ref (h + 3), .ref (h + 4), .int (zI (((S.1.2.2 : Nat) : Int))), .int (zI (x2)), .long (zL (x3)), .ref (h + 5), .ref (h + 6), .ref (h + 7), .ref (h + 8), .int (zI (x4)), .int (zI (x5)), .int (zI (x6)), .int (zI (x7)), .int (zI (S.1.1)), .ref (h + 9), .ref (h + 10), .ref (h + 11), .ref (h + 12)]) C0 (C := RX10) (T := TX10) (N := 20) iG_X10 hM (hO) rfl 16 (by decide) tw_932 rfl rfl dX10_image_10 ?_
        refine lv_iload_n C0.1 C0.2.1 dX10_image_13 rfl (lv_at hl 1 rfl) ?_
        refine lv_aload_n C0.1 C0.2.1 dX10_image_14 rfl (lv_at hl 0 rfl) ?_
        refine mm_get (fs := [.ref (h + 1), .ref (h + 2), .ref (h + 3), .ref (h + 4), .int (zI (((S.1.2.2 : Nat) : Int))), .int (zI (x2)), .long (zL (x3)), .ref (h + 5), .ref (h + 6), .ref (h + 7), .ref (h + 8), .int (zI (x4)), .int (zI (x5)), .int (zI (x6)), .int (zI (x7)), .int (zI (S.1.1)), .ref (h + 9), .ref (h + 10), .ref (h + 11), .ref (h + 12)]) C0 (C := RX10) (T := TX10) (N := 20) iG_X10 hM (hO) rfl 0 (by decide) tw_916 rfl rfl dX10_image_15 ?_
        refine lv_iload_n C0.1 C0.2.1 dX10_image_18 rfl (lv_at hl 1 rfl) ?_
        refine mm_iald C0 hM (g := g) (hg) (k) (i := (k : Int)) (by omega) (by omega) (by decide) dX10_image_19 ?_
        refine z_asI (b := (g k)) (rfl) ?_
        refine mm_iast C0 hM hS (g := g2) (hK) (k) (i := (k : Int)) (x := (g k)) (by omega) (by omega) (by decide) dX10_image_20 (fun H locs hM hS hsz => ?_)
        obtain ⟨E6, hE6⟩ : ∃ X : mE, X = mm_up E1 (h + 9) (mm_I G 656 (zup (g2) (k) ((g k)))) := ⟨_, rfl⟩
        replace hM : mm_M G E6 H := by rw [hE6]; exact hM
        have frs : ∀ q : Nat, q ≠ h + 9 → E6 q = E1 q := fun q h => by rw [hE6]; exact mm_up_n _ _ h
        have hat : E6 (h + 9) = some (mm_I G 656 (zup (g2) (k) ((g k)))) := by rw [hE6]; exact mm_up_s _ _ _
        have hK := hat
        have hO := ro.kept hO (frs _ (by omega))
        have hg := (frs _ (by omega)).trans hg
        have hH := (frs _ (by omega)).trans hH
        have hC := (frs _ (by omega)).trans hC
        have hfr := (fun q h => (frs q (by omega)).trans (hfr q h) : ∀ q : Nat, (q ≠ h + 9) → E6 q = E0 q)
        refine lv_iinc (v := zI (((k + 1 : Nat) : Int))) (lv' := [(1, .int (zI (((k + 1 : Nat) : Int)))), (0, .ref (h))]) C0.1 C0.2.1 dX10_image_21 hl (k := 1) rfl (z_inc (a := (k : Int)) (n := 1) (by omega)) (by decide) rfl (fun ls hl => ?_)
        refine lv_goto (tgt := 2) C0.1 C0.2.1 dX10_image_24 (by decide) ?_
        exact ih2  (k + 1) (zup g2 k (g k)) E6 _ _ _ (by omega) (fun x hx => if q : x = k then (by subst q; exact zup_s _ _ _) else (by rw [zup_n _ _ q]; exact hf x (by omega))) (hO) (hg) (hH) (hC) (hK) (hfr) (by omega) hM hS (lv_sub hl [1, 0] rfl)
  exact L2 (_ + 1) 0 gk E0 _ _ _ (Nat.zero_le _) (fun x hx => absurd hx (Nat.not_lt_zero _)) (hO) (hg) (hH) (hC) (hK) (hfr) (Nat.lt_succ_self _) hM hS (lv_sub hl [1, 0] rfl)

def rX10_restore : Room := { frames := 0, cells := 0, slots := 0, locals := 0 }
theorem vw_X10_restore : mm_Vw RX10 yX10_restore cX10_restore 2 (some .int) 0 := ⟨tw_1294, tw_1295, tw_10, tw_1296, by decide +kernel⟩
set_option maxHeartbeats 4000000 in
set_option maxRecDepth 100000 in
theorem c_X10_restore (l : Launch) (G : mG) (E0 : mE) {h : Nat} {S : mST} (hF : rf G E0 h S) (hok : okR S) : mm_Ci l yX10_restore (.code yX10_restore cX10_restore 2 (some .int) :: wsG) rX10_restore G [.ref (h)] E0 (fun z E => z = (pf_restore S).1 ∧ rf G E h (pf_restore S).2 ∧ ∀ q : Nat, (q < h ∨ h + 13 ≤ q) → E q = E0 q) := by
  refine mm_of_i (by decide +kernel) (Nat.le_of_ble_eq_true rfl) ?_
  intro p e s m args below meth c ls C0 hr hlk hM hl hS
  have hl : lv_has ls 2 [(0, .ref (h))] := hl
  obtain ⟨R, x2, x3, x4, x5, x6, x7, hX⟩ := hF
  have hX0 := hX
  obtain ⟨hTk, hPk, hKk, hSk⟩ := hok
  obtain ⟨hO, hR, hRp, ⟨fh, fc, hH, hC, hPa⟩, hTp, hCl, hKp, hSh, him⟩ := hX
  obtain ⟨gk, hK, hKa⟩ := hKp
  obtain ⟨hB9, g, hg, hR9⟩ := id hR
  have hfr : ∀ q : Nat, (q ≠ h + 1 ∧ q ≠ h + 2 ∧ q ≠ h + 3) → E0 q = E0 q := fun _ _ => rfl
  refine lv_aload_n C0.1 C0.2.1 dX10_restore_0 rfl (lv_at hl 0 rfl) ?_
  refine mm_get (fs := [.ref (h + 1), .ref (h + 2), .ref (h + 3), .ref (h + 4), .int (zI (((S.1.2.2 : Nat) : Int))), .int (zI (x2)), .long (zL (x3)), .ref (h + 5), .ref (h + 6), .ref (h + 7), .ref (h + 8), .int (zI (x4)), .int (zI (x5)), .int (zI (x6)), .int (zI (x7)), .int (zI (S.1.1)), .ref (h + 9), .ref (h + 10), .ref (h + 11), .ref (h + 12)]) C0 (C := RX10) (T := TX10) (N := 20) iG_X10 hM (hO) rfl 15 (by decide) tw_931 rfl rfl dX10_restore_1 ?_
  refine z_if_ne (tgt := 10) C0.1 C0.2.1 dX10_restore_4 (by decide) ⟨by omega, by omega⟩ (fun c_4 => ?_) (fun c_4 => ?_)
  · skip
    refine lv_iconst (v := zI 0) C0.1 C0.2.1 dX10_restore_10 rfl ?_
    refine lv_istore_n (lv' := [(1, .int (zI (0))), (0, .ref (h))]) C0.1 C0.2.1 dX10_restore_11 rfl hl (by decide) rfl (fun ls hl => ?_)
    have L12 : ∀ (k12 : Nat) (k : Nat) (g2 : Nat → Int) (E1 : mE) (H : Heap) (locs : List Loc) (ls : Array Slot), (k ≤ 640) → (∀ x, x < k → g2 x = gk x) → (∀ x, k ≤ x → g2 x = g x) → (ro G E1 h ((S.1.2.2 : Nat) : Int) x2 x3 x4 x5 x6 x7 S.1.1) → (E1 (h + 1) = some (mm_I G 1280 g2)) → (E1 (h + 2) = some (mm_I G 8 fh)) → (E1 (h + 3) = some (mm_I G 8 fc)) → (E1 (h + 9) = some (mm_I G 656 gk)) → (∀ q : Nat, (q ≠ h + 1 ∧ q ≠ h + 2 ∧ q ≠ h + 3) → E1 q = E0 q) → 640 - k < k12 → mm_M G E1 H → va_S (mm_A G) s.heap H locs → lv_has ls 2 [(0, .ref (h)), (1, .int (zI ((k : Int))))] → W p l e rX10_restore s m args below meth c H locs 0 0 (mm_Zi G below args s (fun z E => z = (pf_restore S).1 ∧ rf G E h (pf_restore S).2 ∧ ∀ q : Nat, (q < h ∨ h + 13 ≤ q) → E q = E0 q)) (F0 m 12 ls []) := by
      intro k12
      induction k12 with
      | zero => intro k g2 E1 H locs ls hk9 hf hfz hO hg hH hC hK hfr hk hM hS hl; exact absurd hk (Nat.not_lt_zero _)
      | succ k12 ih12 =>
        intro k g2 E1 H locs ls hk9 hf hfz hO hg hH hC hK hfr hk12 hM hS hl
        refine lv_iload_n C0.1 C0.2.1 dX10_restore_12 rfl (lv_at hl 1 rfl) ?_
        refine lv_sipush (v := zI 640) C0.1 C0.2.1 dX10_restore_13 rfl ?_
        refine z_icmp_ge (tgt := 37) C0.1 C0.2.1 dX10_restore_16 (by decide) ⟨by omega, by omega⟩ ⟨by omega, by omega⟩ (fun c_16 => ?_) (fun c_16 => ?_)
        · skip
          refine lv_iconst (v := zI 0) C0.1 C0.2.1 dX10_restore_37 rfl ?_
          refine lv_istore_n (lv' := [(1, .int (zI (0))), (0, .ref (h))]) C0.1 C0.2.1 dX10_restore_38 rfl hl (by decide) rfl (fun ls hl => ?_)
          have L39 : ∀ (k39 : Nat) (k : Nat) (f2 f3 : Nat → Int) (E2 : mE) (H : Heap) (locs : List Loc) (ls : Array Slot), (k ≤ 8) → (∀ x, x < k → f2 x = gk (640 + x) ∧ f3 x = gk (648 + x)) → (ro G E2 h ((S.1.2.2 : Nat) : Int) x2 x3 x4 x5 x6 x7 S.1.1) → (E2 (h + 1) = some (mm_I G 1280 g2)) → (E2 (h + 2) = some (mm_I G 8 f2)) → (E2 (h + 3) = some (mm_I G 8 f3)) → (E2 (h + 9) = some (mm_I G 656 gk)) → (∀ q : Nat, (q ≠ h + 1 ∧ q ≠ h + 2 ∧ q ≠ h + 3) → E2 q = E0 q) → 8 - k < k39 → mm_M G E2 H → va_S (mm_A G) s.heap H locs → lv_has ls 2 [(0, .ref (h)), (1, .int (zI ((k : Int))))] → W p l e rX10_restore s m args below meth c H locs 0 0 (mm_Zi G below args s (fun z E => z = (pf_restore S).1 ∧ rf G E h (pf_restore S).2 ∧ ∀ q : Nat, (q < h ∨ h + 13 ≤ q) → E q = E0 q)) (F0 m 39 ls []) := by
            intro k39
            induction k39 with
            | zero => intro k f2 f3 E2 H locs ls hk9 hf2 hO hg hH hC hK hfr hk hM hS hl; exact absurd hk (Nat.not_lt_zero _)
            | succ k39 ih39 =>
              intro k f2 f3 E2 H locs ls hk9 hf2 hO hg hH hC hK hfr hk39 hM hS hl
              refine lv_iload_n C0.1 C0.2.1 dX10_restore_39 rfl (lv_at hl 1 rfl) ?_
              refine lv_bipush (v := zI 8) C0.1 C0.2.1 dX10_restore_40 rfl ?_
              refine z_icmp_ge (tgt := 83) C0.1 C0.2.1 dX10_restore_42 (by decide) ⟨by omega, by omega⟩ ⟨by omega, by omega⟩ (fun c_42 => ?_) (fun c_42 => ?_)
              · skip
                have hke : k = 8 := by omega
                subst hke
                refine lv_iconst (v := zI 1) C0.1 C0.2.1 dX10_restore_83 rfl ?_
                exact mm_iret (z := 1) C0 hr hlk hM hS dX10_restore_84 (by have he : pf_restore S = (1, (S.1, S.2.2.1, S.2.2.1, S.2.2.2)) := (by unfold pf_restore; rw [if_neg (by omega)]); rw [he]; exact ⟨rfl, ⟨(fun r => if r < 8 then S.2.2.1.2.2 r else R r), x2, x3, x4, x5, x6, x7, hO, ⟨fun r hr => by show nl (if r < 8 then S.2.2.1.2.2 r else R r) ≤ 80; split; exact Nat.le_trans (hKk r (by omega)).2.2.2 (by omega); exact hB9 r hr, g2, hg, fun r hr j hj => by show _ = ((dg (if r < 8 then S.2.2.1.2.2 r else R r) j : Nat) : Int); split; (rw [hf _ (by omega)]; exact (hKa r (by omega)).1 j hj); (rw [hfz _ (by omega)]; exact hR9 r hr j hj)⟩, fun i hi => if_pos hi, ⟨f2, f3, hH, hC, fun i hi => ⟨(hf2 i hi).1.trans (hKa i hi).2.1, (hf2 i hi).2.trans (hKa i hi).2.2⟩⟩, (hfr _ (by omega)).trans hTp, hCl.kept (fun q hq => hfr q (by omega)), ⟨gk, hK, hKa⟩, hSh.kept (fun q hq => hfr q (by omega)), him⟩, fun q hq => hfr q (by omega)⟩)
              · skip
                refine lv_aload_n C0.1 C0.2.1 dX10_restore_45 rfl (lv_at hl 0 rfl) ?_
                refine mm_get (fs := [.ref (h + 1), .ref (h + 2), .ref (h + 3), .ref (h + 4), .int (zI (((S.1.2.2 : Nat) : Int))), .int (zI (x2)), .long (zL (x3)), .ref (h + 5), .ref (h + 6), .ref (h + 7), .ref (h + 8), .int (zI (x4)), .int (zI (x5)), .int (zI (x6)), .int (zI (x7)), .int (zI (S.1.1)), .ref (h + 9), .ref (h + 10), .ref (h + 11), .ref (h + 12)]) C0 (C := RX10) (T := TX10) (N := 20) iG_X10 hM (hO) rfl 1 (by decide) tw_917 rfl rfl dX10_restore_46 ?_
                refine lv_iload_n C0.1 C0.2.1 dX10_restore_49 rfl (lv_at hl 1 rfl) ?_
                refine lv_aload_n C0.1 C0.2.1 dX10_restore_50 rfl (lv_at hl 0 rfl) ?_
                refine mm_get (fs := [.ref (h + 1), .ref (h + 2), .ref (h + 3), .ref (h + 4), .int (zI (((S.1.2.2 : Nat) : Int))), .int (zI (x2)), .long (zL (x3)), .ref (h + 5), .ref (h + 6), .ref (h + 7), .ref (h + 8), .int (zI (x4)), .int (zI (x5)), .int (zI (x6)), .int (zI (x7)), .int (zI (S.1.1)), .ref (h + 9), .ref (h + 10), .ref (h + 11), .ref (h + 12)]) C0 (C := RX10) (T := TX10) (N := 20) iG_X10 hM (hO) rfl 16 (by decide) tw_932 rfl rfl dX10_restore_51 ?_
                refine lv_sipush (v := zI 640) C0.1 C0.2.1 dX10_restore_54 rfl ?_
                refine lv_iload_n C0.1 C0.2.1 dX10_restore_57 rfl (lv_at hl 1 rfl) ?_
                refine z_iadd C0.1 C0.2.1 dX10_restore_58 ?_
                refine mm_iald C0 hM (g := gk) (hK) (640 + k) (i := ((640) + ((k : Int)))) (by omega) (by omega) (by decide) dX10_restore_59 ?_
                refine z_asI (b := (gk (640 + k))) (rfl) ?_
                refine mm_iast C0 hM hS (g := f2) (hH) (k) (i := (k : Int)) (x := (gk (640 + k))) (by omega) (by omega) (by decide) dX10_restore_60 (fun H locs hM hS hsz => ?_)
                obtain ⟨E3, hE3⟩ : ∃ X : mE, X = mm_up E2 (h + 2) (mm_I G 8 (zup (f2) (k) ((gk (640 + k))))) := ⟨_, rfl⟩
                replace hM : mm_M G E3 H := by rw [hE3]; exact hM
                have frs : ∀ q : Nat, q ≠ h + 2 → E3 q = E2 q := fun q h => by rw [hE3]; exact mm_up_n _ _ h
                have hat : E3 (h + 2) = some (mm_I G 8 (zup (f2) (k) ((gk (640 + k))))) := by rw [hE3]; exact mm_up_s _ _ _
                have hH := hat
                have hO := ro.kept hO (frs _ (by omega))
                have hg := (frs _ (by omega)).trans hg
                have hC := (frs _ (by omega)).trans hC
                have hK := (frs _ (by omega)).trans hK
                have hfr := (fun q h => (frs q (by omega)).trans (hfr q h) : ∀ q : Nat, (q ≠ h + 1 ∧ q ≠ h + 2 ∧ q ≠ h + 3) → E3 q = E0 q)
                refine lv_aload_n C0.1 C0.2.1 dX10_restore_61 rfl (lv_at hl 0 rfl) ?_
                refine mm_get (fs := [.ref (h + 1), .ref (h + 2), .ref (h + 3), .ref (h + 4), .int (zI (((S.1.2.2 : Nat) : Int))), .int (zI (x2)), .long (zL (x3)), .ref (h + 5), .ref (h + 6), .ref (h + 7), .ref (h + 8), .int (zI (x4)), .int (zI (x5)), .int (zI (x6)), .int (zI (x7)), .int (zI (S.1.1)), .ref (h + 9), .ref (h + 10), .ref (h + 11), .ref (h + 12)]) C0 (C := RX10) (T := TX10) (N := 20) iG_X10 hM (hO) rfl 2 (by decide) tw_918 rfl rfl dX10_restore_62 ?_
                refine lv_iload_n C0.1 C0.2.1 dX10_restore_65 rfl (lv_at hl 1 rfl) ?_
                refine lv_aload_n C0.1 C0.2.1 dX10_restore_66 rfl (lv_at hl 0 rfl) ?_
                refine mm_get (fs := [.ref (h + 1), .ref (h + 2), .ref (h + 3), .ref (h + 4), .int (zI (((S.1.2.2 : Nat) : Int))), .int (zI (x2)), .long (zL (x3)), .ref (h + 5), .ref (h + 6), .ref (h + 7), .ref (h + 8), .int (zI (x4)), .int (zI (x5)), .int (zI (x6)), .int (zI (x7)), .int (zI (S.1.1)), .ref (h + 9), .ref (h + 10), .ref (h + 11), .ref (h + 12)]) C0 (C := RX10) (T := TX10) (N := 20) iG_X10 hM (hO) rfl 16 (by decide) tw_932 rfl rfl dX10_restore_67 ?_
                refine lv_sipush (v := zI 648) C0.1 C0.2.1 dX10_restore_70 rfl ?_
                refine lv_iload_n C0.1 C0.2.1 dX10_restore_73 rfl (lv_at hl 1 rfl) ?_
                refine z_iadd C0.1 C0.2.1 dX10_restore_74 ?_
                refine mm_iald C0 hM (g := gk) (hK) (648 + k) (i := ((648) + ((k : Int)))) (by omega) (by omega) (by decide) dX10_restore_75 ?_
                refine z_asI (b := (gk (648 + k))) (rfl) ?_
                refine mm_iast C0 hM hS (g := f3) (hC) (k) (i := (k : Int)) (x := (gk (648 + k))) (by omega) (by omega) (by decide) dX10_restore_76 (fun H locs hM hS hsz => ?_)
                obtain ⟨E4, hE4⟩ : ∃ X : mE, X = mm_up E3 (h + 3) (mm_I G 8 (zup (f3) (k) ((gk (648 + k))))) := ⟨_, rfl⟩
                replace hM : mm_M G E4 H := by rw [hE4]; exact hM
                have frs : ∀ q : Nat, q ≠ h + 3 → E4 q = E3 q := fun q h => by rw [hE4]; exact mm_up_n _ _ h
                have hat : E4 (h + 3) = some (mm_I G 8 (zup (f3) (k) ((gk (648 + k))))) := by rw [hE4]; exact mm_up_s _ _ _
                have hC := hat
                have hO := ro.kept hO (frs _ (by omega))
                have hg := (frs _ (by omega)).trans hg
                have hH := (frs _ (by omega)).trans hH
                have hK := (frs _ (by omega)).trans hK
                have hfr := (fun q h => (frs q (by omega)).trans (hfr q h) : ∀ q : Nat, (q ≠ h + 1 ∧ q ≠ h + 2 ∧ q ≠ h + 3) → E4 q = E0 q)
                refine lv_iinc (v := zI (((k + 1 : Nat) : Int))) (lv' := [(1, .int (zI (((k + 1 : Nat) : Int)))), (0, .ref (h))]) C0.1 C0.2.1 dX10_restore_77 hl (k := 1) rfl (z_inc (a := (k : Int)) (n := 1) (by omega)) (by decide) rfl (fun ls hl => ?_)
                refine lv_goto (tgt := 39) C0.1 C0.2.1 dX10_restore_80 (by decide) ?_
                exact ih39  (k + 1) (zup f2 k (gk (640 + k))) (zup f3 k (gk (648 + k))) E4 _ _ _ (by omega) (fun x hx => if q : x = k then (by subst q; exact ⟨zup_s _ _ _, zup_s _ _ _⟩) else (by rw [zup_n _ _ q, zup_n _ _ q]; exact hf2 x (by omega))) (hO) (hg) (hH) (hC) (hK) (hfr) (by omega) hM hS (lv_sub hl [1, 0] rfl)
          exact L39 (_ + 1) 0 fh fc E1 _ _ _ (Nat.zero_le _) (fun x hx => absurd hx (Nat.not_lt_zero _)) (hO) (hg) (hH) (hC) (hK) (hfr) (Nat.lt_succ_self _) hM hS (lv_sub hl [1, 0] rfl)
        · skip
          refine lv_aload_n C0.1 C0.2.1 dX10_restore_19 rfl (lv_at hl 0 rfl) ?_
          refine mm_get (fs := [.ref (h + 1), .ref (h + 2), .ref (h + 3), .ref (h + 4), .int (zI (((S.1.2.2 : Nat) : Int))), .int (zI (x2)), .long (zL (x3)), .ref (h + 5), .ref (h + 6), .ref (h + 7), .ref (h + 8), .int (zI (x4)), .int (zI (x5)), .int (zI (x6)), .int (zI (x7)), .int (zI (S.1.1)), .ref (h + 9), .ref (h + 10), .ref (h + 11), .ref (h + 12)]) C0 (C := RX10) (T := TX10) (N := 20) iG_X10 hM (hO) rfl 0 (by decide) tw_916 rfl rfl dX10_restore_20 ?_
          refine lv_iload_n C0.1 C0.2.1 dX10_restore_23 rfl (lv_at hl 1 rfl) ?_
          refine lv_aload_n C0.1 C0.2.1 dX10_restore_24 rfl (lv_at hl 0 rfl) ?_
          refine mm_get (fs := [.ref (h + 1), .ref (h + 2), .ref (h + 3), .ref (h + 4), .int (zI (((S.1.2.2 : Nat) : Int))), .int (zI (x2)), .long (zL (x3)), .ref (h + 5), .ref (h + 6), .ref (h + 7), .ref (h + 8), .int (zI (x4)), .int (zI (x5)), .int (zI (x6)), .int (zI (x7)), .int (zI (S.1.1)), .ref (h + 9), .ref (h + 10), .ref (h + 11), .ref (h + 12)]) C0 (C := RX10) (T := TX10) (N := 20) iG_X10 hM (hO) rfl 16 (by decide) tw_932 rfl rfl dX10_restore_25 ?_
          refine lv_iload_n C0.1 C0.2.1 dX10_restore_28 rfl (lv_at hl 1 rfl) ?_
          refine mm_iald C0 hM (g := gk) (hK) (k) (i := (k : Int)) (by omega) (by omega) (by decide) dX10_restore_29 ?_
          refine z_asI (b := (gk k)) (rfl) ?_
          refine mm_iast C0 hM hS (g := g2) (hg) (k) (i := (k : Int)) (x := (gk k)) (by omega) (by omega) (by decide) dX10_restore_30 (fun H locs hM hS hsz => ?_)
          obtain ⟨E5, hE5⟩ : ∃ X : mE, X = mm_up E1 (h + 1) (mm_I G 1280 (zup (g2) (k) ((gk k)))) := ⟨_, rfl⟩
          replace hM : mm_M G E5 H := by rw [hE5]; exact hM
          have frs : ∀ q : Nat, q ≠ h + 1 → E5 q = E1 q := fun q h => by rw [hE5]; exact mm_up_n _ _ h
          have hat : E5 (h + 1) = some (mm_I G 1280 (zup (g2) (k) ((gk k)))) := by rw [hE5]; exact mm_up_s _ _ _
          have hg := hat
          have hO := ro.kept hO (frs _ (by omega))
          have hH := (frs _ (by omega)).trans hH
          have hC := (frs _ (by omega)).trans hC
          have hK := (frs _ (by omega)).trans hK
          have hfr := (fun q h => (frs q (by omega)).trans (hfr q h) : ∀ q : Nat, (q ≠ h + 1 ∧ q ≠ h + 2 ∧ q ≠ h + 3) → E5 q = E0 q)
          refine lv_iinc (v := zI (((k + 1 : Nat) : Int))) (lv' := [(1, .int (zI (((k + 1 : Nat) : Int)))), (0, .ref (h))]) C0.1 C0.2.1 dX10_restore_31 hl (k := 1) rfl (z_inc (a := (k : Int)) (n := 1) (by omega)) (by decide) rfl (fun ls hl => ?_)
          refine lv_goto (tgt := 12) C0.1 C0.2.1 dX10_restore_34 (by decide) ?_
          exact ih12  (k + 1) (zup g2 k (gk k)) E5 _ _ _ (by omega) (fun x hx => if q : x = k then (by subst q; exact zup_s _ _ _) else (by rw [zup_n _ _ q]; exact hf x (by omega))) (fun x hx => by rw [zup_n _ _ (by omega)]; exact hfz x (by omega)) (hO) (hg) (hH) (hC) (hK) (hfr) (by omega) hM hS (lv_sub hl [1, 0] rfl)
    exact L12 (_ + 1) 0 g E0 _ _ _ (Nat.zero_le _) (fun x hx => absurd hx (Nat.not_lt_zero _)) (fun x _ => rfl) (hO) (hg) (hH) (hC) (hK) (hfr) (Nat.lt_succ_self _) hM hS (lv_sub hl [1, 0] rfl)
  · skip
    refine lv_bipush (v := zI (-4)) C0.1 C0.2.1 dX10_restore_7 rfl ?_
    exact mm_iret (z := (-4)) C0 hr hlk hM hS dX10_restore_9 (by have he : pf_restore S = ((-4), S) := (by unfold pf_restore; rw [if_pos (by omega)]); rw [he]; exact ⟨rfl, hX0.rf, fun _ _ => rfl⟩)
