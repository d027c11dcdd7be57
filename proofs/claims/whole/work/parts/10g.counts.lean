def rX0_rightCorners : Room := { frames := 1, cells := 0, slots := 0, locals := 21 }
theorem sw_X0_rightCorners : mm_Sw yX0_rightCorners cX0_rightCorners 6 (some .int) 2 := ⟨tw_714, tw_12, tw_715, by decide +kernel⟩
set_option maxHeartbeats 4000000 in
set_option maxRecDepth 100000 in
theorem c_X0_rightCorners (l : Launch) (G : mG) (E0 : mE) {h : Nat} {i : Int} (hh1 : 1 ≤ h) (hh2 : h ≤ 500) (hi : rI i) : mm_Ci l yX0_rightCorners (.code yX0_rightCorners cX0_rightCorners 6 (some .int) :: wsG) rX0_rightCorners G [.int (zI ((h : Int))), .int (zI (i))] E0 (fun z E => z = scan rcB rcV i 501 0 (501 * h) ∧ E = E0) := by
  refine mm_of_i (by decide +kernel) (Nat.le_of_ble_eq_true rfl) ?_
  intro p e s m args below meth c ls C0 hr hlk hM hl hS
  have hl : lv_has ls 6 [(0, .int (zI ((h : Int)))), (1, .int (zI (i)))] := hl
  obtain ⟨hi1, hi2⟩ := hi
  refine lv_iconst (v := zI 0) C0.1 C0.2.1 dX0_rightCorners_0 rfl ?_
  refine lv_istore_n (lv' := [(2, .int (zI (0))), (0, .int (zI ((h : Int)))), (1, .int (zI (i)))]) C0.1 C0.2.1 dX0_rightCorners_1 rfl hl (by decide) rfl (fun ls hl => ?_)
  refine lv_iconst (v := zI 1) C0.1 C0.2.1 dX0_rightCorners_2 rfl ?_
  refine lv_istore_n (lv' := [(3, .int (zI (1))), (2, .int (zI (0))), (0, .int (zI ((h : Int)))), (1, .int (zI (i)))]) C0.1 C0.2.1 dX0_rightCorners_3 rfl hl (by decide) rfl (fun ls hl => ?_)
  have L4 : ∀ (k4 : Nat) (c_ cn : Nat) (H : Heap) (locs : List Loc) (ls : Array Slot), (1 ≤ c_) → (c_ ≤ h + 1) → (cn ≤ 501 * c_) → (hid (scan rcB rcV i 501 0 (501 * h) = scan rcB rcV i (501 * c_) cn (501 * (h + 1 - c_)))) → h + 1 - c_ < k4 → mm_M G E0 H → va_S (mm_A G) s.heap H locs → lv_has ls 6 [(0, .int (zI ((h : Int)))), (1, .int (zI (i))), (2, .int (zI ((cn : Int)))), (3, .int (zI ((c_ : Int))))] → W p l e rX0_rightCorners s m args below meth c H locs 0 0 (mm_Zi G below args s (fun z E => z = scan rcB rcV i 501 0 (501 * h) ∧ E = E0)) (F0 m 4 ls []) := by
    intro k4
    induction k4 with
    | zero => intro c_ cn H locs ls hc1 hc2 hcn hSC hk hM hS hl; exact absurd hk (Nat.not_lt_zero _)
    | succ k4 ih4 =>
      intro c_ cn H locs ls hc1 hc2 hcn hSC hk4 hM hS hl
      have hcc : c_ * c_ ≤ 501 * 501 := Nat.mul_le_mul (by omega) (by omega)
      have hcz : ((c_ * c_ : Nat) : Int) = (c_ : Int) * (c_ : Int) := Int.natCast_mul _ _
      refine lv_iload_n C0.1 C0.2.1 dX0_rightCorners_4 rfl (lv_at hl 3 rfl) ?_
      refine lv_iload_n C0.1 C0.2.1 dX0_rightCorners_5 rfl (lv_at hl 0 rfl) ?_
      refine z_icmp_gt (tgt := 107) C0.1 C0.2.1 dX0_rightCorners_6 (by decide) ⟨by omega, by omega⟩ ⟨by omega, by omega⟩ (fun c_6 => ?_) (fun c_6 => ?_)
      · skip
        refine lv_iload_n C0.1 C0.2.1 dX0_rightCorners_107 rfl (lv_at hl 1 rfl) ?_
        refine lv_iload_n C0.1 C0.2.1 dX0_rightCorners_108 rfl (lv_at hl 2 rfl) ?_
        refine mm_callSi (As := [.int (zI (i)), .int (zI ((cn : Int)))]) C0 sw_X0_close tw_631 (c_X0_close l G _ ⟨by omega, by omega⟩ (by omega)) hM rfl hl.1 rfl (Nat.le_of_ble_eq_true rfl) ⟨rfl, rfl, Nat.le_of_ble_eq_true rfl, Nat.le_of_ble_eq_true rfl, Nat.zero_le _, Nat.zero_le _⟩ dX0_rightCorners_109 hS (fun z_109 E1 H locs hp hM hS => ?_)
        obtain ⟨hz_109, hEq⟩ := hp
        rw [hEq] at hM
        refine z_asI (b := clo i cn) (hz_109) ?_
        exact mm_iret (z := clo i cn) C0 hr hlk hM hS dX0_rightCorners_112 (⟨(Eq.trans hSC (by rw [show 501 * (h + 1 - c_) = 0 by omega]; exact scan_0 _ _ _ _ _)).symm, rfl⟩)
      · skip
        refine lv_iload_n C0.1 C0.2.1 dX0_rightCorners_9 rfl (lv_at hl 3 rfl) ?_
        refine lv_iconst (v := zI 1) C0.1 C0.2.1 dX0_rightCorners_10 rfl ?_
        refine z_isub C0.1 C0.2.1 dX0_rightCorners_11 ?_
        refine z_asI (a := (((c_ : Int)) - (1))) (b := ((c_ - 1 : Nat) : Int)) (by omega) ?_
        refine lv_istore (lv' := [(4, .int (zI (((c_ - 1 : Nat) : Int)))), (0, .int (zI ((h : Int)))), (1, .int (zI (i))), (2, .int (zI ((cn : Int)))), (3, .int (zI ((c_ : Int))))]) C0.1 C0.2.1 dX0_rightCorners_12 hl (by decide) rfl (fun ls hl => ?_)
        refine lv_iconst (v := zI 1) C0.1 C0.2.1 dX0_rightCorners_14 rfl ?_
        refine lv_istore (lv' := [(5, .int (zI (1))), (4, .int (zI (((c_ - 1 : Nat) : Int)))), (0, .int (zI ((h : Int)))), (1, .int (zI (i))), (2, .int (zI ((cn : Int)))), (3, .int (zI ((c_ : Int))))]) C0.1 C0.2.1 dX0_rightCorners_15 hl (by decide) rfl (fun ls hl => ?_)
        have L17 : ∀ (k17 : Nat) (a b cn : Nat) (H : Heap) (locs : List Loc) (ls : Array Slot), (1 ≤ a) → (a ≤ 501) → (b ≤ c_ - 1) → (a ≤ c_ + 1) → (cn ≤ 501 * c_ + a) → (pJ (c_ * c_) a b) → (hid (scan rcB rcV i 501 0 (501 * h) = scan rcB rcV i (501 * c_ + a) cn (501 * (h + 1 - c_) - a))) → 501 - a < k17 → mm_M G E0 H → va_S (mm_A G) s.heap H locs → lv_has ls 6 [(0, .int (zI ((h : Int)))), (1, .int (zI (i))), (2, .int (zI ((cn : Int)))), (3, .int (zI ((c_ : Int)))), (4, .int (zI ((b : Int)))), (5, .int (zI ((a : Int))))] → W p l e rX0_rightCorners s m args below meth c H locs 0 0 (mm_Zi G below args s (fun z E => z = scan rcB rcV i 501 0 (501 * h) ∧ E = E0)) (F0 m 17 ls []) := by
          intro k17
          induction k17 with
          | zero => intro a b cn H locs ls ha1 ha2 hb hab hcn hpJ hSC hk hM hS hl; exact absurd hk (Nat.not_lt_zero _)
          | succ k17 ih17 =>
            intro a b cn H locs ls ha1 ha2 hb hab hcn hpJ hSC hk17 hM hS hl
            have haa : a * a ≤ 501 * 501 := Nat.mul_le_mul (by omega) (by omega)
            have haz : ((a * a : Nat) : Int) = (a : Int) * (a : Int) := Int.natCast_mul _ _
            refine lv_iload C0.1 C0.2.1 dX0_rightCorners_17 (lv_at hl 5 rfl) ?_
            refine lv_iload C0.1 C0.2.1 dX0_rightCorners_19 (lv_at hl 4 rfl) ?_
            refine z_icmp_ge (tgt := 101) C0.1 C0.2.1 dX0_rightCorners_21 (by decide) ⟨by omega, by omega⟩ ⟨by omega, by omega⟩ (fun c_21 => ?_) (fun c_21 => ?_)
            · skip
              refine lv_iinc (v := zI (((c_ + 1 : Nat) : Int))) (lv' := [(3, .int (zI (((c_ + 1 : Nat) : Int)))), (0, .int (zI ((h : Int)))), (1, .int (zI (i))), (2, .int (zI ((cn : Int)))), (4, .int (zI ((b : Int)))), (5, .int (zI ((a : Int))))]) C0.1 C0.2.1 dX0_rightCorners_101 hl (k := 3) rfl (z_inc (a := (c_ : Int)) (n := 1) (by omega)) (by decide) rfl (fun ls hl => ?_)
              refine lv_goto (tgt := 4) C0.1 C0.2.1 dX0_rightCorners_104 (by decide) ?_
              exact ih4  (c_ + 1) cn _ _ _ (by omega) (by omega) (by omega) (Eq.trans hSC ((scan_skip (k := 501 - a) (m := 501 * (h + 1 - (c_ + 1))) (by omega) (fun j h1 h2 => by obtain ⟨x, rfl⟩ : ∃ x, j = 501 * c_ + x := ⟨j - 501 * c_, by omega⟩; exact rcB_f (by omega) (fun q => pJ_nil hpJ (by omega) x (by omega) q.2))).trans (by rw [show 501 * c_ + a + (501 - a) = 501 * (c_ + 1) by omega])))  (by omega) hM hS (lv_sub hl [1, 2, 3, 0] rfl)
            · skip
              have L24 : ∀ (k24 : Nat) (b : Nat) (H : Heap) (locs : List Loc) (ls : Array Slot), (b ≤ c_ - 1) → (pJ (c_ * c_) a b) → b < k24 → mm_M G E0 H → va_S (mm_A G) s.heap H locs → lv_has ls 6 [(0, .int (zI ((h : Int)))), (1, .int (zI (i))), (2, .int (zI ((cn : Int)))), (3, .int (zI ((c_ : Int)))), (4, .int (zI ((b : Int)))), (5, .int (zI ((a : Int))))] → W p l e rX0_rightCorners s m args below meth c H locs 0 0 (mm_Zi G below args s (fun z E => z = scan rcB rcV i 501 0 (501 * h) ∧ E = E0)) (F0 m 24 ls []) := by
                intro k24
                induction k24 with
                | zero => intro b H locs ls hb2 hpJ2 hk hM hS hl; exact absurd hk (Nat.not_lt_zero _)
                | succ k24 ih24 =>
                  intro b H locs ls hb2 hpJ2 hk24 hM hS hl
                  have hbb : b * b ≤ 501 * 501 := Nat.mul_le_mul (by omega) (by omega)
                  have hbz : ((b * b : Nat) : Int) = (b : Int) * (b : Int) := Int.natCast_mul _ _
                  refine lv_iload C0.1 C0.2.1 dX0_rightCorners_24 (lv_at hl 4 rfl) ?_
                  refine lv_iload C0.1 C0.2.1 dX0_rightCorners_26 (lv_at hl 5 rfl) ?_
                  refine z_icmp_le (tgt := 54) C0.1 C0.2.1 dX0_rightCorners_28 (by decide) ⟨by omega, by omega⟩ ⟨by omega, by omega⟩ (fun c_28 => ?_) (fun c_28 => ?_)
                  · skip
                    refine lv_iload C0.1 C0.2.1 dX0_rightCorners_54 (lv_at hl 5 rfl) ?_
                    refine lv_iload C0.1 C0.2.1 dX0_rightCorners_56 (lv_at hl 4 rfl) ?_
                    refine z_icmp_ge (tgt := 95) C0.1 C0.2.1 dX0_rightCorners_58 (by decide) ⟨by omega, by omega⟩ ⟨by omega, by omega⟩ (fun c_58 => ?_) (fun c_58 => ?_)
                    · skip
                      refine lv_iinc (v := zI (((a + 1 : Nat) : Int))) (lv' := [(5, .int (zI (((a + 1 : Nat) : Int)))), (0, .int (zI ((h : Int)))), (1, .int (zI (i))), (2, .int (zI ((cn : Int)))), (3, .int (zI ((c_ : Int)))), (4, .int (zI ((b : Int))))]) C0.1 C0.2.1 dX0_rightCorners_95 hl (k := 5) rfl (z_inc (a := (a : Int)) (n := 1) (by omega)) (by decide) rfl (fun ls hl => ?_)
                      refine lv_goto (tgt := 17) C0.1 C0.2.1 dX0_rightCorners_98 (by decide) ?_
                      exact ih17  (a + 1) b cn _ _ _ (by omega) (by omega) (by omega) (by omega) (by omega) (fun x y h1 h2 h3 => hpJ2 x y (by omega) h2 h3) (Eq.trans hSC (scan_f (by omega) (rcB_f (by omega) (fun q => pJ_no hpJ2 (by omega) q.2))))  (by omega) hM hS (lv_sub hl [1, 2, 3, 4, 5, 0] rfl)
                    · skip
                      refine lv_iload C0.1 C0.2.1 dX0_rightCorners_61 (lv_at hl 5 rfl) ?_
                      refine lv_iload C0.1 C0.2.1 dX0_rightCorners_63 (lv_at hl 5 rfl) ?_
                      refine z_imul C0.1 C0.2.1 dX0_rightCorners_65 ?_
                      refine lv_iload C0.1 C0.2.1 dX0_rightCorners_66 (lv_at hl 4 rfl) ?_
                      refine lv_iload C0.1 C0.2.1 dX0_rightCorners_68 (lv_at hl 4 rfl) ?_
                      refine z_imul C0.1 C0.2.1 dX0_rightCorners_70 ?_
                      refine z_iadd C0.1 C0.2.1 dX0_rightCorners_71 ?_
                      refine lv_iload_n C0.1 C0.2.1 dX0_rightCorners_72 rfl (lv_at hl 3 rfl) ?_
                      refine lv_iload_n C0.1 C0.2.1 dX0_rightCorners_73 rfl (lv_at hl 3 rfl) ?_
                      refine z_imul C0.1 C0.2.1 dX0_rightCorners_74 ?_
                      refine z_icmp_ne (tgt := 95) C0.1 C0.2.1 dX0_rightCorners_75 (by decide) ⟨by omega, by omega⟩ ⟨by omega, by omega⟩ (fun c_75 => ?_) (fun c_75 => ?_)
                      · skip
                        refine lv_iinc (v := zI (((a + 1 : Nat) : Int))) (lv' := [(5, .int (zI (((a + 1 : Nat) : Int)))), (0, .int (zI ((h : Int)))), (1, .int (zI (i))), (2, .int (zI ((cn : Int)))), (3, .int (zI ((c_ : Int)))), (4, .int (zI ((b : Int))))]) C0.1 C0.2.1 dX0_rightCorners_95 hl (k := 5) rfl (z_inc (a := (a : Int)) (n := 1) (by omega)) (by decide) rfl (fun ls hl => ?_)
                        refine lv_goto (tgt := 17) C0.1 C0.2.1 dX0_rightCorners_98 (by decide) ?_
                        exact ih17  (a + 1) b cn _ _ _ (by omega) (by omega) (by omega) (by omega) (by omega) (fun x y h1 h2 h3 => hpJ2 x y (by omega) h2 h3) (Eq.trans hSC (scan_f (by omega) (rcB_f (by omega) (fun q => pJ_no hpJ2 (by omega) q.2))))  (by omega) hM hS (lv_sub hl [1, 2, 3, 4, 5, 0] rfl)
                      · skip
                        have heq : a * a + b * b = c_ * c_ := by omega
                        refine lv_iload_n C0.1 C0.2.1 dX0_rightCorners_78 rfl (lv_at hl 2 rfl) ?_
                        refine lv_iload_n C0.1 C0.2.1 dX0_rightCorners_79 rfl (lv_at hl 1 rfl) ?_
                        refine z_icmp_ne (tgt := 92) C0.1 C0.2.1 dX0_rightCorners_80 (by decide) ⟨by omega, by omega⟩ ⟨by omega, by omega⟩ (fun c_80 => ?_) (fun c_80 => ?_)
                        · skip
                          refine lv_iinc (v := zI (((cn + 1 : Nat) : Int))) (lv' := [(2, .int (zI (((cn + 1 : Nat) : Int)))), (0, .int (zI ((h : Int)))), (1, .int (zI (i))), (3, .int (zI ((c_ : Int)))), (4, .int (zI ((b : Int)))), (5, .int (zI ((a : Int))))]) C0.1 C0.2.1 dX0_rightCorners_92 hl (k := 2) rfl (z_inc (a := (cn : Int)) (n := 1) (by omega)) (by decide) rfl (fun ls hl => ?_)
                          refine lv_iinc (v := zI (((a + 1 : Nat) : Int))) (lv' := [(5, .int (zI (((a + 1 : Nat) : Int)))), (2, .int (zI (((cn + 1 : Nat) : Int)))), (0, .int (zI ((h : Int)))), (1, .int (zI (i))), (3, .int (zI ((c_ : Int)))), (4, .int (zI ((b : Int))))]) C0.1 C0.2.1 dX0_rightCorners_95 hl (k := 5) rfl (z_inc (a := (a : Int)) (n := 1) (by omega)) (by decide) rfl (fun ls hl => ?_)
                          refine lv_goto (tgt := 17) C0.1 C0.2.1 dX0_rightCorners_98 (by decide) ?_
                          exact ih17  (a + 1) b (cn + 1) _ _ _ (by omega) (by omega) (by omega) (by omega) (by omega) (fun x y h1 h2 h3 => hpJ2 x y (by omega) h2 h3) (Eq.trans hSC (scan_t (by omega) (rcB_t (by omega) ha1 (by omega) heq) (by omega)))  (by omega) hM hS (lv_sub hl [2, 3, 1, 4, 5, 0] rfl)
                        · skip
                          refine lv_sipush (v := zI 1000) C0.1 C0.2.1 dX0_rightCorners_83 rfl ?_
                          refine lv_iload C0.1 C0.2.1 dX0_rightCorners_86 (lv_at hl 5 rfl) ?_
                          refine z_imul C0.1 C0.2.1 dX0_rightCorners_88 ?_
                          refine lv_iload_n C0.1 C0.2.1 dX0_rightCorners_89 rfl (lv_at hl 3 rfl) ?_
                          refine z_iadd C0.1 C0.2.1 dX0_rightCorners_90 ?_
                          exact mm_iret (z := ((((1000) * ((a : Int)))) + ((c_ : Int)))) C0 hr hlk hM hS dX0_rightCorners_91 (⟨(Eq.trans hSC ((scan_hit (m := 501 * (h + 1 - c_) - a - 1) (by omega) (rcB_t (by omega) ha1 (by omega) heq) (by omega)).trans (rcV_e (by omega)))).symm, rfl⟩)
                  · skip
                    refine lv_iload C0.1 C0.2.1 dX0_rightCorners_31 (lv_at hl 5 rfl) ?_
                    refine lv_iload C0.1 C0.2.1 dX0_rightCorners_33 (lv_at hl 5 rfl) ?_
                    refine z_imul C0.1 C0.2.1 dX0_rightCorners_35 ?_
                    refine lv_iload C0.1 C0.2.1 dX0_rightCorners_36 (lv_at hl 4 rfl) ?_
                    refine lv_iload C0.1 C0.2.1 dX0_rightCorners_38 (lv_at hl 4 rfl) ?_
                    refine z_imul C0.1 C0.2.1 dX0_rightCorners_40 ?_
                    refine z_iadd C0.1 C0.2.1 dX0_rightCorners_41 ?_
                    refine lv_iload_n C0.1 C0.2.1 dX0_rightCorners_42 rfl (lv_at hl 3 rfl) ?_
                    refine lv_iload_n C0.1 C0.2.1 dX0_rightCorners_43 rfl (lv_at hl 3 rfl) ?_
                    refine z_imul C0.1 C0.2.1 dX0_rightCorners_44 ?_
                    refine z_icmp_le (tgt := 54) C0.1 C0.2.1 dX0_rightCorners_45 (by decide) ⟨by omega, by omega⟩ ⟨by omega, by omega⟩ (fun c_45 => ?_) (fun c_45 => ?_)
                    · skip
                      refine lv_iload C0.1 C0.2.1 dX0_rightCorners_54 (lv_at hl 5 rfl) ?_
                      refine lv_iload C0.1 C0.2.1 dX0_rightCorners_56 (lv_at hl 4 rfl) ?_
                      refine z_icmp_ge (tgt := 95) C0.1 C0.2.1 dX0_rightCorners_58 (by decide) ⟨by omega, by omega⟩ ⟨by omega, by omega⟩ (fun c_58 => ?_) (fun c_58 => ?_)
                      · skip
                        refine lv_iinc (v := zI (((a + 1 : Nat) : Int))) (lv' := [(5, .int (zI (((a + 1 : Nat) : Int)))), (0, .int (zI ((h : Int)))), (1, .int (zI (i))), (2, .int (zI ((cn : Int)))), (3, .int (zI ((c_ : Int)))), (4, .int (zI ((b : Int))))]) C0.1 C0.2.1 dX0_rightCorners_95 hl (k := 5) rfl (z_inc (a := (a : Int)) (n := 1) (by omega)) (by decide) rfl (fun ls hl => ?_)
                        refine lv_goto (tgt := 17) C0.1 C0.2.1 dX0_rightCorners_98 (by decide) ?_
                        exact ih17  (a + 1) b cn _ _ _ (by omega) (by omega) (by omega) (by omega) (by omega) (fun x y h1 h2 h3 => hpJ2 x y (by omega) h2 h3) (Eq.trans hSC (scan_f (by omega) (rcB_f (by omega) (fun q => pJ_no hpJ2 (by omega) q.2))))  (by omega) hM hS (lv_sub hl [1, 2, 3, 4, 5, 0] rfl)
                      · skip
                        refine lv_iload C0.1 C0.2.1 dX0_rightCorners_61 (lv_at hl 5 rfl) ?_
                        refine lv_iload C0.1 C0.2.1 dX0_rightCorners_63 (lv_at hl 5 rfl) ?_
                        refine z_imul C0.1 C0.2.1 dX0_rightCorners_65 ?_
                        refine lv_iload C0.1 C0.2.1 dX0_rightCorners_66 (lv_at hl 4 rfl) ?_
                        refine lv_iload C0.1 C0.2.1 dX0_rightCorners_68 (lv_at hl 4 rfl) ?_
                        refine z_imul C0.1 C0.2.1 dX0_rightCorners_70 ?_
                        refine z_iadd C0.1 C0.2.1 dX0_rightCorners_71 ?_
                        refine lv_iload_n C0.1 C0.2.1 dX0_rightCorners_72 rfl (lv_at hl 3 rfl) ?_
                        refine lv_iload_n C0.1 C0.2.1 dX0_rightCorners_73 rfl (lv_at hl 3 rfl) ?_
                        refine z_imul C0.1 C0.2.1 dX0_rightCorners_74 ?_
                        refine z_icmp_ne (tgt := 95) C0.1 C0.2.1 dX0_rightCorners_75 (by decide) ⟨by omega, by omega⟩ ⟨by omega, by omega⟩ (fun c_75 => ?_) (fun c_75 => ?_)
                        · skip
                          refine lv_iinc (v := zI (((a + 1 : Nat) : Int))) (lv' := [(5, .int (zI (((a + 1 : Nat) : Int)))), (0, .int (zI ((h : Int)))), (1, .int (zI (i))), (2, .int (zI ((cn : Int)))), (3, .int (zI ((c_ : Int)))), (4, .int (zI ((b : Int))))]) C0.1 C0.2.1 dX0_rightCorners_95 hl (k := 5) rfl (z_inc (a := (a : Int)) (n := 1) (by omega)) (by decide) rfl (fun ls hl => ?_)
                          refine lv_goto (tgt := 17) C0.1 C0.2.1 dX0_rightCorners_98 (by decide) ?_
                          exact ih17  (a + 1) b cn _ _ _ (by omega) (by omega) (by omega) (by omega) (by omega) (fun x y h1 h2 h3 => hpJ2 x y (by omega) h2 h3) (Eq.trans hSC (scan_f (by omega) (rcB_f (by omega) (fun q => pJ_no hpJ2 (by omega) q.2))))  (by omega) hM hS (lv_sub hl [1, 2, 3, 4, 5, 0] rfl)
                        · skip
                          have heq : a * a + b * b = c_ * c_ := by omega
                          refine lv_iload_n C0.1 C0.2.1 dX0_rightCorners_78 rfl (lv_at hl 2 rfl) ?_
                          refine lv_iload_n C0.1 C0.2.1 dX0_rightCorners_79 rfl (lv_at hl 1 rfl) ?_
                          refine z_icmp_ne (tgt := 92) C0.1 C0.2.1 dX0_rightCorners_80 (by decide) ⟨by omega, by omega⟩ ⟨by omega, by omega⟩ (fun c_80 => ?_) (fun c_80 => ?_)
                          · skip
                            refine lv_iinc (v := zI (((cn + 1 : Nat) : Int))) (lv' := [(2, .int (zI (((cn + 1 : Nat) : Int)))), (0, .int (zI ((h : Int)))), (1, .int (zI (i))), (3, .int (zI ((c_ : Int)))), (4, .int (zI ((b : Int)))), (5, .int (zI ((a : Int))))]) C0.1 C0.2.1 dX0_rightCorners_92 hl (k := 2) rfl (z_inc (a := (cn : Int)) (n := 1) (by omega)) (by decide) rfl (fun ls hl => ?_)
                            refine lv_iinc (v := zI (((a + 1 : Nat) : Int))) (lv' := [(5, .int (zI (((a + 1 : Nat) : Int)))), (2, .int (zI (((cn + 1 : Nat) : Int)))), (0, .int (zI ((h : Int)))), (1, .int (zI (i))), (3, .int (zI ((c_ : Int)))), (4, .int (zI ((b : Int))))]) C0.1 C0.2.1 dX0_rightCorners_95 hl (k := 5) rfl (z_inc (a := (a : Int)) (n := 1) (by omega)) (by decide) rfl (fun ls hl => ?_)
                            refine lv_goto (tgt := 17) C0.1 C0.2.1 dX0_rightCorners_98 (by decide) ?_
                            exact ih17  (a + 1) b (cn + 1) _ _ _ (by omega) (by omega) (by omega) (by omega) (by omega) (fun x y h1 h2 h3 => hpJ2 x y (by omega) h2 h3) (Eq.trans hSC (scan_t (by omega) (rcB_t (by omega) ha1 (by omega) heq) (by omega)))  (by omega) hM hS (lv_sub hl [2, 3, 1, 4, 5, 0] rfl)
                          · skip
                            refine lv_sipush (v := zI 1000) C0.1 C0.2.1 dX0_rightCorners_83 rfl ?_
                            refine lv_iload C0.1 C0.2.1 dX0_rightCorners_86 (lv_at hl 5 rfl) ?_
                            refine z_imul C0.1 C0.2.1 dX0_rightCorners_88 ?_
                            refine lv_iload_n C0.1 C0.2.1 dX0_rightCorners_89 rfl (lv_at hl 3 rfl) ?_
                            refine z_iadd C0.1 C0.2.1 dX0_rightCorners_90 ?_
                            exact mm_iret (z := ((((1000) * ((a : Int)))) + ((c_ : Int)))) C0 hr hlk hM hS dX0_rightCorners_91 (⟨(Eq.trans hSC ((scan_hit (m := 501 * (h + 1 - c_) - a - 1) (by omega) (rcB_t (by omega) ha1 (by omega) heq) (by omega)).trans (rcV_e (by omega)))).symm, rfl⟩)
                    · skip
                      refine lv_iinc (v := zI (((b - 1 : Nat) : Int))) (lv' := [(4, .int (zI (((b - 1 : Nat) : Int)))), (0, .int (zI ((h : Int)))), (1, .int (zI (i))), (2, .int (zI ((cn : Int)))), (3, .int (zI ((c_ : Int)))), (5, .int (zI ((a : Int))))]) C0.1 C0.2.1 dX0_rightCorners_48 hl (k := 4) rfl (z_inc (a := (b : Int)) (n := (-1)) (by omega)) (by decide) rfl (fun ls hl => ?_)
                      refine lv_goto (tgt := 24) C0.1 C0.2.1 dX0_rightCorners_51 (by decide) ?_
                      exact ih24  (b - 1) _ _ _ (by omega) (pJ_dn hpJ2 (by omega))  (by omega) hM hS (lv_sub hl [1, 2, 3, 4, 0, 5] rfl)
              exact L24 (_ + 1) b _ _ _ (hb) (hpJ)  (Nat.lt_succ_self _) hM hS (lv_sub hl [0, 1, 2, 3, 4, 5] rfl)
        exact L17 (_ + 1) 1 (c_ - 1) cn _ _ _ (Nat.le_refl _) (by omega) (Nat.le_refl _) (by omega) (by omega) (pJ_0 (by omega)) (Eq.trans hSC (scan_skip (k := 1) (by omega) (fun j h1 h2 => by rw [show j = 501 * c_ + 0 by omega]; exact rcB_f (by omega) (fun q => by omega))))  (Nat.lt_succ_self _) hM hS (lv_sub hl [2, 3, 4, 5, 1, 0] rfl)
  exact L4 (_ + 1) 1 0 _ _ _ (Nat.le_refl _) (by omega) (by omega) (rfl)  (Nat.lt_succ_self _) hM hS (lv_sub hl [2, 3, 1, 0] rfl)

def pl (G : mG) (E : mE) (t : Nat) (w k : Int) : Prop := E t = some (.inr (2, [.int (zI w), .int (zI k), .ref (t + 1)]))
theorem pl.kept {G : mG} {E E1 : mE} {t : Nat} {w k : Int} (h : pl G E t w k) (h1 : E1 t = E t) : pl G E1 t w k := h1.trans h

def rX3_kind : Room := { frames := 0, cells := 0, slots := 0, locals := 0 }
theorem vw_X3_kind : mm_Vw RX3 yX3_kind cX3_kind 1 (some .int) 0 := ⟨tw_500, tw_501, tw_8, tw_502, by decide +kernel⟩
set_option maxHeartbeats 4000000 in
set_option maxRecDepth 100000 in
theorem c_X3_kind (l : Launch) (G : mG) (E0 : mE) {t : Nat} {w k : Int} (hP : pl G E0 t w k) : mm_Ci l yX3_kind (.code yX3_kind cX3_kind 1 (some .int) :: wsG) rX3_kind G [.ref (t)] E0 (fun z E => z = w - 2 ∧ E = E0) := by
  refine mm_of_i (by decide +kernel) (Nat.le_of_ble_eq_true rfl) ?_
  intro p e s m args below meth c ls C0 hr hlk hM hl hS
  have hl : lv_has ls 1 [(0, .ref (t))] := hl
  refine lv_aload_n C0.1 C0.2.1 dX3_kind_0 rfl (lv_at hl 0 rfl) ?_
  refine mm_get (fs := [.int (zI (w)), .int (zI (k)), .ref (t + 1)]) C0 (C := RX3) (T := TX3) (N := 3) iG_X3 hM (hP) rfl 0 (by decide) tw_207 rfl rfl dX3_kind_1 ?_
  refine lv_iconst (v := zI 2) C0.1 C0.2.1 dX3_kind_4 rfl ?_
  refine z_isub C0.1 C0.2.1 dX3_kind_5 ?_
  exact mm_iret (z := ((w) - (2))) C0 hr hlk hM hS dX3_kind_6 (⟨rfl, rfl⟩)

def rX3_holdNothing : Room := { frames := 0, cells := 0, slots := 0, locals := 0 }
theorem vw_X3_holdNothing : mm_Vw RX3 yX3_holdNothing cX3_holdNothing 1 none 0 := ⟨tw_330, tw_331, tw_8, tw_332, by decide +kernel⟩
set_option maxHeartbeats 4000000 in
set_option maxRecDepth 100000 in
theorem c_X3_holdNothing (l : Launch) (G : mG) (E0 : mE) {t : Nat} {w k : Int} (hP : pl G E0 t w k) : mm_Cv l yX3_holdNothing (.code yX3_holdNothing cX3_holdNothing 1 none :: wsG) rX3_holdNothing G [.ref (t)] E0 (fun E => pl G E t 0 k ∧ ∀ q : Nat, q ≠ t → E q = E0 q) := by
  refine mm_of_v (by decide +kernel) (Nat.le_of_ble_eq_true rfl) ?_
  intro p e s m args below meth c ls C0 hr hlk hM hl hS
  have hl : lv_has ls 1 [(0, .ref (t))] := hl
  refine lv_aload_n C0.1 C0.2.1 dX3_holdNothing_0 rfl (lv_at hl 0 rfl) ?_
  refine lv_iconst (v := zI 0) C0.1 C0.2.1 dX3_holdNothing_1 rfl ?_
  refine mm_put (v := .int (zI (0))) (fs := [.int (zI (w)), .int (zI (k)), .ref (t + 1)]) C0 (C := RX3) (T := TX3) (N := 3) iG_X3 tyX3 tyX3_ok nmX3 hM hS (hP) rfl 0 (by decide) tw_207 rfl rfl (ty := tyX3 0) (tyX3_ok 0 (by decide)) rfl rfl (Nat.le_of_ble_eq_true rfl) dX3_holdNothing_2 (fun H locs hM hS hsz => ?_)
  obtain ⟨E1, hE1⟩ : ∃ X : mE, X = mm_up E0 (t) (.inr (2, [.int (zI (0)), .int (zI (k)), .ref (t + 1)])) := ⟨_, rfl⟩
  replace hM : mm_M G E1 H := by rw [hE1]; exact hM
  have frs : ∀ q : Nat, q ≠ t → E1 q = E0 q := fun q h => by rw [hE1]; exact mm_up_n _ _ h
  have hat : E1 (t) = some (.inr (2, [.int (zI (0)), .int (zI (k)), .ref (t + 1)])) := by rw [hE1]; exact mm_up_s _ _ _
  exact mm_vret C0 hr hlk hM hS dX3_holdNothing_5 (⟨hat, frs⟩)

def rX3_holdShape : Room := { frames := 0, cells := 0, slots := 0, locals := 0 }
theorem vw_X3_holdShape : mm_Vw RX3 yX3_holdShape cX3_holdShape 3 none 2 := ⟨tw_322, tw_323, tw_8, tw_324, by decide +kernel⟩
set_option maxHeartbeats 4000000 in
set_option maxRecDepth 100000 in
theorem c_X3_holdShape (l : Launch) (G : mG) (E0 : mE) {t : Nat} {w k u v : Int} (hP : pl G E0 t w k) : mm_Cv l yX3_holdShape (.code yX3_holdShape cX3_holdShape 3 none :: wsG) rX3_holdShape G [.ref (t), .int (zI (u)), .int (zI (v))] E0 (fun E => pl G E t (2 + u) v ∧ ∀ q : Nat, q ≠ t → E q = E0 q) := by
  refine mm_of_v (by decide +kernel) (Nat.le_of_ble_eq_true rfl) ?_
  intro p e s m args below meth c ls C0 hr hlk hM hl hS
  have hl : lv_has ls 3 [(0, .ref (t)), (1, .int (zI (u))), (2, .int (zI (v)))] := hl
  refine lv_aload_n C0.1 C0.2.1 dX3_holdShape_0 rfl (lv_at hl 0 rfl) ?_
  refine lv_iconst (v := zI 2) C0.1 C0.2.1 dX3_holdShape_1 rfl ?_
  refine lv_iload_n C0.1 C0.2.1 dX3_holdShape_2 rfl (lv_at hl 1 rfl) ?_
  refine z_iadd C0.1 C0.2.1 dX3_holdShape_3 ?_
  refine mm_put (v := .int (zI (((2) + (u))))) (fs := [.int (zI (w)), .int (zI (k)), .ref (t + 1)]) C0 (C := RX3) (T := TX3) (N := 3) iG_X3 tyX3 tyX3_ok nmX3 hM hS (hP) rfl 0 (by decide) tw_207 rfl rfl (ty := tyX3 0) (tyX3_ok 0 (by decide)) rfl rfl (Nat.le_of_ble_eq_true rfl) dX3_holdShape_4 (fun H locs hM hS hsz => ?_)
  obtain ⟨E1, hE1⟩ : ∃ X : mE, X = mm_up E0 (t) (.inr (2, [.int (zI (((2) + (u)))), .int (zI (k)), .ref (t + 1)])) := ⟨_, rfl⟩
  replace hM : mm_M G E1 H := by rw [hE1]; exact hM
  have frs : ∀ q : Nat, q ≠ t → E1 q = E0 q := fun q h => by rw [hE1]; exact mm_up_n _ _ h
  have hat : E1 (t) = some (.inr (2, [.int (zI (((2) + (u)))), .int (zI (k)), .ref (t + 1)])) := by rw [hE1]; exact mm_up_s _ _ _
  have hP1 : pl G E1 t (2 + u) k := hat
  have fr1 := frs
  refine lv_aload_n C0.1 C0.2.1 dX3_holdShape_7 rfl (lv_at hl 0 rfl) ?_
  refine lv_iload_n C0.1 C0.2.1 dX3_holdShape_8 rfl (lv_at hl 2 rfl) ?_
  refine mm_put (v := .int (zI (v))) (fs := [.int (zI (2 + u)), .int (zI (k)), .ref (t + 1)]) C0 (C := RX3) (T := TX3) (N := 3) iG_X3 tyX3 tyX3_ok nmX3 hM hS (hP1) rfl 1 (by decide) tw_209 rfl rfl (ty := tyX3 1) (tyX3_ok 1 (by decide)) rfl rfl (Nat.le_of_ble_eq_true rfl) dX3_holdShape_9 (fun H locs hM hS hsz => ?_)
  obtain ⟨E2, hE2⟩ : ∃ X : mE, X = mm_up E1 (t) (.inr (2, [.int (zI (2 + u)), .int (zI (v)), .ref (t + 1)])) := ⟨_, rfl⟩
  replace hM : mm_M G E2 H := by rw [hE2]; exact hM
  have frs : ∀ q : Nat, q ≠ t → E2 q = E1 q := fun q h => by rw [hE2]; exact mm_up_n _ _ h
  have hat : E2 (t) = some (.inr (2, [.int (zI (2 + u)), .int (zI (v)), .ref (t + 1)])) := by rw [hE2]; exact mm_up_s _ _ _
  exact mm_vret C0 hr hlk hM hS dX3_holdShape_12 (⟨hat, fun q h => (frs q h).trans (fr1 q h)⟩)

def rX3_holdNumber : Room := { frames := 3, cells := 0, slots := 0, locals := 67 }
theorem vw_X3_holdNumber : mm_Vw RX3 yX3_holdNumber cX3_holdNumber 2 none 1 := ⟨tw_301, tw_302, tw_8, tw_303, by decide +kernel⟩
set_option maxHeartbeats 4000000 in
set_option maxRecDepth 100000 in
theorem c_X3_holdNumber (l : Launch) (G : mG) (E0 : mE) {t o N : Nat} {w k : Int} (hP : pl G E0 t w k) (hV : isV G E0 (t + 1)) (hO : isW G E0 o N) (hne : t + 3 ≤ o ∨ o + 2 ≤ t) : mm_Cv l yX3_holdNumber (.code yX3_holdNumber cX3_holdNumber 2 none :: wsG) rX3_holdNumber G [.ref (t), .ref (o)] E0 (fun E => pl G E t 1 k ∧ isW G E (t + 1) N ∧ ∀ q : Nat, (q < t ∨ t + 3 ≤ q) → E q = E0 q) := by
  refine mm_of_v (by decide +kernel) (Nat.le_of_ble_eq_true rfl) ?_
  intro p e s m args below meth c ls C0 hr hlk hM hl hS
  have hl : lv_has ls 2 [(0, .ref (t)), (1, .ref (o))] := hl
  have hfr : ∀ q : Nat, (q < t ∨ t + 3 ≤ q) → E0 q = E0 q := fun _ _ => rfl
  refine lv_aload_n C0.1 C0.2.1 dX3_holdNumber_0 rfl (lv_at hl 0 rfl) ?_
  refine lv_iconst (v := zI 1) C0.1 C0.2.1 dX3_holdNumber_1 rfl ?_
  refine mm_put (v := .int (zI (1))) (fs := [.int (zI (w)), .int (zI (k)), .ref (t + 1)]) C0 (C := RX3) (T := TX3) (N := 3) iG_X3 tyX3 tyX3_ok nmX3 hM hS (hP) rfl 0 (by decide) tw_207 rfl rfl (ty := tyX3 0) (tyX3_ok 0 (by decide)) rfl rfl (Nat.le_of_ble_eq_true rfl) dX3_holdNumber_2 (fun H locs hM hS hsz => ?_)
  obtain ⟨E1, hE1⟩ : ∃ X : mE, X = mm_up E0 (t) (.inr (2, [.int (zI (1)), .int (zI (k)), .ref (t + 1)])) := ⟨_, rfl⟩
  replace hM : mm_M G E1 H := by rw [hE1]; exact hM
  have frs : ∀ q : Nat, q ≠ t → E1 q = E0 q := fun q h => by rw [hE1]; exact mm_up_n _ _ h
  have hat : E1 (t) = some (.inr (2, [.int (zI (1)), .int (zI (k)), .ref (t + 1)])) := by rw [hE1]; exact mm_up_s _ _ _
  have hP1 : pl G E1 t 1 k := hat
  have hV := isV.kept hV (frs _ (by omega)) (frs _ (by omega))
  have hO := isW.kept hO (frs _ (by omega)) (frs _ (by omega))
  have hfr := (fun q h => (frs q (by omega)).trans (hfr q h) : ∀ q : Nat, (q < t ∨ t + 3 ≤ q) → E1 q = E0 q)
  refine lv_aload_n C0.1 C0.2.1 dX3_holdNumber_5 rfl (lv_at hl 0 rfl) ?_
  refine mm_get (fs := [.int (zI (1)), .int (zI (k)), .ref (t + 1)]) C0 (C := RX3) (T := TX3) (N := 3) iG_X3 hM (hP1) rfl 2 (by decide) tw_211 rfl rfl dX3_holdNumber_6 ?_
  refine lv_aload_n C0.1 C0.2.1 dX3_holdNumber_9 rfl (lv_at hl 1 rfl) ?_
  refine mm_callVv (As := [.ref (o)]) C0 vw_X8_copy tw_304 (c_X8_copy l G _ hV hO (by omega)) hM ((hV.obj).choose_spec) rfl rfl hl.1 rfl (Nat.le_of_ble_eq_true rfl) ⟨rfl, rfl, Nat.le_of_ble_eq_true rfl, Nat.le_of_ble_eq_true rfl, Nat.zero_le _, Nat.zero_le _⟩ dX3_holdNumber_10 hS (fun E2 H locs hp hM hS => ?_)
  obtain ⟨hW, fr⟩ := hp
  have hO := isW.kept hO (fr _ (by omega)) (fr _ (by omega))
  have hfr := (fun q h => (fr q (by omega)).trans (hfr q h) : ∀ q : Nat, (q < t ∨ t + 3 ≤ q) → E2 q = E0 q)
  have hP1 := pl.kept hP1 (fr _ (by omega))
  exact mm_vret C0 hr hlk hM hS dX3_holdNumber_13 (⟨hP1, hW, hfr⟩)

def rX3_copy : Room := { frames := 3, cells := 0, slots := 0, locals := 67 }
theorem vw_X3_copy : mm_Vw RX3 yX3_copy cX3_copy 2 none 1 := ⟨tw_860, tw_861, tw_8, tw_862, by decide +kernel⟩
set_option maxHeartbeats 4000000 in
set_option maxRecDepth 100000 in
theorem c_X3_copy (l : Launch) (G : mG) (E0 : mE) {t o N : Nat} {w k u v : Int} (hP : pl G E0 t w k) (hV : isV G E0 (t + 1)) (hQ : pl G E0 o u v) (hO : isW G E0 (o + 1) N) (hne : t + 3 ≤ o ∨ o + 3 ≤ t) : mm_Cv l yX3_copy (.code yX3_copy cX3_copy 2 none :: wsG) rX3_copy G [.ref (t), .ref (o)] E0 (fun E => pl G E t u v ∧ isW G E (t + 1) N ∧ ∀ q : Nat, (q < t ∨ t + 3 ≤ q) → E q = E0 q) := by
  refine mm_of_v (by decide +kernel) (Nat.le_of_ble_eq_true rfl) ?_
  intro p e s m args below meth c ls C0 hr hlk hM hl hS
  have hl : lv_has ls 2 [(0, .ref (t)), (1, .ref (o))] := hl
  have hfr : ∀ q : Nat, (q < t ∨ t + 3 ≤ q) → E0 q = E0 q := fun _ _ => rfl
  refine lv_aload_n C0.1 C0.2.1 dX3_copy_0 rfl (lv_at hl 0 rfl) ?_
  refine lv_aload_n C0.1 C0.2.1 dX3_copy_1 rfl (lv_at hl 1 rfl) ?_
  refine mm_get (fs := [.int (zI (u)), .int (zI (v)), .ref (o + 1)]) C0 (C := RX3) (T := TX3) (N := 3) iG_X3 hM (hQ) rfl 0 (by decide) tw_207 rfl rfl dX3_copy_2 ?_
  refine mm_put (v := .int (zI (u))) (fs := [.int (zI (w)), .int (zI (k)), .ref (t + 1)]) C0 (C := RX3) (T := TX3) (N := 3) iG_X3 tyX3 tyX3_ok nmX3 hM hS (hP) rfl 0 (by decide) tw_207 rfl rfl (ty := tyX3 0) (tyX3_ok 0 (by decide)) rfl rfl (Nat.le_of_ble_eq_true rfl) dX3_copy_5 (fun H locs hM hS hsz => ?_)
  obtain ⟨E1, hE1⟩ : ∃ X : mE, X = mm_up E0 (t) (.inr (2, [.int (zI (u)), .int (zI (k)), .ref (t + 1)])) := ⟨_, rfl⟩
  replace hM : mm_M G E1 H := by rw [hE1]; exact hM
  have frs : ∀ q : Nat, q ≠ t → E1 q = E0 q := fun q h => by rw [hE1]; exact mm_up_n _ _ h
  have hat : E1 (t) = some (.inr (2, [.int (zI (u)), .int (zI (k)), .ref (t + 1)])) := by rw [hE1]; exact mm_up_s _ _ _
  have hP1 : pl G E1 t u k := hat
  have hV := isV.kept hV (frs _ (by omega)) (frs _ (by omega))
  have hQ := pl.kept hQ (frs _ (by omega))
  have hO := isW.kept hO (frs _ (by omega)) (frs _ (by omega))
  have hfr := (fun q h => (frs q (by omega)).trans (hfr q h) : ∀ q : Nat, (q < t ∨ t + 3 ≤ q) → E1 q = E0 q)
  refine lv_aload_n C0.1 C0.2.1 dX3_copy_8 rfl (lv_at hl 0 rfl) ?_
  refine lv_aload_n C0.1 C0.2.1 dX3_copy_9 rfl (lv_at hl 1 rfl) ?_
  refine mm_get (fs := [.int (zI (u)), .int (zI (v)), .ref (o + 1)]) C0 (C := RX3) (T := TX3) (N := 3) iG_X3 hM (hQ) rfl 1 (by decide) tw_209 rfl rfl dX3_copy_10 ?_
  refine mm_put (v := .int (zI (v))) (fs := [.int (zI (u)), .int (zI (k)), .ref (t + 1)]) C0 (C := RX3) (T := TX3) (N := 3) iG_X3 tyX3 tyX3_ok nmX3 hM hS (hP1) rfl 1 (by decide) tw_209 rfl rfl (ty := tyX3 1) (tyX3_ok 1 (by decide)) rfl rfl (Nat.le_of_ble_eq_true rfl) dX3_copy_13 (fun H locs hM hS hsz => ?_)
  obtain ⟨E2, hE2⟩ : ∃ X : mE, X = mm_up E1 (t) (.inr (2, [.int (zI (u)), .int (zI (v)), .ref (t + 1)])) := ⟨_, rfl⟩
  replace hM : mm_M G E2 H := by rw [hE2]; exact hM
  have frs : ∀ q : Nat, q ≠ t → E2 q = E1 q := fun q h => by rw [hE2]; exact mm_up_n _ _ h
  have hat : E2 (t) = some (.inr (2, [.int (zI (u)), .int (zI (v)), .ref (t + 1)])) := by rw [hE2]; exact mm_up_s _ _ _
  have hP2 : pl G E2 t u v := hat
  have hV := isV.kept hV (frs _ (by omega)) (frs _ (by omega))
  have hQ := pl.kept hQ (frs _ (by omega))
  have hO := isW.kept hO (frs _ (by omega)) (frs _ (by omega))
  have hfr := (fun q h => (frs q (by omega)).trans (hfr q h) : ∀ q : Nat, (q < t ∨ t + 3 ≤ q) → E2 q = E0 q)
  refine lv_aload_n C0.1 C0.2.1 dX3_copy_16 rfl (lv_at hl 0 rfl) ?_
  refine mm_get (fs := [.int (zI (u)), .int (zI (v)), .ref (t + 1)]) C0 (C := RX3) (T := TX3) (N := 3) iG_X3 hM (hP2) rfl 2 (by decide) tw_211 rfl rfl dX3_copy_17 ?_
  refine lv_aload_n C0.1 C0.2.1 dX3_copy_20 rfl (lv_at hl 1 rfl) ?_
  refine mm_get (fs := [.int (zI (u)), .int (zI (v)), .ref (o + 1)]) C0 (C := RX3) (T := TX3) (N := 3) iG_X3 hM (hQ) rfl 2 (by decide) tw_211 rfl rfl dX3_copy_21 ?_
  refine mm_callVv (As := [.ref (o + 1)]) C0 vw_X8_copy tw_304 (c_X8_copy l G _ hV hO (by omega)) hM ((hV.obj).choose_spec) rfl rfl hl.1 rfl (Nat.le_of_ble_eq_true rfl) ⟨rfl, rfl, Nat.le_of_ble_eq_true rfl, Nat.le_of_ble_eq_true rfl, Nat.zero_le _, Nat.zero_le _⟩ dX3_copy_24 hS (fun E3 H locs hp hM hS => ?_)
  obtain ⟨hW, fr⟩ := hp
  have hQ := pl.kept hQ (fr _ (by omega))
  have hO := isW.kept hO (fr _ (by omega)) (fr _ (by omega))
  have hfr := (fun q h => (fr q (by omega)).trans (hfr q h) : ∀ q : Nat, (q < t ∨ t + 3 ≤ q) → E3 q = E0 q)
  have hP2 := pl.kept hP2 (fr _ (by omega))
  exact mm_vret C0 hr hlk hM hS dX3_copy_27 (⟨hP2, hW, hfr⟩)
