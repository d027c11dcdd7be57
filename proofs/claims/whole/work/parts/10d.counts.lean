def rX0_bestPart : Room := { frames := 1, cells := 0, slots := 0, locals := 23 }
theorem sw_X0_bestPart : mm_Sw yX0_bestPart cX0_bestPart 20 (some .int) 4 := ⟨tw_640, tw_12, tw_641, by decide +kernel⟩
set_option maxHeartbeats 4000000 in
set_option maxRecDepth 100000 in
theorem c_X0_bestPart (l : Launch) (G : mG) (E0 : mE) {a b part : Int} {mo : Nat} (ha : 0 ≤ a) (ha2 : a ≤ 999999) (hb : 1 ≤ b) (hb2 : b ≤ 999999) (hmo : mo ≤ 999) (hp1 : 0 ≤ part) (hp2 : part ≤ 1) : mm_Ci l yX0_bestPart (.code yX0_bestPart cX0_bestPart 20 (some .int) :: wsG) rX0_bestPart G [.long (zL (a)), .long (zL (b)), .int (zI ((mo : Int))), .int (zI (part))] E0 (fun z E => z = (if part = 0 then (ball a b mo).1 else (ball a b mo).2.1) ∧ E = E0) := by
  refine mm_of_i (by decide +kernel) (Nat.le_of_ble_eq_true rfl) ?_
  intro p e s m args below meth c ls C0 hr hlk hM hl hS
  have hl : lv_has ls 20 [(0, .long (zL (a))), (2, .long (zL (b))), (4, .int (zI ((mo : Int)))), (5, .int (zI (part)))] := hl
  refine lv_lconst (v := zL 0) C0.1 C0.2.1 dX0_bestPart_0 rfl ?_
  refine lv_lstore (lv' := [(6, .long (zL (0))), (0, .long (zL (a))), (2, .long (zL (b))), (4, .int (zI ((mo : Int)))), (5, .int (zI (part)))]) C0.1 C0.2.1 dX0_bestPart_1 hl (by decide) rfl (fun ls hl => ?_)
  refine lv_lconst (v := zL 0) C0.1 C0.2.1 dX0_bestPart_3 rfl ?_
  refine lv_lstore (lv' := [(8, .long (zL (0))), (6, .long (zL (0))), (0, .long (zL (a))), (2, .long (zL (b))), (4, .int (zI ((mo : Int)))), (5, .int (zI (part)))]) C0.1 C0.2.1 dX0_bestPart_4 hl (by decide) rfl (fun ls hl => ?_)
  refine lv_lconst (v := zL 0) C0.1 C0.2.1 dX0_bestPart_6 rfl ?_
  refine lv_lstore (lv' := [(10, .long (zL (0))), (8, .long (zL (0))), (6, .long (zL (0))), (0, .long (zL (a))), (2, .long (zL (b))), (4, .int (zI ((mo : Int)))), (5, .int (zI (part)))]) C0.1 C0.2.1 dX0_bestPart_7 hl (by decide) rfl (fun ls hl => ?_)
  refine lv_lconst (v := zL 1) C0.1 C0.2.1 dX0_bestPart_9 rfl ?_
  refine lv_lstore (lv' := [(12, .long (zL (1))), (10, .long (zL (0))), (8, .long (zL (0))), (6, .long (zL (0))), (0, .long (zL (a))), (2, .long (zL (b))), (4, .int (zI ((mo : Int)))), (5, .int (zI (part)))]) C0.1 C0.2.1 dX0_bestPart_10 hl (by decide) rfl (fun ls hl => ?_)
  have L12 : ∀ (k12 : Nat) (n : Nat) (H : Heap) (locs : List Loc) (ls : Array Slot), (n ≤ mo) → mo - n < k12 → mm_M G E0 H → va_S (mm_A G) s.heap H locs → lv_has ls 20 [(0, .long (zL (a))), (2, .long (zL (b))), (4, .int (zI ((mo : Int)))), (5, .int (zI (part))), (6, .long (zL ((ball a b n).1))), (8, .long (zL ((ball a b n).2.1))), (10, .long (zL ((ball a b n).2.2))), (12, .long (zL (((n + 1 : Nat) : Int))))] → W p l e rX0_bestPart s m args below meth c H locs 0 0 (mm_Zi G below args s (fun z E => z = (if part = 0 then (ball a b mo).1 else (ball a b mo).2.1) ∧ E = E0)) (F0 m 12 ls []) := by
    intro k12
    induction k12 with
    | zero => intro n H locs ls hn hk hM hS hl; exact absurd hk (Nat.not_lt_zero _)
    | succ k12 ih12 =>
      intro n H locs ls hn hk12 hM hS hl
      
      refine lv_lload C0.1 C0.2.1 dX0_bestPart_12 (lv_at hl 7 rfl) ?_
      refine lv_iload C0.1 C0.2.1 dX0_bestPart_14 (lv_at hl 2 rfl) ?_
      refine z_i2l C0.1 C0.2.1 dX0_bestPart_16 ⟨by omega, by omega⟩ ?_
      refine z_lcmp_gt (tgt := 114) C0.1 C0.2.1 dX0_bestPart_17 dX0_bestPart_18 (by decide) ⟨by omega, by omega⟩ ⟨by omega, by omega⟩ (fun c_17 => ?_) (fun c_17 => ?_)
      · skip
        have hnm : n = mo := by omega
        have hok := bin_ok ha ha2 hb hb2 mo hmo
        obtain ⟨o1, o2, o3, o4, o5, o6⟩ := hok
        refine lv_iload C0.1 C0.2.1 dX0_bestPart_114 (lv_at hl 3 rfl) ?_
        refine z_if_ne (tgt := 124) C0.1 C0.2.1 dX0_bestPart_116 (by decide) ⟨by omega, by omega⟩ (fun c_116 => ?_) (fun c_116 => ?_)
        · skip
          refine lv_lload C0.1 C0.2.1 dX0_bestPart_124 (lv_at hl 5 rfl) ?_
          refine z_l2i C0.1 C0.2.1 dX0_bestPart_126 ?_
          exact mm_iret (z := (ball a b n).2.1) C0 hr hlk hM hS dX0_bestPart_127 (⟨by rw [hnm, if_neg (by omega)], rfl⟩)
        · skip
          refine lv_lload C0.1 C0.2.1 dX0_bestPart_119 (lv_at hl 4 rfl) ?_
          refine lv_goto (tgt := 126) C0.1 C0.2.1 dX0_bestPart_121 (by decide) ?_
          refine z_l2i C0.1 C0.2.1 dX0_bestPart_126 ?_
          exact mm_iret (z := (ball a b n).1) C0 hr hlk hM hS dX0_bestPart_127 (⟨by rw [hnm, if_pos (by omega)], rfl⟩)
      · skip
        refine lv_lload_n C0.1 C0.2.1 dX0_bestPart_21 rfl (lv_at hl 1 rfl) ?_
        refine lv_lconst (v := zL 0) C0.1 C0.2.1 dX0_bestPart_22 rfl ?_
        refine z_lcmp_le (tgt := 114) C0.1 C0.2.1 dX0_bestPart_23 dX0_bestPart_24 (by decide) ⟨by omega, by omega⟩ ⟨by omega, by omega⟩ (fun c_23 => ?_) (fun c_23 => ?_)
        · skip
          omega
        · skip
          refine lv_lload_n C0.1 C0.2.1 dX0_bestPart_27 rfl (lv_at hl 0 rfl) ?_
          refine lv_lload C0.1 C0.2.1 dX0_bestPart_28 (lv_at hl 7 rfl) ?_
          refine z_lmul C0.1 C0.2.1 dX0_bestPart_30 ?_
          refine lv_lload_n C0.1 C0.2.1 dX0_bestPart_31 rfl (lv_at hl 1 rfl) ?_
          have m1 : a * ((n + 1 : Nat) : Int) ≤ 999999 * 999 := Int.mul_le_mul ha2 (by omega) (by omega) (by omega)
          have m0 : 0 ≤ a * ((n + 1 : Nat) : Int) := Int.mul_nonneg ha (by omega)
          have d0 : 0 ≤ a * ((n + 1 : Nat) : Int) / b := Int.ediv_nonneg m0 (by omega)
          have d1 : a * ((n + 1 : Nat) : Int) / b ≤ a * ((n + 1 : Nat) : Int) := Int.ediv_le_self _ m0
          have e1 := Int.mul_ediv_add_emod (a * ((n + 1 : Nat) : Int)) b
          have e2 := Int.emod_nonneg (a * ((n + 1 : Nat) : Int)) (show b ≠ 0 by omega)
          have e3 := Int.emod_lt_of_pos (a * ((n + 1 : Nat) : Int)) (show 0 < b by omega)
          have dm1 : a * ((n + 1 : Nat) : Int) / b * b ≤ a * ((n + 1 : Nat) : Int) := by rw [Int.mul_comm]; omega
          have dm2 : 0 ≤ a * ((n + 1 : Nat) : Int) / b * b := Int.mul_nonneg d0 (by omega)
          refine z_ldivp C0.1 C0.2.1 dX0_bestPart_32 ⟨by omega, by omega⟩ ⟨by omega, by omega⟩ (by omega) (by omega) ?_
          refine lv_lstore (lv' := [(14, .long (zL (((((a) * (((n + 1 : Nat) : Int)))) / (b))))), (0, .long (zL (a))), (2, .long (zL (b))), (4, .int (zI ((mo : Int)))), (5, .int (zI (part))), (6, .long (zL ((ball a b n).1))), (8, .long (zL ((ball a b n).2.1))), (10, .long (zL ((ball a b n).2.2))), (12, .long (zL (((n + 1 : Nat) : Int))))]) C0.1 C0.2.1 dX0_bestPart_33 hl (by decide) rfl (fun ls hl => ?_)
          refine lv_lload C0.1 C0.2.1 dX0_bestPart_35 (lv_at hl 0 rfl) ?_
          refine z_asL (a := ((((a) * (((n + 1 : Nat) : Int)))) / (b))) (b := a * ((n + 1 : Nat) : Int) / b + ((0 : Nat) : Int)) (by omega) ?_
          refine lv_lstore (lv' := [(16, .long (zL (a * ((n + 1 : Nat) : Int) / b + ((0 : Nat) : Int)))), (14, .long (zL (((((a) * (((n + 1 : Nat) : Int)))) / (b))))), (0, .long (zL (a))), (2, .long (zL (b))), (4, .int (zI ((mo : Int)))), (5, .int (zI (part))), (6, .long (zL ((ball a b n).1))), (8, .long (zL ((ball a b n).2.1))), (10, .long (zL ((ball a b n).2.2))), (12, .long (zL (((n + 1 : Nat) : Int))))]) C0.1 C0.2.1 dX0_bestPart_37 hl (by decide) rfl (fun ls hl => ?_)
          have L39 : ∀ (k39 : Nat) (j : Nat) (H : Heap) (locs : List Loc) (ls : Array Slot), (j ≤ 2) → 2 - j < k39 → mm_M G E0 H → va_S (mm_A G) s.heap H locs → lv_has ls 20 [(0, .long (zL (a))), (2, .long (zL (b))), (4, .int (zI ((mo : Int)))), (5, .int (zI (part))), (6, .long (zL ((bin a b n j).1))), (8, .long (zL ((bin a b n j).2.1))), (10, .long (zL ((bin a b n j).2.2))), (12, .long (zL (((n + 1 : Nat) : Int)))), (14, .long (zL (a * ((n + 1 : Nat) : Int) / b))), (16, .long (zL (a * ((n + 1 : Nat) : Int) / b + (j : Int))))] → W p l e rX0_bestPart s m args below meth c H locs 0 0 (mm_Zi G below args s (fun z E => z = (if part = 0 then (ball a b mo).1 else (ball a b mo).2.1) ∧ E = E0)) (F0 m 39 ls []) := by
            intro k39
            induction k39 with
            | zero => intro j H locs ls hj hk hM hS hl; exact absurd hk (Nat.not_lt_zero _)
            | succ k39 ih39 =>
              intro j H locs ls hj hk39 hM hS hl
              obtain ⟨o1, o2, o3, o4, o5, o6⟩ := bin_okj ha ha2 hb hb2 (show n + 1 ≤ 999 by omega) hj
              refine lv_lload C0.1 C0.2.1 dX0_bestPart_39 (lv_at hl 9 rfl) ?_
              refine lv_lload C0.1 C0.2.1 dX0_bestPart_41 (lv_at hl 8 rfl) ?_
              refine lv_lconst (v := zL 1) C0.1 C0.2.1 dX0_bestPart_43 rfl ?_
              refine z_ladd C0.1 C0.2.1 dX0_bestPart_44 ?_
              refine z_lcmp_gt (tgt := 105) C0.1 C0.2.1 dX0_bestPart_45 dX0_bestPart_46 (by decide) ⟨by omega, by omega⟩ ⟨by omega, by omega⟩ (fun c_45 => ?_) (fun c_45 => ?_)
              · skip
                refine lv_lload C0.1 C0.2.1 dX0_bestPart_105 (lv_at hl 7 rfl) ?_
                refine lv_lconst (v := zL 1) C0.1 C0.2.1 dX0_bestPart_107 rfl ?_
                refine z_ladd C0.1 C0.2.1 dX0_bestPart_108 ?_
                refine z_asL (a := ((((n + 1 : Nat) : Int)) + (1))) (b := ((n + 1 + 1 : Nat) : Int)) (by omega) ?_
                refine lv_lstore (lv' := [(12, .long (zL (((n + 1 + 1 : Nat) : Int)))), (0, .long (zL (a))), (2, .long (zL (b))), (4, .int (zI ((mo : Int)))), (5, .int (zI (part))), (6, .long (zL ((bin a b n j).1))), (8, .long (zL ((bin a b n j).2.1))), (10, .long (zL ((bin a b n j).2.2))), (14, .long (zL (a * ((n + 1 : Nat) : Int) / b))), (16, .long (zL (a * ((n + 1 : Nat) : Int) / b + (j : Int))))]) C0.1 C0.2.1 dX0_bestPart_109 hl (by decide) rfl (fun ls hl => ?_)
                refine lv_goto (tgt := 12) C0.1 C0.2.1 dX0_bestPart_111 (by decide) ?_
                have hj2 : j = 2 := by omega
                subst hj2
                exact ih12  (n + 1) _ _ _ (by omega)  (by omega) hM hS (by rw [← bin_e]; exact lv_sub hl [1, 2, 3, 4, 5, 6, 7, 0] rfl)
              · skip
                have g1 : (a * ((n + 1 : Nat) : Int) / b + (j : Int)) * b = a * ((n + 1 : Nat) : Int) / b * b + (j : Int) * b := Int.add_mul _ _ _
                have g2 : (j : Int) * b ≤ 1 * 999999 := Int.mul_le_mul (by omega) hb2 (by omega) (by omega)
                have g3 : 0 ≤ (j : Int) * b := Int.mul_nonneg (by omega) (by omega)
                have g4 : a * ((n + 1 : Nat) : Int) - a * ((n + 1 : Nat) : Int) / b * b < b := by rw [Int.mul_comm (a * ((n + 1 : Nat) : Int) / b)]; omega
                have hg : (((a * ((n + 1 : Nat) : Int) - (a * ((n + 1 : Nat) : Int) / b + (j : Int)) * b).natAbs : Nat) : Int) ≤ 2000000 := by omega
                refine lv_lload_n C0.1 C0.2.1 dX0_bestPart_49 rfl (lv_at hl 0 rfl) ?_
                refine lv_lload C0.1 C0.2.1 dX0_bestPart_50 (lv_at hl 7 rfl) ?_
                refine z_lmul C0.1 C0.2.1 dX0_bestPart_52 ?_
                refine lv_lload C0.1 C0.2.1 dX0_bestPart_53 (lv_at hl 9 rfl) ?_
                refine lv_lload_n C0.1 C0.2.1 dX0_bestPart_55 rfl (lv_at hl 1 rfl) ?_
                refine z_lmul C0.1 C0.2.1 dX0_bestPart_56 ?_
                refine z_lsub C0.1 C0.2.1 dX0_bestPart_57 ?_
                refine z_labs C0.1 C0.2.1 (C0.2.2.1.trans hl.1.symm) C0.2.2.2.1 (C0.2.2.2.2.1 _ tml_tw_642) (C0.2.2.2.2.1 _ tms_abs_long) (C0.2.2.2.2.1 _ tmi) (C0.2.2.2.2.1 _ tmc_abs_long) (Nat.le_of_ble_eq_true rfl) (Nat.le_of_ble_eq_true rfl) (Nat.zero_le _) (Nat.zero_le _) ⟨by omega, by omega⟩ dX0_bestPart_58 ?_
                refine lv_lstore (lv' := [(18, .long (zL (((((((a) * (((n + 1 : Nat) : Int)))) - (((a * ((n + 1 : Nat) : Int) / b + (j : Int)) * (b))))).natAbs : Int)))), (0, .long (zL (a))), (2, .long (zL (b))), (4, .int (zI ((mo : Int)))), (5, .int (zI (part))), (6, .long (zL ((bin a b n j).1))), (8, .long (zL ((bin a b n j).2.1))), (10, .long (zL ((bin a b n j).2.2))), (12, .long (zL (((n + 1 : Nat) : Int)))), (14, .long (zL (a * ((n + 1 : Nat) : Int) / b))), (16, .long (zL (a * ((n + 1 : Nat) : Int) / b + (j : Int))))]) C0.1 C0.2.1 dX0_bestPart_61 hl (by decide) rfl (fun ls hl => ?_)
                refine lv_lload C0.1 C0.2.1 dX0_bestPart_63 (lv_at hl 6 rfl) ?_
                refine lv_lconst (v := zL 0) C0.1 C0.2.1 dX0_bestPart_65 rfl ?_
                refine z_lcmp_eq (tgt := 84) C0.1 C0.2.1 dX0_bestPart_66 dX0_bestPart_67 (by decide) ⟨by omega, by omega⟩ ⟨by omega, by omega⟩ (fun c_66 => ?_) (fun c_66 => ?_)
                · skip
                  have hcnd : (bin a b n j).2.1 = 0 ∨ (((a * ((n + 1 : Nat) : Int) - (a * ((n + 1 : Nat) : Int) / b + (j : Int)) * b).natAbs : Nat) : Int) * (bin a b n j).2.1 < (bin a b n j).2.2 * ((n + 1 : Nat) : Int) := Or.inl c_66
                  refine lv_lload C0.1 C0.2.1 dX0_bestPart_84 (lv_at hl 10 rfl) ?_
                  refine lv_lstore (lv' := [(6, .long (zL (a * ((n + 1 : Nat) : Int) / b + (j : Int)))), (18, .long (zL (((((((a) * (((n + 1 : Nat) : Int)))) - (((a * ((n + 1 : Nat) : Int) / b + (j : Int)) * (b))))).natAbs : Int)))), (0, .long (zL (a))), (2, .long (zL (b))), (4, .int (zI ((mo : Int)))), (5, .int (zI (part))), (8, .long (zL ((bin a b n j).2.1))), (10, .long (zL ((bin a b n j).2.2))), (12, .long (zL (((n + 1 : Nat) : Int)))), (14, .long (zL (a * ((n + 1 : Nat) : Int) / b))), (16, .long (zL (a * ((n + 1 : Nat) : Int) / b + (j : Int))))]) C0.1 C0.2.1 dX0_bestPart_86 hl (by decide) rfl (fun ls hl => ?_)
                  refine lv_lload C0.1 C0.2.1 dX0_bestPart_88 (lv_at hl 8 rfl) ?_
                  refine lv_lstore (lv' := [(8, .long (zL (((n + 1 : Nat) : Int)))), (6, .long (zL (a * ((n + 1 : Nat) : Int) / b + (j : Int)))), (18, .long (zL (((((((a) * (((n + 1 : Nat) : Int)))) - (((a * ((n + 1 : Nat) : Int) / b + (j : Int)) * (b))))).natAbs : Int)))), (0, .long (zL (a))), (2, .long (zL (b))), (4, .int (zI ((mo : Int)))), (5, .int (zI (part))), (10, .long (zL ((bin a b n j).2.2))), (12, .long (zL (((n + 1 : Nat) : Int)))), (14, .long (zL (a * ((n + 1 : Nat) : Int) / b))), (16, .long (zL (a * ((n + 1 : Nat) : Int) / b + (j : Int))))]) C0.1 C0.2.1 dX0_bestPart_90 hl (by decide) rfl (fun ls hl => ?_)
                  refine lv_lload C0.1 C0.2.1 dX0_bestPart_92 (lv_at hl 2 rfl) ?_
                  refine lv_lstore (lv' := [(10, .long (zL (((((((a) * (((n + 1 : Nat) : Int)))) - (((a * ((n + 1 : Nat) : Int) / b + (j : Int)) * (b))))).natAbs : Int)))), (8, .long (zL (((n + 1 : Nat) : Int)))), (6, .long (zL (a * ((n + 1 : Nat) : Int) / b + (j : Int)))), (18, .long (zL (((((((a) * (((n + 1 : Nat) : Int)))) - (((a * ((n + 1 : Nat) : Int) / b + (j : Int)) * (b))))).natAbs : Int)))), (0, .long (zL (a))), (2, .long (zL (b))), (4, .int (zI ((mo : Int)))), (5, .int (zI (part))), (12, .long (zL (((n + 1 : Nat) : Int)))), (14, .long (zL (a * ((n + 1 : Nat) : Int) / b))), (16, .long (zL (a * ((n + 1 : Nat) : Int) / b + (j : Int))))]) C0.1 C0.2.1 dX0_bestPart_94 hl (by decide) rfl (fun ls hl => ?_)
                  refine lv_lload C0.1 C0.2.1 dX0_bestPart_96 (lv_at hl 10 rfl) ?_
                  refine lv_lconst (v := zL 1) C0.1 C0.2.1 dX0_bestPart_98 rfl ?_
                  refine z_ladd C0.1 C0.2.1 dX0_bestPart_99 ?_
                  refine z_asL (a := ((a * ((n + 1 : Nat) : Int) / b + (j : Int)) + (1))) (b := a * ((n + 1 : Nat) : Int) / b + ((j + 1 : Nat) : Int)) (by omega) ?_
                  refine lv_lstore (lv' := [(16, .long (zL (a * ((n + 1 : Nat) : Int) / b + ((j + 1 : Nat) : Int)))), (10, .long (zL (((((((a) * (((n + 1 : Nat) : Int)))) - (((a * ((n + 1 : Nat) : Int) / b + (j : Int)) * (b))))).natAbs : Int)))), (8, .long (zL (((n + 1 : Nat) : Int)))), (6, .long (zL (a * ((n + 1 : Nat) : Int) / b + (j : Int)))), (18, .long (zL (((((((a) * (((n + 1 : Nat) : Int)))) - (((a * ((n + 1 : Nat) : Int) / b + (j : Int)) * (b))))).natAbs : Int)))), (0, .long (zL (a))), (2, .long (zL (b))), (4, .int (zI ((mo : Int)))), (5, .int (zI (part))), (12, .long (zL (((n + 1 : Nat) : Int)))), (14, .long (zL (a * ((n + 1 : Nat) : Int) / b)))]) C0.1 C0.2.1 dX0_bestPart_100 hl (by decide) rfl (fun ls hl => ?_)
                  refine lv_goto (tgt := 39) C0.1 C0.2.1 dX0_bestPart_102 (by decide) ?_
                  have hst : bin a b n (j + 1) = (a * ((n + 1 : Nat) : Int) / b + (j : Int), ((n + 1 : Nat) : Int), ((a * ((n + 1 : Nat) : Int) - (a * ((n + 1 : Nat) : Int) / b + (j : Int)) * b).natAbs : Int)) := by rw [bin_s _ _ _ _ (by omega)]; unfold bstep; exact if_pos hcnd
                  exact ih39  (j + 1) _ _ _ (by omega)  (by omega) hM hS (by rw [hst]; exact lv_sub hl [5, 6, 7, 8, 3, 2, 1, 9, 10, 0] rfl)
                · skip
                  have k1 : (((a * ((n + 1 : Nat) : Int) - (a * ((n + 1 : Nat) : Int) / b + (j : Int)) * b).natAbs : Nat) : Int) * (bin a b n j).2.1 ≤ 2000000 * 1000 := Int.mul_le_mul hg (by omega) (by omega) (by omega)
                  have k2 : 0 ≤ (((a * ((n + 1 : Nat) : Int) - (a * ((n + 1 : Nat) : Int) / b + (j : Int)) * b).natAbs : Nat) : Int) * (bin a b n j).2.1 := Int.mul_nonneg (by omega) (by omega)
                  have k3 : (bin a b n j).2.2 * ((n + 1 : Nat) : Int) ≤ 2000000 * 1000 := Int.mul_le_mul o6 (by omega) (by omega) (by omega)
                  have k4 : 0 ≤ (bin a b n j).2.2 * ((n + 1 : Nat) : Int) := Int.mul_nonneg (by omega) (by omega)
                  refine lv_lload C0.1 C0.2.1 dX0_bestPart_70 (lv_at hl 0 rfl) ?_
                  refine lv_lload C0.1 C0.2.1 dX0_bestPart_72 (lv_at hl 6 rfl) ?_
                  refine z_lmul C0.1 C0.2.1 dX0_bestPart_74 ?_
                  refine lv_lload C0.1 C0.2.1 dX0_bestPart_75 (lv_at hl 7 rfl) ?_
                  refine lv_lload C0.1 C0.2.1 dX0_bestPart_77 (lv_at hl 8 rfl) ?_
                  refine z_lmul C0.1 C0.2.1 dX0_bestPart_79 ?_
                  refine z_lcmp_ge (tgt := 96) C0.1 C0.2.1 dX0_bestPart_80 dX0_bestPart_81 (by decide) ⟨by omega, by omega⟩ ⟨by omega, by omega⟩ (fun c_80 => ?_) (fun c_80 => ?_)
                  · skip
                    have hcnd : ¬ ((bin a b n j).2.1 = 0 ∨ (((a * ((n + 1 : Nat) : Int) - (a * ((n + 1 : Nat) : Int) / b + (j : Int)) * b).natAbs : Nat) : Int) * (bin a b n j).2.1 < (bin a b n j).2.2 * ((n + 1 : Nat) : Int)) := not_or.mpr ⟨c_66, Int.not_lt.mpr c_80⟩
                    refine lv_lload C0.1 C0.2.1 dX0_bestPart_96 (lv_at hl 10 rfl) ?_
                    refine lv_lconst (v := zL 1) C0.1 C0.2.1 dX0_bestPart_98 rfl ?_
                    refine z_ladd C0.1 C0.2.1 dX0_bestPart_99 ?_
                    refine z_asL (a := ((a * ((n + 1 : Nat) : Int) / b + (j : Int)) + (1))) (b := a * ((n + 1 : Nat) : Int) / b + ((j + 1 : Nat) : Int)) (by omega) ?_
                    refine lv_lstore (lv' := [(16, .long (zL (a * ((n + 1 : Nat) : Int) / b + ((j + 1 : Nat) : Int)))), (18, .long (zL (((((((a) * (((n + 1 : Nat) : Int)))) - (((a * ((n + 1 : Nat) : Int) / b + (j : Int)) * (b))))).natAbs : Int)))), (0, .long (zL (a))), (2, .long (zL (b))), (4, .int (zI ((mo : Int)))), (5, .int (zI (part))), (6, .long (zL ((bin a b n j).1))), (8, .long (zL ((bin a b n j).2.1))), (10, .long (zL ((bin a b n j).2.2))), (12, .long (zL (((n + 1 : Nat) : Int)))), (14, .long (zL (a * ((n + 1 : Nat) : Int) / b)))]) C0.1 C0.2.1 dX0_bestPart_100 hl (by decide) rfl (fun ls hl => ?_)
                    refine lv_goto (tgt := 39) C0.1 C0.2.1 dX0_bestPart_102 (by decide) ?_
                    have hst : bin a b n (j + 1) = bin a b n j := by rw [bin_s _ _ _ _ (by omega)]; unfold bstep; exact if_neg hcnd
                    exact ih39  (j + 1) _ _ _ (by omega)  (by omega) hM hS (by rw [hst]; exact lv_sub hl [2, 3, 4, 5, 6, 7, 8, 9, 10, 0] rfl)
                  · skip
                    have hcnd : (bin a b n j).2.1 = 0 ∨ (((a * ((n + 1 : Nat) : Int) - (a * ((n + 1 : Nat) : Int) / b + (j : Int)) * b).natAbs : Nat) : Int) * (bin a b n j).2.1 < (bin a b n j).2.2 * ((n + 1 : Nat) : Int) := Or.inr c_80
                    refine lv_lload C0.1 C0.2.1 dX0_bestPart_84 (lv_at hl 10 rfl) ?_
                    refine lv_lstore (lv' := [(6, .long (zL (a * ((n + 1 : Nat) : Int) / b + (j : Int)))), (18, .long (zL (((((((a) * (((n + 1 : Nat) : Int)))) - (((a * ((n + 1 : Nat) : Int) / b + (j : Int)) * (b))))).natAbs : Int)))), (0, .long (zL (a))), (2, .long (zL (b))), (4, .int (zI ((mo : Int)))), (5, .int (zI (part))), (8, .long (zL ((bin a b n j).2.1))), (10, .long (zL ((bin a b n j).2.2))), (12, .long (zL (((n + 1 : Nat) : Int)))), (14, .long (zL (a * ((n + 1 : Nat) : Int) / b))), (16, .long (zL (a * ((n + 1 : Nat) : Int) / b + (j : Int))))]) C0.1 C0.2.1 dX0_bestPart_86 hl (by decide) rfl (fun ls hl => ?_)
                    refine lv_lload C0.1 C0.2.1 dX0_bestPart_88 (lv_at hl 8 rfl) ?_
                    refine lv_lstore (lv' := [(8, .long (zL (((n + 1 : Nat) : Int)))), (6, .long (zL (a * ((n + 1 : Nat) : Int) / b + (j : Int)))), (18, .long (zL (((((((a) * (((n + 1 : Nat) : Int)))) - (((a * ((n + 1 : Nat) : Int) / b + (j : Int)) * (b))))).natAbs : Int)))), (0, .long (zL (a))), (2, .long (zL (b))), (4, .int (zI ((mo : Int)))), (5, .int (zI (part))), (10, .long (zL ((bin a b n j).2.2))), (12, .long (zL (((n + 1 : Nat) : Int)))), (14, .long (zL (a * ((n + 1 : Nat) : Int) / b))), (16, .long (zL (a * ((n + 1 : Nat) : Int) / b + (j : Int))))]) C0.1 C0.2.1 dX0_bestPart_90 hl (by decide) rfl (fun ls hl => ?_)
                    refine lv_lload C0.1 C0.2.1 dX0_bestPart_92 (lv_at hl 2 rfl) ?_
                    refine lv_lstore (lv' := [(10, .long (zL (((((((a) * (((n + 1 : Nat) : Int)))) - (((a * ((n + 1 : Nat) : Int) / b + (j : Int)) * (b))))).natAbs : Int)))), (8, .long (zL (((n + 1 : Nat) : Int)))), (6, .long (zL (a * ((n + 1 : Nat) : Int) / b + (j : Int)))), (18, .long (zL (((((((a) * (((n + 1 : Nat) : Int)))) - (((a * ((n + 1 : Nat) : Int) / b + (j : Int)) * (b))))).natAbs : Int)))), (0, .long (zL (a))), (2, .long (zL (b))), (4, .int (zI ((mo : Int)))), (5, .int (zI (part))), (12, .long (zL (((n + 1 : Nat) : Int)))), (14, .long (zL (a * ((n + 1 : Nat) : Int) / b))), (16, .long (zL (a * ((n + 1 : Nat) : Int) / b + (j : Int))))]) C0.1 C0.2.1 dX0_bestPart_94 hl (by decide) rfl (fun ls hl => ?_)
                    refine lv_lload C0.1 C0.2.1 dX0_bestPart_96 (lv_at hl 10 rfl) ?_
                    refine lv_lconst (v := zL 1) C0.1 C0.2.1 dX0_bestPart_98 rfl ?_
                    refine z_ladd C0.1 C0.2.1 dX0_bestPart_99 ?_
                    refine z_asL (a := ((a * ((n + 1 : Nat) : Int) / b + (j : Int)) + (1))) (b := a * ((n + 1 : Nat) : Int) / b + ((j + 1 : Nat) : Int)) (by omega) ?_
                    refine lv_lstore (lv' := [(16, .long (zL (a * ((n + 1 : Nat) : Int) / b + ((j + 1 : Nat) : Int)))), (10, .long (zL (((((((a) * (((n + 1 : Nat) : Int)))) - (((a * ((n + 1 : Nat) : Int) / b + (j : Int)) * (b))))).natAbs : Int)))), (8, .long (zL (((n + 1 : Nat) : Int)))), (6, .long (zL (a * ((n + 1 : Nat) : Int) / b + (j : Int)))), (18, .long (zL (((((((a) * (((n + 1 : Nat) : Int)))) - (((a * ((n + 1 : Nat) : Int) / b + (j : Int)) * (b))))).natAbs : Int)))), (0, .long (zL (a))), (2, .long (zL (b))), (4, .int (zI ((mo : Int)))), (5, .int (zI (part))), (12, .long (zL (((n + 1 : Nat) : Int)))), (14, .long (zL (a * ((n + 1 : Nat) : Int) / b)))]) C0.1 C0.2.1 dX0_bestPart_100 hl (by decide) rfl (fun ls hl => ?_)
                    refine lv_goto (tgt := 39) C0.1 C0.2.1 dX0_bestPart_102 (by decide) ?_
                    have hst : bin a b n (j + 1) = (a * ((n + 1 : Nat) : Int) / b + (j : Int), ((n + 1 : Nat) : Int), ((a * ((n + 1 : Nat) : Int) - (a * ((n + 1 : Nat) : Int) / b + (j : Int)) * b).natAbs : Int)) := by rw [bin_s _ _ _ _ (by omega)]; unfold bstep; exact if_pos hcnd
                    exact ih39  (j + 1) _ _ _ (by omega)  (by omega) hM hS (by rw [hst]; exact lv_sub hl [5, 6, 7, 8, 3, 2, 1, 9, 10, 0] rfl)
          exact L39 (_ + 1) 0 _ _ _ (Nat.zero_le _)  (Nat.lt_succ_self _) hM hS (by rw [bin_0]; exact lv_sub hl [2, 3, 4, 5, 6, 7, 8, 9, 1, 0] rfl)
  exact L12 (_ + 1) 0 _ _ _ (Nat.zero_le _)  (Nat.lt_succ_self _) hM hS (lv_sub hl [4, 5, 6, 7, 3, 2, 1, 0] rfl)

def rX0_squarePairs : Room := { frames := 1, cells := 0, slots := 0, locals := 26 }
theorem sw_X0_squarePairs : mm_Sw yX0_squarePairs cX0_squarePairs 11 (some .int) 2 := ⟨tw_651, tw_12, tw_652, by decide +kernel⟩
set_option maxHeartbeats 4000000 in
set_option maxRecDepth 100000 in
theorem c_X0_squarePairs (l : Launch) (G : mG) (E0 : mE) {n : Nat} {i : Int} (hn : n ≤ 1000000000) (hi : rI i) : mm_Ci l yX0_squarePairs (.code yX0_squarePairs cX0_squarePairs 11 (some .int) :: wsG) rX0_squarePairs G [.long (zL ((n : Int))), .int (zI (i))] E0 (fun z E => z = scan (psB sqf n) (fun y => (y : Int)) i 0 0 40000 ∧ E = E0) := by
  refine mm_of_i (by decide +kernel) (Nat.le_of_ble_eq_true rfl) ?_
  intro p e s m args below meth c ls C0 hr hlk hM hl hS
  have hl : lv_has ls 11 [(0, .long (zL ((n : Int)))), (2, .int (zI (i)))] := hl
  obtain ⟨hi1, hi2⟩ := hi
  refine lv_lload_n C0.1 C0.2.1 dX0_squarePairs_0 rfl (lv_at hl 0 rfl) ?_
  refine mm_callSl (As := [.long (zL ((n : Int)))]) C0 sw_X0_rootOf tw_564 (c_X0_rootOf l G _ n rfl (by omega)) hM rfl hl.1 rfl (Nat.le_of_ble_eq_true rfl) ⟨rfl, rfl, Nat.le_of_ble_eq_true rfl, Nat.le_of_ble_eq_true rfl, Nat.zero_le _, Nat.zero_le _⟩ dX0_squarePairs_1 hS (fun z_1 E1 H locs hp hM hS => ?_)
  obtain ⟨hz_1, hEq⟩ := hp
  rw [hEq] at hM
  obtain ⟨t, ht1, ht2⟩ := hz_1
  refine z_asL (b := (t : Int)) (ht1) ?_
  have htb : t ≤ 31622 := Nat.le_of_not_lt fun q => by have h9 := ht2.1; rw [Nat.pow_two] at h9; have h8 := Nat.mul_le_mul q q; omega
  have ht3 : n < sqf (t + 1) := by have h9 := ht2.2; rw [Nat.pow_two] at h9; exact h9
  replace ht2 : hid _ := ht2
  refine lv_lstore_n (lv' := [(3, .long (zL ((t : Int)))), (0, .long (zL ((n : Int)))), (2, .int (zI (i)))]) C0.1 C0.2.1 dX0_squarePairs_4 rfl hl (by decide) rfl (fun ls hl => ?_)
  refine lv_iconst (v := zI 0) C0.1 C0.2.1 dX0_squarePairs_5 rfl ?_
  refine lv_istore (lv' := [(5, .int (zI (0))), (3, .long (zL ((t : Int)))), (0, .long (zL ((n : Int)))), (2, .int (zI (i)))]) C0.1 C0.2.1 dX0_squarePairs_6 hl (by decide) rfl (fun ls hl => ?_)
  refine lv_lconst (v := zL 0) C0.1 C0.2.1 dX0_squarePairs_8 rfl ?_
  refine lv_lstore (lv' := [(6, .long (zL (0))), (5, .int (zI (0))), (3, .long (zL ((t : Int)))), (0, .long (zL ((n : Int)))), (2, .int (zI (i)))]) C0.1 C0.2.1 dX0_squarePairs_9 hl (by decide) rfl (fun ls hl => ?_)
  refine lv_iconst (v := zI 0) C0.1 C0.2.1 dX0_squarePairs_11 rfl ?_
  refine lv_istore (lv' := [(8, .int (zI (0))), (6, .long (zL (0))), (5, .int (zI (0))), (3, .long (zL ((t : Int)))), (0, .long (zL ((n : Int)))), (2, .int (zI (i)))]) C0.1 C0.2.1 dX0_squarePairs_12 hl (by decide) rfl (fun ls hl => ?_)
  have L14 : ∀ (k14 : Nat) (a b cn st : Nat) (H : Heap) (locs : List Loc) (ls : Array Slot), (st = a + (t - b)) → (b ≤ t) → (a ≤ b + 1) → (cn ≤ a) → (pI sqf n a b) → (hid (scan (psB sqf n) (fun y => (y : Int)) i 0 0 40000 = scan (psB sqf n) (fun y => (y : Int)) i a cn (40000 - a))) → t + 1 + b - a < k14 → mm_M G E0 H → va_S (mm_A G) s.heap H locs → lv_has ls 11 [(0, .long (zL ((n : Int)))), (2, .int (zI (i))), (3, .long (zL ((b : Int)))), (5, .int (zI ((cn : Int)))), (6, .long (zL ((a : Int)))), (8, .int (zI ((st : Int))))] → W p l e rX0_squarePairs s m args below meth c H locs 0 0 (mm_Zi G below args s (fun z E => z = scan (psB sqf n) (fun y => (y : Int)) i 0 0 40000 ∧ E = E0)) (F0 m 14 ls []) := by
    intro k14
    induction k14 with
    | zero => intro a b cn st H locs ls hst hbt hab hcn hpI hSC hk hM hS hl; exact absurd hk (Nat.not_lt_zero _)
    | succ k14 ih14 =>
      intro a b cn st H locs ls hst hbt hab hcn hpI hSC hk14 hM hS hl
      have e1 : ((a * a : Nat) : Int) = (a : Int) * (a : Int) := Int.natCast_mul _ _
      have e2 : ((b * b : Nat) : Int) = (b : Int) * (b : Int) := Int.natCast_mul _ _
      have e3 : a * a ≤ 31623 * 31623 := Nat.mul_le_mul (by omega) (by omega)
      have e4 : b * b ≤ 31623 * 31623 := Nat.mul_le_mul (by omega) (by omega)
      refine lv_iload C0.1 C0.2.1 dX0_squarePairs_14 (lv_at hl 5 rfl) ?_
      refine mm_ldc (z := 1000000) C0 tw_653 rfl dX0_squarePairs_16 ?_
      refine z_icmp_ge (tgt := 85) C0.1 C0.2.1 dX0_squarePairs_18 (by decide) ⟨by omega, by omega⟩ ⟨by omega, by omega⟩ (fun c_18 => ?_) (fun c_18 => ?_)
      · skip
        omega
      · skip
        refine lv_lload C0.1 C0.2.1 dX0_squarePairs_21 (lv_at hl 4 rfl) ?_
        refine lv_lload_n C0.1 C0.2.1 dX0_squarePairs_23 rfl (lv_at hl 2 rfl) ?_
        refine z_lcmp_gt (tgt := 85) C0.1 C0.2.1 dX0_squarePairs_24 dX0_squarePairs_25 (by decide) ⟨by omega, by omega⟩ ⟨by omega, by omega⟩ (fun c_24 => ?_) (fun c_24 => ?_)
        · skip
          refine lv_iload_n C0.1 C0.2.1 dX0_squarePairs_85 rfl (lv_at hl 1 rfl) ?_
          refine lv_iload C0.1 C0.2.1 dX0_squarePairs_86 (lv_at hl 3 rfl) ?_
          refine mm_callSi (As := [.int (zI (i)), .int (zI ((cn : Int)))]) C0 sw_X0_close tw_631 (c_X0_close l G _ ⟨by omega, by omega⟩ (by omega)) hM rfl hl.1 rfl (Nat.le_of_ble_eq_true rfl) ⟨rfl, rfl, Nat.le_of_ble_eq_true rfl, Nat.le_of_ble_eq_true rfl, Nat.zero_le _, Nat.zero_le _⟩ dX0_squarePairs_88 hS (fun z_88 E2 H locs hp hM hS => ?_)
          obtain ⟨hz_88, hEq⟩ := hp
          rw [hEq] at hM
          refine z_asI (b := clo i cn) (hz_88) ?_
          exact mm_iret (z := clo i cn) C0 hr hlk hM hS dX0_squarePairs_91 (⟨(Eq.trans hSC (scan_end (pI_end hpI (by omega)))).symm, rfl⟩)
        · skip
          refine lv_lload C0.1 C0.2.1 dX0_squarePairs_28 (lv_at hl 4 rfl) ?_
          refine lv_lload C0.1 C0.2.1 dX0_squarePairs_30 (lv_at hl 4 rfl) ?_
          refine z_lmul C0.1 C0.2.1 dX0_squarePairs_32 ?_
          refine lv_lload_n C0.1 C0.2.1 dX0_squarePairs_33 rfl (lv_at hl 2 rfl) ?_
          refine lv_lload_n C0.1 C0.2.1 dX0_squarePairs_34 rfl (lv_at hl 2 rfl) ?_
          refine z_lmul C0.1 C0.2.1 dX0_squarePairs_35 ?_
          refine z_ladd C0.1 C0.2.1 dX0_squarePairs_36 ?_
          refine lv_lstore (lv' := [(9, .long (zL ((((((a : Int)) * ((a : Int)))) + ((((b : Int)) * ((b : Int)))))))), (0, .long (zL ((n : Int)))), (2, .int (zI (i))), (3, .long (zL ((b : Int)))), (5, .int (zI ((cn : Int)))), (6, .long (zL ((a : Int)))), (8, .int (zI ((st : Int))))]) C0.1 C0.2.1 dX0_squarePairs_37 hl (by decide) rfl (fun ls hl => ?_)
          refine lv_lload C0.1 C0.2.1 dX0_squarePairs_39 (lv_at hl 0 rfl) ?_
          refine lv_lload_n C0.1 C0.2.1 dX0_squarePairs_41 rfl (lv_at hl 1 rfl) ?_
          refine z_lcmp_le (tgt := 53) C0.1 C0.2.1 dX0_squarePairs_42 dX0_squarePairs_43 (by decide) ⟨by omega, by omega⟩ ⟨by omega, by omega⟩ (fun c_42 => ?_) (fun c_42 => ?_)
          · skip
            refine lv_lload C0.1 C0.2.1 dX0_squarePairs_53 (lv_at hl 0 rfl) ?_
            refine lv_lload_n C0.1 C0.2.1 dX0_squarePairs_55 rfl (lv_at hl 1 rfl) ?_
            refine z_lcmp_ne (tgt := 73) C0.1 C0.2.1 dX0_squarePairs_56 dX0_squarePairs_57 (by decide) ⟨by omega, by omega⟩ ⟨by omega, by omega⟩ (fun c_56 => ?_) (fun c_56 => ?_)
            · skip
              have hlt : sqf a + sqf b < n := by unfold sqf; omega
              refine lv_lload C0.1 C0.2.1 dX0_squarePairs_73 (lv_at hl 5 rfl) ?_
              refine lv_lconst (v := zL 1) C0.1 C0.2.1 dX0_squarePairs_75 rfl ?_
              refine z_ladd C0.1 C0.2.1 dX0_squarePairs_76 ?_
              refine z_asL (a := (((a : Int)) + (1))) (b := ((a + 1 : Nat) : Int)) (by omega) ?_
              refine lv_lstore (lv' := [(6, .long (zL (((a + 1 : Nat) : Int)))), (9, .long (zL ((((((a : Int)) * ((a : Int)))) + ((((b : Int)) * ((b : Int)))))))), (0, .long (zL ((n : Int)))), (2, .int (zI (i))), (3, .long (zL ((b : Int)))), (5, .int (zI ((cn : Int)))), (8, .int (zI ((st : Int))))]) C0.1 C0.2.1 dX0_squarePairs_77 hl (by decide) rfl (fun ls hl => ?_)
              refine lv_iinc (v := zI (((st + 1 : Nat) : Int))) (lv' := [(8, .int (zI (((st + 1 : Nat) : Int)))), (6, .long (zL (((a + 1 : Nat) : Int)))), (9, .long (zL ((((((a : Int)) * ((a : Int)))) + ((((b : Int)) * ((b : Int)))))))), (0, .long (zL ((n : Int)))), (2, .int (zI (i))), (3, .long (zL ((b : Int)))), (5, .int (zI ((cn : Int))))]) C0.1 C0.2.1 dX0_squarePairs_79 hl (k := 6) rfl (z_inc (a := (st : Int)) (n := 1) (by omega)) (by decide) rfl (fun ls hl => ?_)
              refine lv_goto (tgt := 14) C0.1 C0.2.1 dX0_squarePairs_82 (by decide) ?_
              exact ih14  (a + 1) b cn (st + 1) _ _ _ (by omega) (hbt) (by omega) (by omega) (pI_up hpI) (Eq.trans hSC (scan_f (by omega) (bq_f (pI_no up_sqf hpI hlt))))  (by omega) hM hS (lv_sub hl [3, 4, 5, 6, 1, 0] rfl)
            · skip
              have heq : ps sqf n a b := by unfold ps sqf; omega
              refine lv_iload C0.1 C0.2.1 dX0_squarePairs_60 (lv_at hl 4 rfl) ?_
              refine lv_iload_n C0.1 C0.2.1 dX0_squarePairs_62 rfl (lv_at hl 2 rfl) ?_
              refine z_icmp_ne (tgt := 70) C0.1 C0.2.1 dX0_squarePairs_63 (by decide) ⟨by omega, by omega⟩ ⟨by omega, by omega⟩ (fun c_63 => ?_) (fun c_63 => ?_)
              · skip
                refine lv_iinc (v := zI (((cn + 1 : Nat) : Int))) (lv' := [(5, .int (zI (((cn + 1 : Nat) : Int)))), (9, .long (zL ((((((a : Int)) * ((a : Int)))) + ((((b : Int)) * ((b : Int)))))))), (0, .long (zL ((n : Int)))), (2, .int (zI (i))), (3, .long (zL ((b : Int)))), (6, .long (zL ((a : Int)))), (8, .int (zI ((st : Int))))]) C0.1 C0.2.1 dX0_squarePairs_70 hl (k := 4) rfl (z_inc (a := (cn : Int)) (n := 1) (by omega)) (by decide) rfl (fun ls hl => ?_)
                refine lv_lload C0.1 C0.2.1 dX0_squarePairs_73 (lv_at hl 5 rfl) ?_
                refine lv_lconst (v := zL 1) C0.1 C0.2.1 dX0_squarePairs_75 rfl ?_
                refine z_ladd C0.1 C0.2.1 dX0_squarePairs_76 ?_
                refine z_asL (a := (((a : Int)) + (1))) (b := ((a + 1 : Nat) : Int)) (by omega) ?_
                refine lv_lstore (lv' := [(6, .long (zL (((a + 1 : Nat) : Int)))), (5, .int (zI (((cn + 1 : Nat) : Int)))), (9, .long (zL ((((((a : Int)) * ((a : Int)))) + ((((b : Int)) * ((b : Int)))))))), (0, .long (zL ((n : Int)))), (2, .int (zI (i))), (3, .long (zL ((b : Int)))), (8, .int (zI ((st : Int))))]) C0.1 C0.2.1 dX0_squarePairs_77 hl (by decide) rfl (fun ls hl => ?_)
                refine lv_iinc (v := zI (((st + 1 : Nat) : Int))) (lv' := [(8, .int (zI (((st + 1 : Nat) : Int)))), (6, .long (zL (((a + 1 : Nat) : Int)))), (5, .int (zI (((cn + 1 : Nat) : Int)))), (9, .long (zL ((((((a : Int)) * ((a : Int)))) + ((((b : Int)) * ((b : Int)))))))), (0, .long (zL ((n : Int)))), (2, .int (zI (i))), (3, .long (zL ((b : Int))))]) C0.1 C0.2.1 dX0_squarePairs_79 hl (k := 6) rfl (z_inc (a := (st : Int)) (n := 1) (by omega)) (by decide) rfl (fun ls hl => ?_)
                refine lv_goto (tgt := 14) C0.1 C0.2.1 dX0_squarePairs_82 (by decide) ?_
                exact ih14  (a + 1) b (cn + 1) (st + 1) _ _ _ (by omega) (hbt) (by omega) (by omega) (pI_up hpI) (Eq.trans hSC (scan_t (by omega) (bq_t ⟨b, by omega, heq⟩) (by omega)))  (by omega) hM hS (lv_sub hl [4, 5, 6, 2, 1, 0] rfl)
              · skip
                refine lv_lload C0.1 C0.2.1 dX0_squarePairs_66 (lv_at hl 5 rfl) ?_
                refine z_l2i C0.1 C0.2.1 dX0_squarePairs_68 ?_
                exact mm_iret (z := (a : Int)) C0 hr hlk hM hS dX0_squarePairs_69 (⟨(Eq.trans hSC (scan_hit (m := 39999 - a) (by omega) (bq_t ⟨b, by omega, heq⟩) (by omega))).symm, rfl⟩)
          · skip
            have hgt : n < sqf a + sqf b := by unfold sqf; omega
            have hb0 : 0 < b := Nat.pos_of_ne_zero fun q => by rw [q] at hgt; rw [show a = 0 by omega] at hgt; simp [sqf] at hgt
            refine lv_lload_n C0.1 C0.2.1 dX0_squarePairs_46 rfl (lv_at hl 3 rfl) ?_
            refine lv_lconst (v := zL 1) C0.1 C0.2.1 dX0_squarePairs_47 rfl ?_
            refine z_lsub C0.1 C0.2.1 dX0_squarePairs_48 ?_
            refine z_asL (a := (((b : Int)) - (1))) (b := ((b - 1 : Nat) : Int)) (by omega) ?_
            refine lv_lstore_n (lv' := [(3, .long (zL (((b - 1 : Nat) : Int)))), (9, .long (zL ((((((a : Int)) * ((a : Int)))) + ((((b : Int)) * ((b : Int)))))))), (0, .long (zL ((n : Int)))), (2, .int (zI (i))), (5, .int (zI ((cn : Int)))), (6, .long (zL ((a : Int)))), (8, .int (zI ((st : Int))))]) C0.1 C0.2.1 dX0_squarePairs_49 rfl hl (by decide) rfl (fun ls hl => ?_)
            refine lv_goto (tgt := 79) C0.1 C0.2.1 dX0_squarePairs_50 (by decide) ?_
            refine lv_iinc (v := zI (((st + 1 : Nat) : Int))) (lv' := [(8, .int (zI (((st + 1 : Nat) : Int)))), (3, .long (zL (((b - 1 : Nat) : Int)))), (9, .long (zL ((((((a : Int)) * ((a : Int)))) + ((((b : Int)) * ((b : Int)))))))), (0, .long (zL ((n : Int)))), (2, .int (zI (i))), (5, .int (zI ((cn : Int)))), (6, .long (zL ((a : Int))))]) C0.1 C0.2.1 dX0_squarePairs_79 hl (k := 6) rfl (z_inc (a := (st : Int)) (n := 1) (by omega)) (by decide) rfl (fun ls hl => ?_)
            refine lv_goto (tgt := 14) C0.1 C0.2.1 dX0_squarePairs_82 (by decide) ?_
            exact ih14  a (b - 1) cn (st + 1) _ _ _ (by omega) (by omega) (by omega) (hcn) (pI_dn up_sqf hpI hgt) (hSC)  (by omega) hM hS (lv_sub hl [3, 4, 1, 5, 6, 0] rfl)
  exact L14 (_ + 1) 0 t 0 0 _ _ _ (by omega) (Nat.le_refl _) (by omega) (Nat.le_refl _) (pI_0 up_sqf ht3 0) (rfl)  (Nat.lt_succ_self _) hM hS (lv_sub hl [4, 5, 3, 2, 1, 0] rfl)

def rX0_lesserOfPair : Room := { frames := 1, cells := 0, slots := 0, locals := 26 }
theorem sw_X0_lesserOfPair : mm_Sw yX0_lesserOfPair cX0_lesserOfPair 11 (some .long) 2 := ⟨tw_682, tw_12, tw_683, by decide +kernel⟩
set_option maxHeartbeats 4000000 in
set_option maxRecDepth 100000 in
theorem c_X0_lesserOfPair (l : Launch) (G : mG) (E0 : mE) {n g : Nat} (hn : n ≤ 1000000000) (hg : g ≤ 40000) : mm_Cl l yX0_lesserOfPair (.code yX0_lesserOfPair cX0_lesserOfPair 11 (some .long) :: wsG) rX0_lesserOfPair G [.long (zL ((n : Int))), .long (zL ((g : Int)))] E0 (fun z E => lsr n g z ∧ E = E0) := by
  refine mm_of_l (by decide +kernel) (Nat.le_of_ble_eq_true rfl) ?_
  intro p e s m args below meth c ls C0 hr hlk hM hl hS
  have hl : lv_has ls 11 [(0, .long (zL ((n : Int)))), (2, .long (zL ((g : Int))))] := hl
  refine lv_lload_n C0.1 C0.2.1 dX0_lesserOfPair_0 rfl (lv_at hl 0 rfl) ?_
  refine mm_ldc2 (z := 4) C0 tw_675 rfl dX0_lesserOfPair_1 ?_
  refine z_lremp C0.1 C0.2.1 dX0_lesserOfPair_4 ⟨by omega, by omega⟩ ⟨by omega, by omega⟩ (by omega) (by omega) ?_
  refine mm_ldc2 (z := 3) C0 tw_663 rfl dX0_lesserOfPair_5 ?_
  refine z_lcmp_ne (tgt := 16) C0.1 C0.2.1 dX0_lesserOfPair_8 dX0_lesserOfPair_9 (by decide) ⟨by omega, by omega⟩ ⟨by omega, by omega⟩ (fun c_8 => ?_) (fun c_8 => ?_)
  · skip
    refine lv_lload_n C0.1 C0.2.1 dX0_lesserOfPair_16 rfl (lv_at hl 1 rfl) ?_
    refine lv_lstore (lv' := [(4, .long (zL ((g : Int)))), (0, .long (zL ((n : Int)))), (2, .long (zL ((g : Int))))]) C0.1 C0.2.1 dX0_lesserOfPair_17 hl (by decide) rfl (fun ls hl => ?_)
    refine lv_lload_n C0.1 C0.2.1 dX0_lesserOfPair_19 rfl (lv_at hl 1 rfl) ?_
    refine mm_callSl (As := [.long (zL ((n : Int)))]) C0 sw_X0_rootOf tw_564 (c_X0_rootOf l G _ n rfl (by omega)) hM rfl hl.1 rfl (Nat.le_of_ble_eq_true rfl) ⟨rfl, rfl, Nat.le_of_ble_eq_true rfl, Nat.le_of_ble_eq_true rfl, Nat.zero_le _, Nat.zero_le _⟩ dX0_lesserOfPair_20 hS (fun z_20 E1 H locs hp hM hS => ?_)
    obtain ⟨hz_20, hEq⟩ := hp
    rw [hEq] at hM
    obtain ⟨t, ht1, ht2⟩ := hz_20
    refine z_asL (b := (t : Int)) (ht1) ?_
    have htb : t ≤ 31622 := Nat.le_of_not_lt fun q => by have h9 := ht2.1; rw [Nat.pow_two] at h9; have h8 := Nat.mul_le_mul q q; omega
    have ht3 : n < sqf (t + 1) := by have h9 := ht2.2; rw [Nat.pow_two] at h9; exact h9
    replace ht2 : hid _ := ht2
    refine lv_lstore (lv' := [(6, .long (zL ((t : Int)))), (4, .long (zL ((g : Int)))), (0, .long (zL ((n : Int)))), (2, .long (zL ((g : Int))))]) C0.1 C0.2.1 dX0_lesserOfPair_23 hl (by decide) rfl (fun ls hl => ?_)
    refine lv_iconst (v := zI 0) C0.1 C0.2.1 dX0_lesserOfPair_25 rfl ?_
    refine lv_istore (lv' := [(8, .int (zI (0))), (6, .long (zL ((t : Int)))), (4, .long (zL ((g : Int)))), (0, .long (zL ((n : Int)))), (2, .long (zL ((g : Int))))]) C0.1 C0.2.1 dX0_lesserOfPair_26 hl (by decide) rfl (fun ls hl => ?_)
    have L28 : ∀ (k28 : Nat) (a b st : Nat) (H : Heap) (locs : List Loc) (ls : Array Slot), (st + g = a + (t - b)) → (b ≤ t) → (g ≤ a) → (a ≤ 40000) → (pI sqf n a b) → (∀ x, g ≤ x → x < a → ¬ ∃ y, x ≤ y ∧ ps sqf n x y) → 50000 + b - a < k28 → mm_M G E0 H → va_S (mm_A G) s.heap H locs → lv_has ls 11 [(0, .long (zL ((n : Int)))), (2, .long (zL ((g : Int)))), (4, .long (zL ((a : Int)))), (6, .long (zL ((b : Int)))), (8, .int (zI ((st : Int))))] → W p l e rX0_lesserOfPair s m args below meth c H locs 0 0 (mm_Zl G below args s (fun z E => lsr n g z ∧ E = E0)) (F0 m 28 ls []) := by
      intro k28
      induction k28 with
      | zero => intro a b st H locs ls hst hbt hga hab hpI hno hk hM hS hl; exact absurd hk (Nat.not_lt_zero _)
      | succ k28 ih28 =>
        intro a b st H locs ls hst hbt hga hab hpI hno hk28 hM hS hl
        have e1 : ((a * a : Nat) : Int) = (a : Int) * (a : Int) := Int.natCast_mul _ _
        have e2 : ((b * b : Nat) : Int) = (b : Int) * (b : Int) := Int.natCast_mul _ _
        have e3 : a * a ≤ 40000 * 40000 := Nat.mul_le_mul (by omega) (by omega)
        have e4 : b * b ≤ 40000 * 40000 := Nat.mul_le_mul (by omega) (by omega)
        refine lv_iload C0.1 C0.2.1 dX0_lesserOfPair_28 (lv_at hl 4 rfl) ?_
        refine mm_ldc (z := 1000000) C0 tw_653 rfl dX0_lesserOfPair_30 ?_
        refine z_icmp_ge (tgt := 94) C0.1 C0.2.1 dX0_lesserOfPair_32 (by decide) ⟨by omega, by omega⟩ ⟨by omega, by omega⟩ (fun c_32 => ?_) (fun c_32 => ?_)
        · skip
          omega
        · skip
          refine lv_lload C0.1 C0.2.1 dX0_lesserOfPair_35 (lv_at hl 2 rfl) ?_
          refine lv_lload C0.1 C0.2.1 dX0_lesserOfPair_37 (lv_at hl 3 rfl) ?_
          refine z_lcmp_gt (tgt := 94) C0.1 C0.2.1 dX0_lesserOfPair_39 dX0_lesserOfPair_40 (by decide) ⟨by omega, by omega⟩ ⟨by omega, by omega⟩ (fun c_39 => ?_) (fun c_39 => ?_)
          · skip
            refine mm_ldc2 (z := (-1)) C0 tw_684 rfl dX0_lesserOfPair_94 ?_
            exact mm_lret (z := (-1)) C0 hr hlk hM hS dX0_lesserOfPair_97 (⟨Or.inr ⟨fun x hx => if q : x < a then hno x hx q else pI_nil hpI (by omega) x (by omega), rfl⟩, rfl⟩)
          · skip
            refine lv_lload C0.1 C0.2.1 dX0_lesserOfPair_43 (lv_at hl 2 rfl) ?_
            refine lv_lload C0.1 C0.2.1 dX0_lesserOfPair_45 (lv_at hl 2 rfl) ?_
            refine z_lmul C0.1 C0.2.1 dX0_lesserOfPair_47 ?_
            refine lv_lload C0.1 C0.2.1 dX0_lesserOfPair_48 (lv_at hl 3 rfl) ?_
            refine lv_lload C0.1 C0.2.1 dX0_lesserOfPair_50 (lv_at hl 3 rfl) ?_
            refine z_lmul C0.1 C0.2.1 dX0_lesserOfPair_52 ?_
            refine z_ladd C0.1 C0.2.1 dX0_lesserOfPair_53 ?_
            refine lv_lstore (lv' := [(9, .long (zL ((((((a : Int)) * ((a : Int)))) + ((((b : Int)) * ((b : Int)))))))), (0, .long (zL ((n : Int)))), (2, .long (zL ((g : Int)))), (4, .long (zL ((a : Int)))), (6, .long (zL ((b : Int)))), (8, .int (zI ((st : Int))))]) C0.1 C0.2.1 dX0_lesserOfPair_54 hl (by decide) rfl (fun ls hl => ?_)
            refine lv_lload C0.1 C0.2.1 dX0_lesserOfPair_56 (lv_at hl 0 rfl) ?_
            refine lv_lload_n C0.1 C0.2.1 dX0_lesserOfPair_58 rfl (lv_at hl 1 rfl) ?_
            refine z_lcmp_ne (tgt := 66) C0.1 C0.2.1 dX0_lesserOfPair_59 dX0_lesserOfPair_60 (by decide) ⟨by omega, by omega⟩ ⟨by omega, by omega⟩ (fun c_59 => ?_) (fun c_59 => ?_)
            · skip
              refine lv_lload C0.1 C0.2.1 dX0_lesserOfPair_66 (lv_at hl 0 rfl) ?_
              refine lv_lload_n C0.1 C0.2.1 dX0_lesserOfPair_68 rfl (lv_at hl 1 rfl) ?_
              refine z_lcmp_le (tgt := 82) C0.1 C0.2.1 dX0_lesserOfPair_69 dX0_lesserOfPair_70 (by decide) ⟨by omega, by omega⟩ ⟨by omega, by omega⟩ (fun c_69 => ?_) (fun c_69 => ?_)
              · skip
                have hlt : sqf a + sqf b < n := by unfold sqf; omega
                refine lv_lload C0.1 C0.2.1 dX0_lesserOfPair_82 (lv_at hl 3 rfl) ?_
                refine lv_lconst (v := zL 1) C0.1 C0.2.1 dX0_lesserOfPair_84 rfl ?_
                refine z_ladd C0.1 C0.2.1 dX0_lesserOfPair_85 ?_
                refine z_asL (a := (((a : Int)) + (1))) (b := ((a + 1 : Nat) : Int)) (by omega) ?_
                refine lv_lstore (lv' := [(4, .long (zL (((a + 1 : Nat) : Int)))), (9, .long (zL ((((((a : Int)) * ((a : Int)))) + ((((b : Int)) * ((b : Int)))))))), (0, .long (zL ((n : Int)))), (2, .long (zL ((g : Int)))), (6, .long (zL ((b : Int)))), (8, .int (zI ((st : Int))))]) C0.1 C0.2.1 dX0_lesserOfPair_86 hl (by decide) rfl (fun ls hl => ?_)
                refine lv_iinc (v := zI (((st + 1 : Nat) : Int))) (lv' := [(8, .int (zI (((st + 1 : Nat) : Int)))), (4, .long (zL (((a + 1 : Nat) : Int)))), (9, .long (zL ((((((a : Int)) * ((a : Int)))) + ((((b : Int)) * ((b : Int)))))))), (0, .long (zL ((n : Int)))), (2, .long (zL ((g : Int)))), (6, .long (zL ((b : Int))))]) C0.1 C0.2.1 dX0_lesserOfPair_88 hl (k := 5) rfl (z_inc (a := (st : Int)) (n := 1) (by omega)) (by decide) rfl (fun ls hl => ?_)
                refine lv_goto (tgt := 28) C0.1 C0.2.1 dX0_lesserOfPair_91 (by decide) ?_
                exact ih28  (a + 1) b (st + 1) _ _ _ (by omega) (hbt) (by omega) (by omega) (pI_up hpI) (fun x h1 h2 => if q : x = a then (by rw [q]; exact pI_no up_sqf hpI hlt) else hno x h1 (by omega))  (by omega) hM hS (lv_sub hl [3, 4, 1, 5, 0] rfl)
              · skip
                have hgt : n < sqf a + sqf b := by unfold sqf; omega
                have hb0 : 0 < b := Nat.pos_of_ne_zero fun q => by rw [q] at hgt; rw [show a = 0 by omega] at hgt; simp [sqf] at hgt
                refine lv_lload C0.1 C0.2.1 dX0_lesserOfPair_73 (lv_at hl 4 rfl) ?_
                refine lv_lconst (v := zL 1) C0.1 C0.2.1 dX0_lesserOfPair_75 rfl ?_
                refine z_lsub C0.1 C0.2.1 dX0_lesserOfPair_76 ?_
                refine z_asL (a := (((b : Int)) - (1))) (b := ((b - 1 : Nat) : Int)) (by omega) ?_
                refine lv_lstore (lv' := [(6, .long (zL (((b - 1 : Nat) : Int)))), (9, .long (zL ((((((a : Int)) * ((a : Int)))) + ((((b : Int)) * ((b : Int)))))))), (0, .long (zL ((n : Int)))), (2, .long (zL ((g : Int)))), (4, .long (zL ((a : Int)))), (8, .int (zI ((st : Int))))]) C0.1 C0.2.1 dX0_lesserOfPair_77 hl (by decide) rfl (fun ls hl => ?_)
                refine lv_goto (tgt := 88) C0.1 C0.2.1 dX0_lesserOfPair_79 (by decide) ?_
                refine lv_iinc (v := zI (((st + 1 : Nat) : Int))) (lv' := [(8, .int (zI (((st + 1 : Nat) : Int)))), (6, .long (zL (((b - 1 : Nat) : Int)))), (9, .long (zL ((((((a : Int)) * ((a : Int)))) + ((((b : Int)) * ((b : Int)))))))), (0, .long (zL ((n : Int)))), (2, .long (zL ((g : Int)))), (4, .long (zL ((a : Int))))]) C0.1 C0.2.1 dX0_lesserOfPair_88 hl (k := 5) rfl (z_inc (a := (st : Int)) (n := 1) (by omega)) (by decide) rfl (fun ls hl => ?_)
                refine lv_goto (tgt := 28) C0.1 C0.2.1 dX0_lesserOfPair_91 (by decide) ?_
                exact ih28  a (b - 1) (st + 1) _ _ _ (by omega) (by omega) (hga) (hab) (pI_dn up_sqf hpI hgt) (hno)  (by omega) hM hS (lv_sub hl [3, 4, 5, 1, 0] rfl)
            · skip
              have heq : ps sqf n a b := by unfold ps sqf; omega
              refine lv_lload C0.1 C0.2.1 dX0_lesserOfPair_63 (lv_at hl 3 rfl) ?_
              exact mm_lret (z := (a : Int)) C0 hr hlk hM hS dX0_lesserOfPair_65 (⟨Or.inl ⟨a, b, hga, by omega, heq, hno, rfl⟩, rfl⟩)
    exact L28 (_ + 1) g t 0 _ _ _ (by omega) (Nat.le_refl _) (Nat.le_refl _) (hg) (pI_0 up_sqf ht3 g) (fun x h1 h2 => by omega)  (Nat.lt_succ_self _) hM hS (lv_sub hl [3, 4, 2, 1, 0] rfl)
  · skip
    have h43 : n % 4 = 3 := by omega
    refine mm_ldc2 (z := (-1)) C0 tw_684 rfl dX0_lesserOfPair_12 ?_
    exact mm_lret (z := (-1)) C0 hr hlk hM hS dX0_lesserOfPair_15 (⟨Or.inr ⟨fun x _ q => by obtain ⟨y, -, hy⟩ := q; exact ps_m4 hy h43, rfl⟩, rfl⟩)

def rX0_needsFour : Room := { frames := 0, cells := 0, slots := 0, locals := 0 }
theorem sw_X0_needsFour : mm_Sw yX0_needsFour cX0_needsFour 5 (some .boolean) 1 := ⟨tw_677, tw_12, tw_678, by decide +kernel⟩
set_option maxHeartbeats 4000000 in
set_option maxRecDepth 100000 in
theorem c_X0_needsFour (l : Launch) (G : mG) (E0 : mE) {n : Nat} (hn : n ≤ 1000000000) : mm_Ci l yX0_needsFour (.code yX0_needsFour cX0_needsFour 5 (some .boolean) :: wsG) rX0_needsFour G [.long (zL ((n : Int)))] E0 (fun z E => z = (if s7 n = true then 1 else 0) ∧ E = E0) := by
  refine mm_of_i (by decide +kernel) (Nat.le_of_ble_eq_true rfl) ?_
  intro p e s m args below meth c ls C0 hr hlk hM hl hS
  have hl : lv_has ls 5 [(0, .long (zL ((n : Int))))] := hl
  refine lv_lload_n C0.1 C0.2.1 dX0_needsFour_0 rfl (lv_at hl 0 rfl) ?_
  refine lv_lstore_n (lv' := [(2, .long (zL ((n : Int)))), (0, .long (zL ((n : Int))))]) C0.1 C0.2.1 dX0_needsFour_1 rfl hl (by decide) rfl (fun ls hl => ?_)
  refine lv_iconst (v := zI 0) C0.1 C0.2.1 dX0_needsFour_2 rfl ?_
  refine lv_istore (lv' := [(4, .int (zI (0))), (2, .long (zL ((n : Int)))), (0, .long (zL ((n : Int))))]) C0.1 C0.2.1 dX0_needsFour_3 hl (by decide) rfl (fun ls hl => ?_)
  have L5 : ∀ (k5 : Nat) (i x : Nat) (H : Heap) (locs : List Loc) (ls : Array Slot), (i ≤ 32) → (s7 n = s7 x) → (x ≤ 1000000000) → (x * 4 ^ i ≤ 1000000000) → 32 - i < k5 → mm_M G E0 H → va_S (mm_A G) s.heap H locs → lv_has ls 5 [(0, .long (zL ((n : Int)))), (2, .long (zL ((x : Int)))), (4, .int (zI ((i : Int))))] → W p l e rX0_needsFour s m args below meth c H locs 0 0 (mm_Zi G below args s (fun z E => z = (if s7 n = true then 1 else 0) ∧ E = E0)) (F0 m 5 ls []) := by
    intro k5
    induction k5 with
    | zero => intro i x H locs ls hi hs hx hxp hk hM hS hl; exact absurd hk (Nat.not_lt_zero _)
    | succ k5 ih5 =>
      intro i x H locs ls hi hs hx hxp hk5 hM hS hl
      refine lv_iload C0.1 C0.2.1 dX0_needsFour_5 (lv_at hl 2 rfl) ?_
      refine lv_bipush (v := zI 32) C0.1 C0.2.1 dX0_needsFour_7 rfl ?_
      refine z_icmp_ge (tgt := 40) C0.1 C0.2.1 dX0_needsFour_9 (by decide) ⟨by omega, by omega⟩ ⟨by omega, by omega⟩ (fun c_9 => ?_) (fun c_9 => ?_)
      · skip
        have hx0 : ¬ (0 < x ∧ x % 4 = 0) := fun q => by have h9 := Nat.mul_le_mul q.1 (Nat.le_refl (4 ^ i)); rw [show i = 32 by omega] at h9 hxp; omega
        refine lv_lload_n C0.1 C0.2.1 dX0_needsFour_40 rfl (lv_at hl 1 rfl) ?_
        refine mm_ldc2 (z := 8) C0 tw_679 rfl dX0_needsFour_41 ?_
        refine z_lremp C0.1 C0.2.1 dX0_needsFour_44 ⟨by omega, by omega⟩ ⟨by omega, by omega⟩ (by omega) (by omega) ?_
        refine mm_ldc2 (z := 7) C0 tw_680 rfl dX0_needsFour_45 ?_
        refine z_lcmp_ne (tgt := 56) C0.1 C0.2.1 dX0_needsFour_48 dX0_needsFour_49 (by decide) ⟨by omega, by omega⟩ ⟨by omega, by omega⟩ (fun c_48 => ?_) (fun c_48 => ?_)
        · skip
          refine lv_iconst (v := zI 0) C0.1 C0.2.1 dX0_needsFour_56 rfl ?_
          exact mm_zret (z := 0) C0 hr hlk hM hS (by omega) dX0_needsFour_57 (⟨by rw [hs, s7_e hx0, if_neg (by rw [beq_iff_eq]; omega)], rfl⟩)
        · skip
          refine lv_iconst (v := zI 1) C0.1 C0.2.1 dX0_needsFour_52 rfl ?_
          refine lv_goto (tgt := 57) C0.1 C0.2.1 dX0_needsFour_53 (by decide) ?_
          exact mm_zret (z := 1) C0 hr hlk hM hS (by omega) dX0_needsFour_57 (⟨by rw [hs, s7_e hx0, if_pos (by rw [beq_iff_eq]; omega)], rfl⟩)
      · skip
        refine lv_lload_n C0.1 C0.2.1 dX0_needsFour_12 rfl (lv_at hl 1 rfl) ?_
        refine lv_lconst (v := zL 0) C0.1 C0.2.1 dX0_needsFour_13 rfl ?_
        refine z_lcmp_le (tgt := 40) C0.1 C0.2.1 dX0_needsFour_14 dX0_needsFour_15 (by decide) ⟨by omega, by omega⟩ ⟨by omega, by omega⟩ (fun c_14 => ?_) (fun c_14 => ?_)
        · skip
          have hx0 : ¬ (0 < x ∧ x % 4 = 0) := by omega
          refine lv_lload_n C0.1 C0.2.1 dX0_needsFour_40 rfl (lv_at hl 1 rfl) ?_
          refine mm_ldc2 (z := 8) C0 tw_679 rfl dX0_needsFour_41 ?_
          refine z_lremp C0.1 C0.2.1 dX0_needsFour_44 ⟨by omega, by omega⟩ ⟨by omega, by omega⟩ (by omega) (by omega) ?_
          refine mm_ldc2 (z := 7) C0 tw_680 rfl dX0_needsFour_45 ?_
          refine z_lcmp_ne (tgt := 56) C0.1 C0.2.1 dX0_needsFour_48 dX0_needsFour_49 (by decide) ⟨by omega, by omega⟩ ⟨by omega, by omega⟩ (fun c_48 => ?_) (fun c_48 => ?_)
          · skip
            refine lv_iconst (v := zI 0) C0.1 C0.2.1 dX0_needsFour_56 rfl ?_
            exact mm_zret (z := 0) C0 hr hlk hM hS (by omega) dX0_needsFour_57 (⟨by rw [hs, s7_e hx0, if_neg (by rw [beq_iff_eq]; omega)], rfl⟩)
          · skip
            refine lv_iconst (v := zI 1) C0.1 C0.2.1 dX0_needsFour_52 rfl ?_
            refine lv_goto (tgt := 57) C0.1 C0.2.1 dX0_needsFour_53 (by decide) ?_
            exact mm_zret (z := 1) C0 hr hlk hM hS (by omega) dX0_needsFour_57 (⟨by rw [hs, s7_e hx0, if_pos (by rw [beq_iff_eq]; omega)], rfl⟩)
        · skip
          refine lv_lload_n C0.1 C0.2.1 dX0_needsFour_18 rfl (lv_at hl 1 rfl) ?_
          refine mm_ldc2 (z := 4) C0 tw_675 rfl dX0_needsFour_19 ?_
          refine z_lremp C0.1 C0.2.1 dX0_needsFour_22 ⟨by omega, by omega⟩ ⟨by omega, by omega⟩ (by omega) (by omega) ?_
          refine lv_lconst (v := zL 0) C0.1 C0.2.1 dX0_needsFour_23 rfl ?_
          refine z_lcmp_ne (tgt := 40) C0.1 C0.2.1 dX0_needsFour_24 dX0_needsFour_25 (by decide) ⟨by omega, by omega⟩ ⟨by omega, by omega⟩ (fun c_24 => ?_) (fun c_24 => ?_)
          · skip
            have hx0 : ¬ (0 < x ∧ x % 4 = 0) := by omega
            refine lv_lload_n C0.1 C0.2.1 dX0_needsFour_40 rfl (lv_at hl 1 rfl) ?_
            refine mm_ldc2 (z := 8) C0 tw_679 rfl dX0_needsFour_41 ?_
            refine z_lremp C0.1 C0.2.1 dX0_needsFour_44 ⟨by omega, by omega⟩ ⟨by omega, by omega⟩ (by omega) (by omega) ?_
            refine mm_ldc2 (z := 7) C0 tw_680 rfl dX0_needsFour_45 ?_
            refine z_lcmp_ne (tgt := 56) C0.1 C0.2.1 dX0_needsFour_48 dX0_needsFour_49 (by decide) ⟨by omega, by omega⟩ ⟨by omega, by omega⟩ (fun c_48 => ?_) (fun c_48 => ?_)
            · skip
              refine lv_iconst (v := zI 0) C0.1 C0.2.1 dX0_needsFour_56 rfl ?_
              exact mm_zret (z := 0) C0 hr hlk hM hS (by omega) dX0_needsFour_57 (⟨by rw [hs, s7_e hx0, if_neg (by rw [beq_iff_eq]; omega)], rfl⟩)
            · skip
              refine lv_iconst (v := zI 1) C0.1 C0.2.1 dX0_needsFour_52 rfl ?_
              refine lv_goto (tgt := 57) C0.1 C0.2.1 dX0_needsFour_53 (by decide) ?_
              exact mm_zret (z := 1) C0 hr hlk hM hS (by omega) dX0_needsFour_57 (⟨by rw [hs, s7_e hx0, if_pos (by rw [beq_iff_eq]; omega)], rfl⟩)
          · skip
            refine lv_lload_n C0.1 C0.2.1 dX0_needsFour_28 rfl (lv_at hl 1 rfl) ?_
            refine mm_ldc2 (z := 4) C0 tw_675 rfl dX0_needsFour_29 ?_
            refine z_ldivp C0.1 C0.2.1 dX0_needsFour_32 ⟨by omega, by omega⟩ ⟨by omega, by omega⟩ (by omega) (by omega) ?_
            refine z_asL (a := (((x : Int)) / (4))) (b := ((x / 4 : Nat) : Int)) (by omega) ?_
            refine lv_lstore_n (lv' := [(2, .long (zL (((x / 4 : Nat) : Int)))), (0, .long (zL ((n : Int)))), (4, .int (zI ((i : Int))))]) C0.1 C0.2.1 dX0_needsFour_33 rfl hl (by decide) rfl (fun ls hl => ?_)
            refine lv_iinc (v := zI (((i + 1 : Nat) : Int))) (lv' := [(4, .int (zI (((i + 1 : Nat) : Int)))), (2, .long (zL (((x / 4 : Nat) : Int)))), (0, .long (zL ((n : Int))))]) C0.1 C0.2.1 dX0_needsFour_34 hl (k := 2) rfl (z_inc (a := (i : Int)) (n := 1) (by omega)) (by decide) rfl (fun ls hl => ?_)
            refine lv_goto (tgt := 5) C0.1 C0.2.1 dX0_needsFour_37 (by decide) ?_
            exact ih5  (i + 1) (x / 4) _ _ _ (by omega) (hs.trans (s7_s ⟨by omega, by omega⟩)) (by omega) (by rw [Nat.pow_succ]; have h9 := Nat.mul_le_mul_right (4 ^ i) (Nat.div_mul_le_self x 4); rw [Nat.mul_assoc, Nat.mul_comm 4] at h9; omega)  (by omega) hM hS (lv_sub hl [2, 1, 0] rfl)
  exact L5 (_ + 1) 0 n _ _ _ (Nat.zero_le _) (rfl) (hn) (by omega)  (Nat.lt_succ_self _) hM hS (lv_sub hl [2, 1, 0] rfl)
