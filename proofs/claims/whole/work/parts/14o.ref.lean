theorem bst_t {a b q p : Int} {s : bS} {dd : Int} (hd : ((a * q - p * b).natAbs : Int) = dd) (h : s.2.1 = 0 ∨ dd * s.2.1 < s.2.2 * q) : bstep a b s q p = (p, q, dd) := by unfold bstep; rw [hd, if_pos h]
theorem bst_f {a b q p : Int} {s : bS} {dd : Int} (hd : ((a * q - p * b).natAbs : Int) = dd) (h : ¬ (s.2.1 = 0 ∨ dd * s.2.1 < s.2.2 * q)) : bstep a b s q p = s := by unfold bstep; rw [hd, if_neg h]
theorem natAbs_m {a b cc : Int} (h : cc = b - a ∨ cc = a - b) (h0 : 0 ≤ cc) : ((a - b).natAbs : Int) = cc := by omega
theorem ml2 {x y m n : Int} (h1 : 0 ≤ x) (h2 : x ≤ m) (h3 : 0 ≤ y) (h4 : y ≤ n) (h5 : 0 ≤ m) : 0 ≤ x * y ∧ x * y ≤ m * n := ⟨Int.mul_nonneg h1 h3, Int.mul_le_mul h2 h4 h3 h5⟩

def rX10_best : Room := { frames := 1, cells := 0, slots := 0, locals := 25 }
theorem vw_X10_best : mm_Vw RX10 yX10_best cX10_best 17 (some .int) 4 := ⟨tw_1239, tw_1240, tw_10, tw_1241, by decide +kernel⟩
set_option maxHeartbeats 4000000 in
set_option maxRecDepth 100000 in
theorem c_X10_best (l : Launch) (G : mG) (E0 : mE) {h : Nat} {S : mST} (hF : rf G E0 h S) (hok : okR S) {a b mm q : Int} (hr_a : rI a) (hr_b : rI b) (hr_mm : rI mm) (hr_q : rI q) : mm_Ci l yX10_best (.code yX10_best cX10_best 17 (some .int) :: wsG) rX10_best G [.ref (h), .int (zI (a)), .int (zI (b)), .int (zI (mm)), .int (zI (q))] E0 (fun z E => z = (pf_best S a b mm q).1 ∧ rf G E h (pf_best S a b mm q).2 ∧ ∀ q : Nat, (q < h ∨ h + 13 ≤ q) → E q = E0 q) := by
  refine mm_of_i (by decide +kernel) (Nat.le_of_ble_eq_true rfl) ?_
  intro p e s m args below meth c ls C0 hr hlk hM hl hS
  have hl : lv_has ls 17 [(0, .ref (h)), (1, .int (zI (a))), (2, .int (zI (b))), (3, .int (zI (mm))), (4, .int (zI (q)))] := hl
  obtain ⟨hr_a1, hr_a2⟩ := hr_a
  obtain ⟨hr_b1, hr_b2⟩ := hr_b
  obtain ⟨hr_mm1, hr_mm2⟩ := hr_mm
  obtain ⟨hr_q1, hr_q2⟩ := hr_q
  obtain ⟨R, x2, x3, x4, x5, x6, x7, hX⟩ := hF
  have hX0 := hX
  obtain ⟨hTk, hPk, hKk, hSk⟩ := hok
  obtain ⟨hO, hR, hRp, ⟨fh, fc, hH, hC, hPa⟩, hTp, hCl, hKp, hSh, him⟩ := hX
  
  refine lv_iload_n C0.1 C0.2.1 dX10_best_0 rfl (lv_at hl 1 rfl) ?_
  refine z_i2l C0.1 C0.2.1 dX10_best_1 ⟨by omega, by omega⟩ ?_
  refine lv_lconst (v := zL 0) C0.1 C0.2.1 dX10_best_2 rfl ?_
  refine mm_ldc2 (z := 999999) C0 tw_1242 rfl dX10_best_3 ?_
  refine mm_callSi (As := [.long (zL (a)), .long (zL (0)), .long (zL (999999))]) C0 sw_X10_in tw_985 (c_X10_in l G _ (v := a) (lo := 0) (hi := 999999) ⟨by omega, by omega⟩ ⟨by omega, by omega⟩ ⟨by omega, by omega⟩) hM rfl hl.1 rfl (Nat.le_of_ble_eq_true rfl) ⟨rfl, rfl, Nat.le_of_ble_eq_true rfl, Nat.le_of_ble_eq_true rfl, Nat.zero_le _, Nat.zero_le _⟩ dX10_best_6 hS (fun z_6 E1 H locs hp hM hS => ?_)
  obtain ⟨hz_6, hEq⟩ := hp
  rw [hEq] at hM
  have hz_6b := if01 hz_6
  refine z_if_eq (tgt := 47) C0.1 C0.2.1 dX10_best_9 (by decide) ⟨by omega, by omega⟩ (fun c_9 => ?_) (fun c_9 => ?_)
  · skip
    refine lv_iconst (v := zI (-1)) C0.1 C0.2.1 dX10_best_47 rfl ?_
    exact mm_iret (z := (-1)) C0 hr hlk hM hS dX10_best_48 (by have he : pf_best S a b mm q = ((-1), S) := (by unfold pf_best; rw [if_neg (by omega)]); rw [he]; exact ⟨rfl, hX0.rf, fun _ _ => rfl⟩)
  · skip
    refine lv_iload_n C0.1 C0.2.1 dX10_best_12 rfl (lv_at hl 2 rfl) ?_
    refine z_i2l C0.1 C0.2.1 dX10_best_13 ⟨by omega, by omega⟩ ?_
    refine lv_lconst (v := zL 1) C0.1 C0.2.1 dX10_best_14 rfl ?_
    refine mm_ldc2 (z := 999999) C0 tw_1242 rfl dX10_best_15 ?_
    refine mm_callSi (As := [.long (zL (b)), .long (zL (1)), .long (zL (999999))]) C0 sw_X10_in tw_985 (c_X10_in l G _ (v := b) (lo := 1) (hi := 999999) ⟨by omega, by omega⟩ ⟨by omega, by omega⟩ ⟨by omega, by omega⟩) hM rfl hl.1 rfl (Nat.le_of_ble_eq_true rfl) ⟨rfl, rfl, Nat.le_of_ble_eq_true rfl, Nat.le_of_ble_eq_true rfl, Nat.zero_le _, Nat.zero_le _⟩ dX10_best_18 hS (fun z_18 E2 H locs hp hM hS => ?_)
    obtain ⟨hz_18, hEq⟩ := hp
    rw [hEq] at hM
    have hz_18b := if01 hz_18
    refine z_if_eq (tgt := 47) C0.1 C0.2.1 dX10_best_21 (by decide) ⟨by omega, by omega⟩ (fun c_21 => ?_) (fun c_21 => ?_)
    · skip
      refine lv_iconst (v := zI (-1)) C0.1 C0.2.1 dX10_best_47 rfl ?_
      exact mm_iret (z := (-1)) C0 hr hlk hM hS dX10_best_48 (by have he : pf_best S a b mm q = ((-1), S) := (by unfold pf_best; rw [if_neg (by omega)]); rw [he]; exact ⟨rfl, hX0.rf, fun _ _ => rfl⟩)
    · skip
      refine lv_iload_n C0.1 C0.2.1 dX10_best_24 rfl (lv_at hl 3 rfl) ?_
      refine z_i2l C0.1 C0.2.1 dX10_best_25 ⟨by omega, by omega⟩ ?_
      refine lv_lconst (v := zL 1) C0.1 C0.2.1 dX10_best_26 rfl ?_
      refine mm_ldc2 (z := 999) C0 tw_1243 rfl dX10_best_27 ?_
      refine mm_callSi (As := [.long (zL (mm)), .long (zL (1)), .long (zL (999))]) C0 sw_X10_in tw_985 (c_X10_in l G _ (v := mm) (lo := 1) (hi := 999) ⟨by omega, by omega⟩ ⟨by omega, by omega⟩ ⟨by omega, by omega⟩) hM rfl hl.1 rfl (Nat.le_of_ble_eq_true rfl) ⟨rfl, rfl, Nat.le_of_ble_eq_true rfl, Nat.le_of_ble_eq_true rfl, Nat.zero_le _, Nat.zero_le _⟩ dX10_best_30 hS (fun z_30 E3 H locs hp hM hS => ?_)
      obtain ⟨hz_30, hEq⟩ := hp
      rw [hEq] at hM
      have hz_30b := if01 hz_30
      refine z_if_eq (tgt := 47) C0.1 C0.2.1 dX10_best_33 (by decide) ⟨by omega, by omega⟩ (fun c_33 => ?_) (fun c_33 => ?_)
      · skip
        refine lv_iconst (v := zI (-1)) C0.1 C0.2.1 dX10_best_47 rfl ?_
        exact mm_iret (z := (-1)) C0 hr hlk hM hS dX10_best_48 (by have he : pf_best S a b mm q = ((-1), S) := (by unfold pf_best; rw [if_neg (by omega)]); rw [he]; exact ⟨rfl, hX0.rf, fun _ _ => rfl⟩)
      · skip
        refine lv_iload C0.1 C0.2.1 dX10_best_36 (lv_at hl 4 rfl) ?_
        refine z_i2l C0.1 C0.2.1 dX10_best_38 ⟨by omega, by omega⟩ ?_
        refine lv_lconst (v := zL 0) C0.1 C0.2.1 dX10_best_39 rfl ?_
        refine lv_lconst (v := zL 1) C0.1 C0.2.1 dX10_best_40 rfl ?_
        refine mm_callSi (As := [.long (zL (q)), .long (zL (0)), .long (zL (1))]) C0 sw_X10_in tw_985 (c_X10_in l G _ (v := q) (lo := 0) (hi := 1) ⟨by omega, by omega⟩ ⟨by omega, by omega⟩ ⟨by omega, by omega⟩) hM rfl hl.1 rfl (Nat.le_of_ble_eq_true rfl) ⟨rfl, rfl, Nat.le_of_ble_eq_true rfl, Nat.le_of_ble_eq_true rfl, Nat.zero_le _, Nat.zero_le _⟩ dX10_best_41 hS (fun z_41 E4 H locs hp hM hS => ?_)
        obtain ⟨hz_41, hEq⟩ := hp
        rw [hEq] at hM
        have hz_41b := if01 hz_41
        refine z_if_ne (tgt := 49) C0.1 C0.2.1 dX10_best_44 (by decide) ⟨by omega, by omega⟩ (fun c_44 => ?_) (fun c_44 => ?_)
        · skip
          refine lv_lconst (v := zL 0) C0.1 C0.2.1 dX10_best_49 rfl ?_
          refine lv_lstore (lv' := [(5, .long (zL (0))), (0, .ref (h)), (1, .int (zI (a))), (2, .int (zI (b))), (3, .int (zI (mm))), (4, .int (zI (q)))]) C0.1 C0.2.1 dX10_best_50 hl (by decide) rfl (fun ls hl => ?_)
          refine lv_lconst (v := zL 0) C0.1 C0.2.1 dX10_best_52 rfl ?_
          refine lv_lstore (lv' := [(7, .long (zL (0))), (5, .long (zL (0))), (0, .ref (h)), (1, .int (zI (a))), (2, .int (zI (b))), (3, .int (zI (mm))), (4, .int (zI (q)))]) C0.1 C0.2.1 dX10_best_53 hl (by decide) rfl (fun ls hl => ?_)
          refine lv_lconst (v := zL 0) C0.1 C0.2.1 dX10_best_55 rfl ?_
          refine lv_lstore (lv' := [(9, .long (zL (0))), (7, .long (zL (0))), (5, .long (zL (0))), (0, .ref (h)), (1, .int (zI (a))), (2, .int (zI (b))), (3, .int (zI (mm))), (4, .int (zI (q)))]) C0.1 C0.2.1 dX10_best_56 hl (by decide) rfl (fun ls hl => ?_)
          refine lv_lconst (v := zL 1) C0.1 C0.2.1 dX10_best_58 rfl ?_
          refine lv_lstore (lv' := [(11, .long (zL (1))), (9, .long (zL (0))), (7, .long (zL (0))), (5, .long (zL (0))), (0, .ref (h)), (1, .int (zI (a))), (2, .int (zI (b))), (3, .int (zI (mm))), (4, .int (zI (q)))]) C0.1 C0.2.1 dX10_best_59 hl (by decide) rfl (fun ls hl => ?_)
          have L61 : ∀ (k61 : Nat) (n : Nat) (H : Heap) (locs : List Loc) (ls : Array Slot), (n ≤ mm.toNat) → mm.toNat - n < k61 → mm_M G E0 H → va_S (mm_A G) s.heap H locs → lv_has ls 17 [(0, .ref (h)), (1, .int (zI (a))), (2, .int (zI (b))), (3, .int (zI (mm))), (4, .int (zI (q))), (5, .long (zL ((ball a b n).1))), (7, .long (zL ((ball a b n).2.1))), (9, .long (zL ((ball a b n).2.2))), (11, .long (zL (((n + 1 : Nat) : Int))))] → W p l e rX10_best s m args below meth c H locs 0 0 (mm_Zi G below args s (fun z E => z = (pf_best S a b mm q).1 ∧ rf G E h (pf_best S a b mm q).2 ∧ ∀ q : Nat, (q < h ∨ h + 13 ≤ q) → E q = E0 q)) (F0 m 61 ls []) := by
            intro k61
            induction k61 with
            | zero => intro n H locs ls hn hk hM hS hl; exact absurd hk (Nat.not_lt_zero _)
            | succ k61 ih61 =>
              intro n H locs ls hn hk61 hM hS hl
              have hbk := bin_ok (a := a) (b := b) (by omega) (by omega) (by omega) (by omega) n (by omega)
              obtain ⟨hb1, hb2, hb3, hb4, hb5, hb6⟩ := hbk
              refine lv_lload C0.1 C0.2.1 dX10_best_61 (lv_at hl 8 rfl) ?_
              refine lv_iload_n C0.1 C0.2.1 dX10_best_63 rfl (lv_at hl 3 rfl) ?_
              refine z_i2l C0.1 C0.2.1 dX10_best_64 ⟨by omega, by omega⟩ ?_
              refine z_lcmp_gt (tgt := 176) C0.1 C0.2.1 dX10_best_65 dX10_best_66 (by decide) ⟨by omega, by omega⟩ ⟨by omega, by omega⟩ (fun c_65 => ?_) (fun c_65 => ?_)
              · skip
                have hne : n = mm.toNat := by omega
                refine lv_iload C0.1 C0.2.1 dX10_best_176 (lv_at hl 4 rfl) ?_
                refine z_if_ne (tgt := 186) C0.1 C0.2.1 dX10_best_178 (by decide) ⟨by omega, by omega⟩ (fun c_178 => ?_) (fun c_178 => ?_)
                · skip
                  refine lv_lload C0.1 C0.2.1 dX10_best_186 (lv_at hl 6 rfl) ?_
                  refine z_l2i C0.1 C0.2.1 dX10_best_188 ?_
                  exact mm_iret (z := (ball a b n).2.1) C0 hr hlk hM hS dX10_best_189 (by have he : pf_best S a b mm q = ((ball a b n).2.1, S) := (by unfold pf_best; rw [if_pos (by omega), if_neg (by omega), ← hne]); rw [he]; exact ⟨rfl, hX0.rf, fun _ _ => rfl⟩)
                · skip
                  refine lv_lload C0.1 C0.2.1 dX10_best_181 (lv_at hl 5 rfl) ?_
                  refine lv_goto (tgt := 188) C0.1 C0.2.1 dX10_best_183 (by decide) ?_
                  refine z_l2i C0.1 C0.2.1 dX10_best_188 ?_
                  exact mm_iret (z := (ball a b n).1) C0 hr hlk hM hS dX10_best_189 (by have he : pf_best S a b mm q = ((ball a b n).1, S) := (by unfold pf_best; rw [if_pos (by omega), if_pos (by omega), ← hne]); rw [he]; exact ⟨rfl, hX0.rf, fun _ _ => rfl⟩)
              · skip
                obtain ⟨a9, ha9⟩ : ∃ x : Int, x = a * ((n + 1 : Nat) : Int) := ⟨_, rfl⟩
                have ha9b := ml2 (x := a) (y := ((n + 1 : Nat) : Int)) (m := 999999) (n := 999) (by omega) (by omega) (by omega) (by omega) (by omega)
                rw [← ha9] at ha9b
                obtain ⟨ha9b1, ha9b2⟩ := ha9b
                have ha9z : ((n + 1 : Nat) : Int) * a = a9 := by rw [ha9, Int.mul_comm]
                have ha9h : hid (a9 = a * ((n + 1 : Nat) : Int)) := ha9
                clear ha9
                obtain ⟨ct, hct⟩ : ∃ x : Int, x = a9 / b := ⟨_, rfl⟩
                have hct1 := Int.ediv_nonneg ha9b1 (show 0 ≤ b by omega)
                have hct2 := Int.ediv_le_self b ha9b1
                have hct3 := Int.mul_ediv_add_emod a9 b
                have hct4 := Int.emod_nonneg a9 (show b ≠ 0 by omega)
                have hct5 := Int.emod_lt_of_pos a9 (show 0 < b by omega)
                rw [← hct] at hct1 hct2 hct3
                refine lv_lload C0.1 C0.2.1 dX10_best_69 (lv_at hl 8 rfl) ?_
                refine lv_iload_n C0.1 C0.2.1 dX10_best_71 rfl (lv_at hl 1 rfl) ?_
                refine z_i2l C0.1 C0.2.1 dX10_best_72 ⟨by omega, by omega⟩ ?_
                refine z_lmul C0.1 C0.2.1 dX10_best_73 ?_
                refine z_asL (a := ((((n + 1 : Nat) : Int)) * (a))) (b := a9) (ha9z) ?_
                refine lv_iload_n C0.1 C0.2.1 dX10_best_74 rfl (lv_at hl 2 rfl) ?_
                refine z_i2l C0.1 C0.2.1 dX10_best_75 ⟨by omega, by omega⟩ ?_
                refine z_ldivp C0.1 C0.2.1 dX10_best_76 ⟨by omega, by omega⟩ ⟨by omega, by omega⟩ (by omega) (by omega) ?_
                refine z_asL (a := ((a9) / (b))) (b := (ct + ((0 : Nat) : Int))) (by omega) ?_
                refine lv_lstore (lv' := [(13, .long (zL ((ct + ((0 : Nat) : Int))))), (0, .ref (h)), (1, .int (zI (a))), (2, .int (zI (b))), (3, .int (zI (mm))), (4, .int (zI (q))), (5, .long (zL ((ball a b n).1))), (7, .long (zL ((ball a b n).2.1))), (9, .long (zL ((ball a b n).2.2))), (11, .long (zL (((n + 1 : Nat) : Int))))]) C0.1 C0.2.1 dX10_best_77 hl (by decide) rfl (fun ls hl => ?_)
                have L79 : ∀ (k79 : Nat) (j : Nat) (H : Heap) (locs : List Loc) (ls : Array Slot), (j ≤ 2) → 2 - j < k79 → mm_M G E0 H → va_S (mm_A G) s.heap H locs → lv_has ls 17 [(0, .ref (h)), (1, .int (zI (a))), (2, .int (zI (b))), (3, .int (zI (mm))), (4, .int (zI (q))), (5, .long (zL ((bin a b n j).1))), (7, .long (zL ((bin a b n j).2.1))), (9, .long (zL ((bin a b n j).2.2))), (11, .long (zL (((n + 1 : Nat) : Int)))), (13, .long (zL ((ct + (j : Int)))))] → W p l e rX10_best s m args below meth c H locs 0 0 (mm_Zi G below args s (fun z E => z = (pf_best S a b mm q).1 ∧ rf G E h (pf_best S a b mm q).2 ∧ ∀ q : Nat, (q < h ∨ h + 13 ≤ q) → E q = E0 q)) (F0 m 79 ls []) := by
                  intro k79
                  induction k79 with
                  | zero => intro j H locs ls hj hk hM hS hl; exact absurd hk (Nat.not_lt_zero _)
                  | succ k79 ih79 =>
                    intro j H locs ls hj hk79 hM hS hl
                    have hbk := bin_okj (a := a) (b := b) (by omega) (by omega) (by omega) (by omega) (n := n) (by omega) hj
                    obtain ⟨hb1, hb2, hb3, hb4, hb5, hb6⟩ := hbk
                    refine lv_lload C0.1 C0.2.1 dX10_best_79 (lv_at hl 9 rfl) ?_
                    refine lv_lload C0.1 C0.2.1 dX10_best_81 (lv_at hl 8 rfl) ?_
                    refine lv_iload_n C0.1 C0.2.1 dX10_best_83 rfl (lv_at hl 1 rfl) ?_
                    refine z_i2l C0.1 C0.2.1 dX10_best_84 ⟨by omega, by omega⟩ ?_
                    refine z_lmul C0.1 C0.2.1 dX10_best_85 ?_
                    refine z_asL (a := ((((n + 1 : Nat) : Int)) * (a))) (b := a9) (ha9z) ?_
                    refine lv_iload_n C0.1 C0.2.1 dX10_best_86 rfl (lv_at hl 2 rfl) ?_
                    refine z_i2l C0.1 C0.2.1 dX10_best_87 ⟨by omega, by omega⟩ ?_
                    refine z_ldivp C0.1 C0.2.1 dX10_best_88 ⟨by omega, by omega⟩ ⟨by omega, by omega⟩ (by omega) (by omega) ?_
                    refine z_asL (a := ((a9) / (b))) (b := ct) (by rw [hct]) ?_
                    refine lv_lconst (v := zL 1) C0.1 C0.2.1 dX10_best_89 rfl ?_
                    refine z_ladd C0.1 C0.2.1 dX10_best_90 ?_
                    refine z_lcmp_gt (tgt := 167) C0.1 C0.2.1 dX10_best_91 dX10_best_92 (by decide) ⟨by omega, by omega⟩ ⟨by omega, by omega⟩ (fun c_91 => ?_) (fun c_91 => ?_)
                    · skip
                      refine lv_lload C0.1 C0.2.1 dX10_best_167 (lv_at hl 8 rfl) ?_
                      refine lv_lconst (v := zL 1) C0.1 C0.2.1 dX10_best_169 rfl ?_
                      refine z_ladd C0.1 C0.2.1 dX10_best_170 ?_
                      refine z_asL (a := ((((n + 1 : Nat) : Int)) + (1))) (b := ((n + 1 + 1 : Nat) : Int)) (by omega) ?_
                      refine lv_lstore (lv' := [(11, .long (zL (((n + 1 + 1 : Nat) : Int)))), (0, .ref (h)), (1, .int (zI (a))), (2, .int (zI (b))), (3, .int (zI (mm))), (4, .int (zI (q))), (5, .long (zL ((bin a b n j).1))), (7, .long (zL ((bin a b n j).2.1))), (9, .long (zL ((bin a b n j).2.2))), (13, .long (zL ((ct + (j : Int)))))]) C0.1 C0.2.1 dX10_best_171 hl (by decide) rfl (fun ls hl => ?_)
                      refine lv_goto (tgt := 61) C0.1 C0.2.1 dX10_best_173 (by decide) ?_
                      exact ih61  (n + 1) _ _ _ (by omega)  (by omega) hM hS (by have h9 : bin a b n j = ball a b (n + 1) := (by rw [show j = 2 by omega, bin_e]); rw [← h9]; exact lv_sub hl [1, 2, 3, 4, 5, 6, 7, 8, 0] rfl)
                    · skip
                      have hj1 : j ≤ 1 := by omega
                      obtain ⟨p9, hp9⟩ : ∃ x : Int, x = (ct + (j : Int)) * b := ⟨_, rfl⟩
                      have hpb : p9 - a9 ≤ 999999 ∧ a9 - p9 ≤ 999999 := by
                        rw [hp9, Int.add_mul, Int.mul_comm ct b]
                        rcases (show j = 0 ∨ j = 1 by omega) with rfl | rfl
                        · show b * ct + 0 * b - a9 ≤ 999999 ∧ a9 - (b * ct + 0 * b) ≤ 999999; omega
                        · show b * ct + 1 * b - a9 ≤ 999999 ∧ a9 - (b * ct + 1 * b) ≤ 999999; omega
                      obtain ⟨hpb1, hpb2⟩ := hpb
                      have hpz : ((ct + (j : Int)) * b) = p9 := hp9.symm
                      have hp9h : hid (p9 = (ct + (j : Int)) * b) := hp9
                      clear hp9
                      refine lv_lload C0.1 C0.2.1 dX10_best_95 (lv_at hl 9 rfl) ?_
                      refine lv_iload_n C0.1 C0.2.1 dX10_best_97 rfl (lv_at hl 2 rfl) ?_
                      refine z_i2l C0.1 C0.2.1 dX10_best_98 ⟨by omega, by omega⟩ ?_
                      refine z_lmul C0.1 C0.2.1 dX10_best_99 ?_
                      refine z_asL (a := (((ct + (j : Int))) * (b))) (b := p9) (show p9 = _ from hp9h).symm ?_
                      refine lv_lload C0.1 C0.2.1 dX10_best_100 (lv_at hl 8 rfl) ?_
                      refine lv_iload_n C0.1 C0.2.1 dX10_best_102 rfl (lv_at hl 1 rfl) ?_
                      refine z_i2l C0.1 C0.2.1 dX10_best_103 ⟨by omega, by omega⟩ ?_
                      refine z_lmul C0.1 C0.2.1 dX10_best_104 ?_
                      refine z_asL (a := ((((n + 1 : Nat) : Int)) * (a))) (b := a9) (ha9z) ?_
                      refine z_lsub C0.1 C0.2.1 dX10_best_105 ?_
                      refine lv_lstore (lv' := [(15, .long (zL (((p9) - (a9))))), (0, .ref (h)), (1, .int (zI (a))), (2, .int (zI (b))), (3, .int (zI (mm))), (4, .int (zI (q))), (5, .long (zL ((bin a b n j).1))), (7, .long (zL ((bin a b n j).2.1))), (9, .long (zL ((bin a b n j).2.2))), (11, .long (zL (((n + 1 : Nat) : Int)))), (13, .long (zL ((ct + (j : Int)))))]) C0.1 C0.2.1 dX10_best_106 hl (by decide) rfl (fun ls hl => ?_)
                      refine lv_lload C0.1 C0.2.1 dX10_best_108 (lv_at hl 0 rfl) ?_
                      refine lv_lconst (v := zL 0) C0.1 C0.2.1 dX10_best_110 rfl ?_
                      refine z_lcmp_ge (tgt := 121) C0.1 C0.2.1 dX10_best_111 dX10_best_112 (by decide) ⟨by omega, by omega⟩ ⟨by omega, by omega⟩ (fun c_111 => ?_) (fun c_111 => ?_)
                      · skip
                        obtain ⟨dd, hdd, hdd0, hdd9⟩ : ∃ x : Int, x = p9 - a9 ∧ 0 ≤ x ∧ x ≤ 999999 := ⟨p9 - a9, rfl, by omega, by omega⟩
                        have hna : ((a * ((n + 1 : Nat) : Int) - (ct + (j : Int)) * b).natAbs : Int) = dd := by rw [← show a9 = _ from ha9h, ← show p9 = _ from hp9h]; exact natAbs_m (Or.inl hdd) hdd0
                        refine lv_lload C0.1 C0.2.1 dX10_best_121 (lv_at hl 0 rfl) ?_
                        refine z_asL (a := ((p9) - (a9))) (b := dd) (by omega) ?_
                        refine lv_lstore (lv' := [(15, .long (zL (dd))), (0, .ref (h)), (1, .int (zI (a))), (2, .int (zI (b))), (3, .int (zI (mm))), (4, .int (zI (q))), (5, .long (zL ((bin a b n j).1))), (7, .long (zL ((bin a b n j).2.1))), (9, .long (zL ((bin a b n j).2.2))), (11, .long (zL (((n + 1 : Nat) : Int)))), (13, .long (zL ((ct + (j : Int)))))]) C0.1 C0.2.1 dX10_best_123 hl (by decide) rfl (fun ls hl => ?_)
                        refine lv_lload C0.1 C0.2.1 dX10_best_125 (lv_at hl 7 rfl) ?_
                        refine lv_lconst (v := zL 0) C0.1 C0.2.1 dX10_best_127 rfl ?_
                        refine z_lcmp_eq (tgt := 146) C0.1 C0.2.1 dX10_best_128 dX10_best_129 (by decide) ⟨by omega, by omega⟩ ⟨by omega, by omega⟩ (fun c_128 => ?_) (fun c_128 => ?_)
                        · skip
                          have hcase : (bin a b n j).2.1 = 0 ∨ dd * (bin a b n j).2.1 < (bin a b n j).2.2 * ((n + 1 : Nat) : Int) := Or.inl (by omega)
                          have hbs : bin a b n (j + 1) = (ct + (j : Int), ((n + 1 : Nat) : Int), dd) := by rw [bin_s a b n j (by omega), show a * ((n + 1 : Nat) : Int) / b = ct from by rw [← show a9 = _ from ha9h, hct]]; exact bst_t hna hcase
                          refine lv_lload C0.1 C0.2.1 dX10_best_146 (lv_at hl 10 rfl) ?_
                          refine lv_lstore (lv' := [(5, .long (zL ((ct + (j : Int))))), (15, .long (zL (dd))), (0, .ref (h)), (1, .int (zI (a))), (2, .int (zI (b))), (3, .int (zI (mm))), (4, .int (zI (q))), (7, .long (zL ((bin a b n j).2.1))), (9, .long (zL ((bin a b n j).2.2))), (11, .long (zL (((n + 1 : Nat) : Int)))), (13, .long (zL ((ct + (j : Int)))))]) C0.1 C0.2.1 dX10_best_148 hl (by decide) rfl (fun ls hl => ?_)
                          refine lv_lload C0.1 C0.2.1 dX10_best_150 (lv_at hl 9 rfl) ?_
                          refine lv_lstore (lv' := [(7, .long (zL (((n + 1 : Nat) : Int)))), (5, .long (zL ((ct + (j : Int))))), (15, .long (zL (dd))), (0, .ref (h)), (1, .int (zI (a))), (2, .int (zI (b))), (3, .int (zI (mm))), (4, .int (zI (q))), (9, .long (zL ((bin a b n j).2.2))), (11, .long (zL (((n + 1 : Nat) : Int)))), (13, .long (zL ((ct + (j : Int)))))]) C0.1 C0.2.1 dX10_best_152 hl (by decide) rfl (fun ls hl => ?_)
                          refine lv_lload C0.1 C0.2.1 dX10_best_154 (lv_at hl 2 rfl) ?_
                          refine lv_lstore (lv' := [(9, .long (zL (dd))), (7, .long (zL (((n + 1 : Nat) : Int)))), (5, .long (zL ((ct + (j : Int))))), (15, .long (zL (dd))), (0, .ref (h)), (1, .int (zI (a))), (2, .int (zI (b))), (3, .int (zI (mm))), (4, .int (zI (q))), (11, .long (zL (((n + 1 : Nat) : Int)))), (13, .long (zL ((ct + (j : Int)))))]) C0.1 C0.2.1 dX10_best_156 hl (by decide) rfl (fun ls hl => ?_)
                          refine lv_lload C0.1 C0.2.1 dX10_best_158 (lv_at hl 10 rfl) ?_
                          refine lv_lconst (v := zL 1) C0.1 C0.2.1 dX10_best_160 rfl ?_
                          refine z_ladd C0.1 C0.2.1 dX10_best_161 ?_
                          refine z_asL (a := (((ct + (j : Int))) + (1))) (b := (ct + ((j + 1 : Nat) : Int))) (by omega) ?_
                          refine lv_lstore (lv' := [(13, .long (zL ((ct + ((j + 1 : Nat) : Int))))), (9, .long (zL (dd))), (7, .long (zL (((n + 1 : Nat) : Int)))), (5, .long (zL ((ct + (j : Int))))), (15, .long (zL (dd))), (0, .ref (h)), (1, .int (zI (a))), (2, .int (zI (b))), (3, .int (zI (mm))), (4, .int (zI (q))), (11, .long (zL (((n + 1 : Nat) : Int))))]) C0.1 C0.2.1 dX10_best_162 hl (by decide) rfl (fun ls hl => ?_)
                          refine lv_goto (tgt := 79) C0.1 C0.2.1 dX10_best_164 (by decide) ?_
                          exact ih79  (j + 1) _ _ _ (by omega)  (by omega) hM hS (by rw [hbs]; exact lv_sub hl [5, 6, 7, 8, 9, 3, 2, 1, 10, 0] rfl)
                        · skip
                          obtain ⟨m1, hm1⟩ : ∃ x : Int, x = dd * (bin a b n j).2.1 := ⟨_, rfl⟩
                          obtain ⟨m2, hm2⟩ : ∃ x : Int, x = (bin a b n j).2.2 * ((n + 1 : Nat) : Int) := ⟨_, rfl⟩
                          have hm1b := ml2 (x := dd) (y := (bin a b n j).2.1) (m := 999999) (n := 1000) (by omega) (by omega) (by omega) (by omega) (by omega)
                          have hm2b := ml2 (x := (bin a b n j).2.2) (y := ((n + 1 : Nat) : Int)) (m := 2000000) (n := 1000) (by omega) (by omega) (by omega) (by omega) (by omega)
                          rw [← hm1] at hm1b
                          rw [← hm2] at hm2b
                          obtain ⟨hm1b1, hm1b2⟩ := hm1b
                          obtain ⟨hm2b1, hm2b2⟩ := hm2b
                          have hm1h : hid (m1 = dd * (bin a b n j).2.1) := hm1
                          have hm2h : hid (m2 = (bin a b n j).2.2 * ((n + 1 : Nat) : Int)) := hm2
                          clear hm1 hm2
                          refine lv_lload C0.1 C0.2.1 dX10_best_132 (lv_at hl 0 rfl) ?_
                          refine lv_lload C0.1 C0.2.1 dX10_best_134 (lv_at hl 7 rfl) ?_
                          refine z_lmul C0.1 C0.2.1 dX10_best_136 ?_
                          refine z_asL (a := ((dd) * ((bin a b n j).2.1))) (b := m1) (show m1 = _ from hm1h).symm ?_
                          refine lv_lload C0.1 C0.2.1 dX10_best_137 (lv_at hl 8 rfl) ?_
                          refine lv_lload C0.1 C0.2.1 dX10_best_139 (lv_at hl 9 rfl) ?_
                          refine z_lmul C0.1 C0.2.1 dX10_best_141 ?_
                          refine z_asL (a := (((bin a b n j).2.2) * (((n + 1 : Nat) : Int)))) (b := m2) (show m2 = _ from hm2h).symm ?_
                          refine z_lcmp_ge (tgt := 158) C0.1 C0.2.1 dX10_best_142 dX10_best_143 (by decide) ⟨by omega, by omega⟩ ⟨by omega, by omega⟩ (fun c_142 => ?_) (fun c_142 => ?_)
                          · skip
                            have hcase : ¬ ((bin a b n j).2.1 = 0 ∨ dd * (bin a b n j).2.1 < (bin a b n j).2.2 * ((n + 1 : Nat) : Int)) := by rw [← show m1 = _ from hm1h, ← show m2 = _ from hm2h]; omega
                            have hbs : bin a b n (j + 1) = bin a b n j := by rw [bin_s a b n j (by omega), show a * ((n + 1 : Nat) : Int) / b = ct from by rw [← show a9 = _ from ha9h, hct]]; exact bst_f hna hcase
                            refine lv_lload C0.1 C0.2.1 dX10_best_158 (lv_at hl 10 rfl) ?_
                            refine lv_lconst (v := zL 1) C0.1 C0.2.1 dX10_best_160 rfl ?_
                            refine z_ladd C0.1 C0.2.1 dX10_best_161 ?_
                            refine z_asL (a := (((ct + (j : Int))) + (1))) (b := (ct + ((j + 1 : Nat) : Int))) (by omega) ?_
                            refine lv_lstore (lv' := [(13, .long (zL ((ct + ((j + 1 : Nat) : Int))))), (15, .long (zL (dd))), (0, .ref (h)), (1, .int (zI (a))), (2, .int (zI (b))), (3, .int (zI (mm))), (4, .int (zI (q))), (5, .long (zL ((bin a b n j).1))), (7, .long (zL ((bin a b n j).2.1))), (9, .long (zL ((bin a b n j).2.2))), (11, .long (zL (((n + 1 : Nat) : Int))))]) C0.1 C0.2.1 dX10_best_162 hl (by decide) rfl (fun ls hl => ?_)
                            refine lv_goto (tgt := 79) C0.1 C0.2.1 dX10_best_164 (by decide) ?_
                            exact ih79  (j + 1) _ _ _ (by omega)  (by omega) hM hS (by rw [hbs]; exact lv_sub hl [2, 3, 4, 5, 6, 7, 8, 9, 10, 0] rfl)
                          · skip
                            have hcase : (bin a b n j).2.1 = 0 ∨ dd * (bin a b n j).2.1 < (bin a b n j).2.2 * ((n + 1 : Nat) : Int) := Or.inr (by rw [← show m1 = _ from hm1h, ← show m2 = _ from hm2h]; omega)
                            have hbs : bin a b n (j + 1) = (ct + (j : Int), ((n + 1 : Nat) : Int), dd) := by rw [bin_s a b n j (by omega), show a * ((n + 1 : Nat) : Int) / b = ct from by rw [← show a9 = _ from ha9h, hct]]; exact bst_t hna hcase
                            refine lv_lload C0.1 C0.2.1 dX10_best_146 (lv_at hl 10 rfl) ?_
                            refine lv_lstore (lv' := [(5, .long (zL ((ct + (j : Int))))), (15, .long (zL (dd))), (0, .ref (h)), (1, .int (zI (a))), (2, .int (zI (b))), (3, .int (zI (mm))), (4, .int (zI (q))), (7, .long (zL ((bin a b n j).2.1))), (9, .long (zL ((bin a b n j).2.2))), (11, .long (zL (((n + 1 : Nat) : Int)))), (13, .long (zL ((ct + (j : Int)))))]) C0.1 C0.2.1 dX10_best_148 hl (by decide) rfl (fun ls hl => ?_)
                            refine lv_lload C0.1 C0.2.1 dX10_best_150 (lv_at hl 9 rfl) ?_
                            refine lv_lstore (lv' := [(7, .long (zL (((n + 1 : Nat) : Int)))), (5, .long (zL ((ct + (j : Int))))), (15, .long (zL (dd))), (0, .ref (h)), (1, .int (zI (a))), (2, .int (zI (b))), (3, .int (zI (mm))), (4, .int (zI (q))), (9, .long (zL ((bin a b n j).2.2))), (11, .long (zL (((n + 1 : Nat) : Int)))), (13, .long (zL ((ct + (j : Int)))))]) C0.1 C0.2.1 dX10_best_152 hl (by decide) rfl (fun ls hl => ?_)
                            refine lv_lload C0.1 C0.2.1 dX10_best_154 (lv_at hl 2 rfl) ?_
                            refine lv_lstore (lv' := [(9, .long (zL (dd))), (7, .long (zL (((n + 1 : Nat) : Int)))), (5, .long (zL ((ct + (j : Int))))), (15, .long (zL (dd))), (0, .ref (h)), (1, .int (zI (a))), (2, .int (zI (b))), (3, .int (zI (mm))), (4, .int (zI (q))), (11, .long (zL (((n + 1 : Nat) : Int)))), (13, .long (zL ((ct + (j : Int)))))]) C0.1 C0.2.1 dX10_best_156 hl (by decide) rfl (fun ls hl => ?_)
                            refine lv_lload C0.1 C0.2.1 dX10_best_158 (lv_at hl 10 rfl) ?_
                            refine lv_lconst (v := zL 1) C0.1 C0.2.1 dX10_best_160 rfl ?_
                            refine z_ladd C0.1 C0.2.1 dX10_best_161 ?_
                            refine z_asL (a := (((ct + (j : Int))) + (1))) (b := (ct + ((j + 1 : Nat) : Int))) (by omega) ?_
                            refine lv_lstore (lv' := [(13, .long (zL ((ct + ((j + 1 : Nat) : Int))))), (9, .long (zL (dd))), (7, .long (zL (((n + 1 : Nat) : Int)))), (5, .long (zL ((ct + (j : Int))))), (15, .long (zL (dd))), (0, .ref (h)), (1, .int (zI (a))), (2, .int (zI (b))), (3, .int (zI (mm))), (4, .int (zI (q))), (11, .long (zL (((n + 1 : Nat) : Int))))]) C0.1 C0.2.1 dX10_best_162 hl (by decide) rfl (fun ls hl => ?_)
                            refine lv_goto (tgt := 79) C0.1 C0.2.1 dX10_best_164 (by decide) ?_
                            exact ih79  (j + 1) _ _ _ (by omega)  (by omega) hM hS (by rw [hbs]; exact lv_sub hl [5, 6, 7, 8, 9, 3, 2, 1, 10, 0] rfl)
                      · skip
                        obtain ⟨dd, hdd, hdd0, hdd9⟩ : ∃ x : Int, x = a9 - p9 ∧ 0 ≤ x ∧ x ≤ 999999 := ⟨a9 - p9, rfl, by omega, by omega⟩
                        have hna : ((a * ((n + 1 : Nat) : Int) - (ct + (j : Int)) * b).natAbs : Int) = dd := by rw [← show a9 = _ from ha9h, ← show p9 = _ from hp9h]; exact natAbs_m (Or.inr hdd) hdd0
                        refine lv_lload C0.1 C0.2.1 dX10_best_115 (lv_at hl 0 rfl) ?_
                        refine z_lneg C0.1 C0.2.1 dX10_best_117 ?_
                        refine lv_goto (tgt := 123) C0.1 C0.2.1 dX10_best_118 (by decide) ?_
                        refine z_asL (a := (-(((p9) - (a9))))) (b := dd) (by omega) ?_
                        refine lv_lstore (lv' := [(15, .long (zL (dd))), (0, .ref (h)), (1, .int (zI (a))), (2, .int (zI (b))), (3, .int (zI (mm))), (4, .int (zI (q))), (5, .long (zL ((bin a b n j).1))), (7, .long (zL ((bin a b n j).2.1))), (9, .long (zL ((bin a b n j).2.2))), (11, .long (zL (((n + 1 : Nat) : Int)))), (13, .long (zL ((ct + (j : Int)))))]) C0.1 C0.2.1 dX10_best_123 hl (by decide) rfl (fun ls hl => ?_)
                        refine lv_lload C0.1 C0.2.1 dX10_best_125 (lv_at hl 7 rfl) ?_
                        refine lv_lconst (v := zL 0) C0.1 C0.2.1 dX10_best_127 rfl ?_
                        refine z_lcmp_eq (tgt := 146) C0.1 C0.2.1 dX10_best_128 dX10_best_129 (by decide) ⟨by omega, by omega⟩ ⟨by omega, by omega⟩ (fun c_128 => ?_) (fun c_128 => ?_)
                        · skip
                          have hcase : (bin a b n j).2.1 = 0 ∨ dd * (bin a b n j).2.1 < (bin a b n j).2.2 * ((n + 1 : Nat) : Int) := Or.inl (by omega)
                          have hbs : bin a b n (j + 1) = (ct + (j : Int), ((n + 1 : Nat) : Int), dd) := by rw [bin_s a b n j (by omega), show a * ((n + 1 : Nat) : Int) / b = ct from by rw [← show a9 = _ from ha9h, hct]]; exact bst_t hna hcase
                          refine lv_lload C0.1 C0.2.1 dX10_best_146 (lv_at hl 10 rfl) ?_
                          refine lv_lstore (lv' := [(5, .long (zL ((ct + (j : Int))))), (15, .long (zL (dd))), (0, .ref (h)), (1, .int (zI (a))), (2, .int (zI (b))), (3, .int (zI (mm))), (4, .int (zI (q))), (7, .long (zL ((bin a b n j).2.1))), (9, .long (zL ((bin a b n j).2.2))), (11, .long (zL (((n + 1 : Nat) : Int)))), (13, .long (zL ((ct + (j : Int)))))]) C0.1 C0.2.1 dX10_best_148 hl (by decide) rfl (fun ls hl => ?_)
                          refine lv_lload C0.1 C0.2.1 dX10_best_150 (lv_at hl 9 rfl) ?_
                          refine lv_lstore (lv' := [(7, .long (zL (((n + 1 : Nat) : Int)))), (5, .long (zL ((ct + (j : Int))))), (15, .long (zL (dd))), (0, .ref (h)), (1, .int (zI (a))), (2, .int (zI (b))), (3, .int (zI (mm))), (4, .int (zI (q))), (9, .long (zL ((bin a b n j).2.2))), (11, .long (zL (((n + 1 : Nat) : Int)))), (13, .long (zL ((ct + (j : Int)))))]) C0.1 C0.2.1 dX10_best_152 hl (by decide) rfl (fun ls hl => ?_)
                          refine lv_lload C0.1 C0.2.1 dX10_best_154 (lv_at hl 2 rfl) ?_
                          refine lv_lstore (lv' := [(9, .long (zL (dd))), (7, .long (zL (((n + 1 : Nat) : Int)))), (5, .long (zL ((ct + (j : Int))))), (15, .long (zL (dd))), (0, .ref (h)), (1, .int (zI (a))), (2, .int (zI (b))), (3, .int (zI (mm))), (4, .int (zI (q))), (11, .long (zL (((n + 1 : Nat) : Int)))), (13, .long (zL ((ct + (j : Int)))))]) C0.1 C0.2.1 dX10_best_156 hl (by decide) rfl (fun ls hl => ?_)
                          refine lv_lload C0.1 C0.2.1 dX10_best_158 (lv_at hl 10 rfl) ?_
                          refine lv_lconst (v := zL 1) C0.1 C0.2.1 dX10_best_160 rfl ?_
                          refine z_ladd C0.1 C0.2.1 dX10_best_161 ?_
                          refine z_asL (a := (((ct + (j : Int))) + (1))) (b := (ct + ((j + 1 : Nat) : Int))) (by omega) ?_
                          refine lv_lstore (lv' := [(13, .long (zL ((ct + ((j + 1 : Nat) : Int))))), (9, .long (zL (dd))), (7, .long (zL (((n + 1 : Nat) : Int)))), (5, .long (zL ((ct + (j : Int))))), (15, .long (zL (dd))), (0, .ref (h)), (1, .int (zI (a))), (2, .int (zI (b))), (3, .int (zI (mm))), (4, .int (zI (q))), (11, .long (zL (((n + 1 : Nat) : Int))))]) C0.1 C0.2.1 dX10_best_162 hl (by decide) rfl (fun ls hl => ?_)
                          refine lv_goto (tgt := 79) C0.1 C0.2.1 dX10_best_164 (by decide) ?_
                          exact ih79  (j + 1) _ _ _ (by omega)  (by omega) hM hS (by rw [hbs]; exact lv_sub hl [5, 6, 7, 8, 9, 3, 2, 1, 10, 0] rfl)
                        · skip
                          obtain ⟨m1, hm1⟩ : ∃ x : Int, x = dd * (bin a b n j).2.1 := ⟨_, rfl⟩
                          obtain ⟨m2, hm2⟩ : ∃ x : Int, x = (bin a b n j).2.2 * ((n + 1 : Nat) : Int) := ⟨_, rfl⟩
                          have hm1b := ml2 (x := dd) (y := (bin a b n j).2.1) (m := 999999) (n := 1000) (by omega) (by omega) (by omega) (by omega) (by omega)
                          have hm2b := ml2 (x := (bin a b n j).2.2) (y := ((n + 1 : Nat) : Int)) (m := 2000000) (n := 1000) (by omega) (by omega) (by omega) (by omega) (by omega)
                          rw [← hm1] at hm1b
                          rw [← hm2] at hm2b
                          obtain ⟨hm1b1, hm1b2⟩ := hm1b
                          obtain ⟨hm2b1, hm2b2⟩ := hm2b
                          have hm1h : hid (m1 = dd * (bin a b n j).2.1) := hm1
                          have hm2h : hid (m2 = (bin a b n j).2.2 * ((n + 1 : Nat) : Int)) := hm2
                          clear hm1 hm2
                          refine lv_lload C0.1 C0.2.1 dX10_best_132 (lv_at hl 0 rfl) ?_
                          refine lv_lload C0.1 C0.2.1 dX10_best_134 (lv_at hl 7 rfl) ?_
                          refine z_lmul C0.1 C0.2.1 dX10_best_136 ?_
                          refine z_asL (a := ((dd) * ((bin a b n j).2.1))) (b := m1) (show m1 = _ from hm1h).symm ?_
                          refine lv_lload C0.1 C0.2.1 dX10_best_137 (lv_at hl 8 rfl) ?_
                          refine lv_lload C0.1 C0.2.1 dX10_best_139 (lv_at hl 9 rfl) ?_
                          refine z_lmul C0.1 C0.2.1 dX10_best_141 ?_
                          refine z_asL (a := (((bin a b n j).2.2) * (((n + 1 : Nat) : Int)))) (b := m2) (show m2 = _ from hm2h).symm ?_
                          refine z_lcmp_ge (tgt := 158) C0.1 C0.2.1 dX10_best_142 dX10_best_143 (by decide) ⟨by omega, by omega⟩ ⟨by omega, by omega⟩ (fun c_142 => ?_) (fun c_142 => ?_)
                          · skip
                            have hcase : ¬ ((bin a b n j).2.1 = 0 ∨ dd * (bin a b n j).2.1 < (bin a b n j).2.2 * ((n + 1 : Nat) : Int)) := by rw [← show m1 = _ from hm1h, ← show m2 = _ from hm2h]; omega
                            have hbs : bin a b n (j + 1) = bin a b n j := by rw [bin_s a b n j (by omega), show a * ((n + 1 : Nat) : Int) / b = ct from by rw [← show a9 = _ from ha9h, hct]]; exact bst_f hna hcase
                            refine lv_lload C0.1 C0.2.1 dX10_best_158 (lv_at hl 10 rfl) ?_
                            refine lv_lconst (v := zL 1) C0.1 C0.2.1 dX10_best_160 rfl ?_
                            refine z_ladd C0.1 C0.2.1 dX10_best_161 ?_
                            refine z_asL (a := (((ct + (j : Int))) + (1))) (b := (ct + ((j + 1 : Nat) : Int))) (by omega) ?_
                            refine lv_lstore (lv' := [(13, .long (zL ((ct + ((j + 1 : Nat) : Int))))), (15, .long (zL (dd))), (0, .ref (h)), (1, .int (zI (a))), (2, .int (zI (b))), (3, .int (zI (mm))), (4, .int (zI (q))), (5, .long (zL ((bin a b n j).1))), (7, .long (zL ((bin a b n j).2.1))), (9, .long (zL ((bin a b n j).2.2))), (11, .long (zL (((n + 1 : Nat) : Int))))]) C0.1 C0.2.1 dX10_best_162 hl (by decide) rfl (fun ls hl => ?_)
                            refine lv_goto (tgt := 79) C0.1 C0.2.1 dX10_best_164 (by decide) ?_
                            exact ih79  (j + 1) _ _ _ (by omega)  (by omega) hM hS (by rw [hbs]; exact lv_sub hl [2, 3, 4, 5, 6, 7, 8, 9, 10, 0] rfl)
                          · skip
                            have hcase : (bin a b n j).2.1 = 0 ∨ dd * (bin a b n j).2.1 < (bin a b n j).2.2 * ((n + 1 : Nat) : Int) := Or.inr (by rw [← show m1 = _ from hm1h, ← show m2 = _ from hm2h]; omega)
                            have hbs : bin a b n (j + 1) = (ct + (j : Int), ((n + 1 : Nat) : Int), dd) := by rw [bin_s a b n j (by omega), show a * ((n + 1 : Nat) : Int) / b = ct from by rw [← show a9 = _ from ha9h, hct]]; exact bst_t hna hcase
                            refine lv_lload C0.1 C0.2.1 dX10_best_146 (lv_at hl 10 rfl) ?_
                            refine lv_lstore (lv' := [(5, .long (zL ((ct + (j : Int))))), (15, .long (zL (dd))), (0, .ref (h)), (1, .int (zI (a))), (2, .int (zI (b))), (3, .int (zI (mm))), (4, .int (zI (q))), (7, .long (zL ((bin a b n j).2.1))), (9, .long (zL ((bin a b n j).2.2))), (11, .long (zL (((n + 1 : Nat) : Int)))), (13, .long (zL ((ct + (j : Int)))))]) C0.1 C0.2.1 dX10_best_148 hl (by decide) rfl (fun ls hl => ?_)
                            refine lv_lload C0.1 C0.2.1 dX10_best_150 (lv_at hl 9 rfl) ?_
                            refine lv_lstore (lv' := [(7, .long (zL (((n + 1 : Nat) : Int)))), (5, .long (zL ((ct + (j : Int))))), (15, .long (zL (dd))), (0, .ref (h)), (1, .int (zI (a))), (2, .int (zI (b))), (3, .int (zI (mm))), (4, .int (zI (q))), (9, .long (zL ((bin a b n j).2.2))), (11, .long (zL (((n + 1 : Nat) : Int)))), (13, .long (zL ((ct + (j : Int)))))]) C0.1 C0.2.1 dX10_best_152 hl (by decide) rfl (fun ls hl => ?_)
                            refine lv_lload C0.1 C0.2.1 dX10_best_154 (lv_at hl 2 rfl) ?_
                            refine lv_lstore (lv' := [(9, .long (zL (dd))), (7, .long (zL (((n + 1 : Nat) : Int)))), (5, .long (zL ((ct + (j : Int))))), (15, .long (zL (dd))), (0, .ref (h)), (1, .int (zI (a))), (2, .int (zI (b))), (3, .int (zI (mm))), (4, .int (zI (q))), (11, .long (zL (((n + 1 : Nat) : Int)))), (13, .long (zL ((ct + (j : Int)))))]) C0.1 C0.2.1 dX10_best_156 hl (by decide) rfl (fun ls hl => ?_)
                            refine lv_lload C0.1 C0.2.1 dX10_best_158 (lv_at hl 10 rfl) ?_
                            refine lv_lconst (v := zL 1) C0.1 C0.2.1 dX10_best_160 rfl ?_
                            refine z_ladd C0.1 C0.2.1 dX10_best_161 ?_
                            refine z_asL (a := (((ct + (j : Int))) + (1))) (b := (ct + ((j + 1 : Nat) : Int))) (by omega) ?_
                            refine lv_lstore (lv' := [(13, .long (zL ((ct + ((j + 1 : Nat) : Int))))), (9, .long (zL (dd))), (7, .long (zL (((n + 1 : Nat) : Int)))), (5, .long (zL ((ct + (j : Int))))), (15, .long (zL (dd))), (0, .ref (h)), (1, .int (zI (a))), (2, .int (zI (b))), (3, .int (zI (mm))), (4, .int (zI (q))), (11, .long (zL (((n + 1 : Nat) : Int))))]) C0.1 C0.2.1 dX10_best_162 hl (by decide) rfl (fun ls hl => ?_)
                            refine lv_goto (tgt := 79) C0.1 C0.2.1 dX10_best_164 (by decide) ?_
                            exact ih79  (j + 1) _ _ _ (by omega)  (by omega) hM hS (by rw [hbs]; exact lv_sub hl [5, 6, 7, 8, 9, 3, 2, 1, 10, 0] rfl)
                exact L79 (_ + 1) 0 _ _ _ (Nat.zero_le _)  (Nat.lt_succ_self _) hM hS (by have h9 : bin a b n 0 = ball a b n := rfl; rw [h9]; exact lv_sub hl [1, 2, 3, 4, 5, 6, 7, 8, 9, 0] rfl)
          exact L61 (_ + 1) 0 _ _ _ (Nat.zero_le _)  (Nat.lt_succ_self _) hM hS (lv_sub hl [4, 5, 6, 7, 8, 3, 2, 1, 0] rfl)
        · skip
          refine lv_iconst (v := zI (-1)) C0.1 C0.2.1 dX10_best_47 rfl ?_
          exact mm_iret (z := (-1)) C0 hr hlk hM hS dX10_best_48 (by have he : pf_best S a b mm q = ((-1), S) := (by unfold pf_best; rw [if_neg (by omega)]); rw [he]; exact ⟨rfl, hX0.rf, fun _ _ => rfl⟩)
