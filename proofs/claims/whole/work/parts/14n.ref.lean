theorem natAbs_l {a b c d : Int} (h : c = b - a ∨ c = a - b) (h0 : 0 ≤ c) : ((a - b).natAbs : Int) = c := by omega
/-- heaps, one more at a time -/
theorem heap_s {k : Nat} (hk : 3 ≤ k) (g : Nat) : shp 4 k (g + 1) = shp 4 k g + shp 3 k (g + 1) := by
  obtain ⟨m, rfl⟩ : ∃ m, k = m + 3 := ⟨k - 3, by omega⟩
  have f4 : ∀ x : Nat, ((shp 4 (m + 3) x * 6 : Nat) : Int) = (x : Int) * ((x : Int) + 1) * ((x : Int) * ((m : Int) + 1) - ((m : Int) - 2)) := fun x => by
    by_cases h : x = 0
    · subst h; rw [shp_0]; simp
    · rw [ev4 hk (by omega)]
      have e := facN_z (facN_ge (n := x) (c := ((m + 3 : Nat) : Int) - 5) (k := m + 3) (by omega) (by omega) (by omega)).1
      rw [Int.natCast_mul, Int.natCast_mul, e, show ((m + 3 - 2 : Nat) : Int) = (m : Int) + 1 by omega, show ((m + 3 : Nat) : Int) - 5 = (m : Int) - 2 by omega, Int.natCast_add]; rfl
  have f3 : ((shp 3 (m + 3) (g + 1) * 2 : Nat) : Int) = ((g : Int) + 1) * (((g : Int) + 1) * ((m : Int) + 1) - ((m : Int) - 1)) := by
    rw [ev3 hk (by omega)]
    have e := facN_z (facN_ge (n := g + 1) (c := ((m + 3 : Nat) : Int) - 4) (k := m + 3) (by omega) (by omega) (by omega)).1
    rw [Int.natCast_mul, e, show ((m + 3 - 2 : Nat) : Int) = (m : Int) + 1 by omega, show ((m + 3 : Nat) : Int) - 4 = (m : Int) - 1 by omega, Int.natCast_add]; rfl
  have h1 := f4 (g + 1)
  have h2 := f4 g
  rw [show ((g + 1 : Nat) : Int) = (g : Int) + 1 by omega] at h1
  have key : ((g : Int) + 1) * ((g : Int) + 1 + 1) * (((g : Int) + 1) * ((m : Int) + 1) - ((m : Int) - 2)) = (g : Int) * ((g : Int) + 1) * ((g : Int) * ((m : Int) + 1) - ((m : Int) - 2)) + 3 * (((g : Int) + 1) * (((g : Int) + 1) * ((m : Int) + 1) - ((m : Int) - 1))) := by
    generalize (g : Int) = a
    generalize (m : Int) = b
    grind
  rw [key, ← h2, ← f3] at h1
  omega
theorem c3_z {k g : Nat} (hk : 3 ≤ k) : ((k : Int) - 2) * ((g + 1 : Nat) : Int) * ((g + 1 : Nat) : Int) - ((k : Int) - 4) * ((g + 1 : Nat) : Int) = ((2 * shp 3 k (g + 1) : Nat) : Int) := by
  have h := ev3 (k := k) (n := g + 1) hk (by omega)
  have e := facN_z (facN_ge (n := g + 1) (c := (k : Int) - 4) hk (by omega) (by omega)).1
  rw [Nat.mul_comm 2, h, Int.natCast_mul, e, show ((k - 2 : Nat) : Int) = (k : Int) - 2 by omega]
  generalize ((g + 1 : Nat) : Int) = a
  generalize (k : Int) = b
  grind
theorem c3_b {k g : Nat} (hk : 3 ≤ k) (hk9 : k ≤ 99) (hg : g ≤ 3000) : shp 3 k (g + 1) ≤ 1000000000 := by
  have h := ev3 (k := k) (n := g + 1) hk (by omega)
  have h2 : facN (g + 1) (k - 2) ((k : Int) - 4) ≤ (g + 1) * (k - 2) + 1 := by
    unfold facN
    have e : (((g + 1) * (k - 2) : Nat) : Int) = ((g + 1 : Nat) : Int) * ((k - 2 : Nat) : Int) := Int.natCast_mul _ _
    omega
  have h3 : (g + 1) * (k - 2) ≤ 3001 * 97 := Nat.mul_le_mul (by omega) (by omega)
  have h4 : (g + 1) * facN (g + 1) (k - 2) ((k : Int) - 4) ≤ 3001 * (3001 * 97 + 1) := Nat.mul_le_mul (by omega) (by omega)
  omega
theorem rc_sq {c a : Nat} (ha : 1 ≤ a) (h : 2 * (a * a) < c * c) : (sq (((c * c : Nat) : Int) - ((a * a : Nat) : Int))) ↔ ∃ b, a < b ∧ a * a + b * b = c * c := by
  constructor
  · rintro ⟨r, hr⟩
    rw [← Int.natCast_mul] at hr
    refine ⟨r, Nat.lt_of_not_le fun q => ?_, by omega⟩
    have := Nat.mul_le_mul q q
    omega
  · rintro ⟨b, h1, h2⟩
    exact ⟨b, by rw [← Int.natCast_mul]; omega⟩
theorem rc_no {c a : Nat} (h : c * c ≤ 2 * (a * a)) : ∀ j, a ≤ j → ¬ (1 ≤ j ∧ ∃ b, j < b ∧ j * j + b * b = c * c) := fun j hj => by
  rintro ⟨h1, b, h2, h3⟩
  have := Nat.mul_le_mul hj hj
  have := Nat.mul_lt_mul_of_lt_of_le h2 (Nat.le_of_lt h2) (by omega)
  omega

def rX10_flat : Room := { frames := 2, cells := 0, slots := 0, locals := 48 }
theorem vw_X10_flat : mm_Vw RX10 yX10_flat cX10_flat 8 (some .int) 2 := ⟨tw_1275, tw_1276, tw_10, tw_1277, by decide +kernel⟩
set_option maxHeartbeats 4000000 in
set_option maxRecDepth 100000 in
theorem c_X10_flat (l : Launch) (G : mG) (E0 : mE) {h : Nat} {S : mST} (hF : rf G E0 h S) (hok : okR S) {n i : Int} (hr_n : rI n) (hr_i : rI i) : mm_Ci l yX10_flat (.code yX10_flat cX10_flat 8 (some .int) :: wsG) rX10_flat G [.ref (h), .int (zI (n)), .int (zI (i))] E0 (fun z E => z = (pf_flat S n i).1 ∧ rf G E h (pf_flat S n i).2 ∧ ∀ q : Nat, (q < h ∨ h + 13 ≤ q) → E q = E0 q) := by
  refine mm_of_i (by decide +kernel) (Nat.le_of_ble_eq_true rfl) ?_
  intro p e s m args below meth c ls C0 hr hlk hM hl hS
  have hl : lv_has ls 8 [(0, .ref (h)), (1, .int (zI (n))), (2, .int (zI (i)))] := hl
  obtain ⟨hr_n1, hr_n2⟩ := hr_n
  obtain ⟨hr_i1, hr_i2⟩ := hr_i
  obtain ⟨R, x2, x3, x4, x5, x6, x7, hX⟩ := hF
  have hX0 := hX
  obtain ⟨hTk, hPk, hKk, hSk⟩ := hok
  obtain ⟨hO, hR, hRp, ⟨fh, fc, hH, hC, hPa⟩, hTp, hCl, hKp, hSh, him⟩ := hX
  
  refine lv_iload_n C0.1 C0.2.1 dX10_flat_0 rfl (lv_at hl 1 rfl) ?_
  refine z_i2l C0.1 C0.2.1 dX10_flat_1 ⟨by omega, by omega⟩ ?_
  refine mm_ldc2 (z := 3) C0 tw_1006 rfl dX10_flat_2 ?_
  refine mm_ldc2 (z := 99) C0 tw_1007 rfl dX10_flat_5 ?_
  refine mm_callSi (As := [.long (zL (n)), .long (zL (3)), .long (zL (99))]) C0 sw_X10_in tw_985 (c_X10_in l G _ (v := n) (lo := 3) (hi := 99) ⟨by omega, by omega⟩ ⟨by omega, by omega⟩ ⟨by omega, by omega⟩) hM rfl hl.1 rfl (Nat.le_of_ble_eq_true rfl) ⟨rfl, rfl, Nat.le_of_ble_eq_true rfl, Nat.le_of_ble_eq_true rfl, Nat.zero_le _, Nat.zero_le _⟩ dX10_flat_8 hS (fun z_8 E1 H locs hp hM hS => ?_)
  obtain ⟨hz_8, hEq⟩ := hp
  rw [hEq] at hM
  have hz_8b := if01 hz_8
  refine z_if_eq (tgt := 19) C0.1 C0.2.1 dX10_flat_11 (by decide) ⟨by omega, by omega⟩ (fun c_11 => ?_) (fun c_11 => ?_)
  · skip
    refine lv_iconst (v := zI (-1)) C0.1 C0.2.1 dX10_flat_19 rfl ?_
    exact mm_iret (z := (-1)) C0 hr hlk hM hS dX10_flat_20 (by have he : pf_flat S n i = ((-1), S) := (by unfold pf_flat; rw [if_neg (by omega)]); rw [he]; exact ⟨rfl, hX0.rf, fun _ _ => rfl⟩)
  · skip
    refine lv_iload_n C0.1 C0.2.1 dX10_flat_14 rfl (lv_at hl 2 rfl) ?_
    refine lv_iconst (v := zI (-1)) C0.1 C0.2.1 dX10_flat_15 rfl ?_
    refine z_icmp_ge (tgt := 21) C0.1 C0.2.1 dX10_flat_16 (by decide) ⟨by omega, by omega⟩ ⟨by omega, by omega⟩ (fun c_16 => ?_) (fun c_16 => ?_)
    · skip
      refine lv_iconst (v := zI 0) C0.1 C0.2.1 dX10_flat_21 rfl ?_
      refine lv_istore_n (lv' := [(3, .int (zI (0))), (0, .ref (h)), (1, .int (zI (n))), (2, .int (zI (i)))]) C0.1 C0.2.1 dX10_flat_22 rfl hl (by decide) rfl (fun ls hl => ?_)
      refine lv_lconst (v := zL 0) C0.1 C0.2.1 dX10_flat_23 rfl ?_
      refine z_asL (a := 0) (b := ((shp 4 n.toNat 0 : Nat) : Int)) (by rw [shp_0]; rfl) ?_
      refine lv_lstore (lv' := [(4, .long (zL (((shp 4 n.toNat 0 : Nat) : Int)))), (3, .int (zI (0))), (0, .ref (h)), (1, .int (zI (n))), (2, .int (zI (i)))]) C0.1 C0.2.1 dX10_flat_24 hl (by decide) rfl (fun ls hl => ?_)
      refine lv_lconst (v := zL 1) C0.1 C0.2.1 dX10_flat_26 rfl ?_
      refine lv_lstore (lv' := [(6, .long (zL (1))), (4, .long (zL (((shp 4 n.toNat 0 : Nat) : Int)))), (3, .int (zI (0))), (0, .ref (h)), (1, .int (zI (n))), (2, .int (zI (i)))]) C0.1 C0.2.1 dX10_flat_27 hl (by decide) rfl (fun ls hl => ?_)
      have L29 : ∀ (k29 : Nat) (g cn : Nat) (H : Heap) (locs : List Loc) (ls : Array Slot), (g ≤ 3000) → (cn ≤ g) → (shp 4 n.toNat g ≤ g * 1000000000) → (scan (fun g => bq (sq ((shp 4 n.toNat g : Nat) : Int))) (fun g => (g : Int)) i 1 0 3000 = scan (fun g => bq (sq ((shp 4 n.toNat g : Nat) : Int))) (fun g => (g : Int)) i (g + 1) cn (3000 - g)) → 3001 - g < k29 → mm_M G E0 H → va_S (mm_A G) s.heap H locs → lv_has ls 8 [(0, .ref (h)), (1, .int (zI (n))), (2, .int (zI (i))), (3, .int (zI ((cn : Int)))), (4, .long (zL (((shp 4 n.toNat g : Nat) : Int)))), (6, .long (zL (((g + 1 : Nat) : Int))))] → W p l e rX10_flat s m args below meth c H locs 0 0 (mm_Zi G below args s (fun z E => z = (pf_flat S n i).1 ∧ rf G E h (pf_flat S n i).2 ∧ ∀ q : Nat, (q < h ∨ h + 13 ≤ q) → E q = E0 q)) (F0 m 29 ls []) := by
        intro k29
        induction k29 with
        | zero => intro g cn H locs ls hy hcn hhb hsc hk hM hS hl; exact absurd hk (Nat.not_lt_zero _)
        | succ k29 ih29 =>
          intro g cn H locs ls hy hcn hhb hsc hk29 hM hS hl
          have hs4 := heap_s (k := n.toNat) (by omega) g
          have h3b := c3_b (k := n.toNat) (g := g) (by omega) (by omega) hy
          have h3z := c3_z (k := n.toNat) (g := g) (by omega)
          rw [show ((n.toNat : Nat) : Int) = n by omega] at h3z
          have h3h := show hid _ from h3z
          clear h3z
          obtain ⟨t3, ht3⟩ : ∃ t, t = shp 3 n.toNat (g + 1) := ⟨_, rfl⟩
          rw [← ht3] at hs4 h3b
          have ht3h : hid (t3 = shp 3 n.toNat (g + 1)) := ht3
          clear ht3
          refine lv_lload C0.1 C0.2.1 dX10_flat_29 (lv_at hl 5 rfl) ?_
          refine mm_ldc2 (z := 3000) C0 tw_1278 rfl dX10_flat_31 ?_
          refine z_lcmp_gt (tgt := 98) C0.1 C0.2.1 dX10_flat_34 dX10_flat_35 (by decide) ⟨by omega, by omega⟩ ⟨by omega, by omega⟩ (fun c_34 => ?_) (fun c_34 => ?_)
          · skip
            have hge : g = 3000 := by omega
            subst hge
            rw [Nat.sub_self, scan_0] at hsc
            refine lv_iload_n C0.1 C0.2.1 dX10_flat_98 rfl (lv_at hl 2 rfl) ?_
            refine z_if_ge (tgt := 106) C0.1 C0.2.1 dX10_flat_99 (by decide) ⟨by omega, by omega⟩ (fun c_99 => ?_) (fun c_99 => ?_)
            · skip
              refine lv_bipush (v := zI (-4)) C0.1 C0.2.1 dX10_flat_106 rfl ?_
              exact mm_iret (z := (-4)) C0 hr hlk hM hS dX10_flat_108 (by have he : pf_flat S n i = ((-4), S) := (by unfold pf_flat; rw [if_pos (by omega), hsc, clo_n (by omega)]); rw [he]; exact ⟨rfl, hX0.rf, fun _ _ => rfl⟩)
            · skip
              refine lv_iload_n C0.1 C0.2.1 dX10_flat_102 rfl (lv_at hl 3 rfl) ?_
              refine lv_goto (tgt := 108) C0.1 C0.2.1 dX10_flat_103 (by decide) ?_
              exact mm_iret (z := (cn : Int)) C0 hr hlk hM hS dX10_flat_108 (by have he : pf_flat S n i = ((cn : Int), S) := (by unfold pf_flat; rw [if_pos (by omega), hsc, clo_y (by omega)]); rw [he]; exact ⟨rfl, hX0.rf, fun _ _ => rfl⟩)
          · skip
            refine lv_lload C0.1 C0.2.1 dX10_flat_38 (lv_at hl 4 rfl) ?_
            refine lv_iload_n C0.1 C0.2.1 dX10_flat_40 rfl (lv_at hl 1 rfl) ?_
            refine z_i2l C0.1 C0.2.1 dX10_flat_41 ⟨by omega, by omega⟩ ?_
            refine mm_ldc2 (z := 2) C0 tw_1089 rfl dX10_flat_42 ?_
            refine z_lsub C0.1 C0.2.1 dX10_flat_45 ?_
            refine lv_lload C0.1 C0.2.1 dX10_flat_46 (lv_at hl 5 rfl) ?_
            refine z_lmul C0.1 C0.2.1 dX10_flat_48 ?_
            refine lv_lload C0.1 C0.2.1 dX10_flat_49 (lv_at hl 5 rfl) ?_
            refine z_lmul C0.1 C0.2.1 dX10_flat_51 ?_
            refine lv_iload_n C0.1 C0.2.1 dX10_flat_52 rfl (lv_at hl 1 rfl) ?_
            refine z_i2l C0.1 C0.2.1 dX10_flat_53 ⟨by omega, by omega⟩ ?_
            refine mm_ldc2 (z := 4) C0 tw_1005 rfl dX10_flat_54 ?_
            refine z_lsub C0.1 C0.2.1 dX10_flat_57 ?_
            refine lv_lload C0.1 C0.2.1 dX10_flat_58 (lv_at hl 5 rfl) ?_
            refine z_lmul C0.1 C0.2.1 dX10_flat_60 ?_
            refine z_lsub C0.1 C0.2.1 dX10_flat_61 ?_
            refine z_asL (a := ((((((((n) - (2))) * (((g + 1 : Nat) : Int)))) * (((g + 1 : Nat) : Int)))) - (((((n) - (4))) * (((g + 1 : Nat) : Int)))))) (b := ((2 * t3 : Nat) : Int)) (by rw [show t3 = _ from ht3h]; exact h3h) ?_
            refine mm_ldc2 (z := 2) C0 tw_1089 rfl dX10_flat_62 ?_
            refine z_ldivp C0.1 C0.2.1 dX10_flat_65 ⟨by omega, by omega⟩ ⟨by omega, by omega⟩ (by omega) (by omega) ?_
            refine z_ladd C0.1 C0.2.1 dX10_flat_66 ?_
            refine z_asL (a := ((((shp 4 n.toNat g : Nat) : Int)) + (((((2 * t3 : Nat) : Int)) / (2))))) (b := ((shp 4 n.toNat (g + 1) : Nat) : Int)) (by omega) ?_
            refine lv_lstore (lv' := [(4, .long (zL (((shp 4 n.toNat (g + 1) : Nat) : Int)))), (0, .ref (h)), (1, .int (zI (n))), (2, .int (zI (i))), (3, .int (zI ((cn : Int)))), (6, .long (zL (((g + 1 : Nat) : Int))))]) C0.1 C0.2.1 dX10_flat_67 hl (by decide) rfl (fun ls hl => ?_)
            refine lv_lload C0.1 C0.2.1 dX10_flat_69 (lv_at hl 0 rfl) ?_
            refine mm_callSi (As := [.long (zL (((shp 4 n.toNat (g + 1) : Nat) : Int)))]) C0 sw_X10_isSquare tw_1193 (c_X10_isSquare l G _ (v := ((shp 4 n.toNat (g + 1) : Nat) : Int)) ⟨by omega, by omega⟩) hM rfl hl.1 rfl (Nat.le_of_ble_eq_true rfl) ⟨rfl, rfl, Nat.le_of_ble_eq_true rfl, Nat.le_of_ble_eq_true rfl, Nat.zero_le _, Nat.zero_le _⟩ dX10_flat_71 hS (fun z_71 E2 H locs hp hM hS => ?_)
            obtain ⟨hz_71, hEq⟩ := hp
            rw [hEq] at hM
            have hz01 : z_71 = 0 ∨ z_71 = 1 := hz_71.elim (fun h => Or.inr h.1) (fun h => Or.inl h.1)
            refine z_if_eq (tgt := 89) C0.1 C0.2.1 dX10_flat_74 (by decide) ⟨by omega, by omega⟩ (fun c_74 => ?_) (fun c_74 => ?_)
            · skip
              have hns : ¬ sq ((shp 4 n.toNat (g + 1) : Nat) : Int) := hz_71.elim (fun h => by omega) (fun h => h.2)
              refine lv_lload C0.1 C0.2.1 dX10_flat_89 (lv_at hl 5 rfl) ?_
              refine lv_lconst (v := zL 1) C0.1 C0.2.1 dX10_flat_91 rfl ?_
              refine z_ladd C0.1 C0.2.1 dX10_flat_92 ?_
              refine z_asL (a := ((((g + 1 : Nat) : Int)) + (1))) (b := ((g + 1 + 1 : Nat) : Int)) (by omega) ?_
              refine lv_lstore (lv' := [(6, .long (zL (((g + 1 + 1 : Nat) : Int)))), (4, .long (zL (((shp 4 n.toNat (g + 1) : Nat) : Int)))), (0, .ref (h)), (1, .int (zI (n))), (2, .int (zI (i))), (3, .int (zI ((cn : Int))))]) C0.1 C0.2.1 dX10_flat_93 hl (by decide) rfl (fun ls hl => ?_)
              refine lv_goto (tgt := 29) C0.1 C0.2.1 dX10_flat_95 (by decide) ?_
              exact ih29  (g + 1) cn _ _ _ (by omega) (by omega) (by omega) (by rw [hsc, scan_f (m := 3000 - (g + 1)) (by omega) (bq_f hns)])  (by omega) hM hS (lv_sub hl [2, 3, 4, 5, 1, 0] rfl)
            · skip
              have hys : sq ((shp 4 n.toNat (g + 1) : Nat) : Int) := hz_71.elim (fun h => h.2) (fun h => by omega)
              refine lv_iload_n C0.1 C0.2.1 dX10_flat_77 rfl (lv_at hl 4 rfl) ?_
              refine lv_iload_n C0.1 C0.2.1 dX10_flat_78 rfl (lv_at hl 3 rfl) ?_
              refine z_icmp_ne (tgt := 86) C0.1 C0.2.1 dX10_flat_79 (by decide) ⟨by omega, by omega⟩ ⟨by omega, by omega⟩ (fun c_79 => ?_) (fun c_79 => ?_)
              · skip
                refine lv_iinc (v := zI (((cn + 1 : Nat) : Int))) (lv' := [(3, .int (zI (((cn + 1 : Nat) : Int)))), (4, .long (zL (((shp 4 n.toNat (g + 1) : Nat) : Int)))), (0, .ref (h)), (1, .int (zI (n))), (2, .int (zI (i))), (6, .long (zL (((g + 1 : Nat) : Int))))]) C0.1 C0.2.1 dX10_flat_86 hl (k := 4) rfl (z_inc (a := (cn : Int)) (n := 1) (by omega)) (by decide) rfl (fun ls hl => ?_)
                refine lv_lload C0.1 C0.2.1 dX10_flat_89 (lv_at hl 5 rfl) ?_
                refine lv_lconst (v := zL 1) C0.1 C0.2.1 dX10_flat_91 rfl ?_
                refine z_ladd C0.1 C0.2.1 dX10_flat_92 ?_
                refine z_asL (a := ((((g + 1 : Nat) : Int)) + (1))) (b := ((g + 1 + 1 : Nat) : Int)) (by omega) ?_
                refine lv_lstore (lv' := [(6, .long (zL (((g + 1 + 1 : Nat) : Int)))), (3, .int (zI (((cn + 1 : Nat) : Int)))), (4, .long (zL (((shp 4 n.toNat (g + 1) : Nat) : Int)))), (0, .ref (h)), (1, .int (zI (n))), (2, .int (zI (i)))]) C0.1 C0.2.1 dX10_flat_93 hl (by decide) rfl (fun ls hl => ?_)
                refine lv_goto (tgt := 29) C0.1 C0.2.1 dX10_flat_95 (by decide) ?_
                exact ih29  (g + 1) (cn + 1) _ _ _ (by omega) (by omega) (by omega) (by rw [hsc, scan_t (m := 3000 - (g + 1)) (by omega) (bq_t hys) (by omega)])  (by omega) hM hS (lv_sub hl [3, 4, 5, 1, 2, 0] rfl)
              · skip
                refine lv_lload C0.1 C0.2.1 dX10_flat_82 (lv_at hl 5 rfl) ?_
                refine z_l2i C0.1 C0.2.1 dX10_flat_84 ?_
                exact mm_iret (z := ((g + 1 : Nat) : Int)) C0 hr hlk hM hS dX10_flat_85 (by have he : pf_flat S n i = (((g + 1 : Nat) : Int), S) := (by unfold pf_flat; rw [if_pos (by omega), hsc, scan_hit (m := 3000 - (g + 1)) (by omega) (bq_t hys) (by omega)]); rw [he]; exact ⟨rfl, hX0.rf, fun _ _ => rfl⟩)
      exact L29 (_ + 1) 0 0 _ _ _ (Nat.zero_le _) (Nat.zero_le _) (by rw [shp_0]; omega) (rfl)  (Nat.lt_succ_self _) hM hS (lv_sub hl [3, 4, 5, 2, 1, 0] rfl)
    · skip
      refine lv_iconst (v := zI (-1)) C0.1 C0.2.1 dX10_flat_19 rfl ?_
      exact mm_iret (z := (-1)) C0 hr hlk hM hS dX10_flat_20 (by have he : pf_flat S n i = ((-1), S) := (by unfold pf_flat; rw [if_neg (by omega)]); rw [he]; exact ⟨rfl, hX0.rf, fun _ _ => rfl⟩)

def rX10_corners : Room := { frames := 2, cells := 0, slots := 0, locals := 48 }
theorem vw_X10_corners : mm_Vw RX10 yX10_corners cX10_corners 6 (some .int) 2 := ⟨tw_1280, tw_1281, tw_10, tw_1282, by decide +kernel⟩
set_option maxHeartbeats 4000000 in
set_option maxRecDepth 100000 in
theorem c_X10_corners (l : Launch) (G : mG) (E0 : mE) {h : Nat} {S : mST} (hF : rf G E0 h S) (hok : okR S) {n i : Int} (hr_n : rI n) (hr_i : rI i) : mm_Ci l yX10_corners (.code yX10_corners cX10_corners 6 (some .int) :: wsG) rX10_corners G [.ref (h), .int (zI (n)), .int (zI (i))] E0 (fun z E => z = (pf_corners S n i).1 ∧ rf G E h (pf_corners S n i).2 ∧ ∀ q : Nat, (q < h ∨ h + 13 ≤ q) → E q = E0 q) := by
  refine mm_of_i (by decide +kernel) (Nat.le_of_ble_eq_true rfl) ?_
  intro p e s m args below meth c ls C0 hr hlk hM hl hS
  have hl : lv_has ls 6 [(0, .ref (h)), (1, .int (zI (n))), (2, .int (zI (i)))] := hl
  obtain ⟨hr_n1, hr_n2⟩ := hr_n
  obtain ⟨hr_i1, hr_i2⟩ := hr_i
  obtain ⟨R, x2, x3, x4, x5, x6, x7, hX⟩ := hF
  have hX0 := hX
  obtain ⟨hTk, hPk, hKk, hSk⟩ := hok
  obtain ⟨hO, hR, hRp, ⟨fh, fc, hH, hC, hPa⟩, hTp, hCl, hKp, hSh, him⟩ := hX
  
  refine lv_iload_n C0.1 C0.2.1 dX10_corners_0 rfl (lv_at hl 1 rfl) ?_
  refine z_i2l C0.1 C0.2.1 dX10_corners_1 ⟨by omega, by omega⟩ ?_
  refine lv_lconst (v := zL 1) C0.1 C0.2.1 dX10_corners_2 rfl ?_
  refine mm_ldc2 (z := 500) C0 tw_1283 rfl dX10_corners_3 ?_
  refine mm_callSi (As := [.long (zL (n)), .long (zL (1)), .long (zL (500))]) C0 sw_X10_in tw_985 (c_X10_in l G _ (v := n) (lo := 1) (hi := 500) ⟨by omega, by omega⟩ ⟨by omega, by omega⟩ ⟨by omega, by omega⟩) hM rfl hl.1 rfl (Nat.le_of_ble_eq_true rfl) ⟨rfl, rfl, Nat.le_of_ble_eq_true rfl, Nat.le_of_ble_eq_true rfl, Nat.zero_le _, Nat.zero_le _⟩ dX10_corners_6 hS (fun z_6 E1 H locs hp hM hS => ?_)
  obtain ⟨hz_6, hEq⟩ := hp
  rw [hEq] at hM
  have hz_6b := if01 hz_6
  refine z_if_eq (tgt := 17) C0.1 C0.2.1 dX10_corners_9 (by decide) ⟨by omega, by omega⟩ (fun c_9 => ?_) (fun c_9 => ?_)
  · skip
    refine lv_iconst (v := zI (-1)) C0.1 C0.2.1 dX10_corners_17 rfl ?_
    exact mm_iret (z := (-1)) C0 hr hlk hM hS dX10_corners_18 (by have he : pf_corners S n i = ((-1), S) := (by unfold pf_corners; rw [if_neg (by omega)]); rw [he]; exact ⟨rfl, hX0.rf, fun _ _ => rfl⟩)
  · skip
    refine lv_iload_n C0.1 C0.2.1 dX10_corners_12 rfl (lv_at hl 2 rfl) ?_
    refine lv_iconst (v := zI (-1)) C0.1 C0.2.1 dX10_corners_13 rfl ?_
    refine z_icmp_ge (tgt := 19) C0.1 C0.2.1 dX10_corners_14 (by decide) ⟨by omega, by omega⟩ ⟨by omega, by omega⟩ (fun c_14 => ?_) (fun c_14 => ?_)
    · skip
      refine lv_iconst (v := zI 0) C0.1 C0.2.1 dX10_corners_19 rfl ?_
      refine lv_istore_n (lv' := [(3, .int (zI (0))), (0, .ref (h)), (1, .int (zI (n))), (2, .int (zI (i)))]) C0.1 C0.2.1 dX10_corners_20 rfl hl (by decide) rfl (fun ls hl => ?_)
      refine lv_iconst (v := zI 1) C0.1 C0.2.1 dX10_corners_21 rfl ?_
      refine lv_istore (lv' := [(4, .int (zI (1))), (3, .int (zI (0))), (0, .ref (h)), (1, .int (zI (n))), (2, .int (zI (i)))]) C0.1 C0.2.1 dX10_corners_22 hl (by decide) rfl (fun ls hl => ?_)
      have L24 : ∀ (k24 : Nat) (cc cn : Nat) (H : Heap) (locs : List Loc) (ls : Array Slot), (1 ≤ cc) → (cc ≤ n.toNat + 1) → (cn ≤ 501 * cc) → (scan (rcB) (rcV) i 501 0 (501 * n.toNat) = scan (rcB) (rcV) i (501 * cc) cn (501 * (n.toNat + 1 - cc))) → n.toNat + 1 - cc < k24 → mm_M G E0 H → va_S (mm_A G) s.heap H locs → lv_has ls 6 [(0, .ref (h)), (1, .int (zI (n))), (2, .int (zI (i))), (3, .int (zI ((cn : Int)))), (4, .int (zI ((cc : Int))))] → W p l e rX10_corners s m args below meth c H locs 0 0 (mm_Zi G below args s (fun z E => z = (pf_corners S n i).1 ∧ rf G E h (pf_corners S n i).2 ∧ ∀ q : Nat, (q < h ∨ h + 13 ≤ q) → E q = E0 q)) (F0 m 24 ls []) := by
        intro k24
        induction k24 with
        | zero => intro cc cn H locs ls hc1 hcn9 hcn hsc hk hM hS hl; exact absurd hk (Nat.not_lt_zero _)
        | succ k24 ih24 =>
          intro cc cn H locs ls hc1 hcn9 hcn hsc hk24 hM hS hl
          refine lv_iload C0.1 C0.2.1 dX10_corners_24 (lv_at hl 4 rfl) ?_
          refine lv_iload_n C0.1 C0.2.1 dX10_corners_26 rfl (lv_at hl 1 rfl) ?_
          refine z_icmp_gt (tgt := 96) C0.1 C0.2.1 dX10_corners_27 (by decide) ⟨by omega, by omega⟩ ⟨by omega, by omega⟩ (fun c_27 => ?_) (fun c_27 => ?_)
          · skip
            have hce : cc = n.toNat + 1 := by omega
            rw [hce, Nat.sub_self, Nat.mul_zero, scan_0] at hsc
            refine lv_iload_n C0.1 C0.2.1 dX10_corners_96 rfl (lv_at hl 2 rfl) ?_
            refine z_if_ge (tgt := 104) C0.1 C0.2.1 dX10_corners_97 (by decide) ⟨by omega, by omega⟩ (fun c_97 => ?_) (fun c_97 => ?_)
            · skip
              refine lv_bipush (v := zI (-4)) C0.1 C0.2.1 dX10_corners_104 rfl ?_
              exact mm_iret (z := (-4)) C0 hr hlk hM hS dX10_corners_106 (by have he : pf_corners S n i = ((-4), S) := (by unfold pf_corners; rw [if_pos (by omega), hsc, clo_n (by omega)]); rw [he]; exact ⟨rfl, hX0.rf, fun _ _ => rfl⟩)
            · skip
              refine lv_iload_n C0.1 C0.2.1 dX10_corners_100 rfl (lv_at hl 3 rfl) ?_
              refine lv_goto (tgt := 106) C0.1 C0.2.1 dX10_corners_101 (by decide) ?_
              exact mm_iret (z := (cn : Int)) C0 hr hlk hM hS dX10_corners_106 (by have he : pf_corners S n i = ((cn : Int), S) := (by unfold pf_corners; rw [if_pos (by omega), hsc, clo_y (by omega)]); rw [he]; exact ⟨rfl, hX0.rf, fun _ _ => rfl⟩)
          · skip
            obtain ⟨c9, hc9⟩ : ∃ q, q = cc * cc := ⟨_, rfl⟩
            have hc9b : c9 ≤ 500 * 500 := hc9 ▸ Nat.mul_le_mul (by omega) (by omega)
            have hc9z : hid (((cc : Nat) : Int) * ((cc : Nat) : Int) = (c9 : Int)) := by rw [hc9]; exact (Int.natCast_mul _ _).symm
            have hc9h : hid (c9 = cc * cc) := hc9
            clear hc9
            refine lv_iconst (v := zI 1) C0.1 C0.2.1 dX10_corners_30 rfl ?_
            refine lv_istore (lv' := [(5, .int (zI (1))), (0, .ref (h)), (1, .int (zI (n))), (2, .int (zI (i))), (3, .int (zI ((cn : Int)))), (4, .int (zI ((cc : Int))))]) C0.1 C0.2.1 dX10_corners_31 hl (by decide) rfl (fun ls hl => ?_)
            have L33 : ∀ (k33 : Nat) (a cn : Nat) (H : Heap) (locs : List Loc) (ls : Array Slot), (1 ≤ a) → (a ≤ 400) → (cn ≤ 501 * cc + a) → (scan (rcB) (rcV) i 501 0 (501 * n.toNat) = scan (rcB) (rcV) i (501 * cc + a) cn (501 * (n.toNat + 1 - cc) - a)) → 401 - a < k33 → mm_M G E0 H → va_S (mm_A G) s.heap H locs → lv_has ls 6 [(0, .ref (h)), (1, .int (zI (n))), (2, .int (zI (i))), (3, .int (zI ((cn : Int)))), (4, .int (zI ((cc : Int)))), (5, .int (zI ((a : Int))))] → W p l e rX10_corners s m args below meth c H locs 0 0 (mm_Zi G below args s (fun z E => z = (pf_corners S n i).1 ∧ rf G E h (pf_corners S n i).2 ∧ ∀ q : Nat, (q < h ∨ h + 13 ≤ q) → E q = E0 q)) (F0 m 33 ls []) := by
              intro k33
              induction k33 with
              | zero => intro a cn H locs ls ha1 ha9 hcn hsc2 hk hM hS hl; exact absurd hk (Nat.not_lt_zero _)
              | succ k33 ih33 =>
                intro a cn H locs ls ha1 ha9 hcn hsc2 hk33 hM hS hl
                obtain ⟨q9, hq9⟩ : ∃ q, q = a * a := ⟨_, rfl⟩
                have hq9b : q9 ≤ 400 * 400 := hq9 ▸ Nat.mul_le_mul (by omega) (by omega)
                have hq9z0 : ((a : Nat) : Int) * ((a : Nat) : Int) = (q9 : Int) := by rw [hq9]; exact (Int.natCast_mul _ _).symm
                have hq9z : hid (((a : Nat) : Int) * ((a : Nat) : Int) = (q9 : Int)) := hq9z0
                have hq9y : hid (2 * ((a : Nat) : Int) * ((a : Nat) : Int) = ((2 * q9 : Nat) : Int)) := by show _ = _; rw [Int.mul_assoc, hq9z0]; omega
                clear hq9z0
                have hq9h : hid (q9 = a * a) := hq9
                clear hq9
                refine lv_iconst (v := zI 2) C0.1 C0.2.1 dX10_corners_33 rfl ?_
                refine lv_iload C0.1 C0.2.1 dX10_corners_34 (lv_at hl 5 rfl) ?_
                refine z_imul C0.1 C0.2.1 dX10_corners_36 ?_
                refine lv_iload C0.1 C0.2.1 dX10_corners_37 (lv_at hl 5 rfl) ?_
                refine z_imul C0.1 C0.2.1 dX10_corners_39 ?_
                refine z_asI (a := ((((2) * ((a : Int)))) * ((a : Int)))) (b := ((2 * q9 : Nat) : Int)) ((show _ = _ from hq9y)) ?_
                refine lv_iload C0.1 C0.2.1 dX10_corners_40 (lv_at hl 4 rfl) ?_
                refine lv_iload C0.1 C0.2.1 dX10_corners_42 (lv_at hl 4 rfl) ?_
                refine z_imul C0.1 C0.2.1 dX10_corners_44 ?_
                refine z_asI (a := (((cc : Int)) * ((cc : Int)))) (b := (c9 : Int)) ((show _ = _ from hc9z)) ?_
                refine z_icmp_ge (tgt := 90) C0.1 C0.2.1 dX10_corners_45 (by decide) ⟨by omega, by omega⟩ ⟨by omega, by omega⟩ (fun c_45 => ?_) (fun c_45 => ?_)
                · skip
                  refine lv_iinc (v := zI (((cc + 1 : Nat) : Int))) (lv' := [(4, .int (zI (((cc + 1 : Nat) : Int)))), (0, .ref (h)), (1, .int (zI (n))), (2, .int (zI (i))), (3, .int (zI ((cn : Int)))), (5, .int (zI ((a : Int))))]) C0.1 C0.2.1 dX10_corners_90 hl (k := 4) rfl (z_inc (a := (cc : Int)) (n := 1) (by omega)) (by decide) rfl (fun ls hl => ?_)
                  refine lv_goto (tgt := 24) C0.1 C0.2.1 dX10_corners_93 (by decide) ?_
                  exact ih24  (cc + 1) cn _ _ _ (by omega) (by omega) (by omega) (by rw [hsc2, scan_skip (k := 501 - a) (m := 501 * (n.toNat + 1 - (cc + 1))) (by omega) (fun j h1 h2 => by obtain ⟨u, rfl⟩ : ∃ u, j = 501 * cc + u := ⟨j - 501 * cc, by omega⟩; exact rcB_f (by omega) (rc_no (c := cc) (a := a) (by rw [← show q9 = _ from hq9h, ← show c9 = _ from hc9h]; omega) u (by omega))), show 501 * cc + a + (501 - a) = 501 * (cc + 1) by omega])  (by omega) hM hS (lv_sub hl [1, 2, 3, 4, 0] rfl)
                · skip
                  have hlt : a ≤ 399 := Nat.le_of_not_lt fun q => by have h9 := Nat.mul_le_mul (show 400 ≤ a from q) (show 400 ≤ a from q); rw [← show q9 = _ from hq9h] at h9; omega
                  refine lv_iload C0.1 C0.2.1 dX10_corners_48 (lv_at hl 4 rfl) ?_
                  refine lv_iload C0.1 C0.2.1 dX10_corners_50 (lv_at hl 4 rfl) ?_
                  refine z_imul C0.1 C0.2.1 dX10_corners_52 ?_
                  refine z_asI (a := (((cc : Int)) * ((cc : Int)))) (b := (c9 : Int)) ((show _ = _ from hc9z)) ?_
                  refine lv_iload C0.1 C0.2.1 dX10_corners_53 (lv_at hl 5 rfl) ?_
                  refine lv_iload C0.1 C0.2.1 dX10_corners_55 (lv_at hl 5 rfl) ?_
                  refine z_imul C0.1 C0.2.1 dX10_corners_57 ?_
                  refine z_asI (a := (((a : Int)) * ((a : Int)))) (b := (q9 : Int)) ((show _ = _ from hq9z)) ?_
                  refine z_isub C0.1 C0.2.1 dX10_corners_58 ?_
                  refine z_i2l C0.1 C0.2.1 dX10_corners_59 ⟨by omega, by omega⟩ ?_
                  refine mm_callSi (As := [.long (zL ((((c9 : Int)) - ((q9 : Int)))))]) C0 sw_X10_isSquare tw_1193 (c_X10_isSquare l G _ (v := (c9 : Int) - (q9 : Int)) ⟨by omega, by omega⟩) hM rfl hl.1 rfl (Nat.le_of_ble_eq_true rfl) ⟨rfl, rfl, Nat.le_of_ble_eq_true rfl, Nat.le_of_ble_eq_true rfl, Nat.zero_le _, Nat.zero_le _⟩ dX10_corners_60 hS (fun z_60 E2 H locs hp hM hS => ?_)
                  obtain ⟨hz_60, hEq⟩ := hp
                  rw [hEq] at hM
                  have hz01 : z_60 = 0 ∨ z_60 = 1 := hz_60.elim (fun h => Or.inr h.1) (fun h => Or.inl h.1)
                  have hrc := rc_sq (c := cc) (a := a) ha1 (by rw [← show q9 = _ from hq9h, ← show c9 = _ from hc9h]; omega)
                  rw [← show q9 = _ from hq9h, ← show c9 = _ from hc9h] at hrc
                  refine z_if_eq (tgt := 84) C0.1 C0.2.1 dX10_corners_63 (by decide) ⟨by omega, by omega⟩ (fun c_63 => ?_) (fun c_63 => ?_)
                  · skip
                    have hns : rcB (501 * cc + a) = false := rcB_f (by omega) fun q => hz_60.elim (fun h => (by omega : False)) (fun h => h.2 (hrc.mpr (by obtain ⟨b9, hb1, hb2⟩ := q.2; exact ⟨b9, hb1, by rw [← show q9 = _ from hq9h, ← show c9 = _ from hc9h] at hb2; exact hb2⟩)))
                    refine lv_iinc (v := zI (((a + 1 : Nat) : Int))) (lv' := [(5, .int (zI (((a + 1 : Nat) : Int)))), (0, .ref (h)), (1, .int (zI (n))), (2, .int (zI (i))), (3, .int (zI ((cn : Int)))), (4, .int (zI ((cc : Int))))]) C0.1 C0.2.1 dX10_corners_84 hl (k := 5) rfl (z_inc (a := (a : Int)) (n := 1) (by omega)) (by decide) rfl (fun ls hl => ?_)
                    refine lv_goto (tgt := 33) C0.1 C0.2.1 dX10_corners_87 (by decide) ?_
                    exact ih33  (a + 1) cn _ _ _ (by omega) (by omega) (by omega) (by rw [hsc2, scan_f (m := 501 * (n.toNat + 1 - cc) - (a + 1)) (by omega) hns]; rfl)  (by omega) hM hS (lv_sub hl [1, 2, 3, 4, 5, 0] rfl)
                  · skip
                    have hyx := hrc.mp (hz_60.elim (fun h => h.2) (fun h => by omega))
                    have hys : rcB (501 * cc + a) = true := hyx.elim fun b9 hb => rcB_t (by omega) ha1 hb.1 (by rw [← show q9 = _ from hq9h, ← show c9 = _ from hc9h]; exact hb.2)
                    refine lv_iload_n C0.1 C0.2.1 dX10_corners_66 rfl (lv_at hl 3 rfl) ?_
                    refine lv_iload_n C0.1 C0.2.1 dX10_corners_67 rfl (lv_at hl 2 rfl) ?_
                    refine z_icmp_ne (tgt := 81) C0.1 C0.2.1 dX10_corners_68 (by decide) ⟨by omega, by omega⟩ ⟨by omega, by omega⟩ (fun c_68 => ?_) (fun c_68 => ?_)
                    · skip
                      refine lv_iinc (v := zI (((cn + 1 : Nat) : Int))) (lv' := [(3, .int (zI (((cn + 1 : Nat) : Int)))), (0, .ref (h)), (1, .int (zI (n))), (2, .int (zI (i))), (4, .int (zI ((cc : Int)))), (5, .int (zI ((a : Int))))]) C0.1 C0.2.1 dX10_corners_81 hl (k := 3) rfl (z_inc (a := (cn : Int)) (n := 1) (by omega)) (by decide) rfl (fun ls hl => ?_)
                      refine lv_iinc (v := zI (((a + 1 : Nat) : Int))) (lv' := [(5, .int (zI (((a + 1 : Nat) : Int)))), (3, .int (zI (((cn + 1 : Nat) : Int)))), (0, .ref (h)), (1, .int (zI (n))), (2, .int (zI (i))), (4, .int (zI ((cc : Int))))]) C0.1 C0.2.1 dX10_corners_84 hl (k := 5) rfl (z_inc (a := (a : Int)) (n := 1) (by omega)) (by decide) rfl (fun ls hl => ?_)
                      refine lv_goto (tgt := 33) C0.1 C0.2.1 dX10_corners_87 (by decide) ?_
                      exact ih33  (a + 1) (cn + 1) _ _ _ (by omega) (by omega) (by omega) (by rw [hsc2, scan_t (m := 501 * (n.toNat + 1 - cc) - (a + 1)) (by omega) hys (by omega)]; rfl)  (by omega) hM hS (lv_sub hl [2, 3, 4, 1, 5, 0] rfl)
                    · skip
                      refine lv_sipush (v := zI 1000) C0.1 C0.2.1 dX10_corners_71 rfl ?_
                      refine lv_iload C0.1 C0.2.1 dX10_corners_74 (lv_at hl 5 rfl) ?_
                      refine z_imul C0.1 C0.2.1 dX10_corners_76 ?_
                      refine lv_iload C0.1 C0.2.1 dX10_corners_77 (lv_at hl 4 rfl) ?_
                      refine z_iadd C0.1 C0.2.1 dX10_corners_79 ?_
                      exact mm_iret (z := ((((1000) * ((a : Int)))) + ((cc : Int)))) C0 hr hlk hM hS dX10_corners_80 (by have he : pf_corners S n i = (((((1000) * ((a : Int)))) + ((cc : Int))), S) := (by unfold pf_corners; rw [if_pos (by omega), hsc2, scan_hit (m := 501 * (n.toNat + 1 - cc) - (a + 1)) (by omega) hys (by omega), rcV_e (by omega)]); rw [he]; exact ⟨rfl, hX0.rf, fun _ _ => rfl⟩)
            exact L33 (_ + 1) 1 cn _ _ _ (Nat.le_refl _) (by omega) (by omega) (by rw [hsc, scan_f (m := 501 * (n.toNat + 1 - cc) - 1) (by omega) (by have := rcB_f (c := cc) (a := 0) (by omega) (by omega); exact this)])  (Nat.lt_succ_self _) hM hS (lv_sub hl [1, 2, 3, 4, 5, 0] rfl)
      exact L24 (_ + 1) 1 0 _ _ _ (Nat.le_refl _) (by omega) (by omega) (by rw [show n.toNat + 1 - 1 = n.toNat by omega])  (Nat.lt_succ_self _) hM hS (lv_sub hl [2, 3, 4, 1, 0] rfl)
    · skip
      refine lv_iconst (v := zI (-1)) C0.1 C0.2.1 dX10_corners_17 rfl ?_
      exact mm_iret (z := (-1)) C0 hr hlk hM hS dX10_corners_18 (by have he : pf_corners S n i = ((-1), S) := (by unfold pf_corners; rw [if_neg (by omega)]); rw [he]; exact ⟨rfl, hX0.rf, fun _ _ => rfl⟩)

theorem st_e {l a : Int} : l * l - 2 * l * a = l * (l - 2 * a) ∧ 2 * l - 2 * a = 2 * (l - a) := by
  constructor
  · rw [Int.mul_sub, Int.mul_left_comm, Int.mul_assoc]
  · omega
theorem stB_0 (l : Nat) : stB l 0 = false := rfl
theorem st_b {l a : Int} (h1 : 1 ≤ l) (h2 : l ≤ 100000) (h3 : 0 ≤ a) (h4 : 3 * a < l) : 0 ≤ l * (l - 2 * a) ∧ l * (l - 2 * a) ≤ 10000000000 := ⟨Int.mul_nonneg (by omega) (by omega), Int.mul_le_mul h2 (show l - 2 * a ≤ 100000 by omega) (by omega) (by omega)⟩
theorem stB_e {l a : Nat} (ha : 1 ≤ a) : stB l a = true ↔ ((l : Int) * ((l : Int) - 2 * (a : Int)) % (2 * ((l : Int) - (a : Int))) = 0 ∧ (a : Int) < (l : Int) * ((l : Int) - 2 * (a : Int)) / (2 * ((l : Int) - (a : Int)))) := by
  unfold stB
  rw [decide_eq_true (show 0 < a by omega), Bool.true_and, Bool.and_eq_true, beq_iff_eq, decide_eq_true_iff]

def rX10_string : Room := { frames := 1, cells := 0, slots := 0, locals := 25 }
theorem vw_X10_string : mm_Vw RX10 yX10_string cX10_string 11 (some .int) 1 := ⟨tw_1285, tw_1286, tw_10, tw_1287, by decide +kernel⟩
set_option maxHeartbeats 4000000 in
set_option maxRecDepth 100000 in
theorem c_X10_string (l : Launch) (G : mG) (E0 : mE) {h : Nat} {S : mST} (hF : rf G E0 h S) (hok : okR S) {n : Int} (hr_n : rI n) : mm_Ci l yX10_string (.code yX10_string cX10_string 11 (some .int) :: wsG) rX10_string G [.ref (h), .int (zI (n))] E0 (fun z E => z = (pf_string S n).1 ∧ rf G E h (pf_string S n).2 ∧ ∀ q : Nat, (q < h ∨ h + 13 ≤ q) → E q = E0 q) := by
  refine mm_of_i (by decide +kernel) (Nat.le_of_ble_eq_true rfl) ?_
  intro p e s m args below meth c ls C0 hr hlk hM hl hS
  have hl : lv_has ls 11 [(0, .ref (h)), (1, .int (zI (n)))] := hl
  obtain ⟨hr_n1, hr_n2⟩ := hr_n
  obtain ⟨R, x2, x3, x4, x5, x6, x7, hX⟩ := hF
  have hX0 := hX
  obtain ⟨hTk, hPk, hKk, hSk⟩ := hok
  obtain ⟨hO, hR, hRp, ⟨fh, fc, hH, hC, hPa⟩, hTp, hCl, hKp, hSh, him⟩ := hX
  
  refine lv_iload_n C0.1 C0.2.1 dX10_string_0 rfl (lv_at hl 1 rfl) ?_
  refine z_i2l C0.1 C0.2.1 dX10_string_1 ⟨by omega, by omega⟩ ?_
  refine lv_lconst (v := zL 1) C0.1 C0.2.1 dX10_string_2 rfl ?_
  refine mm_ldc2 (z := 100000) C0 tw_1288 rfl dX10_string_3 ?_
  refine mm_callSi (As := [.long (zL (n)), .long (zL (1)), .long (zL (100000))]) C0 sw_X10_in tw_985 (c_X10_in l G _ (v := n) (lo := 1) (hi := 100000) ⟨by omega, by omega⟩ ⟨by omega, by omega⟩ ⟨by omega, by omega⟩) hM rfl hl.1 rfl (Nat.le_of_ble_eq_true rfl) ⟨rfl, rfl, Nat.le_of_ble_eq_true rfl, Nat.le_of_ble_eq_true rfl, Nat.zero_le _, Nat.zero_le _⟩ dX10_string_6 hS (fun z_6 E1 H locs hp hM hS => ?_)
  obtain ⟨hz_6, hEq⟩ := hp
  rw [hEq] at hM
  have hz_6b := if01 hz_6
  refine z_if_ne (tgt := 14) C0.1 C0.2.1 dX10_string_9 (by decide) ⟨by omega, by omega⟩ (fun c_9 => ?_) (fun c_9 => ?_)
  · skip
    refine lv_iconst (v := zI 0) C0.1 C0.2.1 dX10_string_14 rfl ?_
    refine z_asI (a := 0) (b := ((cntB (stB n.toNat) 1 : Nat) : Int)) (by rw [cntB_s, stB_0]; rfl) ?_
    refine lv_istore_n (lv' := [(2, .int (zI (((cntB (stB n.toNat) 1 : Nat) : Int)))), (0, .ref (h)), (1, .int (zI (n)))]) C0.1 C0.2.1 dX10_string_15 rfl hl (by decide) rfl (fun ls hl => ?_)
    refine lv_iload_n C0.1 C0.2.1 dX10_string_16 rfl (lv_at hl 2 rfl) ?_
    refine z_i2l C0.1 C0.2.1 dX10_string_17 ⟨by omega, by omega⟩ ?_
    refine lv_lstore_n (lv' := [(3, .long (zL (n))), (2, .int (zI (((cntB (stB n.toNat) 1 : Nat) : Int)))), (0, .ref (h)), (1, .int (zI (n)))]) C0.1 C0.2.1 dX10_string_18 rfl hl (by decide) rfl (fun ls hl => ?_)
    refine lv_lconst (v := zL 1) C0.1 C0.2.1 dX10_string_19 rfl ?_
    refine lv_lstore (lv' := [(5, .long (zL (1))), (3, .long (zL (n))), (2, .int (zI (((cntB (stB n.toNat) 1 : Nat) : Int)))), (0, .ref (h)), (1, .int (zI (n)))]) C0.1 C0.2.1 dX10_string_20 hl (by decide) rfl (fun ls hl => ?_)
    have L22 : ∀ (k22 : Nat) (a : Nat) (H : Heap) (locs : List Loc) (ls : Array Slot), (1 ≤ a) → (a ≤ (n.toNat + 2) / 3 ∨ a = 1) → 100000 - a < k22 → mm_M G E0 H → va_S (mm_A G) s.heap H locs → lv_has ls 11 [(0, .ref (h)), (1, .int (zI (n))), (2, .int (zI (((cntB (stB n.toNat) a : Nat) : Int)))), (3, .long (zL (n))), (5, .long (zL ((a : Int))))] → W p l e rX10_string s m args below meth c H locs 0 0 (mm_Zi G below args s (fun z E => z = (pf_string S n).1 ∧ rf G E h (pf_string S n).2 ∧ ∀ q : Nat, (q < h ∨ h + 13 ≤ q) → E q = E0 q)) (F0 m 22 ls []) := by
      intro k22
      induction k22 with
      | zero => intro a H locs ls ha1 ha9 hk hM hS hl; exact absurd hk (Nat.not_lt_zero _)
      | succ k22 ih22 =>
        intro a H locs ls ha1 ha9 hk22 hM hS hl
        have hcl := cntB_le (stB n.toNat) a
        have hcs := cntB_s (stB n.toNat) a
        refine mm_ldc2 (z := 3) C0 tw_1006 rfl dX10_string_22 ?_
        refine lv_lload C0.1 C0.2.1 dX10_string_25 (lv_at hl 4 rfl) ?_
        refine z_lmul C0.1 C0.2.1 dX10_string_27 ?_
        refine lv_lload_n C0.1 C0.2.1 dX10_string_28 rfl (lv_at hl 3 rfl) ?_
        refine z_lcmp_ge (tgt := 99) C0.1 C0.2.1 dX10_string_29 dX10_string_30 (by decide) ⟨by omega, by omega⟩ ⟨by omega, by omega⟩ (fun c_29 => ?_) (fun c_29 => ?_)
        · skip
          have hae : cntB (stB n.toNat) a = cntB (stB n.toNat) ((n.toNat + 2) / 3) := by by_cases q : a = (n.toNat + 2) / 3; rw [q]; rw [show a = 1 by omega, show (n.toNat + 2) / 3 = 1 by omega]
          refine lv_iload_n C0.1 C0.2.1 dX10_string_99 rfl (lv_at hl 2 rfl) ?_
          exact mm_iret (z := ((cntB (stB n.toNat) a : Nat) : Int)) C0 hr hlk hM hS dX10_string_100 (by have he : pf_string S n = (((cntB (stB n.toNat) a : Nat) : Int), S) := (by unfold pf_string; rw [if_pos (by omega), hae]); rw [he]; exact ⟨rfl, hX0.rf, fun _ _ => rfl⟩)
        · skip
          obtain ⟨u9, hu9⟩ : ∃ u, u = n * (n - 2 * (a : Int)) := ⟨_, rfl⟩
          have hub := st_b (l := n) (a := (a : Int)) (by omega) (by omega) (by omega) (by omega)
          rw [← hu9] at hub
          obtain ⟨hub1, hub2⟩ := hub
          have hu9h : hid (n * n - 2 * n * (a : Int) = u9) := by show _ = _; rw [hu9]; exact st_e.1
          have hse := stB_e (l := n.toNat) (a := a) ha1
          rw [show ((n.toNat : Nat) : Int) = n by omega, ← hu9] at hse
          obtain ⟨w9, hw9⟩ : ∃ w, w = 2 * (n - (a : Int)) := ⟨_, rfl⟩
          have hd0 := Int.emod_nonneg u9 (show (2 * (n - (a : Int))) ≠ 0 by omega)
          have hd1 := Int.emod_lt_of_pos u9 (show 0 < (2 * (n - (a : Int))) by omega)
          have hd2 := Int.ediv_nonneg hub1 (show 0 ≤ (2 * (n - (a : Int))) by omega)
          have hd3 := Int.ediv_le_self (2 * (n - (a : Int))) hub1
          clear hu9
          refine lv_lload_n C0.1 C0.2.1 dX10_string_33 rfl (lv_at hl 3 rfl) ?_
          refine lv_lload_n C0.1 C0.2.1 dX10_string_34 rfl (lv_at hl 3 rfl) ?_
          refine z_lmul C0.1 C0.2.1 dX10_string_35 ?_
          refine mm_ldc2 (z := 2) C0 tw_1089 rfl dX10_string_36 ?_
          refine lv_lload_n C0.1 C0.2.1 dX10_string_39 rfl (lv_at hl 3 rfl) ?_
          refine z_lmul C0.1 C0.2.1 dX10_string_40 ?_
          refine lv_lload C0.1 C0.2.1 dX10_string_41 (lv_at hl 4 rfl) ?_
          refine z_lmul C0.1 C0.2.1 dX10_string_43 ?_
          refine z_lsub C0.1 C0.2.1 dX10_string_44 ?_
          refine z_asL (a := ((((n) * (n))) - (((((2) * (n))) * ((a : Int)))))) (b := u9) ((show _ = _ from hu9h)) ?_
          refine lv_lstore (lv' := [(7, .long (zL (u9))), (0, .ref (h)), (1, .int (zI (n))), (2, .int (zI (((cntB (stB n.toNat) a : Nat) : Int)))), (3, .long (zL (n))), (5, .long (zL ((a : Int))))]) C0.1 C0.2.1 dX10_string_45 hl (by decide) rfl (fun ls hl => ?_)
          refine mm_ldc2 (z := 2) C0 tw_1089 rfl dX10_string_47 ?_
          refine lv_lload_n C0.1 C0.2.1 dX10_string_50 rfl (lv_at hl 4 rfl) ?_
          refine z_lmul C0.1 C0.2.1 dX10_string_51 ?_
          refine mm_ldc2 (z := 2) C0 tw_1089 rfl dX10_string_52 ?_
          refine lv_lload C0.1 C0.2.1 dX10_string_55 (lv_at hl 5 rfl) ?_
          refine z_lmul C0.1 C0.2.1 dX10_string_57 ?_
          refine z_lsub C0.1 C0.2.1 dX10_string_58 ?_
          refine z_asL (a := ((((2) * (n))) - (((2) * ((a : Int)))))) (b := (2 * (n - (a : Int)))) (st_e.2) ?_
          refine lv_lstore (lv' := [(9, .long (zL ((2 * (n - (a : Int)))))), (7, .long (zL (u9))), (0, .ref (h)), (1, .int (zI (n))), (2, .int (zI (((cntB (stB n.toNat) a : Nat) : Int)))), (3, .long (zL (n))), (5, .long (zL ((a : Int))))]) C0.1 C0.2.1 dX10_string_59 hl (by decide) rfl (fun ls hl => ?_)
          refine lv_iload_n C0.1 C0.2.1 dX10_string_61 rfl (lv_at hl 4 rfl) ?_
          refine lv_lload C0.1 C0.2.1 dX10_string_62 (lv_at hl 1 rfl) ?_
          refine lv_lload C0.1 C0.2.1 dX10_string_64 (lv_at hl 0 rfl) ?_
          refine z_lremp C0.1 C0.2.1 dX10_string_66 ⟨by omega, by omega⟩ ⟨by omega, by omega⟩ (by omega) (by omega) ?_
          refine lv_lconst (v := zL 0) C0.1 C0.2.1 dX10_string_67 rfl ?_
          refine z_lcmp_ne (tgt := 87) C0.1 C0.2.1 dX10_string_68 dX10_string_69 (by decide) ⟨by omega, by omega⟩ ⟨by omega, by omega⟩ (fun c_68 => ?_) (fun c_68 => ?_)
          · skip
            have hyn : ¬ stB n.toNat a = true := fun q => c_68 (hse.mp q).1
            refine lv_iconst (v := zI 0) C0.1 C0.2.1 dX10_string_87 rfl ?_
            refine z_iadd C0.1 C0.2.1 dX10_string_88 ?_
            refine z_asI (a := ((((cntB (stB n.toNat) a : Nat) : Int)) + (0))) (b := ((cntB (stB n.toNat) (a + 1) : Nat) : Int)) (by rw [hcs]; first | (rw [if_pos hyn]; omega) | (rw [if_neg hyn]; omega)) ?_
            refine lv_istore_n (lv' := [(2, .int (zI (((cntB (stB n.toNat) (a + 1) : Nat) : Int)))), (9, .long (zL ((2 * (n - (a : Int)))))), (7, .long (zL (u9))), (0, .ref (h)), (1, .int (zI (n))), (3, .long (zL (n))), (5, .long (zL ((a : Int))))]) C0.1 C0.2.1 dX10_string_89 rfl hl (by decide) rfl (fun ls hl => ?_)
            refine lv_lload C0.1 C0.2.1 dX10_string_90 (lv_at hl 6 rfl) ?_
            refine lv_lconst (v := zL 1) C0.1 C0.2.1 dX10_string_92 rfl ?_
            refine z_ladd C0.1 C0.2.1 dX10_string_93 ?_
            refine z_asL (a := (((a : Int)) + (1))) (b := ((a + 1 : Nat) : Int)) (by omega) ?_
            refine lv_lstore (lv' := [(5, .long (zL (((a + 1 : Nat) : Int)))), (2, .int (zI (((cntB (stB n.toNat) (a + 1) : Nat) : Int)))), (9, .long (zL ((2 * (n - (a : Int)))))), (7, .long (zL (u9))), (0, .ref (h)), (1, .int (zI (n))), (3, .long (zL (n)))]) C0.1 C0.2.1 dX10_string_94 hl (by decide) rfl (fun ls hl => ?_)
            refine lv_goto (tgt := 22) C0.1 C0.2.1 dX10_string_96 (by decide) ?_
            exact ih22  (a + 1) _ _ _ (by omega) (by omega)  (by omega) hM hS (lv_sub hl [4, 5, 1, 6, 0] rfl)
          · skip
            refine lv_lload C0.1 C0.2.1 dX10_string_72 (lv_at hl 1 rfl) ?_
            refine lv_lload C0.1 C0.2.1 dX10_string_74 (lv_at hl 0 rfl) ?_
            refine z_ldivp C0.1 C0.2.1 dX10_string_76 ⟨by omega, by omega⟩ ⟨by omega, by omega⟩ (by omega) (by omega) ?_
            refine lv_lload C0.1 C0.2.1 dX10_string_77 (lv_at hl 6 rfl) ?_
            refine z_lcmp_le (tgt := 87) C0.1 C0.2.1 dX10_string_79 dX10_string_80 (by decide) ⟨by omega, by omega⟩ ⟨by omega, by omega⟩ (fun c_79 => ?_) (fun c_79 => ?_)
            · skip
              have hyn : ¬ stB n.toNat a = true := fun q => by have := (hse.mp q).2; omega
              refine lv_iconst (v := zI 0) C0.1 C0.2.1 dX10_string_87 rfl ?_
              refine z_iadd C0.1 C0.2.1 dX10_string_88 ?_
              refine z_asI (a := ((((cntB (stB n.toNat) a : Nat) : Int)) + (0))) (b := ((cntB (stB n.toNat) (a + 1) : Nat) : Int)) (by rw [hcs]; first | (rw [if_pos hyn]; omega) | (rw [if_neg hyn]; omega)) ?_
              refine lv_istore_n (lv' := [(2, .int (zI (((cntB (stB n.toNat) (a + 1) : Nat) : Int)))), (9, .long (zL ((2 * (n - (a : Int)))))), (7, .long (zL (u9))), (0, .ref (h)), (1, .int (zI (n))), (3, .long (zL (n))), (5, .long (zL ((a : Int))))]) C0.1 C0.2.1 dX10_string_89 rfl hl (by decide) rfl (fun ls hl => ?_)
              refine lv_lload C0.1 C0.2.1 dX10_string_90 (lv_at hl 6 rfl) ?_
              refine lv_lconst (v := zL 1) C0.1 C0.2.1 dX10_string_92 rfl ?_
              refine z_ladd C0.1 C0.2.1 dX10_string_93 ?_
              refine z_asL (a := (((a : Int)) + (1))) (b := ((a + 1 : Nat) : Int)) (by omega) ?_
              refine lv_lstore (lv' := [(5, .long (zL (((a + 1 : Nat) : Int)))), (2, .int (zI (((cntB (stB n.toNat) (a + 1) : Nat) : Int)))), (9, .long (zL ((2 * (n - (a : Int)))))), (7, .long (zL (u9))), (0, .ref (h)), (1, .int (zI (n))), (3, .long (zL (n)))]) C0.1 C0.2.1 dX10_string_94 hl (by decide) rfl (fun ls hl => ?_)
              refine lv_goto (tgt := 22) C0.1 C0.2.1 dX10_string_96 (by decide) ?_
              exact ih22  (a + 1) _ _ _ (by omega) (by omega)  (by omega) hM hS (lv_sub hl [4, 5, 1, 6, 0] rfl)
            · skip
              have hyn : stB n.toNat a = true := hse.mpr ⟨c_68, c_79⟩
              refine lv_iconst (v := zI 1) C0.1 C0.2.1 dX10_string_83 rfl ?_
              refine lv_goto (tgt := 88) C0.1 C0.2.1 dX10_string_84 (by decide) ?_
              refine z_iadd C0.1 C0.2.1 dX10_string_88 ?_
              refine z_asI (a := ((((cntB (stB n.toNat) a : Nat) : Int)) + (1))) (b := ((cntB (stB n.toNat) (a + 1) : Nat) : Int)) (by rw [hcs]; first | (rw [if_pos hyn]; omega) | (rw [if_neg hyn]; omega)) ?_
              refine lv_istore_n (lv' := [(2, .int (zI (((cntB (stB n.toNat) (a + 1) : Nat) : Int)))), (9, .long (zL ((2 * (n - (a : Int)))))), (7, .long (zL (u9))), (0, .ref (h)), (1, .int (zI (n))), (3, .long (zL (n))), (5, .long (zL ((a : Int))))]) C0.1 C0.2.1 dX10_string_89 rfl hl (by decide) rfl (fun ls hl => ?_)
              refine lv_lload C0.1 C0.2.1 dX10_string_90 (lv_at hl 6 rfl) ?_
              refine lv_lconst (v := zL 1) C0.1 C0.2.1 dX10_string_92 rfl ?_
              refine z_ladd C0.1 C0.2.1 dX10_string_93 ?_
              refine z_asL (a := (((a : Int)) + (1))) (b := ((a + 1 : Nat) : Int)) (by omega) ?_
              refine lv_lstore (lv' := [(5, .long (zL (((a + 1 : Nat) : Int)))), (2, .int (zI (((cntB (stB n.toNat) (a + 1) : Nat) : Int)))), (9, .long (zL ((2 * (n - (a : Int)))))), (7, .long (zL (u9))), (0, .ref (h)), (1, .int (zI (n))), (3, .long (zL (n)))]) C0.1 C0.2.1 dX10_string_94 hl (by decide) rfl (fun ls hl => ?_)
              refine lv_goto (tgt := 22) C0.1 C0.2.1 dX10_string_96 (by decide) ?_
              exact ih22  (a + 1) _ _ _ (by omega) (by omega)  (by omega) hM hS (lv_sub hl [4, 5, 1, 6, 0] rfl)
    exact L22 (_ + 1) 1 _ _ _ (Nat.le_refl _) (Or.inr rfl)  (Nat.lt_succ_self _) hM hS (lv_sub hl [3, 4, 2, 1, 0] rfl)
  · skip
    refine lv_iconst (v := zI (-1)) C0.1 C0.2.1 dX10_string_12 rfl ?_
    exact mm_iret (z := (-1)) C0 hr hlk hM hS dX10_string_13 (by have he : pf_string S n = ((-1), S) := (by unfold pf_string; rw [if_neg (by omega)]); rw [he]; exact ⟨rfl, hX0.rf, fun _ _ => rfl⟩)
