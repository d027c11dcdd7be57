def rX10_multiply : Room := { frames := 1, cells := 0, slots := 0, locals := 22 }
theorem vw_X10_multiply : mm_Vw RX10 yX10_multiply cX10_multiply 10 none 3 := ⟨tw_1083, tp_31, tw_10, tw_1084, by decide +kernel⟩
set_option maxHeartbeats 4000000 in
set_option maxRecDepth 100000 in
theorem c_X10_multiply (l : Launch) (G : mG) (E0 : mE) {h : Nat} {x1 x2 x3 x4 x5 x6 x7 x8 : Int} (hO : ro G E0 h x1 x2 x3 x4 x5 x6 x7 x8) {R : Nat → Nat} (hR : rg G E0 h R) {i : Int} {t : Nat} (hi : i = (t : Int)) (ht : t < 16) {j : Int} {a A : Nat} (hj : j = (a : Int)) (ha : a < 16) (hA : R a = A) {jj : Int} {b B : Nat} (hjj : jj = (b : Int)) (hb : b < 16) (hB : R b = B) (hta : a ≠ t) (htb : b ≠ t) (hs : nl (A * B) ≤ 80) : mm_Cv l yX10_multiply (.code yX10_multiply cX10_multiply 10 none :: wsG) rX10_multiply G [.ref (h), .int (zI (i)), .int (zI (j)), .int (zI (jj))] E0 (fun E => (∃ R1, rg G E h R1 ∧ R1 t = (A * B) ∧ ∀ r, r ≠ t → R1 r = R r) ∧ ∀ q : Nat, (q ≠ h + 1) → E q = E0 q) := by
  refine mm_of_v (by decide +kernel) (Nat.le_of_ble_eq_true rfl) ?_
  intro p e s m args below meth c ls C0 hr hlk hM hl hS
  have hl : lv_has ls 10 [(0, .ref (h)), (1, .int (zI (i))), (2, .int (zI (j))), (3, .int (zI (jj)))] := hl
  have hfr : ∀ q : Nat, (q ≠ h + 1) → E0 q = E0 q := fun _ _ => rfl
  have hnA : nl A ≤ 80 := hA ▸ hR.1 a ha
  have hnB : nl B ≤ 80 := hB ▸ hR.1 b hb
  have hR0 := hR
  refine lv_aload_n C0.1 C0.2.1 dX10_multiply_0 rfl (lv_at hl 0 rfl) ?_
  refine lv_iload_n C0.1 C0.2.1 dX10_multiply_1 rfl (lv_at hl 2 rfl) ?_
  refine mm_callVi (As := [.int (zI (j))]) C0 vw_X10_sizeOf tw_997 (c_X10_sizeOf l G _ hO hR0 hj ha hA) hM (hO) rfl rfl hl.1 rfl (Nat.le_of_ble_eq_true rfl) ⟨rfl, rfl, Nat.le_of_ble_eq_true rfl, Nat.le_of_ble_eq_true rfl, Nat.zero_le _, Nat.zero_le _⟩ dX10_multiply_2 hS (fun z_2 E1 H locs hp hM hS => ?_)
  obtain ⟨hz_2, hEq⟩ := hp
  rw [hEq] at hM
  refine z_asI (b := (nl A : Int)) (hz_2) ?_
  refine lv_istore (lv' := [(4, .int (zI ((nl A : Int)))), (0, .ref (h)), (1, .int (zI (i))), (2, .int (zI (j))), (3, .int (zI (jj)))]) C0.1 C0.2.1 dX10_multiply_5 hl (by decide) rfl (fun ls hl => ?_)
  refine lv_aload_n C0.1 C0.2.1 dX10_multiply_7 rfl (lv_at hl 1 rfl) ?_
  refine lv_iload_n C0.1 C0.2.1 dX10_multiply_8 rfl (lv_at hl 4 rfl) ?_
  refine mm_callVi (As := [.int (zI (jj))]) C0 vw_X10_sizeOf tw_997 (c_X10_sizeOf l G _ hO hR0 hjj hb hB) hM (hO) rfl rfl hl.1 rfl (Nat.le_of_ble_eq_true rfl) ⟨rfl, rfl, Nat.le_of_ble_eq_true rfl, Nat.le_of_ble_eq_true rfl, Nat.zero_le _, Nat.zero_le _⟩ dX10_multiply_9 hS (fun z_9 E2 H locs hp hM hS => ?_)
  obtain ⟨hz_9, hEq⟩ := hp
  rw [hEq] at hM
  refine z_asI (b := (nl B : Int)) (hz_9) ?_
  have hU := hR0.F t
  refine lv_istore (lv' := [(5, .int (zI ((nl B : Int)))), (4, .int (zI ((nl A : Int)))), (0, .ref (h)), (1, .int (zI (i))), (2, .int (zI (j))), (3, .int (zI (jj)))]) C0.1 C0.2.1 dX10_multiply_12 hl (by decide) rfl (fun ls hl => ?_)
  refine lv_iconst (v := zI 0) C0.1 C0.2.1 dX10_multiply_14 rfl ?_
  refine lv_istore (lv' := [(6, .int (zI (0))), (5, .int (zI ((nl B : Int)))), (4, .int (zI ((nl A : Int)))), (0, .ref (h)), (1, .int (zI (i))), (2, .int (zI (j))), (3, .int (zI (jj)))]) C0.1 C0.2.1 dX10_multiply_15 hl (by decide) rfl (fun ls hl => ?_)
  have L17 : ∀ (k17 : Nat) (k : Nat) (f : Nat → Nat) (E3 : mE) (H : Heap) (locs : List Loc) (ls : Array Slot), (k ≤ 80) → (∀ x, x < k → f x = 0) → (ro G E3 h x1 x2 x3 x4 x5 x6 x7 x8) → (rgF G E3 h R t f) → (∀ q : Nat, (q ≠ h + 1) → E3 q = E0 q) → 80 - k < k17 → mm_M G E3 H → va_S (mm_A G) s.heap H locs → lv_has ls 10 [(0, .ref (h)), (1, .int (zI (i))), (2, .int (zI (j))), (3, .int (zI (jj))), (4, .int (zI ((nl A : Int)))), (5, .int (zI ((nl B : Int)))), (6, .int (zI ((k : Int))))] → W p l e rX10_multiply s m args below meth c H locs 0 0 (mm_Zv G below args s (fun E => (∃ R1, rg G E h R1 ∧ R1 t = (A * B) ∧ ∀ r, r ≠ t → R1 r = R r) ∧ ∀ q : Nat, (q ≠ h + 1) → E q = E0 q)) (F0 m 17 ls []) := by
    intro k17
    induction k17 with
    | zero => intro k f E3 H locs ls hk9 hf hO hU hfr hk hM hS hl; exact absurd hk (Nat.not_lt_zero _)
    | succ k17 ih17 =>
      intro k f E3 H locs ls hk9 hf hO hU hfr hk17 hM hS hl
      obtain ⟨hB9, g, hg, hP9⟩ := id hU
      refine lv_iload C0.1 C0.2.1 dX10_multiply_17 (lv_at hl 6 rfl) ?_
      refine lv_bipush (v := zI 80) C0.1 C0.2.1 dX10_multiply_19 rfl ?_
      refine z_icmp_ge (tgt := 43) C0.1 C0.2.1 dX10_multiply_21 (by decide) ⟨by omega, by omega⟩ ⟨by omega, by omega⟩ (fun c_21 => ?_) (fun c_21 => ?_)
      · skip
        refine lv_iconst (v := zI 0) C0.1 C0.2.1 dX10_multiply_43 rfl ?_
        refine lv_istore (lv' := [(6, .int (zI (0))), (0, .ref (h)), (1, .int (zI (i))), (2, .int (zI (j))), (3, .int (zI (jj))), (4, .int (zI ((nl A : Int)))), (5, .int (zI ((nl B : Int))))]) C0.1 C0.2.1 dX10_multiply_44 hl (by decide) rfl (fun ls hl => ?_)
        have L46 : ∀ (k46 : Nat) (u : Nat) (f : Nat → Nat) (E4 : mE) (H : Heap) (locs : List Loc) (ls : Array Slot), (u ≤ nl A) → (∀ x, x < 80 → f x = dg (A % 1000000000 ^ u * B) x) → (ro G E4 h x1 x2 x3 x4 x5 x6 x7 x8) → (rgF G E4 h R t f) → (∀ q : Nat, (q ≠ h + 1) → E4 q = E0 q) → nl A - u < k46 → mm_M G E4 H → va_S (mm_A G) s.heap H locs → lv_has ls 10 [(0, .ref (h)), (1, .int (zI (i))), (2, .int (zI (j))), (3, .int (zI (jj))), (4, .int (zI ((nl A : Int)))), (5, .int (zI ((nl B : Int)))), (6, .int (zI ((u : Int))))] → W p l e rX10_multiply s m args below meth c H locs 0 0 (mm_Zv G below args s (fun E => (∃ R1, rg G E h R1 ∧ R1 t = (A * B) ∧ ∀ r, r ≠ t → R1 r = R r) ∧ ∀ q : Nat, (q ≠ h + 1) → E q = E0 q)) (F0 m 46 ls []) := by
          intro k46
          induction k46 with
          | zero => intro u f E4 H locs ls hu hf hO hU hfr hk hM hS hl; exact absurd hk (Nat.not_lt_zero _)
          | succ k46 ih46 =>
            intro u f E4 H locs ls hu hf hO hU hfr hk46 hM hS hl
            have hx9 := dg_lt A u
            obtain ⟨T9, hT9⟩ : ∃ T, T = A % 1000000000 ^ u * B := ⟨_, rfl⟩
            obtain ⟨T8, hT8⟩ : ∃ T, T = A % 1000000000 ^ (u + 1) * B := ⟨_, rfl⟩
            have hT2 : hid (T8 = T9 + dg A u * B * 1000000000 ^ u) := by rw [hT8, hT9]; exact ml_0
            rw [← hT9] at hf
            have hT9h : hid (T9 = A % 1000000000 ^ u * B) := hT9
            have hT8h : hid (T8 = A % 1000000000 ^ (u + 1) * B) := hT8
            clear hT8 hT9
            refine lv_iload C0.1 C0.2.1 dX10_multiply_46 (lv_at hl 6 rfl) ?_
            refine lv_iload C0.1 C0.2.1 dX10_multiply_48 (lv_at hl 4 rfl) ?_
            refine z_icmp_ge (tgt := 185) C0.1 C0.2.1 dX10_multiply_50 (by decide) ⟨by omega, by omega⟩ ⟨by omega, by omega⟩ (fun c_50 => ?_) (fun c_50 => ?_)
            · skip
              have hun : u = nl A := by omega
              rw [show T9 = A * B from (by have h9 : T9 = _ := hT9h; rw [h9, hun, Nat.mod_eq_of_lt (nl_self A)])] at hf
              exact mm_vret C0 hr hlk hM hS dX10_multiply_185 (⟨rgF.done hU (hs) (hf), hfr⟩)
            · skip
              refine lv_lconst (v := zL 0) C0.1 C0.2.1 dX10_multiply_53 rfl ?_
              refine lv_lstore (lv' := [(7, .long (zL (0))), (0, .ref (h)), (1, .int (zI (i))), (2, .int (zI (j))), (3, .int (zI (jj))), (4, .int (zI ((nl A : Int)))), (5, .int (zI ((nl B : Int)))), (6, .int (zI ((u : Int))))]) C0.1 C0.2.1 dX10_multiply_54 hl (by decide) rfl (fun ls hl => ?_)
              refine lv_iconst (v := zI 0) C0.1 C0.2.1 dX10_multiply_56 rfl ?_
              refine lv_istore (lv' := [(9, .int (zI (0))), (7, .long (zL (0))), (0, .ref (h)), (1, .int (zI (i))), (2, .int (zI (j))), (3, .int (zI (jj))), (4, .int (zI ((nl A : Int)))), (5, .int (zI ((nl B : Int)))), (6, .int (zI ((u : Int))))]) C0.1 C0.2.1 dX10_multiply_57 hl (by decide) rfl (fun ls hl => ?_)
              have L59 : ∀ (k59 : Nat) (y cy : Nat) (f : Nat → Nat) (E5 : mE) (H : Heap) (locs : List Loc) (ls : Array Slot), (u + y ≤ 80) → (cy < 1000000000) → (∀ x, x < u + y → f x = dg T8 x) → (∀ x, u + y ≤ x → x < 80 → f x = dg T9 x) → (qt T8 (u + y) = qt T9 (u + y) + dg A u * qt B y + cy) → (ro G E5 h x1 x2 x3 x4 x5 x6 x7 x8) → (rgF G E5 h R t f) → (∀ q : Nat, (q ≠ h + 1) → E5 q = E0 q) → 80 - (u + y) < k59 → mm_M G E5 H → va_S (mm_A G) s.heap H locs → lv_has ls 10 [(0, .ref (h)), (1, .int (zI (i))), (2, .int (zI (j))), (3, .int (zI (jj))), (4, .int (zI ((nl A : Int)))), (5, .int (zI ((nl B : Int)))), (6, .int (zI ((u : Int)))), (7, .long (zL ((cy : Int)))), (9, .int (zI ((y : Int))))] → W p l e rX10_multiply s m args below meth c H locs 0 0 (mm_Zv G below args s (fun E => (∃ R1, rg G E h R1 ∧ R1 t = (A * B) ∧ ∀ r, r ≠ t → R1 r = R r) ∧ ∀ q : Nat, (q ≠ h + 1) → E q = E0 q)) (F0 m 59 ls []) := by
                intro k59
                induction k59 with
                | zero => intro y cy f E5 H locs ls hy hc hf hf2 hq hO hU hfr hk hM hS hl; exact absurd hk (Nat.not_lt_zero _)
                | succ k59 ih59 =>
                  intro y cy f E5 H locs ls hy hc hf hf2 hq hO hU hfr hk59 hM hS hl
                  obtain ⟨hB9, g, hg, hP9⟩ := id hU
                  have hd1 := dg_lt T9 (u + y)
                  have hd2 := dg_lt B y
                  have hs3 := qt_s T8 (u + y)
                  have hq3 := dg_qt T8 (u + y)
                  obtain ⟨hm1, hm2⟩ := qt_mul2 (T := T9) (B := B) (x := dg A u) (c := cy) (k := u + y) (j := y)
                  have hpm : dg A u * dg B y ≤ 999999999 * 999999999 := Nat.mul_le_mul (by omega) (by omega)
                  obtain ⟨p9, hp9⟩ : ∃ p, p = dg A u * dg B y := ⟨_, rfl⟩
                  rw [← hp9] at hm1 hm2 hpm
                  rw [← hq] at hm1 hm2
                  refine lv_iload C0.1 C0.2.1 dX10_multiply_59 (lv_at hl 6 rfl) ?_
                  refine lv_iload C0.1 C0.2.1 dX10_multiply_61 (lv_at hl 8 rfl) ?_
                  refine z_iadd C0.1 C0.2.1 dX10_multiply_63 ?_
                  refine lv_bipush (v := zI 80) C0.1 C0.2.1 dX10_multiply_64 rfl ?_
                  refine z_icmp_ge (tgt := 179) C0.1 C0.2.1 dX10_multiply_66 (by decide) ⟨by omega, by omega⟩ ⟨by omega, by omega⟩ (fun c_66 => ?_) (fun c_66 => ?_)
                  · skip
                    have hend : ∀ x, x < 80 → f x = dg T8 x := fun x hx => hf x (by omega)
                    refine lv_iinc (v := zI (((u + 1 : Nat) : Int))) (lv' := [(6, .int (zI (((u + 1 : Nat) : Int)))), (0, .ref (h)), (1, .int (zI (i))), (2, .int (zI (j))), (3, .int (zI (jj))), (4, .int (zI ((nl A : Int)))), (5, .int (zI ((nl B : Int)))), (7, .long (zL ((cy : Int)))), (9, .int (zI ((y : Int))))]) C0.1 C0.2.1 dX10_multiply_179 hl (k := 6) rfl (z_inc (a := (u : Int)) (n := 1) (by omega)) (by decide) rfl (fun ls hl => ?_)
                    refine lv_goto (tgt := 46) C0.1 C0.2.1 dX10_multiply_182 (by decide) ?_
                    exact ih46  (u + 1) f E5 _ _ _ (by omega) (fun x hx => by have h9 : T8 = _ := hT8h; rw [← h9]; exact hend x hx) (hO) (hU) (hfr) (by omega) hM hS (lv_sub hl [1, 2, 3, 4, 5, 6, 0] rfl)
                  · skip
                    refine lv_iload C0.1 C0.2.1 dX10_multiply_69 (lv_at hl 8 rfl) ?_
                    refine lv_iload C0.1 C0.2.1 dX10_multiply_71 (lv_at hl 5 rfl) ?_
                    refine z_icmp_lt (tgt := 83) C0.1 C0.2.1 dX10_multiply_73 (by decide) ⟨by omega, by omega⟩ ⟨by omega, by omega⟩ (fun c_73 => ?_) (fun c_73 => ?_)
                    · skip
                      refine lv_lload C0.1 C0.2.1 dX10_multiply_83 (lv_at hl 7 rfl) ?_
                      refine lv_aload_n C0.1 C0.2.1 dX10_multiply_85 rfl (lv_at hl 0 rfl) ?_
                      refine mm_get (fs := [.ref (h + 1), .ref (h + 2), .ref (h + 3), .ref (h + 4), .int (zI (x1)), .int (zI (x2)), .long (zL (x3)), .ref (h + 5), .ref (h + 6), .ref (h + 7), .ref (h + 8), .int (zI (x4)), .int (zI (x5)), .int (zI (x6)), .int (zI (x7)), .int (zI (x8)), .ref (h + 9), .ref (h + 10), .ref (h + 11), .ref (h + 12)]) C0 (C := RX10) (T := TX10) (N := 20) iG_X10 hM (hO) rfl 0 (by decide) tw_916 rfl rfl dX10_multiply_86 ?_
                      refine lv_bipush (v := zI 80) C0.1 C0.2.1 dX10_multiply_89 rfl ?_
                      refine lv_iload_n C0.1 C0.2.1 dX10_multiply_91 rfl (lv_at hl 1 rfl) ?_
                      refine z_imul C0.1 C0.2.1 dX10_multiply_92 ?_
                      refine lv_iload C0.1 C0.2.1 dX10_multiply_93 (lv_at hl 6 rfl) ?_
                      refine z_iadd C0.1 C0.2.1 dX10_multiply_95 ?_
                      refine lv_iload C0.1 C0.2.1 dX10_multiply_96 (lv_at hl 8 rfl) ?_
                      refine z_iadd C0.1 C0.2.1 dX10_multiply_98 ?_
                      refine mm_iald C0 hM (g := g) (hg) (80 * t + (u + y)) (i := ((((((80) * (i))) + ((u : Int)))) + ((y : Int)))) (by omega) (by omega) (by decide) dX10_multiply_99 ?_
                      refine z_asI (b := (dg T9 (u + y) : Int)) ((hP9.rt (by omega) (by omega)).trans (by rw [hf2 (u + y) (Nat.le_refl _) (by omega)])) ?_
                      refine z_i2l C0.1 C0.2.1 dX10_multiply_100 ⟨by omega, by omega⟩ ?_
                      refine lv_iload C0.1 C0.2.1 dX10_multiply_101 (lv_at hl 8 rfl) ?_
                      refine lv_iload C0.1 C0.2.1 dX10_multiply_103 (lv_at hl 5 rfl) ?_
                      refine z_icmp_ge (tgt := 138) C0.1 C0.2.1 dX10_multiply_105 (by decide) ⟨by omega, by omega⟩ ⟨by omega, by omega⟩ (fun c_105 => ?_) (fun c_105 => ?_)
                      · skip
                        have hp0 : p9 = 0 := by rw [hp9, dg_hi (N := B) (j := y) (by omega), Nat.mul_zero]
                        refine lv_lconst (v := zL 0) C0.1 C0.2.1 dX10_multiply_138 rfl ?_
                        refine z_ladd C0.1 C0.2.1 dX10_multiply_139 ?_
                        refine z_ladd C0.1 C0.2.1 dX10_multiply_140 ?_
                        refine z_asL (a := (((cy : Int)) + ((((dg T9 (u + y) : Int)) + (0))))) (b := ((dg T9 (u + y) + p9 + cy : Nat) : Int)) (by omega) ?_
                        refine lv_lstore (lv' := [(7, .long (zL (((dg T9 (u + y) + p9 + cy : Nat) : Int)))), (0, .ref (h)), (1, .int (zI (i))), (2, .int (zI (j))), (3, .int (zI (jj))), (4, .int (zI ((nl A : Int)))), (5, .int (zI ((nl B : Int)))), (6, .int (zI ((u : Int)))), (9, .int (zI ((y : Int))))]) C0.1 C0.2.1 dX10_multiply_141 hl (by decide) rfl (fun ls hl => ?_)
                        refine lv_aload_n C0.1 C0.2.1 dX10_multiply_143 rfl (lv_at hl 1 rfl) ?_
                        refine mm_get (fs := [.ref (h + 1), .ref (h + 2), .ref (h + 3), .ref (h + 4), .int (zI (x1)), .int (zI (x2)), .long (zL (x3)), .ref (h + 5), .ref (h + 6), .ref (h + 7), .ref (h + 8), .int (zI (x4)), .int (zI (x5)), .int (zI (x6)), .int (zI (x7)), .int (zI (x8)), .ref (h + 9), .ref (h + 10), .ref (h + 11), .ref (h + 12)]) C0 (C := RX10) (T := TX10) (N := 20) iG_X10 hM (hO) rfl 0 (by decide) tw_916 rfl rfl dX10_multiply_144 ?_
                        refine lv_bipush (v := zI 80) C0.1 C0.2.1 dX10_multiply_147 rfl ?_
                        refine lv_iload_n C0.1 C0.2.1 dX10_multiply_149 rfl (lv_at hl 2 rfl) ?_
                        refine z_imul C0.1 C0.2.1 dX10_multiply_150 ?_
                        refine lv_iload C0.1 C0.2.1 dX10_multiply_151 (lv_at hl 7 rfl) ?_
                        refine z_iadd C0.1 C0.2.1 dX10_multiply_153 ?_
                        refine lv_iload C0.1 C0.2.1 dX10_multiply_154 (lv_at hl 8 rfl) ?_
                        refine z_iadd C0.1 C0.2.1 dX10_multiply_156 ?_
                        refine lv_lload C0.1 C0.2.1 dX10_multiply_157 (lv_at hl 0 rfl) ?_
                        refine mm_ldc2 (z := 1000000000) C0 tw_992 rfl dX10_multiply_159 ?_
                        refine z_lremp C0.1 C0.2.1 dX10_multiply_162 ⟨by omega, by omega⟩ ⟨by omega, by omega⟩ (by omega) (by omega) ?_
                        refine z_l2i C0.1 C0.2.1 dX10_multiply_163 ?_
                        refine z_asI (a := ((((dg T9 (u + y) + p9 + cy : Nat) : Int)) % (1000000000))) (b := (dg T8 (u + y) : Int)) (by omega) ?_
                        refine mm_iast C0 hM hS (g := g) (hg) (80 * t + (u + y)) (i := ((((((80) * (i))) + ((u : Int)))) + ((y : Int)))) (x := (dg T8 (u + y) : Int)) (by omega) (by omega) (by decide) dX10_multiply_164 (fun H locs hM hS hsz => ?_)
                        obtain ⟨E6, hE6⟩ : ∃ X : mE, X = mm_up E5 (h + 1) (mm_I G 1280 (zup (g) (80 * t + (u + y)) ((dg T8 (u + y) : Int)))) := ⟨_, rfl⟩
                        replace hM : mm_M G E6 H := by rw [hE6]; exact hM
                        have frs : ∀ q : Nat, q ≠ h + 1 → E6 q = E5 q := fun q h => by rw [hE6]; exact mm_up_n _ _ h
                        have hat : E6 (h + 1) = some (mm_I G 1280 (zup (g) (80 * t + (u + y)) ((dg T8 (u + y) : Int)))) := by rw [hE6]; exact mm_up_s _ _ _
                        have hU : rgF G E6 h R t (nup f (u + y) (dg T8 (u + y))) := ⟨hB9, _, hat, hP9.st (by omega)⟩
                        have hO := ro.kept hO (frs _ (by omega))
                        have hfr := (fun q h => (frs q (by omega)).trans (hfr q h) : ∀ q : Nat, (q ≠ h + 1) → E6 q = E0 q)
                        refine lv_lload C0.1 C0.2.1 dX10_multiply_165 (lv_at hl 0 rfl) ?_
                        refine mm_ldc2 (z := 1000000000) C0 tw_992 rfl dX10_multiply_167 ?_
                        refine z_ldivp C0.1 C0.2.1 dX10_multiply_170 ⟨by omega, by omega⟩ ⟨by omega, by omega⟩ (by omega) (by omega) ?_
                        refine z_asL (a := ((((dg T9 (u + y) + p9 + cy : Nat) : Int)) / (1000000000))) (b := (((dg T9 (u + y) + p9 + cy) / 1000000000 : Nat) : Int)) (by omega) ?_
                        refine lv_lstore (lv' := [(7, .long (zL ((((dg T9 (u + y) + p9 + cy) / 1000000000 : Nat) : Int)))), (0, .ref (h)), (1, .int (zI (i))), (2, .int (zI (j))), (3, .int (zI (jj))), (4, .int (zI ((nl A : Int)))), (5, .int (zI ((nl B : Int)))), (6, .int (zI ((u : Int)))), (9, .int (zI ((y : Int))))]) C0.1 C0.2.1 dX10_multiply_171 hl (by decide) rfl (fun ls hl => ?_)
                        refine lv_iinc (v := zI (((y + 1 : Nat) : Int))) (lv' := [(9, .int (zI (((y + 1 : Nat) : Int)))), (7, .long (zL ((((dg T9 (u + y) + p9 + cy) / 1000000000 : Nat) : Int)))), (0, .ref (h)), (1, .int (zI (i))), (2, .int (zI (j))), (3, .int (zI (jj))), (4, .int (zI ((nl A : Int)))), (5, .int (zI ((nl B : Int)))), (6, .int (zI ((u : Int))))]) C0.1 C0.2.1 dX10_multiply_173 hl (k := 8) rfl (z_inc (a := (y : Int)) (n := 1) (by omega)) (by decide) rfl (fun ls hl => ?_)
                        refine lv_goto (tgt := 59) C0.1 C0.2.1 dX10_multiply_176 (by decide) ?_
                        exact ih59  (y + 1) ((dg T9 (u + y) + p9 + cy) / 1000000000) (nup f (u + y) (dg T8 (u + y))) E6 _ _ _ (by omega) (by omega) (fun x hx => if q : x = u + y then (by subst q; exact nup_s _ _ _) else (by rw [nup_n _ _ q]; exact hf x (by omega))) (fun x h1 h2 => by rw [nup_n _ _ (by omega)]; exact hf2 x (by omega) h2) (by rw [← Nat.add_assoc, hs3, hm1]) (hO) (hU) (hfr) (by omega) hM hS (lv_sub hl [2, 3, 4, 5, 6, 7, 8, 1, 0] rfl)
                      · skip
                        refine lv_aload_n C0.1 C0.2.1 dX10_multiply_108 rfl (lv_at hl 0 rfl) ?_
                        refine mm_get (fs := [.ref (h + 1), .ref (h + 2), .ref (h + 3), .ref (h + 4), .int (zI (x1)), .int (zI (x2)), .long (zL (x3)), .ref (h + 5), .ref (h + 6), .ref (h + 7), .ref (h + 8), .int (zI (x4)), .int (zI (x5)), .int (zI (x6)), .int (zI (x7)), .int (zI (x8)), .ref (h + 9), .ref (h + 10), .ref (h + 11), .ref (h + 12)]) C0 (C := RX10) (T := TX10) (N := 20) iG_X10 hM (hO) rfl 0 (by decide) tw_916 rfl rfl dX10_multiply_109 ?_
                        refine lv_bipush (v := zI 80) C0.1 C0.2.1 dX10_multiply_112 rfl ?_
                        refine lv_iload_n C0.1 C0.2.1 dX10_multiply_114 rfl (lv_at hl 2 rfl) ?_
                        refine z_imul C0.1 C0.2.1 dX10_multiply_115 ?_
                        refine lv_iload C0.1 C0.2.1 dX10_multiply_116 (lv_at hl 6 rfl) ?_
                        refine z_iadd C0.1 C0.2.1 dX10_multiply_118 ?_
                        refine mm_iald C0 hM (g := g) (hg) (80 * a + u) (i := ((((80) * (j))) + ((u : Int)))) (by omega) (by omega) (by decide) dX10_multiply_119 ?_
                        refine z_asI (b := (dg A u : Int)) (hP9.ro (by omega) (by omega) hA hta) ?_
                        refine z_i2l C0.1 C0.2.1 dX10_multiply_120 ⟨by omega, by omega⟩ ?_
                        refine lv_aload_n C0.1 C0.2.1 dX10_multiply_121 rfl (lv_at hl 0 rfl) ?_
                        refine mm_get (fs := [.ref (h + 1), .ref (h + 2), .ref (h + 3), .ref (h + 4), .int (zI (x1)), .int (zI (x2)), .long (zL (x3)), .ref (h + 5), .ref (h + 6), .ref (h + 7), .ref (h + 8), .int (zI (x4)), .int (zI (x5)), .int (zI (x6)), .int (zI (x7)), .int (zI (x8)), .ref (h + 9), .ref (h + 10), .ref (h + 11), .ref (h + 12)]) C0 (C := RX10) (T := TX10) (N := 20) iG_X10 hM (hO) rfl 0 (by decide) tw_916 rfl rfl dX10_multiply_122 ?_
                        refine lv_bipush (v := zI 80) C0.1 C0.2.1 dX10_multiply_125 rfl ?_
                        refine lv_iload_n C0.1 C0.2.1 dX10_multiply_127 rfl (lv_at hl 3 rfl) ?_
                        refine z_imul C0.1 C0.2.1 dX10_multiply_128 ?_
                        refine lv_iload C0.1 C0.2.1 dX10_multiply_129 (lv_at hl 8 rfl) ?_
                        refine z_iadd C0.1 C0.2.1 dX10_multiply_131 ?_
                        refine mm_iald C0 hM (g := g) (hg) (80 * b + y) (i := ((((80) * (jj))) + ((y : Int)))) (by omega) (by omega) (by decide) dX10_multiply_132 ?_
                        refine z_asI (b := (dg B y : Int)) (hP9.ro (by omega) (by omega) hB htb) ?_
                        refine z_i2l C0.1 C0.2.1 dX10_multiply_133 ⟨by omega, by omega⟩ ?_
                        refine z_lmul C0.1 C0.2.1 dX10_multiply_134 ?_
                        refine z_asL (a := (((dg A u : Int)) * ((dg B y : Int)))) (b := (p9 : Int)) (by rw [hp9]; exact (Int.natCast_mul _ _).symm) ?_
                        refine lv_goto (tgt := 139) C0.1 C0.2.1 dX10_multiply_135 (by decide) ?_
                        refine z_ladd C0.1 C0.2.1 dX10_multiply_139 ?_
                        refine z_ladd C0.1 C0.2.1 dX10_multiply_140 ?_
                        refine z_asL (a := (((cy : Int)) + ((((dg T9 (u + y) : Int)) + ((p9 : Int)))))) (b := ((dg T9 (u + y) + p9 + cy : Nat) : Int)) (by omega) ?_
                        refine lv_lstore (lv' := [(7, .long (zL (((dg T9 (u + y) + p9 + cy : Nat) : Int)))), (0, .ref (h)), (1, .int (zI (i))), (2, .int (zI (j))), (3, .int (zI (jj))), (4, .int (zI ((nl A : Int)))), (5, .int (zI ((nl B : Int)))), (6, .int (zI ((u : Int)))), (9, .int (zI ((y : Int))))]) C0.1 C0.2.1 dX10_multiply_141 hl (by decide) rfl (fun ls hl => ?_)
                        refine lv_aload_n C0.1 C0.2.1 dX10_multiply_143 rfl (lv_at hl 1 rfl) ?_
                        refine mm_get (fs := [.ref (h + 1), .ref (h + 2), .ref (h + 3), .ref (h + 4), .int (zI (x1)), .int (zI (x2)), .long (zL (x3)), .ref (h + 5), .ref (h + 6), .ref (h + 7), .ref (h + 8), .int (zI (x4)), .int (zI (x5)), .int (zI (x6)), .int (zI (x7)), .int (zI (x8)), .ref (h + 9), .ref (h + 10), .ref (h + 11), .ref (h + 12)]) C0 (C := RX10) (T := TX10) (N := 20) iG_X10 hM (hO) rfl 0 (by decide) tw_916 rfl rfl dX10_multiply_144 ?_
                        refine lv_bipush (v := zI 80) C0.1 C0.2.1 dX10_multiply_147 rfl ?_
                        refine lv_iload_n C0.1 C0.2.1 dX10_multiply_149 rfl (lv_at hl 2 rfl) ?_
                        refine z_imul C0.1 C0.2.1 dX10_multiply_150 ?_
                        refine lv_iload C0.1 C0.2.1 dX10_multiply_151 (lv_at hl 7 rfl) ?_
                        refine z_iadd C0.1 C0.2.1 dX10_multiply_153 ?_
                        refine lv_iload C0.1 C0.2.1 dX10_multiply_154 (lv_at hl 8 rfl) ?_
                        refine z_iadd C0.1 C0.2.1 dX10_multiply_156 ?_
                        refine lv_lload C0.1 C0.2.1 dX10_multiply_157 (lv_at hl 0 rfl) ?_
                        refine mm_ldc2 (z := 1000000000) C0 tw_992 rfl dX10_multiply_159 ?_
                        refine z_lremp C0.1 C0.2.1 dX10_multiply_162 ⟨by omega, by omega⟩ ⟨by omega, by omega⟩ (by omega) (by omega) ?_
                        refine z_l2i C0.1 C0.2.1 dX10_multiply_163 ?_
                        refine z_asI (a := ((((dg T9 (u + y) + p9 + cy : Nat) : Int)) % (1000000000))) (b := (dg T8 (u + y) : Int)) (by omega) ?_
                        refine mm_iast C0 hM hS (g := g) (hg) (80 * t + (u + y)) (i := ((((((80) * (i))) + ((u : Int)))) + ((y : Int)))) (x := (dg T8 (u + y) : Int)) (by omega) (by omega) (by decide) dX10_multiply_164 (fun H locs hM hS hsz => ?_)
                        obtain ⟨E7, hE7⟩ : ∃ X : mE, X = mm_up E5 (h + 1) (mm_I G 1280 (zup (g) (80 * t + (u + y)) ((dg T8 (u + y) : Int)))) := ⟨_, rfl⟩
                        replace hM : mm_M G E7 H := by rw [hE7]; exact hM
                        have frs : ∀ q : Nat, q ≠ h + 1 → E7 q = E5 q := fun q h => by rw [hE7]; exact mm_up_n _ _ h
                        have hat : E7 (h + 1) = some (mm_I G 1280 (zup (g) (80 * t + (u + y)) ((dg T8 (u + y) : Int)))) := by rw [hE7]; exact mm_up_s _ _ _
                        have hU : rgF G E7 h R t (nup f (u + y) (dg T8 (u + y))) := ⟨hB9, _, hat, hP9.st (by omega)⟩
                        have hO := ro.kept hO (frs _ (by omega))
                        have hfr := (fun q h => (frs q (by omega)).trans (hfr q h) : ∀ q : Nat, (q ≠ h + 1) → E7 q = E0 q)
                        refine lv_lload C0.1 C0.2.1 dX10_multiply_165 (lv_at hl 0 rfl) ?_
                        refine mm_ldc2 (z := 1000000000) C0 tw_992 rfl dX10_multiply_167 ?_
                        refine z_ldivp C0.1 C0.2.1 dX10_multiply_170 ⟨by omega, by omega⟩ ⟨by omega, by omega⟩ (by omega) (by omega) ?_
                        refine z_asL (a := ((((dg T9 (u + y) + p9 + cy : Nat) : Int)) / (1000000000))) (b := (((dg T9 (u + y) + p9 + cy) / 1000000000 : Nat) : Int)) (by omega) ?_
                        refine lv_lstore (lv' := [(7, .long (zL ((((dg T9 (u + y) + p9 + cy) / 1000000000 : Nat) : Int)))), (0, .ref (h)), (1, .int (zI (i))), (2, .int (zI (j))), (3, .int (zI (jj))), (4, .int (zI ((nl A : Int)))), (5, .int (zI ((nl B : Int)))), (6, .int (zI ((u : Int)))), (9, .int (zI ((y : Int))))]) C0.1 C0.2.1 dX10_multiply_171 hl (by decide) rfl (fun ls hl => ?_)
                        refine lv_iinc (v := zI (((y + 1 : Nat) : Int))) (lv' := [(9, .int (zI (((y + 1 : Nat) : Int)))), (7, .long (zL ((((dg T9 (u + y) + p9 + cy) / 1000000000 : Nat) : Int)))), (0, .ref (h)), (1, .int (zI (i))), (2, .int (zI (j))), (3, .int (zI (jj))), (4, .int (zI ((nl A : Int)))), (5, .int (zI ((nl B : Int)))), (6, .int (zI ((u : Int))))]) C0.1 C0.2.1 dX10_multiply_173 hl (k := 8) rfl (z_inc (a := (y : Int)) (n := 1) (by omega)) (by decide) rfl (fun ls hl => ?_)
                        refine lv_goto (tgt := 59) C0.1 C0.2.1 dX10_multiply_176 (by decide) ?_
                        exact ih59  (y + 1) ((dg T9 (u + y) + p9 + cy) / 1000000000) (nup f (u + y) (dg T8 (u + y))) E7 _ _ _ (by omega) (by omega) (fun x hx => if q : x = u + y then (by subst q; exact nup_s _ _ _) else (by rw [nup_n _ _ q]; exact hf x (by omega))) (fun x h1 h2 => by rw [nup_n _ _ (by omega)]; exact hf2 x (by omega) h2) (by rw [← Nat.add_assoc, hs3, hm1]) (hO) (hU) (hfr) (by omega) hM hS (lv_sub hl [2, 3, 4, 5, 6, 7, 8, 1, 0] rfl)
                    · skip
                      refine lv_lload C0.1 C0.2.1 dX10_multiply_76 (lv_at hl 7 rfl) ?_
                      refine lv_lconst (v := zL 0) C0.1 C0.2.1 dX10_multiply_78 rfl ?_
                      refine z_lcmp_le (tgt := 179) C0.1 C0.2.1 dX10_multiply_79 dX10_multiply_80 (by decide) ⟨by omega, by omega⟩ ⟨by omega, by omega⟩ (fun c_79 => ?_) (fun c_79 => ?_)
                      · skip
                        have hend : ∀ x, x < 80 → f x = dg T8 x := fun x hx => if q : x < u + y then hf x q else (by rw [hf2 x (by omega) hx]; exact (qt_dg (k := u + y) (by rw [hq, qt_z (N := B) (by omega), show cy = 0 by omega, Nat.mul_zero]; rfl) (by omega)).symm)
                        refine lv_iinc (v := zI (((u + 1 : Nat) : Int))) (lv' := [(6, .int (zI (((u + 1 : Nat) : Int)))), (0, .ref (h)), (1, .int (zI (i))), (2, .int (zI (j))), (3, .int (zI (jj))), (4, .int (zI ((nl A : Int)))), (5, .int (zI ((nl B : Int)))), (7, .long (zL ((cy : Int)))), (9, .int (zI ((y : Int))))]) C0.1 C0.2.1 dX10_multiply_179 hl (k := 6) rfl (z_inc (a := (u : Int)) (n := 1) (by omega)) (by decide) rfl (fun ls hl => ?_)
                        refine lv_goto (tgt := 46) C0.1 C0.2.1 dX10_multiply_182 (by decide) ?_
                        exact ih46  (u + 1) f E5 _ _ _ (by omega) (fun x hx => by have h9 : T8 = _ := hT8h; rw [← h9]; exact hend x hx) (hO) (hU) (hfr) (by omega) hM hS (lv_sub hl [1, 2, 3, 4, 5, 6, 0] rfl)
                      · skip
                        refine lv_lload C0.1 C0.2.1 dX10_multiply_83 (lv_at hl 7 rfl) ?_
                        refine lv_aload_n C0.1 C0.2.1 dX10_multiply_85 rfl (lv_at hl 0 rfl) ?_
                        refine mm_get (fs := [.ref (h + 1), .ref (h + 2), .ref (h + 3), .ref (h + 4), .int (zI (x1)), .int (zI (x2)), .long (zL (x3)), .ref (h + 5), .ref (h + 6), .ref (h + 7), .ref (h + 8), .int (zI (x4)), .int (zI (x5)), .int (zI (x6)), .int (zI (x7)), .int (zI (x8)), .ref (h + 9), .ref (h + 10), .ref (h + 11), .ref (h + 12)]) C0 (C := RX10) (T := TX10) (N := 20) iG_X10 hM (hO) rfl 0 (by decide) tw_916 rfl rfl dX10_multiply_86 ?_
                        refine lv_bipush (v := zI 80) C0.1 C0.2.1 dX10_multiply_89 rfl ?_
                        refine lv_iload_n C0.1 C0.2.1 dX10_multiply_91 rfl (lv_at hl 1 rfl) ?_
                        refine z_imul C0.1 C0.2.1 dX10_multiply_92 ?_
                        refine lv_iload C0.1 C0.2.1 dX10_multiply_93 (lv_at hl 6 rfl) ?_
                        refine z_iadd C0.1 C0.2.1 dX10_multiply_95 ?_
                        refine lv_iload C0.1 C0.2.1 dX10_multiply_96 (lv_at hl 8 rfl) ?_
                        refine z_iadd C0.1 C0.2.1 dX10_multiply_98 ?_
                        refine mm_iald C0 hM (g := g) (hg) (80 * t + (u + y)) (i := ((((((80) * (i))) + ((u : Int)))) + ((y : Int)))) (by omega) (by omega) (by decide) dX10_multiply_99 ?_
                        refine z_asI (b := (dg T9 (u + y) : Int)) ((hP9.rt (by omega) (by omega)).trans (by rw [hf2 (u + y) (Nat.le_refl _) (by omega)])) ?_
                        refine z_i2l C0.1 C0.2.1 dX10_multiply_100 ⟨by omega, by omega⟩ ?_
                        refine lv_iload C0.1 C0.2.1 dX10_multiply_101 (lv_at hl 8 rfl) ?_
                        refine lv_iload C0.1 C0.2.1 dX10_multiply_103 (lv_at hl 5 rfl) ?_
                        refine z_icmp_ge (tgt := 138) C0.1 C0.2.1 dX10_multiply_105 (by decide) ⟨by omega, by omega⟩ ⟨by omega, by omega⟩ (fun c_105 => ?_) (fun c_105 => ?_)
                        · skip
                          have hp0 : p9 = 0 := by rw [hp9, dg_hi (N := B) (j := y) (by omega), Nat.mul_zero]
                          refine lv_lconst (v := zL 0) C0.1 C0.2.1 dX10_multiply_138 rfl ?_
                          refine z_ladd C0.1 C0.2.1 dX10_multiply_139 ?_
                          refine z_ladd C0.1 C0.2.1 dX10_multiply_140 ?_
                          refine z_asL (a := (((cy : Int)) + ((((dg T9 (u + y) : Int)) + (0))))) (b := ((dg T9 (u + y) + p9 + cy : Nat) : Int)) (by omega) ?_
                          refine lv_lstore (lv' := [(7, .long (zL (((dg T9 (u + y) + p9 + cy : Nat) : Int)))), (0, .ref (h)), (1, .int (zI (i))), (2, .int (zI (j))), (3, .int (zI (jj))), (4, .int (zI ((nl A : Int)))), (5, .int (zI ((nl B : Int)))), (6, .int (zI ((u : Int)))), (9, .int (zI ((y : Int))))]) C0.1 C0.2.1 dX10_multiply_141 hl (by decide) rfl (fun ls hl => ?_)
                          refine lv_aload_n C0.1 C0.2.1 dX10_multiply_143 rfl (lv_at hl 1 rfl) ?_
                          refine mm_get (fs := [.ref (h + 1), .ref (h + 2), .ref (h + 3), .ref (h + 4), .int (zI (x1)), .int (zI (x2)), .long (zL (x3)), .ref (h + 5), .ref (h + 6), .ref (h + 7), .ref (h + 8), .int (zI (x4)), .int (zI (x5)), .int (zI (x6)), .int (zI (x7)), .int (zI (x8)), .ref (h + 9), .ref (h + 10), .ref (h + 11), .ref (h + 12)]) C0 (C := RX10) (T := TX10) (N := 20) iG_X10 hM (hO) rfl 0 (by decide) tw_916 rfl rfl dX10_multiply_144 ?_
                          refine lv_bipush (v := zI 80) C0.1 C0.2.1 dX10_multiply_147 rfl ?_
                          refine lv_iload_n C0.1 C0.2.1 dX10_multiply_149 rfl (lv_at hl 2 rfl) ?_
                          refine z_imul C0.1 C0.2.1 dX10_multiply_150 ?_
                          refine lv_iload C0.1 C0.2.1 dX10_multiply_151 (lv_at hl 7 rfl) ?_
                          refine z_iadd C0.1 C0.2.1 dX10_multiply_153 ?_
                          refine lv_iload C0.1 C0.2.1 dX10_multiply_154 (lv_at hl 8 rfl) ?_
                          refine z_iadd C0.1 C0.2.1 dX10_multiply_156 ?_
                          refine lv_lload C0.1 C0.2.1 dX10_multiply_157 (lv_at hl 0 rfl) ?_
                          refine mm_ldc2 (z := 1000000000) C0 tw_992 rfl dX10_multiply_159 ?_
                          refine z_lremp C0.1 C0.2.1 dX10_multiply_162 ⟨by omega, by omega⟩ ⟨by omega, by omega⟩ (by omega) (by omega) ?_
                          refine z_l2i C0.1 C0.2.1 dX10_multiply_163 ?_
                          refine z_asI (a := ((((dg T9 (u + y) + p9 + cy : Nat) : Int)) % (1000000000))) (b := (dg T8 (u + y) : Int)) (by omega) ?_
                          refine mm_iast C0 hM hS (g := g) (hg) (80 * t + (u + y)) (i := ((((((80) * (i))) + ((u : Int)))) + ((y : Int)))) (x := (dg T8 (u + y) : Int)) (by omega) (by omega) (by decide) dX10_multiply_164 (fun H locs hM hS hsz => ?_)
                          obtain ⟨E8, hE8⟩ : ∃ X : mE, X = mm_up E5 (h + 1) (mm_I G 1280 (zup (g) (80 * t + (u + y)) ((dg T8 (u + y) : Int)))) := ⟨_, rfl⟩
                          replace hM : mm_M G E8 H := by rw [hE8]; exact hM
                          have frs : ∀ q : Nat, q ≠ h + 1 → E8 q = E5 q := fun q h => by rw [hE8]; exact mm_up_n _ _ h
                          have hat : E8 (h + 1) = some (mm_I G 1280 (zup (g) (80 * t + (u + y)) ((dg T8 (u + y) : Int)))) := by rw [hE8]; exact mm_up_s _ _ _
                          have hU : rgF G E8 h R t (nup f (u + y) (dg T8 (u + y))) := ⟨hB9, _, hat, hP9.st (by omega)⟩
                          have hO := ro.kept hO (frs _ (by omega))
                          have hfr := (fun q h => (frs q (by omega)).trans (hfr q h) : ∀ q : Nat, (q ≠ h + 1) → E8 q = E0 q)
                          refine lv_lload C0.1 C0.2.1 dX10_multiply_165 (lv_at hl 0 rfl) ?_
                          refine mm_ldc2 (z := 1000000000) C0 tw_992 rfl dX10_multiply_167 ?_
                          refine z_ldivp C0.1 C0.2.1 dX10_multiply_170 ⟨by omega, by omega⟩ ⟨by omega, by omega⟩ (by omega) (by omega) ?_
                          refine z_asL (a := ((((dg T9 (u + y) + p9 + cy : Nat) : Int)) / (1000000000))) (b := (((dg T9 (u + y) + p9 + cy) / 1000000000 : Nat) : Int)) (by omega) ?_
                          refine lv_lstore (lv' := [(7, .long (zL ((((dg T9 (u + y) + p9 + cy) / 1000000000 : Nat) : Int)))), (0, .ref (h)), (1, .int (zI (i))), (2, .int (zI (j))), (3, .int (zI (jj))), (4, .int (zI ((nl A : Int)))), (5, .int (zI ((nl B : Int)))), (6, .int (zI ((u : Int)))), (9, .int (zI ((y : Int))))]) C0.1 C0.2.1 dX10_multiply_171 hl (by decide) rfl (fun ls hl => ?_)
                          refine lv_iinc (v := zI (((y + 1 : Nat) : Int))) (lv' := [(9, .int (zI (((y + 1 : Nat) : Int)))), (7, .long (zL ((((dg T9 (u + y) + p9 + cy) / 1000000000 : Nat) : Int)))), (0, .ref (h)), (1, .int (zI (i))), (2, .int (zI (j))), (3, .int (zI (jj))), (4, .int (zI ((nl A : Int)))), (5, .int (zI ((nl B : Int)))), (6, .int (zI ((u : Int))))]) C0.1 C0.2.1 dX10_multiply_173 hl (k := 8) rfl (z_inc (a := (y : Int)) (n := 1) (by omega)) (by decide) rfl (fun ls hl => ?_)
                          refine lv_goto (tgt := 59) C0.1 C0.2.1 dX10_multiply_176 (by decide) ?_
                          exact ih59  (y + 1) ((dg T9 (u + y) + p9 + cy) / 1000000000) (nup f (u + y) (dg T8 (u + y))) E8 _ _ _ (by omega) (by omega) (fun x hx => if q : x = u + y then (by subst q; exact nup_s _ _ _) else (by rw [nup_n _ _ q]; exact hf x (by omega))) (fun x h1 h2 => by rw [nup_n _ _ (by omega)]; exact hf2 x (by omega) h2) (by rw [← Nat.add_assoc, hs3, hm1]) (hO) (hU) (hfr) (by omega) hM hS (lv_sub hl [2, 3, 4, 5, 6, 7, 8, 1, 0] rfl)
                        · skip
                          refine lv_aload_n C0.1 C0.2.1 dX10_multiply_108 rfl (lv_at hl 0 rfl) ?_
                          refine mm_get (fs := [.ref (h + 1), .ref (h + 2), .ref (h + 3), .ref (h + 4), .int (zI (x1)), .int (zI (x2)), .long (zL (x3)), .ref (h + 5), .ref (h + 6), .ref (h + 7), .ref (h + 8), .int (zI (x4)), .int (zI (x5)), .int (zI (x6)), .int (zI (x7)), .int (zI (x8)), .ref (h + 9), .ref (h + 10), .ref (h + 11), .ref (h + 12)]) C0 (C := RX10) (T := TX10) (N := 20) iG_X10 hM (hO) rfl 0 (by decide) tw_916 rfl rfl dX10_multiply_109 ?_
                          refine lv_bipush (v := zI 80) C0.1 C0.2.1 dX10_multiply_112 rfl ?_
                          refine lv_iload_n C0.1 C0.2.1 dX10_multiply_114 rfl (lv_at hl 2 rfl) ?_
                          refine z_imul C0.1 C0.2.1 dX10_multiply_115 ?_
                          refine lv_iload C0.1 C0.2.1 dX10_multiply_116 (lv_at hl 6 rfl) ?_
                          refine z_iadd C0.1 C0.2.1 dX10_multiply_118 ?_
                          refine mm_iald C0 hM (g := g) (hg) (80 * a + u) (i := ((((80) * (j))) + ((u : Int)))) (by omega) (by omega) (by decide) dX10_multiply_119 ?_
                          refine z_asI (b := (dg A u : Int)) (hP9.ro (by omega) (by omega) hA hta) ?_
                          refine z_i2l C0.1 C0.2.1 dX10_multiply_120 ⟨by omega, by omega⟩ ?_
                          refine lv_aload_n C0.1 C0.2.1 dX10_multiply_121 rfl (lv_at hl 0 rfl) ?_
                          refine mm_get (fs := [.ref (h + 1), .ref (h + 2), .ref (h + 3), .ref (h + 4), .int (zI (x1)), .int (zI (x2)), .long (zL (x3)), .ref (h + 5), .ref (h + 6), .ref (h + 7), .ref (h + 8), .int (zI (x4)), .int (zI (x5)), .int (zI (x6)), .int (zI (x7)), .int (zI (x8)), .ref (h + 9), .ref (h + 10), .ref (h + 11), .ref (h + 12)]) C0 (C := RX10) (T := TX10) (N := 20) iG_X10 hM (hO) rfl 0 (by decide) tw_916 rfl rfl dX10_multiply_122 ?_
                          refine lv_bipush (v := zI 80) C0.1 C0.2.1 dX10_multiply_125 rfl ?_
                          refine lv_iload_n C0.1 C0.2.1 dX10_multiply_127 rfl (lv_at hl 3 rfl) ?_
                          refine z_imul C0.1 C0.2.1 dX10_multiply_128 ?_
                          refine lv_iload C0.1 C0.2.1 dX10_multiply_129 (lv_at hl 8 rfl) ?_
                          refine z_iadd C0.1 C0.2.1 dX10_multiply_131 ?_
                          refine mm_iald C0 hM (g := g) (hg) (80 * b + y) (i := ((((80) * (jj))) + ((y : Int)))) (by omega) (by omega) (by decide) dX10_multiply_132 ?_
                          refine z_asI (b := (dg B y : Int)) (hP9.ro (by omega) (by omega) hB htb) ?_
                          refine z_i2l C0.1 C0.2.1 dX10_multiply_133 ⟨by omega, by omega⟩ ?_
                          refine z_lmul C0.1 C0.2.1 dX10_multiply_134 ?_
                          refine z_asL (a := (((dg A u : Int)) * ((dg B y : Int)))) (b := (p9 : Int)) (by rw [hp9]; exact (Int.natCast_mul _ _).symm) ?_
                          refine lv_goto (tgt := 139) C0.1 C0.2.1 dX10_multiply_135 (by decide) ?_
                          refine z_ladd C0.1 C0.2.1 dX10_multiply_139 ?_
                          refine z_ladd C0.1 C0.2.1 dX10_multiply_140 ?_
                          refine z_asL (a := (((cy : Int)) + ((((dg T9 (u + y) : Int)) + ((p9 : Int)))))) (b := ((dg T9 (u + y) + p9 + cy : Nat) : Int)) (by omega) ?_
                          refine lv_lstore (lv' := [(7, .long (zL (((dg T9 (u + y) + p9 + cy : Nat) : Int)))), (0, .ref (h)), (1, .int (zI (i))), (2, .int (zI (j))), (3, .int (zI (jj))), (4, .int (zI ((nl A : Int)))), (5, .int (zI ((nl B : Int)))), (6, .int (zI ((u : Int)))), (9, .int (zI ((y : Int))))]) C0.1 C0.2.1 dX10_multiply_141 hl (by decide) rfl (fun ls hl => ?_)
                          refine lv_aload_n C0.1 C0.2.1 dX10_multiply_143 rfl (lv_at hl 1 rfl) ?_
                          refine mm_get (fs := [.ref (h + 1), .ref (h + 2), .ref (h + 3), .ref (h + 4), .int (zI (x1)), .int (zI (x2)), .long (zL (x3)), .ref (h + 5), .ref (h + 6), .ref (h + 7), .ref (h + 8), .int (zI (x4)), .int (zI (x5)), .int (zI (x6)), .int (zI (x7)), .int (zI (x8)), .ref (h + 9), .ref (h + 10), .ref (h + 11), .ref (h + 12)]) C0 (C := RX10) (T := TX10) (N := 20) iG_X10 hM (hO) rfl 0 (by decide) tw_916 rfl rfl dX10_multiply_144 ?_
                          refine lv_bipush (v := zI 80) C0.1 C0.2.1 dX10_multiply_147 rfl ?_
                          refine lv_iload_n C0.1 C0.2.1 dX10_multiply_149 rfl (lv_at hl 2 rfl) ?_
                          refine z_imul C0.1 C0.2.1 dX10_multiply_150 ?_
                          refine lv_iload C0.1 C0.2.1 dX10_multiply_151 (lv_at hl 7 rfl) ?_
                          refine z_iadd C0.1 C0.2.1 dX10_multiply_153 ?_
                          refine lv_iload C0.1 C0.2.1 dX10_multiply_154 (lv_at hl 8 rfl) ?_
                          refine z_iadd C0.1 C0.2.1 dX10_multiply_156 ?_
                          refine lv_lload C0.1 C0.2.1 dX10_multiply_157 (lv_at hl 0 rfl) ?_
                          refine mm_ldc2 (z := 1000000000) C0 tw_992 rfl dX10_multiply_159 ?_
                          refine z_lremp C0.1 C0.2.1 dX10_multiply_162 ⟨by omega, by omega⟩ ⟨by omega, by omega⟩ (by omega) (by omega) ?_
                          refine z_l2i C0.1 C0.2.1 dX10_multiply_163 ?_
                          refine z_asI (a := ((((dg T9 (u + y) + p9 + cy : Nat) : Int)) % (1000000000))) (b := (dg T8 (u + y) : Int)) (by omega) ?_
                          refine mm_iast C0 hM hS (g := g) (hg) (80 * t + (u + y)) (i := ((((((80) * (i))) + ((u : Int)))) + ((y : Int)))) (x := (dg T8 (u + y) : Int)) (by omega) (by omega) (by decide) dX10_multiply_164 (fun H locs hM hS hsz => ?_)
                          obtain ⟨E9, hE9⟩ : ∃ X : mE, X = mm_up E5 (h + 1) (mm_I G 1280 (zup (g) (80 * t + (u + y)) ((dg T8 (u + y) : Int)))) := ⟨_, rfl⟩
                          replace hM : mm_M G E9 H := by rw [hE9]; exact hM
                          have frs : ∀ q : Nat, q ≠ h + 1 → E9 q = E5 q := fun q h => by rw [hE9]; exact mm_up_n _ _ h
                          have hat : E9 (h + 1) = some (mm_I G 1280 (zup (g) (80 * t + (u + y)) ((dg T8 (u + y) : Int)))) := by rw [hE9]; exact mm_up_s _ _ _
                          have hU : rgF G E9 h R t (nup f (u + y) (dg T8 (u + y))) := ⟨hB9, _, hat, hP9.st (by omega)⟩
                          have hO := ro.kept hO (frs _ (by omega))
                          have hfr := (fun q h => (frs q (by omega)).trans (hfr q h) : ∀ q : Nat, (q ≠ h + 1) → E9 q = E0 q)
                          refine lv_lload C0.1 C0.2.1 dX10_multiply_165 (lv_at hl 0 rfl) ?_
                          refine mm_ldc2 (z := 1000000000) C0 tw_992 rfl dX10_multiply_167 ?_
                          refine z_ldivp C0.1 C0.2.1 dX10_multiply_170 ⟨by omega, by omega⟩ ⟨by omega, by omega⟩ (by omega) (by omega) ?_
                          refine z_asL (a := ((((dg T9 (u + y) + p9 + cy : Nat) : Int)) / (1000000000))) (b := (((dg T9 (u + y) + p9 + cy) / 1000000000 : Nat) : Int)) (by omega) ?_
                          refine lv_lstore (lv' := [(7, .long (zL ((((dg T9 (u + y) + p9 + cy) / 1000000000 : Nat) : Int)))), (0, .ref (h)), (1, .int (zI (i))), (2, .int (zI (j))), (3, .int (zI (jj))), (4, .int (zI ((nl A : Int)))), (5, .int (zI ((nl B : Int)))), (6, .int (zI ((u : Int)))), (9, .int (zI ((y : Int))))]) C0.1 C0.2.1 dX10_multiply_171 hl (by decide) rfl (fun ls hl => ?_)
                          refine lv_iinc (v := zI (((y + 1 : Nat) : Int))) (lv' := [(9, .int (zI (((y + 1 : Nat) : Int)))), (7, .long (zL ((((dg T9 (u + y) + p9 + cy) / 1000000000 : Nat) : Int)))), (0, .ref (h)), (1, .int (zI (i))), (2, .int (zI (j))), (3, .int (zI (jj))), (4, .int (zI ((nl A : Int)))), (5, .int (zI ((nl B : Int)))), (6, .int (zI ((u : Int))))]) C0.1 C0.2.1 dX10_multiply_173 hl (k := 8) rfl (z_inc (a := (y : Int)) (n := 1) (by omega)) (by decide) rfl (fun ls hl => ?_)
                          refine lv_goto (tgt := 59) C0.1 C0.2.1 dX10_multiply_176 (by decide) ?_
                          exact ih59  (y + 1) ((dg T9 (u + y) + p9 + cy) / 1000000000) (nup f (u + y) (dg T8 (u + y))) E9 _ _ _ (by omega) (by omega) (fun x hx => if q : x = u + y then (by subst q; exact nup_s _ _ _) else (by rw [nup_n _ _ q]; exact hf x (by omega))) (fun x h1 h2 => by rw [nup_n _ _ (by omega)]; exact hf2 x (by omega) h2) (by rw [← Nat.add_assoc, hs3, hm1]) (hO) (hU) (hfr) (by omega) hM hS (lv_sub hl [2, 3, 4, 5, 6, 7, 8, 1, 0] rfl)
              exact L59 (_ + 1) 0 0 f E4 _ _ _ (by omega) (by omega) (fun x hx => (hf x (by omega)).trans (dg_lo (i := u) (by have h9 : T8 = _ := hT2; rw [h9]; exact ml_m.symm) (by omega))) (fun x _ hx => hf x hx) (by have h9 : T8 = _ := hT2; rw [h9, Nat.add_zero, ml_q, qt_0, Nat.add_zero]) (hO) (hU) (hfr) (Nat.lt_succ_self _) hM hS (lv_sub hl [2, 3, 4, 5, 6, 7, 8, 1, 0] rfl)
        exact L46 (_ + 1) 0 f E3 _ _ _ (Nat.zero_le _) (fun x hx => by rw [hf x (by omega), Nat.pow_zero, Nat.mod_one, Nat.zero_mul]; unfold dg; simp) (hO) (hU) (hfr) (Nat.lt_succ_self _) hM hS (lv_sub hl [1, 2, 3, 4, 5, 6, 0] rfl)
      · skip
        refine lv_aload_n C0.1 C0.2.1 dX10_multiply_24 rfl (lv_at hl 0 rfl) ?_
        refine mm_get (fs := [.ref (h + 1), .ref (h + 2), .ref (h + 3), .ref (h + 4), .int (zI (x1)), .int (zI (x2)), .long (zL (x3)), .ref (h + 5), .ref (h + 6), .ref (h + 7), .ref (h + 8), .int (zI (x4)), .int (zI (x5)), .int (zI (x6)), .int (zI (x7)), .int (zI (x8)), .ref (h + 9), .ref (h + 10), .ref (h + 11), .ref (h + 12)]) C0 (C := RX10) (T := TX10) (N := 20) iG_X10 hM (hO) rfl 0 (by decide) tw_916 rfl rfl dX10_multiply_25 ?_
        refine lv_bipush (v := zI 80) C0.1 C0.2.1 dX10_multiply_28 rfl ?_
        refine lv_iload_n C0.1 C0.2.1 dX10_multiply_30 rfl (lv_at hl 1 rfl) ?_
        refine z_imul C0.1 C0.2.1 dX10_multiply_31 ?_
        refine lv_iload C0.1 C0.2.1 dX10_multiply_32 (lv_at hl 6 rfl) ?_
        refine z_iadd C0.1 C0.2.1 dX10_multiply_34 ?_
        refine lv_iconst (v := zI 0) C0.1 C0.2.1 dX10_multiply_35 rfl ?_
        refine mm_iast C0 hM hS (g := g) (hg) (80 * t + k) (i := ((((80) * (i))) + ((k : Int)))) (x := 0) (by omega) (by omega) (by decide) dX10_multiply_36 (fun H locs hM hS hsz => ?_)
        obtain ⟨E10, hE10⟩ : ∃ X : mE, X = mm_up E3 (h + 1) (mm_I G 1280 (zup (g) (80 * t + k) (0))) := ⟨_, rfl⟩
        replace hM : mm_M G E10 H := by rw [hE10]; exact hM
        have frs : ∀ q : Nat, q ≠ h + 1 → E10 q = E3 q := fun q h => by rw [hE10]; exact mm_up_n _ _ h
        have hat : E10 (h + 1) = some (mm_I G 1280 (zup (g) (80 * t + k) (0))) := by rw [hE10]; exact mm_up_s _ _ _
        have hU : rgF G E10 h R t (nup f k (0)) := ⟨hB9, _, hat, hP9.st (by omega)⟩
        have hO := ro.kept hO (frs _ (by omega))
        have hfr := (fun q h => (frs q (by omega)).trans (hfr q h) : ∀ q : Nat, (q ≠ h + 1) → E10 q = E0 q)
        refine lv_iinc (v := zI (((k + 1 : Nat) : Int))) (lv' := [(6, .int (zI (((k + 1 : Nat) : Int)))), (0, .ref (h)), (1, .int (zI (i))), (2, .int (zI (j))), (3, .int (zI (jj))), (4, .int (zI ((nl A : Int)))), (5, .int (zI ((nl B : Int))))]) C0.1 C0.2.1 dX10_multiply_37 hl (k := 6) rfl (z_inc (a := (k : Int)) (n := 1) (by omega)) (by decide) rfl (fun ls hl => ?_)
        refine lv_goto (tgt := 17) C0.1 C0.2.1 dX10_multiply_40 (by decide) ?_
        exact ih17  (k + 1) (nup f k 0) E10 _ _ _ (by omega) (fun x hx => if q : x = k then (by subst q; exact nup_s _ _ _) else (by rw [nup_n _ _ q]; exact hf x (by omega))) (hO) (hU) (hfr) (by omega) hM hS (lv_sub hl [1, 2, 3, 4, 5, 6, 0] rfl)
  exact L17 (_ + 1) 0 (dg (R t)) E0 _ _ _ (Nat.zero_le _) (fun x hx => absurd hx (Nat.not_lt_zero _)) (hO) (hU) (hfr) (Nat.lt_succ_self _) hM hS (lv_sub hl [3, 4, 5, 6, 2, 1, 0] rfl)

def rX10_shift : Room := { frames := 0, cells := 0, slots := 0, locals := 0 }
theorem vw_X10_shift : mm_Vw RX10 yX10_shift cX10_shift 4 none 2 := ⟨tw_1136, tp_40, tw_10, tw_1137, by decide +kernel⟩
set_option maxHeartbeats 4000000 in
set_option maxRecDepth 100000 in
theorem c_X10_shift (l : Launch) (G : mG) (E0 : mE) {h : Nat} {x1 x2 x3 x4 x5 x6 x7 x8 : Int} (hO : ro G E0 h x1 x2 x3 x4 x5 x6 x7 x8) {R : Nat → Nat} (hR : rg G E0 h R) {i : Int} {t : Nat} (hi : i = (t : Int)) (ht : t < 16) {v : Int} (A mu : Nat) (hA : R t = A) (hv : v = (mu : Int)) (hm : mu < 1000000000) (hs : nl (A * 1000000000 + mu) ≤ 80) : mm_Cv l yX10_shift (.code yX10_shift cX10_shift 4 none :: wsG) rX10_shift G [.ref (h), .int (zI (i)), .int (zI (v))] E0 (fun E => (∃ R1, rg G E h R1 ∧ R1 t = (A * 1000000000 + mu) ∧ ∀ r, r ≠ t → R1 r = R r) ∧ ∀ q : Nat, (q ≠ h + 1) → E q = E0 q) := by
  refine mm_of_v (by decide +kernel) (Nat.le_of_ble_eq_true rfl) ?_
  intro p e s m args below meth c ls C0 hr hlk hM hl hS
  have hl : lv_has ls 4 [(0, .ref (h)), (1, .int (zI (i))), (2, .int (zI (v)))] := hl
  have hfr : ∀ q : Nat, (q ≠ h + 1) → E0 q = E0 q := fun _ _ => rfl
  have hnA : nl A ≤ 80 := hA ▸ hR.1 t ht
  have hU := hR.F t
  obtain ⟨hm0, hms⟩ := dg_mulB (N := A) hm
  rw [hA] at hU
  refine lv_bipush (v := zI 79) C0.1 C0.2.1 dX10_shift_0 rfl ?_
  refine lv_istore_n (lv' := [(3, .int (zI (79))), (0, .ref (h)), (1, .int (zI (i))), (2, .int (zI (v)))]) C0.1 C0.2.1 dX10_shift_2 rfl hl (by decide) rfl (fun ls hl => ?_)
  have L3 : ∀ (k3 : Nat) (u : Nat) (f : Nat → Nat) (E1 : mE) (H : Heap) (locs : List Loc) (ls : Array Slot), (u ≤ 79) → (∀ x, u < x → f x = dg (A * 1000000000 + mu) x) → (∀ x, x ≤ u → f x = dg A x) → (ro G E1 h x1 x2 x3 x4 x5 x6 x7 x8) → (rgF G E1 h R t f) → (∀ q : Nat, (q ≠ h + 1) → E1 q = E0 q) → u < k3 → mm_M G E1 H → va_S (mm_A G) s.heap H locs → lv_has ls 4 [(0, .ref (h)), (1, .int (zI (i))), (2, .int (zI (v))), (3, .int (zI ((u : Int))))] → W p l e rX10_shift s m args below meth c H locs 0 0 (mm_Zv G below args s (fun E => (∃ R1, rg G E h R1 ∧ R1 t = (A * 1000000000 + mu) ∧ ∀ r, r ≠ t → R1 r = R r) ∧ ∀ q : Nat, (q ≠ h + 1) → E q = E0 q)) (F0 m 3 ls []) := by
    intro k3
    induction k3 with
    | zero => intro u f E1 H locs ls hu hf hf2 hO hU hfr hk hM hS hl; exact absurd hk (Nat.not_lt_zero _)
    | succ k3 ih3 =>
      intro u f E1 H locs ls hu hf hf2 hO hU hfr hk3 hM hS hl
      obtain ⟨hB9, g, hg, hP9⟩ := id hU
      have hd1 := dg_lt A (u - 1)
      refine lv_iload_n C0.1 C0.2.1 dX10_shift_3 rfl (lv_at hl 3 rfl) ?_
      refine z_if_le (tgt := 37) C0.1 C0.2.1 dX10_shift_4 (by decide) ⟨by omega, by omega⟩ (fun c_4 => ?_) (fun c_4 => ?_)
      · skip
        refine lv_aload_n C0.1 C0.2.1 dX10_shift_37 rfl (lv_at hl 0 rfl) ?_
        refine mm_get (fs := [.ref (h + 1), .ref (h + 2), .ref (h + 3), .ref (h + 4), .int (zI (x1)), .int (zI (x2)), .long (zL (x3)), .ref (h + 5), .ref (h + 6), .ref (h + 7), .ref (h + 8), .int (zI (x4)), .int (zI (x5)), .int (zI (x6)), .int (zI (x7)), .int (zI (x8)), .ref (h + 9), .ref (h + 10), .ref (h + 11), .ref (h + 12)]) C0 (C := RX10) (T := TX10) (N := 20) iG_X10 hM (hO) rfl 0 (by decide) tw_916 rfl rfl dX10_shift_38 ?_
        refine lv_bipush (v := zI 80) C0.1 C0.2.1 dX10_shift_41 rfl ?_
        refine lv_iload_n C0.1 C0.2.1 dX10_shift_43 rfl (lv_at hl 1 rfl) ?_
        refine z_imul C0.1 C0.2.1 dX10_shift_44 ?_
        refine lv_iload_n C0.1 C0.2.1 dX10_shift_45 rfl (lv_at hl 2 rfl) ?_
        refine z_asI (a := v) (b := (mu : Int)) (hv) ?_
        refine mm_iast C0 hM hS (g := g) (hg) (80 * t + 0) (i := ((80) * (i))) (x := (mu : Int)) (by omega) (by omega) (by decide) dX10_shift_46 (fun H locs hM hS hsz => ?_)
        obtain ⟨E2, hE2⟩ : ∃ X : mE, X = mm_up E1 (h + 1) (mm_I G 1280 (zup (g) (80 * t + 0) ((mu : Int)))) := ⟨_, rfl⟩
        replace hM : mm_M G E2 H := by rw [hE2]; exact hM
        have frs : ∀ q : Nat, q ≠ h + 1 → E2 q = E1 q := fun q h => by rw [hE2]; exact mm_up_n _ _ h
        have hat : E2 (h + 1) = some (mm_I G 1280 (zup (g) (80 * t + 0) ((mu : Int)))) := by rw [hE2]; exact mm_up_s _ _ _
        have hU : rgF G E2 h R t (nup f 0 (mu)) := ⟨hB9, _, hat, hP9.st (by omega)⟩
        have hO := ro.kept hO (frs _ (by omega))
        have hfr := (fun q h => (frs q (by omega)).trans (hfr q h) : ∀ q : Nat, (q ≠ h + 1) → E2 q = E0 q)
        exact mm_vret C0 hr hlk hM hS dX10_shift_47 (⟨rgF.done hU (hs) (fun x hx => if q : x = 0 then (by subst q; rw [nup_s]; exact hm0.symm) else (by rw [nup_n _ _ q]; exact hf x (by omega))), hfr⟩)
      · skip
        refine lv_aload_n C0.1 C0.2.1 dX10_shift_7 rfl (lv_at hl 0 rfl) ?_
        refine mm_get (fs := [.ref (h + 1), .ref (h + 2), .ref (h + 3), .ref (h + 4), .int (zI (x1)), .int (zI (x2)), .long (zL (x3)), .ref (h + 5), .ref (h + 6), .ref (h + 7), .ref (h + 8), .int (zI (x4)), .int (zI (x5)), .int (zI (x6)), .int (zI (x7)), .int (zI (x8)), .ref (h + 9), .ref (h + 10), .ref (h + 11), .ref (h + 12)]) C0 (C := RX10) (T := TX10) (N := 20) iG_X10 hM (hO) rfl 0 (by decide) tw_916 rfl rfl dX10_shift_8 ?_
        refine lv_bipush (v := zI 80) C0.1 C0.2.1 dX10_shift_11 rfl ?_
        refine lv_iload_n C0.1 C0.2.1 dX10_shift_13 rfl (lv_at hl 1 rfl) ?_
        refine z_imul C0.1 C0.2.1 dX10_shift_14 ?_
        refine lv_iload_n C0.1 C0.2.1 dX10_shift_15 rfl (lv_at hl 3 rfl) ?_
        refine z_iadd C0.1 C0.2.1 dX10_shift_16 ?_
        refine lv_aload_n C0.1 C0.2.1 dX10_shift_17 rfl (lv_at hl 0 rfl) ?_
        refine mm_get (fs := [.ref (h + 1), .ref (h + 2), .ref (h + 3), .ref (h + 4), .int (zI (x1)), .int (zI (x2)), .long (zL (x3)), .ref (h + 5), .ref (h + 6), .ref (h + 7), .ref (h + 8), .int (zI (x4)), .int (zI (x5)), .int (zI (x6)), .int (zI (x7)), .int (zI (x8)), .ref (h + 9), .ref (h + 10), .ref (h + 11), .ref (h + 12)]) C0 (C := RX10) (T := TX10) (N := 20) iG_X10 hM (hO) rfl 0 (by decide) tw_916 rfl rfl dX10_shift_18 ?_
        refine lv_bipush (v := zI 80) C0.1 C0.2.1 dX10_shift_21 rfl ?_
        refine lv_iload_n C0.1 C0.2.1 dX10_shift_23 rfl (lv_at hl 1 rfl) ?_
        refine z_imul C0.1 C0.2.1 dX10_shift_24 ?_
        refine lv_iload_n C0.1 C0.2.1 dX10_shift_25 rfl (lv_at hl 3 rfl) ?_
        refine z_iadd C0.1 C0.2.1 dX10_shift_26 ?_
        refine lv_iconst (v := zI 1) C0.1 C0.2.1 dX10_shift_27 rfl ?_
        refine z_isub C0.1 C0.2.1 dX10_shift_28 ?_
        refine mm_iald C0 hM (g := g) (hg) (80 * t + (u - 1)) (i := ((((((80) * (i))) + ((u : Int)))) - (1))) (by omega) (by omega) (by decide) dX10_shift_29 ?_
        refine z_asI (b := (dg A (u - 1) : Int)) ((hP9.rt (by omega) (by omega)).trans (by rw [hf2 (u - 1) (by omega)])) ?_
        refine mm_iast C0 hM hS (g := g) (hg) (80 * t + u) (i := ((((80) * (i))) + ((u : Int)))) (x := (dg A (u - 1) : Int)) (by omega) (by omega) (by decide) dX10_shift_30 (fun H locs hM hS hsz => ?_)
        obtain ⟨E3, hE3⟩ : ∃ X : mE, X = mm_up E1 (h + 1) (mm_I G 1280 (zup (g) (80 * t + u) ((dg A (u - 1) : Int)))) := ⟨_, rfl⟩
        replace hM : mm_M G E3 H := by rw [hE3]; exact hM
        have frs : ∀ q : Nat, q ≠ h + 1 → E3 q = E1 q := fun q h => by rw [hE3]; exact mm_up_n _ _ h
        have hat : E3 (h + 1) = some (mm_I G 1280 (zup (g) (80 * t + u) ((dg A (u - 1) : Int)))) := by rw [hE3]; exact mm_up_s _ _ _
        have hU : rgF G E3 h R t (nup f u (dg A (u - 1))) := ⟨hB9, _, hat, hP9.st (by omega)⟩
        have hO := ro.kept hO (frs _ (by omega))
        have hfr := (fun q h => (frs q (by omega)).trans (hfr q h) : ∀ q : Nat, (q ≠ h + 1) → E3 q = E0 q)
        refine lv_iinc (v := zI (((u - 1 : Nat) : Int))) (lv' := [(3, .int (zI (((u - 1 : Nat) : Int)))), (0, .ref (h)), (1, .int (zI (i))), (2, .int (zI (v)))]) C0.1 C0.2.1 dX10_shift_31 hl (k := 3) rfl (z_inc (a := (u : Int)) (n := (-1)) (by omega)) (by decide) rfl (fun ls hl => ?_)
        refine lv_goto (tgt := 3) C0.1 C0.2.1 dX10_shift_34 (by decide) ?_
        exact ih3  (u - 1) (nup f u (dg A (u - 1))) E3 _ _ _ (by omega) (fun x hx => if q : x = u then (by subst q; rw [nup_s, ← hms (x - 1)]; congr 1; omega) else (by rw [nup_n _ _ q]; exact hf x (by omega))) (fun x hx => by rw [nup_n _ _ (by omega)]; exact hf2 x (by omega)) (hO) (hU) (hfr) (by omega) hM hS (lv_sub hl [1, 2, 3, 0] rfl)
  exact L3 (_ + 1) 79 (dg A) E0 _ _ _ (by omega) (fun x hx => by rw [dg_hi (by omega), dg_hi (by omega)]) (fun x _ => rfl) (hO) (hU) (hfr) (Nat.lt_succ_self _) hM hS (lv_sub hl [1, 2, 3, 0] rfl)

def rX10_divideBy : Room := { frames := 1, cells := 0, slots := 0, locals := 29 }
theorem vw_X10_divideBy : mm_Vw RX10 yX10_divideBy cX10_divideBy 8 none 3 := ⟨tw_1132, tp_39, tw_10, tw_1133, by decide +kernel⟩
set_option maxHeartbeats 4000000 in
set_option maxRecDepth 100000 in
theorem c_X10_divideBy (l : Launch) (G : mG) (E0 : mE) {h : Nat} {x1 x2 x3 x4 x5 x6 x7 x8 : Int} (hO : ro G E0 h x1 x2 x3 x4 x5 x6 x7 x8) {R : Nat → Nat} (hR : rg G E0 h R) {i : Int} {t : Nat} (hi : i = (t : Int)) (ht : t < 13) {j : Int} {a A : Nat} (hj : j = (a : Int)) (ha : a < 13) (hA : R a = A) {jj : Int} {b B : Nat} (hjj : jj = (b : Int)) (hb : b < 13) (hB : R b = B) (hB0 : 0 < B) (hnA : nl A ≤ 70) (hnB : nl B ≤ 70) : mm_Cv l yX10_divideBy (.code yX10_divideBy cX10_divideBy 8 none :: wsG) rX10_divideBy G [.ref (h), .int (zI (i)), .int (zI (j)), .int (zI (jj))] E0 (fun E => (∃ R1, rg G E h R1 ∧ R1 t = A / B ∧ R1 14 = A % B ∧ ∀ r, r < 13 → r ≠ t → R1 r = R r) ∧ ∀ q : Nat, (q ≠ h + 1) → E q = E0 q) := by
  refine mm_of_v (by decide +kernel) (Nat.le_of_ble_eq_true rfl) ?_
  intro p e s m args below meth c ls C0 hr hlk hM hl hS
  have hl : lv_has ls 8 [(0, .ref (h)), (1, .int (zI (i))), (2, .int (zI (j))), (3, .int (zI (jj)))] := hl
  have hfr : ∀ q : Nat, (q ≠ h + 1) → E0 q = E0 q := fun _ _ => rfl
  have hnQ : nl (A / B) ≤ 70 := Nat.le_trans (nl_mono (Nat.div_le_self A B)) hnA
  have hRA := hR
  refine lv_aload_n C0.1 C0.2.1 dX10_divideBy_0 rfl (lv_at hl 0 rfl) ?_
  refine lv_bipush (v := zI 14) C0.1 C0.2.1 dX10_divideBy_1 rfl ?_
  refine lv_lconst (v := zL 0) C0.1 C0.2.1 dX10_divideBy_3 rfl ?_
  refine mm_callVv (As := [.int (zI (14)), .long (zL (0))]) C0 vw_X10_set tw_988 (c_X10_set l G _ hO hR (t := 14) rfl (by omega) 0 rfl (by omega)) hM (hO) rfl rfl hl.1 rfl (Nat.le_of_ble_eq_true rfl) ⟨rfl, rfl, Nat.le_of_ble_eq_true rfl, Nat.le_of_ble_eq_true rfl, Nat.zero_le _, Nat.zero_le _⟩ dX10_divideBy_4 hS (fun E1 H locs hp hM hS => ?_)
  obtain ⟨⟨R1, hR1, v14, kr1⟩, fr⟩ := hp
  have hO := ro.kept hO (fr _ (by omega))
  have hfr := (fun q h => (fr q (by omega)).trans (hfr q h) : ∀ q : Nat, (q ≠ h + 1) → E1 q = E0 q)
  refine lv_aload_n C0.1 C0.2.1 dX10_divideBy_7 rfl (lv_at hl 0 rfl) ?_
  refine lv_bipush (v := zI 13) C0.1 C0.2.1 dX10_divideBy_8 rfl ?_
  refine lv_lconst (v := zL 0) C0.1 C0.2.1 dX10_divideBy_10 rfl ?_
  refine mm_callVv (As := [.int (zI (13)), .long (zL (0))]) C0 vw_X10_set tw_988 (c_X10_set l G _ hO hR1 (t := 13) rfl (by omega) 0 rfl (by omega)) hM (hO) rfl rfl hl.1 rfl (Nat.le_of_ble_eq_true rfl) ⟨rfl, rfl, Nat.le_of_ble_eq_true rfl, Nat.le_of_ble_eq_true rfl, Nat.zero_le _, Nat.zero_le _⟩ dX10_divideBy_11 hS (fun E2 H locs hp hM hS => ?_)
  obtain ⟨⟨R2, hR2, v13, kr2⟩, fr⟩ := hp
  have hO := ro.kept hO (fr _ (by omega))
  have hfr := (fun q h => (fr q (by omega)).trans (hfr q h) : ∀ q : Nat, (q ≠ h + 1) → E2 q = E0 q)
  have kr : ∀ r, r < 13 → R2 r = R r := fun r hr => (kr2 r (by omega)).trans (kr1 r (by omega))
  have v14 : R2 14 = 0 := (kr2 14 (by omega)).trans v14
  refine lv_aload_n C0.1 C0.2.1 dX10_divideBy_14 rfl (lv_at hl 0 rfl) ?_
  refine lv_iload_n C0.1 C0.2.1 dX10_divideBy_15 rfl (lv_at hl 2 rfl) ?_
  refine mm_callVi (As := [.int (zI (j))]) C0 vw_X10_sizeOf tw_997 (c_X10_sizeOf l G _ hO hR2 hj (by omega) ((kr a ha).trans hA)) hM (hO) rfl rfl hl.1 rfl (Nat.le_of_ble_eq_true rfl) ⟨rfl, rfl, Nat.le_of_ble_eq_true rfl, Nat.le_of_ble_eq_true rfl, Nat.zero_le _, Nat.zero_le _⟩ dX10_divideBy_16 hS (fun z_16 E3 H locs hp hM hS => ?_)
  obtain ⟨hz_16, hEq⟩ := hp
  rw [hEq] at hM
  refine z_asI (b := (nl A : Int)) (hz_16) ?_
  refine lv_iconst (v := zI 1) C0.1 C0.2.1 dX10_divideBy_19 rfl ?_
  refine z_isub C0.1 C0.2.1 dX10_divideBy_20 ?_
  refine lv_istore (lv' := [(4, .int (zI ((((nl A : Int)) - (1))))), (0, .ref (h)), (1, .int (zI (i))), (2, .int (zI (j))), (3, .int (zI (jj)))]) C0.1 C0.2.1 dX10_divideBy_21 hl (by decide) rfl (fun ls hl => ?_)
  have L23 : ∀ (k23 : Nat) (u : Nat) (R1 : Nat → Nat) (E4 : mE) (H : Heap) (locs : List Loc) (ls : Array Slot), (u ≤ nl A) → (R1 14 = qt A u % B) → (R1 13 = hiP (A / B) u) → (∀ r, r < 13 → R1 r = R r) → (ro G E4 h x1 x2 x3 x4 x5 x6 x7 x8) → (rg G E4 h R1) → (∀ q : Nat, (q ≠ h + 1) → E4 q = E0 q) → u < k23 → mm_M G E4 H → va_S (mm_A G) s.heap H locs → lv_has ls 8 [(0, .ref (h)), (1, .int (zI (i))), (2, .int (zI (j))), (3, .int (zI (jj))), (4, .int (zI ((u : Int) - 1)))] → W p l e rX10_divideBy s m args below meth c H locs 0 0 (mm_Zv G below args s (fun E => (∃ R1, rg G E h R1 ∧ R1 t = A / B ∧ R1 14 = A % B ∧ ∀ r, r < 13 → r ≠ t → R1 r = R r) ∧ ∀ q : Nat, (q ≠ h + 1) → E q = E0 q)) (F0 m 23 ls []) := by
    intro k23
    induction k23 with
    | zero => intro u R1 E4 H locs ls hu v14 v13 k1 hO hR1 hfr hk hM hS hl; exact absurd hk (Nat.not_lt_zero _)
    | succ k23 ih23 =>
      intro u R1 E4 H locs ls hu v14 v13 k1 hO hR1 hfr hk23 hM hS hl
      refine lv_iload C0.1 C0.2.1 dX10_divideBy_23 (lv_at hl 4 rfl) ?_
      refine z_if_lt (tgt := 152) C0.1 C0.2.1 dX10_divideBy_25 (by decide) ⟨by omega, by omega⟩ (fun c_25 => ?_) (fun c_25 => ?_)
      · skip
        have hu0 : u = 0 := by omega
        subst hu0
        rw [hiP_0] at v13
        rw [qt_0] at v14
        refine lv_aload_n C0.1 C0.2.1 dX10_divideBy_152 rfl (lv_at hl 0 rfl) ?_
        refine lv_iload_n C0.1 C0.2.1 dX10_divideBy_153 rfl (lv_at hl 1 rfl) ?_
        refine lv_bipush (v := zI 13) C0.1 C0.2.1 dX10_divideBy_154 rfl ?_
        refine mm_callVv (As := [.int (zI (i)), .int (zI (13))]) C0 vw_X10_copy tw_1047 (c_X10_copy l G _ hO hR1 hi (by omega) (a := 13) rfl (by omega) v13) hM (hO) rfl rfl hl.1 rfl (Nat.le_of_ble_eq_true rfl) ⟨rfl, rfl, Nat.le_of_ble_eq_true rfl, Nat.le_of_ble_eq_true rfl, Nat.zero_le _, Nat.zero_le _⟩ dX10_divideBy_156 hS (fun E5 H locs hp hM hS => ?_)
        obtain ⟨⟨R2, hR2, vt, kr2⟩, fr⟩ := hp
        have hO := ro.kept hO (fr _ (by omega))
        have hfr := (fun q h => (fr q (by omega)).trans (hfr q h) : ∀ q : Nat, (q ≠ h + 1) → E5 q = E0 q)
        exact mm_vret C0 hr hlk hM hS dX10_divideBy_159 (⟨⟨R2, hR2, vt, by rw [kr2 14 (by omega), v14], fun r hr hrt => (kr2 r hrt).trans (k1 r hr)⟩, hfr⟩)
      · skip
        have hun : u - 1 + 1 = u := by omega
        have hdA := dg_lt A (u - 1)
        have hmB : nl (qt A u % B) ≤ 70 := Nat.le_trans (nl_mono (Nat.le_of_lt (Nat.mod_lt _ hB0))) hnB
        obtain ⟨q9, hq9⟩ : ∃ q, q = dg (A / B) (u - 1) := ⟨_, rfl⟩
        obtain ⟨S9, hS9⟩ : ∃ S, S = qt A u % B * 1000000000 + dg A (u - 1) := ⟨_, rfl⟩
        obtain ⟨hD1, hD2⟩ : S9 / B = q9 ∧ S9 % B = qt A (u - 1) % B := by rw [hS9, hq9]; exact qt_div hB0 (by rw [hun])
        have hq9b : q9 < 1000000000 := hq9 ▸ dg_lt _ _
        have hSq : ∀ x, x * B ≤ S9 ↔ x ≤ q9 := fun x => by rw [← hD1]; exact (Nat.le_div_iff_mul_le hB0).symm
        have hSm : S9 - q9 * B = qt A (u - 1) % B := by rw [← hD2, ← hD1]; have h9 := Nat.div_add_mod S9 B; rw [Nat.mul_comm] at h9; omega
        have hnS : nl (qt A u % B * 1000000000 + dg A (u - 1)) ≤ 80 := Nat.le_trans (nl_mulB (n := 70) hmB hdA) (by omega)
        have hS9h : hid (S9 = qt A u % B * 1000000000 + dg A (u - 1)) := hS9
        have hq9h : hid (q9 = dg (A / B) (u - 1)) := hq9
        clear hS9 hq9 hD1 hD2
        obtain ⟨hB9, g, hg, hP9⟩ := hR1.F 14
        refine lv_aload_n C0.1 C0.2.1 dX10_divideBy_28 rfl (lv_at hl 0 rfl) ?_
        refine lv_bipush (v := zI 14) C0.1 C0.2.1 dX10_divideBy_29 rfl ?_
        refine lv_aload_n C0.1 C0.2.1 dX10_divideBy_31 rfl (lv_at hl 0 rfl) ?_
        refine mm_get (fs := [.ref (h + 1), .ref (h + 2), .ref (h + 3), .ref (h + 4), .int (zI (x1)), .int (zI (x2)), .long (zL (x3)), .ref (h + 5), .ref (h + 6), .ref (h + 7), .ref (h + 8), .int (zI (x4)), .int (zI (x5)), .int (zI (x6)), .int (zI (x7)), .int (zI (x8)), .ref (h + 9), .ref (h + 10), .ref (h + 11), .ref (h + 12)]) C0 (C := RX10) (T := TX10) (N := 20) iG_X10 hM (hO) rfl 0 (by decide) tw_916 rfl rfl dX10_divideBy_32 ?_
        refine lv_bipush (v := zI 80) C0.1 C0.2.1 dX10_divideBy_35 rfl ?_
        refine lv_iload_n C0.1 C0.2.1 dX10_divideBy_37 rfl (lv_at hl 2 rfl) ?_
        refine z_imul C0.1 C0.2.1 dX10_divideBy_38 ?_
        refine lv_iload C0.1 C0.2.1 dX10_divideBy_39 (lv_at hl 4 rfl) ?_
        refine z_iadd C0.1 C0.2.1 dX10_divideBy_41 ?_
        refine mm_iald C0 hM (g := g) (hg) (80 * a + (u - 1)) (i := ((((80) * (j))) + ((u : Int) - 1))) (by omega) (by omega) (by decide) dX10_divideBy_42 ?_
        refine z_asI (b := (dg A (u - 1) : Int)) (hP9.ro (by omega) (by omega) ((k1 a ha).trans hA) (by omega)) ?_
        refine mm_callVv (As := [.int (zI (14)), .int (zI ((dg A (u - 1) : Int)))]) C0 vw_X10_shift tw_1134 (c_X10_shift l G _ hO hR1 (t := 14) rfl (by omega) (qt A u % B) (dg A (u - 1)) v14 rfl (dg_lt _ _) hnS) hM (hO) rfl rfl hl.1 rfl (Nat.le_of_ble_eq_true rfl) ⟨rfl, rfl, Nat.le_of_ble_eq_true rfl, Nat.le_of_ble_eq_true rfl, Nat.zero_le _, Nat.zero_le _⟩ dX10_divideBy_43 hS (fun E6 H locs hp hM hS => ?_)
        obtain ⟨⟨R2, hR2, v14, kr2⟩, fr⟩ := hp
        have hO := ro.kept hO (fr _ (by omega))
        have hfr := (fun q h => (fr q (by omega)).trans (hfr q h) : ∀ q : Nat, (q ≠ h + 1) → E6 q = E0 q)
        have v14 : R2 14 = S9 := v14.trans (show S9 = _ from hS9h).symm
        refine lv_iconst (v := zI 0) C0.1 C0.2.1 dX10_divideBy_46 rfl ?_
        refine lv_istore (lv' := [(5, .int (zI (0))), (0, .ref (h)), (1, .int (zI (i))), (2, .int (zI (j))), (3, .int (zI (jj))), (4, .int (zI ((u : Int) - 1)))]) C0.1 C0.2.1 dX10_divideBy_47 hl (by decide) rfl (fun ls hl => ?_)
        refine mm_ldc (z := 999999999) C0 tw_1138 rfl dX10_divideBy_49 ?_
        refine lv_istore (lv' := [(6, .int (zI (999999999))), (5, .int (zI (0))), (0, .ref (h)), (1, .int (zI (i))), (2, .int (zI (j))), (3, .int (zI (jj))), (4, .int (zI ((u : Int) - 1)))]) C0.1 C0.2.1 dX10_divideBy_51 hl (by decide) rfl (fun ls hl => ?_)
        have L53 : ∀ (k53 : Nat) (lo hi9 : Nat) (R3 : Nat → Nat) (E7 : mE) (H : Heap) (locs : List Loc) (ls : Array Slot), (lo ≤ q9) → (q9 ≤ hi9) → (hi9 ≤ 999999999) → (R3 14 = S9) → (∀ r, r < 14 → R3 r = R1 r) → (ro G E7 h x1 x2 x3 x4 x5 x6 x7 x8) → (rg G E7 h R3) → (∀ q : Nat, (q ≠ h + 1) → E7 q = E0 q) → hi9 - lo < k53 → mm_M G E7 H → va_S (mm_A G) s.heap H locs → lv_has ls 8 [(0, .ref (h)), (1, .int (zI (i))), (2, .int (zI (j))), (3, .int (zI (jj))), (4, .int (zI ((u : Int) - 1))), (5, .int (zI ((lo : Int)))), (6, .int (zI ((hi9 : Int))))] → W p l e rX10_divideBy s m args below meth c H locs 0 0 (mm_Zv G below args s (fun E => (∃ R1, rg G E h R1 ∧ R1 t = A / B ∧ R1 14 = A % B ∧ ∀ r, r < 13 → r ≠ t → R1 r = R r) ∧ ∀ q : Nat, (q ≠ h + 1) → E q = E0 q)) (F0 m 53 ls []) := by
          intro k53
          induction k53 with
          | zero => intro lo hi9 R3 E7 H locs ls hl1 hl2 hh9 k314 k3 hO hR3 hfr hk hM hS hl; exact absurd hk (Nat.not_lt_zero _)
          | succ k53 ih53 =>
            intro lo hi9 R3 E7 H locs ls hl1 hl2 hh9 k314 k3 hO hR3 hfr hk53 hM hS hl
            have k3B : R3 b = R b := (k3 b (by omega)).trans (k1 b hb)
            have hn9 : ∀ x, x < 1000000000 → nl (x * B + 0) ≤ 71 := fun x hx => by rw [Nat.add_zero, Nat.mul_comm]; exact Nat.le_trans (nl_mul1 hx) (by omega)
            have hn7 := hn9 lo
            refine lv_iload C0.1 C0.2.1 dX10_divideBy_53 (lv_at hl 5 rfl) ?_
            refine lv_iload C0.1 C0.2.1 dX10_divideBy_55 (lv_at hl 6 rfl) ?_
            refine z_icmp_ge (tgt := 112) C0.1 C0.2.1 dX10_divideBy_57 (by decide) ⟨by omega, by omega⟩ ⟨by omega, by omega⟩ (fun c_57 => ?_) (fun c_57 => ?_)
            · skip
              have hle9 : lo = q9 := by omega
              have hlB : lo * B ≤ S9 := (hSq lo).mpr (by omega)
              refine lv_aload_n C0.1 C0.2.1 dX10_divideBy_112 rfl (lv_at hl 0 rfl) ?_
              refine lv_bipush (v := zI 15) C0.1 C0.2.1 dX10_divideBy_113 rfl ?_
              refine lv_iload_n C0.1 C0.2.1 dX10_divideBy_115 rfl (lv_at hl 3 rfl) ?_
              refine lv_iload C0.1 C0.2.1 dX10_divideBy_116 (lv_at hl 5 rfl) ?_
              refine z_i2l C0.1 C0.2.1 dX10_divideBy_118 ⟨by omega, by omega⟩ ?_
              refine lv_lconst (v := zL 0) C0.1 C0.2.1 dX10_divideBy_119 rfl ?_
              refine mm_callVv (As := [.int (zI (15)), .int (zI (jj)), .long (zL ((lo : Int))), .long (zL (0))]) C0 vw_X10_times tw_1035 (c_X10_times l G _ hO hR3 (t := 15) rfl (by omega) hjj (by omega) (k3B.trans hB) lo 0 rfl rfl (by omega) (by omega) (by omega)) hM (hO) rfl rfl hl.1 rfl (Nat.le_of_ble_eq_true rfl) ⟨rfl, rfl, Nat.le_of_ble_eq_true rfl, Nat.le_of_ble_eq_true rfl, Nat.zero_le _, Nat.zero_le _⟩ dX10_divideBy_120 hS (fun E8 H locs hp hM hS => ?_)
              obtain ⟨⟨R4, hR4, v15, kr4⟩, fr⟩ := hp
              have hO := ro.kept hO (fr _ (by omega))
              have hfr := (fun q h => (fr q (by omega)).trans (hfr q h) : ∀ q : Nat, (q ≠ h + 1) → E8 q = E0 q)
              refine lv_aload_n C0.1 C0.2.1 dX10_divideBy_123 rfl (lv_at hl 0 rfl) ?_
              refine lv_bipush (v := zI 14) C0.1 C0.2.1 dX10_divideBy_124 rfl ?_
              refine lv_bipush (v := zI 14) C0.1 C0.2.1 dX10_divideBy_126 rfl ?_
              refine lv_bipush (v := zI 15) C0.1 C0.2.1 dX10_divideBy_128 rfl ?_
              refine mm_callVv (As := [.int (zI (14)), .int (zI (14)), .int (zI (15))]) C0 vw_X10_subtract tw_1091 (c_X10_subtract l G _ hO hR4 (t := 14) rfl (by omega) (a := 14) (A := S9) rfl (by omega) ((kr4 14 (by omega)).trans k314) (b := 15) (B := lo * B) rfl (by omega) (v15.trans (Nat.add_zero _)) hlB) hM (hO) rfl rfl hl.1 rfl (Nat.le_of_ble_eq_true rfl) ⟨rfl, rfl, Nat.le_of_ble_eq_true rfl, Nat.le_of_ble_eq_true rfl, Nat.zero_le _, Nat.zero_le _⟩ dX10_divideBy_130 hS (fun E9 H locs hp hM hS => ?_)
              obtain ⟨⟨R5, hR5, v14, kr5⟩, fr⟩ := hp
              have hO := ro.kept hO (fr _ (by omega))
              have hfr := (fun q h => (fr q (by omega)).trans (hfr q h) : ∀ q : Nat, (q ≠ h + 1) → E9 q = E0 q)
              have k5 : ∀ r, r < 14 → R5 r = R1 r := fun r hr => (kr5 r (by omega)).trans ((kr4 r (by omega)).trans (k3 r hr))
              have v5 : R5 13 = hiV (A / B) (u - 1) 0 := by rw [hiV_0, k5 13 (by omega), v13, show u - 1 + 1 = u by omega]
              obtain ⟨hB9, g, hg, hP9⟩ := hR5.F 13
              refine lv_aload_n C0.1 C0.2.1 dX10_divideBy_133 rfl (lv_at hl 0 rfl) ?_
              refine mm_get (fs := [.ref (h + 1), .ref (h + 2), .ref (h + 3), .ref (h + 4), .int (zI (x1)), .int (zI (x2)), .long (zL (x3)), .ref (h + 5), .ref (h + 6), .ref (h + 7), .ref (h + 8), .int (zI (x4)), .int (zI (x5)), .int (zI (x6)), .int (zI (x7)), .int (zI (x8)), .ref (h + 9), .ref (h + 10), .ref (h + 11), .ref (h + 12)]) C0 (C := RX10) (T := TX10) (N := 20) iG_X10 hM (hO) rfl 0 (by decide) tw_916 rfl rfl dX10_divideBy_134 ?_
              refine lv_sipush (v := zI 1040) C0.1 C0.2.1 dX10_divideBy_137 rfl ?_
              refine lv_iload C0.1 C0.2.1 dX10_divideBy_140 (lv_at hl 4 rfl) ?_
              refine z_iadd C0.1 C0.2.1 dX10_divideBy_142 ?_
              refine lv_iload C0.1 C0.2.1 dX10_divideBy_143 (lv_at hl 5 rfl) ?_
              refine mm_iast C0 hM hS (g := g) (hg) (80 * 13 + (u - 1)) (i := ((1040) + ((u : Int) - 1))) (x := (lo : Int)) (by omega) (by omega) (by decide) dX10_divideBy_145 (fun H locs hM hS hsz => ?_)
              obtain ⟨E10, hE10⟩ : ∃ X : mE, X = mm_up E9 (h + 1) (mm_I G 1280 (zup (g) (80 * 13 + (u - 1)) ((lo : Int)))) := ⟨_, rfl⟩
              replace hM : mm_M G E10 H := by rw [hE10]; exact hM
              have frs : ∀ q : Nat, q ≠ h + 1 → E10 q = E9 q := fun q h => by rw [hE10]; exact mm_up_n _ _ h
              have hat : E10 (h + 1) = some (mm_I G 1280 (zup (g) (80 * 13 + (u - 1)) ((lo : Int)))) := by rw [hE10]; exact mm_up_s _ _ _
              have hU : rgF G E10 h R5 13 (nup (dg (R5 13)) (u - 1) lo) := ⟨hB9, _, hat, hP9.st (by omega)⟩
              rw [v5] at hU
              obtain ⟨R6, hR6, v6, kr6⟩ := rgF.done (X := hiV (A / B) (u - 1) lo) hU (hiV_nl (Nat.le_trans hnQ (by omega)) (by omega) (by omega)) (fun x _ => hiV_dg (by omega) (by omega) x)
              rw [hle9, show q9 = _ from hq9h, hiV_d] at v6
              have v614 : R6 14 = qt A (u - 1) % B := by
                rw [kr6 14 (by omega), v14, hle9, hSm]
              have k6 : ∀ r, r < 13 → R6 r = R r := fun r hr => (kr6 r (by omega)).trans ((k5 r (by omega)).trans (k1 r hr))
              have hO := ro.kept hO (frs _ (by omega))
              have hfr := (fun q h => (frs q (by omega)).trans (hfr q h) : ∀ q : Nat, (q ≠ h + 1) → E10 q = E0 q)
              refine lv_iinc (v := zI (((u - 1 : Nat) : Int) - 1)) (lv' := [(4, .int (zI (((u - 1 : Nat) : Int) - 1))), (0, .ref (h)), (1, .int (zI (i))), (2, .int (zI (j))), (3, .int (zI (jj))), (5, .int (zI ((lo : Int)))), (6, .int (zI ((hi9 : Int))))]) C0.1 C0.2.1 dX10_divideBy_146 hl (k := 4) rfl (z_inc (a := (u : Int) - 1) (n := (-1)) (by omega)) (by decide) rfl (fun ls hl => ?_)
              refine lv_goto (tgt := 23) C0.1 C0.2.1 dX10_divideBy_149 (by decide) ?_
              exact ih23  (u - 1) R6 E10 _ _ _ (by omega) (v614) (v6) (k6) (hO) (hR6) (hfr) (by omega) hM hS (lv_sub hl [1, 2, 3, 4, 0] rfl)
            · skip
              obtain ⟨md, hmd1, hmd2, hmd3⟩ : ∃ md, lo < md ∧ md ≤ hi9 ∧ md = lo + (hi9 - lo + 1) / 2 := ⟨_, by omega, by omega, rfl⟩
              have hn8 := hn9 md
              refine lv_iload C0.1 C0.2.1 dX10_divideBy_60 (lv_at hl 5 rfl) ?_
              refine lv_iload C0.1 C0.2.1 dX10_divideBy_62 (lv_at hl 6 rfl) ?_
              refine lv_iload C0.1 C0.2.1 dX10_divideBy_64 (lv_at hl 5 rfl) ?_
              refine z_isub C0.1 C0.2.1 dX10_divideBy_66 ?_
              refine lv_iconst (v := zI 1) C0.1 C0.2.1 dX10_divideBy_67 rfl ?_
              refine z_iadd C0.1 C0.2.1 dX10_divideBy_68 ?_
              refine lv_iconst (v := zI 2) C0.1 C0.2.1 dX10_divideBy_69 rfl ?_
              refine z_idivp C0.1 C0.2.1 dX10_divideBy_70 ⟨by omega, by omega⟩ ⟨by omega, by omega⟩ (by omega) (by omega) ?_
              refine z_iadd C0.1 C0.2.1 dX10_divideBy_71 ?_
              refine z_asI (a := (((lo : Int)) + ((((((((hi9 : Int)) - ((lo : Int)))) + (1))) / (2))))) (b := (md : Int)) (by omega) ?_
              refine lv_istore (lv' := [(7, .int (zI ((md : Int)))), (0, .ref (h)), (1, .int (zI (i))), (2, .int (zI (j))), (3, .int (zI (jj))), (4, .int (zI ((u : Int) - 1))), (5, .int (zI ((lo : Int)))), (6, .int (zI ((hi9 : Int))))]) C0.1 C0.2.1 dX10_divideBy_72 hl (by decide) rfl (fun ls hl => ?_)
              refine lv_aload_n C0.1 C0.2.1 dX10_divideBy_74 rfl (lv_at hl 1 rfl) ?_
              refine lv_bipush (v := zI 15) C0.1 C0.2.1 dX10_divideBy_75 rfl ?_
              refine lv_iload_n C0.1 C0.2.1 dX10_divideBy_77 rfl (lv_at hl 4 rfl) ?_
              refine lv_iload C0.1 C0.2.1 dX10_divideBy_78 (lv_at hl 0 rfl) ?_
              refine z_i2l C0.1 C0.2.1 dX10_divideBy_80 ⟨by omega, by omega⟩ ?_
              refine lv_lconst (v := zL 0) C0.1 C0.2.1 dX10_divideBy_81 rfl ?_
              refine mm_callVv (As := [.int (zI (15)), .int (zI (jj)), .long (zL ((md : Int))), .long (zL (0))]) C0 vw_X10_times tw_1035 (c_X10_times l G _ hO hR3 (t := 15) rfl (by omega) hjj (by omega) (k3B.trans hB) md 0 (by omega) rfl (by omega) (by omega) (by omega)) hM (hO) rfl rfl hl.1 rfl (Nat.le_of_ble_eq_true rfl) ⟨rfl, rfl, Nat.le_of_ble_eq_true rfl, Nat.le_of_ble_eq_true rfl, Nat.zero_le _, Nat.zero_le _⟩ dX10_divideBy_82 hS (fun E11 H locs hp hM hS => ?_)
              obtain ⟨⟨R4, hR4, v15, kr4⟩, fr⟩ := hp
              have hO := ro.kept hO (fr _ (by omega))
              have hfr := (fun q h => (fr q (by omega)).trans (hfr q h) : ∀ q : Nat, (q ≠ h + 1) → E11 q = E0 q)
              refine lv_aload_n C0.1 C0.2.1 dX10_divideBy_85 rfl (lv_at hl 1 rfl) ?_
              refine lv_bipush (v := zI 15) C0.1 C0.2.1 dX10_divideBy_86 rfl ?_
              refine lv_bipush (v := zI 14) C0.1 C0.2.1 dX10_divideBy_88 rfl ?_
              refine mm_callVi (As := [.int (zI (15)), .int (zI (14))]) C0 vw_X10_compare tw_1105 (c_X10_compare l G _ hO hR4 (a := 15) (A := md * B) rfl (by omega) (v15.trans (Nat.add_zero _)) (b := 14) (B := S9) rfl (by omega) ((kr4 14 (by omega)).trans k314)) hM (hO) rfl rfl hl.1 rfl (Nat.le_of_ble_eq_true rfl) ⟨rfl, rfl, Nat.le_of_ble_eq_true rfl, Nat.le_of_ble_eq_true rfl, Nat.zero_le _, Nat.zero_le _⟩ dX10_divideBy_90 hS (fun z_90 E12 H locs hp hM hS => ?_)
              obtain ⟨hz_90, hEq⟩ := hp
              rw [hEq] at hM
              refine z_asI (b := (cmpZ (md * B) (S9))) (hz_90) ?_
              have hcz := cmpZ_b (md * B) (S9)
              have hcl := cmpZ_le (a := md * B) (b := S9)
              rw [hSq] at hcl
              have hR3 := hR4
              have k4a := fun r hr => (kr4 r (by omega)).trans (k3 r hr)
              refine z_if_gt (tgt := 103) C0.1 C0.2.1 dX10_divideBy_93 (by decide) ⟨Int.le_trans (by decide) hcz.1, Int.lt_of_le_of_lt hcz.2 (by decide)⟩ (fun c_93 => ?_) (fun c_93 => ?_)
              · skip
                have hcm : ¬ md ≤ q9 := fun q => by have := hcl.mpr q; omega
                refine lv_iload C0.1 C0.2.1 dX10_divideBy_103 (lv_at hl 0 rfl) ?_
                refine lv_iconst (v := zI 1) C0.1 C0.2.1 dX10_divideBy_105 rfl ?_
                refine z_isub C0.1 C0.2.1 dX10_divideBy_106 ?_
                refine z_asI (a := (((md : Int)) - (1))) (b := ((md - 1 : Nat) : Int)) (by omega) ?_
                refine lv_istore (lv' := [(6, .int (zI (((md - 1 : Nat) : Int)))), (7, .int (zI ((md : Int)))), (0, .ref (h)), (1, .int (zI (i))), (2, .int (zI (j))), (3, .int (zI (jj))), (4, .int (zI ((u : Int) - 1))), (5, .int (zI ((lo : Int))))]) C0.1 C0.2.1 dX10_divideBy_107 hl (by decide) rfl (fun ls hl => ?_)
                refine lv_goto (tgt := 53) C0.1 C0.2.1 dX10_divideBy_109 (by decide) ?_
                exact ih53  lo (md - 1) R4 E11 _ _ _ (by omega) (by omega) (by omega) ((kr4 14 (by omega)).trans k314) (k4a) (hO) (hR3) (hfr) (by omega) hM hS (lv_sub hl [2, 3, 4, 5, 6, 7, 0] rfl)
              · skip
                have hcm : md ≤ q9 := hcl.mp c_93
                refine lv_iload C0.1 C0.2.1 dX10_divideBy_96 (lv_at hl 0 rfl) ?_
                refine lv_istore (lv' := [(5, .int (zI ((md : Int)))), (7, .int (zI ((md : Int)))), (0, .ref (h)), (1, .int (zI (i))), (2, .int (zI (j))), (3, .int (zI (jj))), (4, .int (zI ((u : Int) - 1))), (6, .int (zI ((hi9 : Int))))]) C0.1 C0.2.1 dX10_divideBy_98 hl (by decide) rfl (fun ls hl => ?_)
                refine lv_goto (tgt := 109) C0.1 C0.2.1 dX10_divideBy_100 (by decide) ?_
                refine lv_goto (tgt := 53) C0.1 C0.2.1 dX10_divideBy_109 (by decide) ?_
                exact ih53  md hi9 R4 E11 _ _ _ (by omega) (by omega) (by omega) ((kr4 14 (by omega)).trans k314) (k4a) (hO) (hR3) (hfr) (by omega) hM hS (lv_sub hl [2, 3, 4, 5, 6, 0, 7] rfl)
        exact L53 (_ + 1) 0 999999999 R2 E6 _ _ _ (Nat.zero_le _) (by omega) (Nat.le_refl _) (v14) (fun r hr => kr2 r (by omega)) (hO) (hR2) (hfr) (Nat.lt_succ_self _) hM hS (lv_sub hl [2, 3, 4, 5, 6, 1, 0] rfl)
  exact L23 (_ + 1) (nl A) R2 E2 _ _ _ (Nat.le_refl _) (by rw [v14, qt_z (Nat.le_refl _), Nat.zero_mod]) (by rw [v13, hiP_z (nl_mono (Nat.div_le_self A B))]) (kr) (hO) (hR2) (hfr) (Nat.lt_succ_self _) hM hS (lv_sub hl [1, 2, 3, 4, 0] rfl)

def rX10_rootOf : Room := { frames := 2, cells := 0, slots := 0, locals := 51 }
theorem vw_X10_rootOf : mm_Vw RX10 yX10_rootOf cX10_rootOf 7 (some .boolean) 2 := ⟨tw_1145, tp_41, tw_10, tw_1146, by decide +kernel⟩
set_option maxHeartbeats 4000000 in
set_option maxRecDepth 100000 in
theorem c_X10_rootOf (l : Launch) (G : mG) (E0 : mE) {h : Nat} {x1 x2 x3 x4 x5 x6 x7 x8 : Int} (hO : ro G E0 h x1 x2 x3 x4 x5 x6 x7 x8) {R : Nat → Nat} (hR : rg G E0 h R) {i : Int} {t : Nat} (hi : i = (t : Int)) (ht : t < 15) {j : Int} {a A : Nat} (hj : j = (a : Int)) (ha : a < 15) (hA : R a = A) (hta : a ≠ t) (hnA : nl A ≤ 70) {X : Nat} (hX : rtP 2 A X) : mm_Ci l yX10_rootOf (.code yX10_rootOf cX10_rootOf 7 (some .boolean) :: wsG) rX10_rootOf G [.ref (h), .int (zI (i)), .int (zI (j))] E0 (fun z E => z = (if X * X = A then 1 else 0) ∧ (∃ R1, rg G E h R1 ∧ R1 t = X ∧ ∀ r, r < 15 → r ≠ t → R1 r = R r) ∧ ∀ q : Nat, (q ≠ h + 1) → E q = E0 q) := by
  refine mm_of_i (by decide +kernel) (Nat.le_of_ble_eq_true rfl) ?_
  intro p e s m args below meth c ls C0 hr hlk hM hl hS
  have hl : lv_has ls 7 [(0, .ref (h)), (1, .int (zI (i))), (2, .int (zI (j)))] := hl
  have hfr : ∀ q : Nat, (q ≠ h + 1) → E0 q = E0 q := fun _ _ => rfl
  have hnX := rt_half hX
  refine lv_aload_n C0.1 C0.2.1 dX10_rootOf_0 rfl (lv_at hl 0 rfl) ?_
  refine lv_iload_n C0.1 C0.2.1 dX10_rootOf_1 rfl (lv_at hl 1 rfl) ?_
  refine lv_lconst (v := zL 0) C0.1 C0.2.1 dX10_rootOf_2 rfl ?_
  refine mm_callVv (As := [.int (zI (i)), .long (zL (0))]) C0 vw_X10_set tw_988 (c_X10_set l G _ hO hR hi (by omega) 0 rfl (by omega)) hM (hO) rfl rfl hl.1 rfl (Nat.le_of_ble_eq_true rfl) ⟨rfl, rfl, Nat.le_of_ble_eq_true rfl, Nat.le_of_ble_eq_true rfl, Nat.zero_le _, Nat.zero_le _⟩ dX10_rootOf_3 hS (fun E1 H locs hp hM hS => ?_)
  obtain ⟨⟨R1, hR1, vt, kr1⟩, fr⟩ := hp
  have hO := ro.kept hO (fr _ (by omega))
  have hfr := (fun q h => (fr q (by omega)).trans (hfr q h) : ∀ q : Nat, (q ≠ h + 1) → E1 q = E0 q)
  refine lv_aload_n C0.1 C0.2.1 dX10_rootOf_6 rfl (lv_at hl 0 rfl) ?_
  refine lv_iload_n C0.1 C0.2.1 dX10_rootOf_7 rfl (lv_at hl 2 rfl) ?_
  refine mm_callVi (As := [.int (zI (j))]) C0 vw_X10_sizeOf tw_997 (c_X10_sizeOf l G _ hO hR1 hj (by omega) ((kr1 a hta).trans hA)) hM (hO) rfl rfl hl.1 rfl (Nat.le_of_ble_eq_true rfl) ⟨rfl, rfl, Nat.le_of_ble_eq_true rfl, Nat.le_of_ble_eq_true rfl, Nat.zero_le _, Nat.zero_le _⟩ dX10_rootOf_8 hS (fun z_8 E2 H locs hp hM hS => ?_)
  obtain ⟨hz_8, hEq⟩ := hp
  rw [hEq] at hM
  refine z_asI (b := (nl A : Int)) (hz_8) ?_
  refine lv_iconst (v := zI 1) C0.1 C0.2.1 dX10_rootOf_11 rfl ?_
  refine z_iadd C0.1 C0.2.1 dX10_rootOf_12 ?_
  refine lv_iconst (v := zI 2) C0.1 C0.2.1 dX10_rootOf_13 rfl ?_
  refine z_idivp C0.1 C0.2.1 dX10_rootOf_14 ⟨by omega, by omega⟩ ⟨by omega, by omega⟩ (by omega) (by omega) ?_
  refine z_asI (a := (((((nl A : Int)) + (1))) / (2))) (b := ((((nl A + 1) / 2 + 1 : Nat) : Int) - 1)) (by omega) ?_
  refine lv_istore_n (lv' := [(3, .int (zI (((((nl A + 1) / 2 + 1 : Nat) : Int) - 1)))), (0, .ref (h)), (1, .int (zI (i))), (2, .int (zI (j)))]) C0.1 C0.2.1 dX10_rootOf_15 rfl hl (by decide) rfl (fun ls hl => ?_)
  have L16 : ∀ (k16 : Nat) (u : Nat) (R1 : Nat → Nat) (E3 : mE) (H : Heap) (locs : List Loc) (ls : Array Slot), (u ≤ (nl A + 1) / 2 + 1) → (R1 t = hiP X u) → (∀ r, r < 15 → r ≠ t → R1 r = R r) → (ro G E3 h x1 x2 x3 x4 x5 x6 x7 x8) → (rg G E3 h R1) → (∀ q : Nat, (q ≠ h + 1) → E3 q = E0 q) → u < k16 → mm_M G E3 H → va_S (mm_A G) s.heap H locs → lv_has ls 7 [(0, .ref (h)), (1, .int (zI (i))), (2, .int (zI (j))), (3, .int (zI ((u : Int) - 1)))] → W p l e rX10_rootOf s m args below meth c H locs 0 0 (mm_Zi G below args s (fun z E => z = (if X * X = A then 1 else 0) ∧ (∃ R1, rg G E h R1 ∧ R1 t = X ∧ ∀ r, r < 15 → r ≠ t → R1 r = R r) ∧ ∀ q : Nat, (q ≠ h + 1) → E q = E0 q)) (F0 m 16 ls []) := by
    intro k16
    induction k16 with
    | zero => intro u R1 E3 H locs ls hu vt k1 hO hR1 hfr hk hM hS hl; exact absurd hk (Nat.not_lt_zero _)
    | succ k16 ih16 =>
      intro u R1 E3 H locs ls hu vt k1 hO hR1 hfr hk16 hM hS hl
      refine lv_iload_n C0.1 C0.2.1 dX10_rootOf_16 rfl (lv_at hl 3 rfl) ?_
      refine z_if_lt (tgt := 114) C0.1 C0.2.1 dX10_rootOf_17 (by decide) ⟨by omega, by omega⟩ (fun c_17 => ?_) (fun c_17 => ?_)
      · skip
        have hu0 : u = 0 := by omega
        subst hu0
        rw [hiP_0] at vt
        have hn5 := nl_prod (a := X) (b := X) (m := 36) (n := 36) (by omega) (by omega)
        refine lv_aload_n C0.1 C0.2.1 dX10_rootOf_114 rfl (lv_at hl 0 rfl) ?_
        refine lv_bipush (v := zI 15) C0.1 C0.2.1 dX10_rootOf_115 rfl ?_
        refine lv_iload_n C0.1 C0.2.1 dX10_rootOf_117 rfl (lv_at hl 1 rfl) ?_
        refine lv_iload_n C0.1 C0.2.1 dX10_rootOf_118 rfl (lv_at hl 1 rfl) ?_
        refine mm_callVv (As := [.int (zI (15)), .int (zI (i)), .int (zI (i))]) C0 vw_X10_multiply tw_1081 (c_X10_multiply l G _ hO hR1 (t := 15) rfl (by omega) hi (by omega) vt hi (by omega) vt (by omega) (by omega) (by omega)) hM (hO) rfl rfl hl.1 rfl (Nat.le_of_ble_eq_true rfl) ⟨rfl, rfl, Nat.le_of_ble_eq_true rfl, Nat.le_of_ble_eq_true rfl, Nat.zero_le _, Nat.zero_le _⟩ dX10_rootOf_119 hS (fun E4 H locs hp hM hS => ?_)
        obtain ⟨⟨R5, hR5, v15, kr5⟩, fr⟩ := hp
        have hO := ro.kept hO (fr _ (by omega))
        have hfr := (fun q h => (fr q (by omega)).trans (hfr q h) : ∀ q : Nat, (q ≠ h + 1) → E4 q = E0 q)
        refine lv_aload_n C0.1 C0.2.1 dX10_rootOf_122 rfl (lv_at hl 0 rfl) ?_
        refine lv_bipush (v := zI 15) C0.1 C0.2.1 dX10_rootOf_123 rfl ?_
        refine lv_iload_n C0.1 C0.2.1 dX10_rootOf_125 rfl (lv_at hl 2 rfl) ?_
        refine mm_callVi (As := [.int (zI (15)), .int (zI (j))]) C0 vw_X10_compare tw_1105 (c_X10_compare l G _ hO hR5 (a := 15) rfl (by omega) v15 hj (by omega) ((kr5 a (by omega)).trans ((k1 a ha hta).trans hA))) hM (hO) rfl rfl hl.1 rfl (Nat.le_of_ble_eq_true rfl) ⟨rfl, rfl, Nat.le_of_ble_eq_true rfl, Nat.le_of_ble_eq_true rfl, Nat.zero_le _, Nat.zero_le _⟩ dX10_rootOf_126 hS (fun z_126 E5 H locs hp hM hS => ?_)
        obtain ⟨hz_126, hEq⟩ := hp
        rw [hEq] at hM
        refine z_asI (b := (cmpZ (X * X) A)) (hz_126) ?_
        have hcz := cmpZ_b (X * X) A
        have hc0 := cmpZ_0 (a := X * X) (b := A)
        refine z_if_ne (tgt := 136) C0.1 C0.2.1 dX10_rootOf_129 (by decide) ⟨Int.le_trans (by decide) hcz.1, Int.lt_of_le_of_lt hcz.2 (by decide)⟩ (fun c_129 => ?_) (fun c_129 => ?_)
        · skip
          refine lv_iconst (v := zI 0) C0.1 C0.2.1 dX10_rootOf_136 rfl ?_
          exact mm_zret (z := 0) C0 hr hlk hM hS (by omega) dX10_rootOf_137 (⟨by rw [if_neg (by omega)], ⟨R5, hR5, (kr5 t (by omega)).trans vt, fun r h1 h2 => (kr5 r (by omega)).trans (k1 r h1 h2)⟩, hfr⟩)
        · skip
          refine lv_iconst (v := zI 1) C0.1 C0.2.1 dX10_rootOf_132 rfl ?_
          refine lv_goto (tgt := 137) C0.1 C0.2.1 dX10_rootOf_133 (by decide) ?_
          exact mm_zret (z := 1) C0 hr hlk hM hS (by omega) dX10_rootOf_137 (⟨by rw [if_pos (by omega)], ⟨R5, hR5, (kr5 t (by omega)).trans vt, fun r h1 h2 => (kr5 r (by omega)).trans (k1 r h1 h2)⟩, hfr⟩)
      · skip
        obtain ⟨q9, hq9⟩ : ∃ q, q = dg X (u - 1) := ⟨_, rfl⟩
        have hq9b : q9 < 1000000000 := hq9 ▸ dg_lt _ _
        refine lv_iconst (v := zI 0) C0.1 C0.2.1 dX10_rootOf_20 rfl ?_
        refine lv_istore (lv' := [(4, .int (zI (0))), (0, .ref (h)), (1, .int (zI (i))), (2, .int (zI (j))), (3, .int (zI ((u : Int) - 1)))]) C0.1 C0.2.1 dX10_rootOf_21 hl (by decide) rfl (fun ls hl => ?_)
        refine mm_ldc (z := 999999999) C0 tw_1138 rfl dX10_rootOf_23 ?_
        refine lv_istore (lv' := [(5, .int (zI (999999999))), (4, .int (zI (0))), (0, .ref (h)), (1, .int (zI (i))), (2, .int (zI (j))), (3, .int (zI ((u : Int) - 1)))]) C0.1 C0.2.1 dX10_rootOf_25 hl (by decide) rfl (fun ls hl => ?_)
        have L27 : ∀ (k27 : Nat) (lo hi9 v9 : Nat) (R3 : Nat → Nat) (E6 : mE) (H : Heap) (locs : List Loc) (ls : Array Slot), (lo ≤ q9) → (q9 ≤ hi9) → (hi9 ≤ 999999999) → (v9 < 1000000000) → (R3 t = hiV X (u - 1) v9) → (∀ r, r < 15 → r ≠ t → R3 r = R r) → (ro G E6 h x1 x2 x3 x4 x5 x6 x7 x8) → (rg G E6 h R3) → (∀ q : Nat, (q ≠ h + 1) → E6 q = E0 q) → hi9 - lo < k27 → mm_M G E6 H → va_S (mm_A G) s.heap H locs → lv_has ls 7 [(0, .ref (h)), (1, .int (zI (i))), (2, .int (zI (j))), (3, .int (zI ((u : Int) - 1))), (4, .int (zI ((lo : Int)))), (5, .int (zI ((hi9 : Int))))] → W p l e rX10_rootOf s m args below meth c H locs 0 0 (mm_Zi G below args s (fun z E => z = (if X * X = A then 1 else 0) ∧ (∃ R1, rg G E h R1 ∧ R1 t = X ∧ ∀ r, r < 15 → r ≠ t → R1 r = R r) ∧ ∀ q : Nat, (q ≠ h + 1) → E q = E0 q)) (F0 m 27 ls []) := by
          intro k27
          induction k27 with
          | zero => intro lo hi9 v9 R3 E6 H locs ls hl1 hl2 hh9 hv9 v3 k3 hO hR3 hfr hk hM hS hl; exact absurd hk (Nat.not_lt_zero _)
          | succ k27 ih27 =>
            intro lo hi9 v9 R3 E6 H locs ls hl1 hl2 hh9 hv9 v3 k3 hO hR3 hfr hk27 hM hS hl
            obtain ⟨hB9, g, hg, hP9⟩ := hR3.F t
            rw [v3] at hP9
            have hn9 : ∀ x, x < 1000000000 → nl (hiV X (u - 1) x) ≤ 37 := fun x hx => hiV_nl (by omega) (by omega) hx
            refine lv_iload C0.1 C0.2.1 dX10_rootOf_27 (lv_at hl 4 rfl) ?_
            refine lv_iload C0.1 C0.2.1 dX10_rootOf_29 (lv_at hl 5 rfl) ?_
            refine z_icmp_ge (tgt := 95) C0.1 C0.2.1 dX10_rootOf_31 (by decide) ⟨by omega, by omega⟩ ⟨by omega, by omega⟩ (fun c_31 => ?_) (fun c_31 => ?_)
            · skip
              have hle9 : lo = q9 := by omega
              refine lv_aload_n C0.1 C0.2.1 dX10_rootOf_95 rfl (lv_at hl 0 rfl) ?_
              refine mm_get (fs := [.ref (h + 1), .ref (h + 2), .ref (h + 3), .ref (h + 4), .int (zI (x1)), .int (zI (x2)), .long (zL (x3)), .ref (h + 5), .ref (h + 6), .ref (h + 7), .ref (h + 8), .int (zI (x4)), .int (zI (x5)), .int (zI (x6)), .int (zI (x7)), .int (zI (x8)), .ref (h + 9), .ref (h + 10), .ref (h + 11), .ref (h + 12)]) C0 (C := RX10) (T := TX10) (N := 20) iG_X10 hM (hO) rfl 0 (by decide) tw_916 rfl rfl dX10_rootOf_96 ?_
              refine lv_bipush (v := zI 80) C0.1 C0.2.1 dX10_rootOf_99 rfl ?_
              refine lv_iload_n C0.1 C0.2.1 dX10_rootOf_101 rfl (lv_at hl 1 rfl) ?_
              refine z_imul C0.1 C0.2.1 dX10_rootOf_102 ?_
              refine lv_iload_n C0.1 C0.2.1 dX10_rootOf_103 rfl (lv_at hl 3 rfl) ?_
              refine z_iadd C0.1 C0.2.1 dX10_rootOf_104 ?_
              refine lv_iload C0.1 C0.2.1 dX10_rootOf_105 (lv_at hl 4 rfl) ?_
              refine mm_iast C0 hM hS (g := g) (hg) (80 * t + (u - 1)) (i := ((((80) * (i))) + ((u : Int) - 1))) (x := (lo : Int)) (by omega) (by omega) (by decide) dX10_rootOf_107 (fun H locs hM hS hsz => ?_)
              obtain ⟨E7, hE7⟩ : ∃ X : mE, X = mm_up E6 (h + 1) (mm_I G 1280 (zup (g) (80 * t + (u - 1)) ((lo : Int)))) := ⟨_, rfl⟩
              replace hM : mm_M G E7 H := by rw [hE7]; exact hM
              have frs : ∀ q : Nat, q ≠ h + 1 → E7 q = E6 q := fun q h => by rw [hE7]; exact mm_up_n _ _ h
              have hat : E7 (h + 1) = some (mm_I G 1280 (zup (g) (80 * t + (u - 1)) ((lo : Int)))) := by rw [hE7]; exact mm_up_s _ _ _
              have hU : rgF G E7 h R3 t (nup (dg (hiV X (u - 1) v9)) (u - 1) lo) := ⟨hB9, _, hat, fP.st (by rw [← v3] at hP9 ⊢; exact hP9) (by omega)⟩
              obtain ⟨R6, hR6, v6, kr6⟩ := rgF.done (X := hiV X (u - 1) lo) hU (Nat.le_trans (hn9 lo (by omega)) (by omega)) (fun x _ => hiV_dg hv9 (by omega) x)
              rw [hle9, hq9, hiV_d] at v6
              have k6 : ∀ r, r < 15 → r ≠ t → R6 r = R r := fun r h1 h2 => (kr6 r h2).trans (k3 r h1 h2)
              have hO := ro.kept hO (frs _ (by omega))
              have hfr := (fun q h => (frs q (by omega)).trans (hfr q h) : ∀ q : Nat, (q ≠ h + 1) → E7 q = E0 q)
              refine lv_iinc (v := zI (((u - 1 : Nat) : Int) - 1)) (lv' := [(3, .int (zI (((u - 1 : Nat) : Int) - 1))), (0, .ref (h)), (1, .int (zI (i))), (2, .int (zI (j))), (4, .int (zI ((lo : Int)))), (5, .int (zI ((hi9 : Int))))]) C0.1 C0.2.1 dX10_rootOf_108 hl (k := 3) rfl (z_inc (a := (u : Int) - 1) (n := (-1)) (by omega)) (by decide) rfl (fun ls hl => ?_)
              refine lv_goto (tgt := 16) C0.1 C0.2.1 dX10_rootOf_111 (by decide) ?_
              exact ih16  (u - 1) R6 E7 _ _ _ (by omega) (v6) (k6) (hO) (hR6) (hfr) (by omega) hM hS (lv_sub hl [1, 2, 3, 0] rfl)
            · skip
              obtain ⟨md, hmd1, hmd2, hmd3⟩ : ∃ md, lo < md ∧ md ≤ hi9 ∧ md = lo + (hi9 - lo + 1) / 2 := ⟨_, by omega, by omega, rfl⟩
              have hn8 := hn9 md
              refine lv_iload C0.1 C0.2.1 dX10_rootOf_34 (lv_at hl 4 rfl) ?_
              refine lv_iload C0.1 C0.2.1 dX10_rootOf_36 (lv_at hl 5 rfl) ?_
              refine lv_iload C0.1 C0.2.1 dX10_rootOf_38 (lv_at hl 4 rfl) ?_
              refine z_isub C0.1 C0.2.1 dX10_rootOf_40 ?_
              refine lv_iconst (v := zI 1) C0.1 C0.2.1 dX10_rootOf_41 rfl ?_
              refine z_iadd C0.1 C0.2.1 dX10_rootOf_42 ?_
              refine lv_iconst (v := zI 2) C0.1 C0.2.1 dX10_rootOf_43 rfl ?_
              refine z_idivp C0.1 C0.2.1 dX10_rootOf_44 ⟨by omega, by omega⟩ ⟨by omega, by omega⟩ (by omega) (by omega) ?_
              refine z_iadd C0.1 C0.2.1 dX10_rootOf_45 ?_
              refine z_asI (a := (((lo : Int)) + ((((((((hi9 : Int)) - ((lo : Int)))) + (1))) / (2))))) (b := (md : Int)) (by omega) ?_
              refine lv_istore (lv' := [(6, .int (zI ((md : Int)))), (0, .ref (h)), (1, .int (zI (i))), (2, .int (zI (j))), (3, .int (zI ((u : Int) - 1))), (4, .int (zI ((lo : Int)))), (5, .int (zI ((hi9 : Int))))]) C0.1 C0.2.1 dX10_rootOf_46 hl (by decide) rfl (fun ls hl => ?_)
              refine lv_aload_n C0.1 C0.2.1 dX10_rootOf_48 rfl (lv_at hl 1 rfl) ?_
              refine mm_get (fs := [.ref (h + 1), .ref (h + 2), .ref (h + 3), .ref (h + 4), .int (zI (x1)), .int (zI (x2)), .long (zL (x3)), .ref (h + 5), .ref (h + 6), .ref (h + 7), .ref (h + 8), .int (zI (x4)), .int (zI (x5)), .int (zI (x6)), .int (zI (x7)), .int (zI (x8)), .ref (h + 9), .ref (h + 10), .ref (h + 11), .ref (h + 12)]) C0 (C := RX10) (T := TX10) (N := 20) iG_X10 hM (hO) rfl 0 (by decide) tw_916 rfl rfl dX10_rootOf_49 ?_
              refine lv_bipush (v := zI 80) C0.1 C0.2.1 dX10_rootOf_52 rfl ?_
              refine lv_iload_n C0.1 C0.2.1 dX10_rootOf_54 rfl (lv_at hl 2 rfl) ?_
              refine z_imul C0.1 C0.2.1 dX10_rootOf_55 ?_
              refine lv_iload_n C0.1 C0.2.1 dX10_rootOf_56 rfl (lv_at hl 4 rfl) ?_
              refine z_iadd C0.1 C0.2.1 dX10_rootOf_57 ?_
              refine lv_iload C0.1 C0.2.1 dX10_rootOf_58 (lv_at hl 0 rfl) ?_
              refine mm_iast C0 hM hS (g := g) (hg) (80 * t + (u - 1)) (i := ((((80) * (i))) + ((u : Int) - 1))) (x := (md : Int)) (by omega) (by omega) (by decide) dX10_rootOf_60 (fun H locs hM hS hsz => ?_)
              obtain ⟨E8, hE8⟩ : ∃ X : mE, X = mm_up E6 (h + 1) (mm_I G 1280 (zup (g) (80 * t + (u - 1)) ((md : Int)))) := ⟨_, rfl⟩
              replace hM : mm_M G E8 H := by rw [hE8]; exact hM
              have frs : ∀ q : Nat, q ≠ h + 1 → E8 q = E6 q := fun q h => by rw [hE8]; exact mm_up_n _ _ h
              have hat : E8 (h + 1) = some (mm_I G 1280 (zup (g) (80 * t + (u - 1)) ((md : Int)))) := by rw [hE8]; exact mm_up_s _ _ _
              have hU : rgF G E8 h R3 t (nup (dg (hiV X (u - 1) v9)) (u - 1) md) := ⟨hB9, _, hat, fP.st (by rw [← v3] at hP9 ⊢; exact hP9) (by omega)⟩
              obtain ⟨R4, hR4, v4, kr4⟩ := rgF.done (X := hiV X (u - 1) md) hU (Nat.le_trans (hn8 (by omega)) (by omega)) (fun x _ => hiV_dg hv9 (by omega) x)
              have k4A : R4 a = A := (kr4 a hta).trans ((k3 a ha hta).trans hA)
              have hO := ro.kept hO (frs _ (by omega))
              have hfr := (fun q h => (frs q (by omega)).trans (hfr q h) : ∀ q : Nat, (q ≠ h + 1) → E8 q = E0 q)
              refine lv_aload_n C0.1 C0.2.1 dX10_rootOf_61 rfl (lv_at hl 1 rfl) ?_
              refine lv_bipush (v := zI 15) C0.1 C0.2.1 dX10_rootOf_62 rfl ?_
              refine lv_iload_n C0.1 C0.2.1 dX10_rootOf_64 rfl (lv_at hl 2 rfl) ?_
              refine lv_iload_n C0.1 C0.2.1 dX10_rootOf_65 rfl (lv_at hl 2 rfl) ?_
              refine mm_callVv (As := [.int (zI (15)), .int (zI (i)), .int (zI (i))]) C0 vw_X10_multiply tw_1081 (c_X10_multiply l G _ hO hR4 (t := 15) rfl (by omega) hi (by omega) v4 hi (by omega) v4 (by omega) (by omega) (Nat.le_trans (nl_prod (hn8 (by omega)) (hn8 (by omega))) (by decide))) hM (hO) rfl rfl hl.1 rfl (Nat.le_of_ble_eq_true rfl) ⟨rfl, rfl, Nat.le_of_ble_eq_true rfl, Nat.le_of_ble_eq_true rfl, Nat.zero_le _, Nat.zero_le _⟩ dX10_rootOf_66 hS (fun E9 H locs hp hM hS => ?_)
              obtain ⟨⟨R5, hR5, v15, kr5⟩, fr⟩ := hp
              have hO := ro.kept hO (fr _ (by omega))
              have hfr := (fun q h => (fr q (by omega)).trans (hfr q h) : ∀ q : Nat, (q ≠ h + 1) → E9 q = E0 q)
              refine lv_aload_n C0.1 C0.2.1 dX10_rootOf_69 rfl (lv_at hl 1 rfl) ?_
              refine lv_bipush (v := zI 15) C0.1 C0.2.1 dX10_rootOf_70 rfl ?_
              refine lv_iload_n C0.1 C0.2.1 dX10_rootOf_72 rfl (lv_at hl 3 rfl) ?_
              refine mm_callVi (As := [.int (zI (15)), .int (zI (j))]) C0 vw_X10_compare tw_1105 (c_X10_compare l G _ hO hR5 (a := 15) rfl (by omega) v15 hj (by omega) ((kr5 a (by omega)).trans k4A)) hM (hO) rfl rfl hl.1 rfl (Nat.le_of_ble_eq_true rfl) ⟨rfl, rfl, Nat.le_of_ble_eq_true rfl, Nat.le_of_ble_eq_true rfl, Nat.zero_le _, Nat.zero_le _⟩ dX10_rootOf_73 hS (fun z_73 E10 H locs hp hM hS => ?_)
              obtain ⟨hz_73, hEq⟩ := hp
              rw [hEq] at hM
              have hcz : -1 ≤ z_73 ∧ z_73 ≤ 1 := hz_73 ▸ cmpZ_b _ _
              have hcl : z_73 ≤ 0 ↔ md ≤ q9 := by rw [hz_73, cmpZ_le, rt_sq hX, hiV_le, hq9]
              clear hz_73
              obtain ⟨hcz1, hcz2⟩ := hcz
              have v5 : R5 t = hiV X (u - 1) md := (kr5 t (by omega)).trans v4
              have k5 : ∀ r, r < 15 → r ≠ t → R5 r = R r := fun r h1 h2 => (kr5 r (by omega)).trans ((kr4 r h2).trans (k3 r h1 h2))
              refine z_if_gt (tgt := 86) C0.1 C0.2.1 dX10_rootOf_76 (by decide) ⟨by omega, by omega⟩ (fun c_76 => ?_) (fun c_76 => ?_)
              · skip
                have hcm : ¬ md ≤ q9 := fun q => absurd (hcl.mpr q) (Int.not_le.mpr c_76)
                refine lv_iload C0.1 C0.2.1 dX10_rootOf_86 (lv_at hl 0 rfl) ?_
                refine lv_iconst (v := zI 1) C0.1 C0.2.1 dX10_rootOf_88 rfl ?_
                refine z_isub C0.1 C0.2.1 dX10_rootOf_89 ?_
                refine z_asI (a := (((md : Int)) - (1))) (b := ((md - 1 : Nat) : Int)) (by omega) ?_
                refine lv_istore (lv' := [(5, .int (zI (((md - 1 : Nat) : Int)))), (6, .int (zI ((md : Int)))), (0, .ref (h)), (1, .int (zI (i))), (2, .int (zI (j))), (3, .int (zI ((u : Int) - 1))), (4, .int (zI ((lo : Int))))]) C0.1 C0.2.1 dX10_rootOf_90 hl (by decide) rfl (fun ls hl => ?_)
                refine lv_goto (tgt := 27) C0.1 C0.2.1 dX10_rootOf_92 (by decide) ?_
                exact ih27  lo (md - 1) md R5 E9 _ _ _ (by omega) (by omega) (by omega) (by omega) (v5) (k5) (hO) (hR5) (hfr) (by omega) hM hS (lv_sub hl [2, 3, 4, 5, 6, 0] rfl)
              · skip
                have hcm : md ≤ q9 := hcl.mp c_76
                refine lv_iload C0.1 C0.2.1 dX10_rootOf_79 (lv_at hl 0 rfl) ?_
                refine lv_istore (lv' := [(4, .int (zI ((md : Int)))), (6, .int (zI ((md : Int)))), (0, .ref (h)), (1, .int (zI (i))), (2, .int (zI (j))), (3, .int (zI ((u : Int) - 1))), (5, .int (zI ((hi9 : Int))))]) C0.1 C0.2.1 dX10_rootOf_81 hl (by decide) rfl (fun ls hl => ?_)
                refine lv_goto (tgt := 92) C0.1 C0.2.1 dX10_rootOf_83 (by decide) ?_
                refine lv_goto (tgt := 27) C0.1 C0.2.1 dX10_rootOf_92 (by decide) ?_
                exact ih27  md hi9 md R5 E9 _ _ _ (by omega) (by omega) (by omega) (by omega) (v5) (k5) (hO) (hR5) (hfr) (by omega) hM hS (lv_sub hl [2, 3, 4, 5, 0, 6] rfl)
        exact L27 (_ + 1) 0 999999999 0 R1 E3 _ _ _ (Nat.zero_le _) (by have := dg_lt X (u - 1); omega) (Nat.le_refl _) (by omega) (by rw [hiV_0, vt, show u - 1 + 1 = u by omega]) (k1) (hO) (hR1) (hfr) (Nat.lt_succ_self _) hM hS (lv_sub hl [2, 3, 4, 5, 1, 0] rfl)
  exact L16 (_ + 1) ((nl A + 1) / 2 + 1) R1 E1 _ _ _ (Nat.le_refl _) (by rw [vt, hiP_z (by omega)]) (fun r _ h2 => kr1 r h2) (hO) (hR1) (hfr) (Nat.lt_succ_self _) hM hS (lv_sub hl [1, 2, 3, 0] rfl)

def rX10_figuresOf : Room := { frames := 1, cells := 0, slots := 0, locals := 22 }
theorem vw_X10_figuresOf : mm_Vw RX10 yX10_figuresOf cX10_figuresOf 5 (some .int) 1 := ⟨tw_995, tp_18, tw_10, tw_996, by decide +kernel⟩
set_option maxHeartbeats 4000000 in
set_option maxRecDepth 100000 in
theorem c_X10_figuresOf (l : Launch) (G : mG) (E0 : mE) {h : Nat} {x1 x2 x3 x4 x5 x6 x7 x8 : Int} (hO : ro G E0 h x1 x2 x3 x4 x5 x6 x7 x8) {R : Nat → Nat} (hR : rg G E0 h R) {j : Int} {a A : Nat} (hj : j = (a : Int)) (ha : a < 16) (hA : R a = A) : mm_Ci l yX10_figuresOf (.code yX10_figuresOf cX10_figuresOf 5 (some .int) :: wsG) rX10_figuresOf G [.ref (h), .int (zI (j))] E0 (fun z E => z = (fgs A : Int) ∧ E = E0) := by
  refine mm_of_i (by decide +kernel) (Nat.le_of_ble_eq_true rfl) ?_
  intro p e s m args below meth c ls C0 hr hlk hM hl hS
  have hl : lv_has ls 5 [(0, .ref (h)), (1, .int (zI (j)))] := hl
  obtain ⟨hB9, g, hg, hP9⟩ := hR.F a
  have hnA : nl A ≤ 80 := hA ▸ hB9 a ha
  have hdt := dg_lt A (nl A - 1)
  refine lv_aload_n C0.1 C0.2.1 dX10_figuresOf_0 rfl (lv_at hl 0 rfl) ?_
  refine lv_iload_n C0.1 C0.2.1 dX10_figuresOf_1 rfl (lv_at hl 1 rfl) ?_
  refine mm_callVi (As := [.int (zI (j))]) C0 vw_X10_sizeOf tw_997 (c_X10_sizeOf l G _ hO hR hj ha hA) hM (hO) rfl rfl hl.1 rfl (Nat.le_of_ble_eq_true rfl) ⟨rfl, rfl, Nat.le_of_ble_eq_true rfl, Nat.le_of_ble_eq_true rfl, Nat.zero_le _, Nat.zero_le _⟩ dX10_figuresOf_2 hS (fun z_2 E1 H locs hp hM hS => ?_)
  obtain ⟨hz_2, hEq⟩ := hp
  rw [hEq] at hM
  refine z_asI (b := (nl A : Int)) (hz_2) ?_
  refine lv_istore_n (lv' := [(2, .int (zI ((nl A : Int)))), (0, .ref (h)), (1, .int (zI (j)))]) C0.1 C0.2.1 dX10_figuresOf_5 rfl hl (by decide) rfl (fun ls hl => ?_)
  refine lv_iload_n C0.1 C0.2.1 dX10_figuresOf_6 rfl (lv_at hl 0 rfl) ?_
  refine z_if_ne (tgt := 12) C0.1 C0.2.1 dX10_figuresOf_7 (by decide) ⟨by omega, by omega⟩ (fun c_7 => ?_) (fun c_7 => ?_)
  · skip
    refine lv_iconst (v := zI 0) C0.1 C0.2.1 dX10_figuresOf_12 rfl ?_
    refine lv_istore_n (lv' := [(3, .int (zI (0))), (2, .int (zI ((nl A : Int)))), (0, .ref (h)), (1, .int (zI (j)))]) C0.1 C0.2.1 dX10_figuresOf_13 rfl hl (by decide) rfl (fun ls hl => ?_)
    refine lv_aload_n C0.1 C0.2.1 dX10_figuresOf_14 rfl (lv_at hl 2 rfl) ?_
    refine mm_get (fs := [.ref (h + 1), .ref (h + 2), .ref (h + 3), .ref (h + 4), .int (zI (x1)), .int (zI (x2)), .long (zL (x3)), .ref (h + 5), .ref (h + 6), .ref (h + 7), .ref (h + 8), .int (zI (x4)), .int (zI (x5)), .int (zI (x6)), .int (zI (x7)), .int (zI (x8)), .ref (h + 9), .ref (h + 10), .ref (h + 11), .ref (h + 12)]) C0 (C := RX10) (T := TX10) (N := 20) iG_X10 hM (hO) rfl 0 (by decide) tw_916 rfl rfl dX10_figuresOf_15 ?_
    refine lv_bipush (v := zI 80) C0.1 C0.2.1 dX10_figuresOf_18 rfl ?_
    refine lv_iload_n C0.1 C0.2.1 dX10_figuresOf_20 rfl (lv_at hl 3 rfl) ?_
    refine z_imul C0.1 C0.2.1 dX10_figuresOf_21 ?_
    refine lv_iload_n C0.1 C0.2.1 dX10_figuresOf_22 rfl (lv_at hl 1 rfl) ?_
    refine z_iadd C0.1 C0.2.1 dX10_figuresOf_23 ?_
    refine lv_iconst (v := zI 1) C0.1 C0.2.1 dX10_figuresOf_24 rfl ?_
    refine z_isub C0.1 C0.2.1 dX10_figuresOf_25 ?_
    refine mm_iald C0 hM (g := g) (hg) (80 * a + (nl A - 1)) (i := ((((((80) * (j))) + ((nl A : Int)))) - (1))) (by omega) (by omega) (by decide) dX10_figuresOf_26 ?_
    refine z_asI (b := (dg A (nl A - 1) : Int)) (hP9.rd (by omega) (by omega) hA rfl) ?_
    refine lv_istore (lv' := [(4, .int (zI ((dg A (nl A - 1) : Int)))), (3, .int (zI (0))), (2, .int (zI ((nl A : Int)))), (0, .ref (h)), (1, .int (zI (j)))]) C0.1 C0.2.1 dX10_figuresOf_27 hl (by decide) rfl (fun ls hl => ?_)
    have L29 : ∀ (k29 : Nat) (v cy : Nat) (H : Heap) (locs : List Loc) (ls : Array Slot), (v < 1000000000) → (cy + dl v = dl (dg A (nl A - 1))) → (cy ≤ 9) → v < k29 → mm_M G E0 H → va_S (mm_A G) s.heap H locs → lv_has ls 5 [(0, .ref (h)), (2, .int (zI ((nl A : Int)))), (3, .int (zI ((cy : Int)))), (4, .int (zI ((v : Int))))] → W p l e rX10_figuresOf s m args below meth c H locs 0 0 (mm_Zi G below args s (fun z E => z = (fgs A : Int) ∧ E = E0)) (F0 m 29 ls []) := by
      intro k29
      induction k29 with
      | zero => intro v cy H locs ls hv hc hc9 hk hM hS hl; exact absurd hk (Nat.not_lt_zero _)
      | succ k29 ih29 =>
        intro v cy H locs ls hv hc hc9 hk29 hM hS hl
        have hd9 : dl (dg A (nl A - 1)) ≤ 9 := (dl_le 9 _).mpr (by omega)
        refine lv_iload C0.1 C0.2.1 dX10_figuresOf_29 (lv_at hl 3 rfl) ?_
        refine z_if_le (tgt := 47) C0.1 C0.2.1 dX10_figuresOf_31 (by decide) ⟨by omega, by omega⟩ (fun c_31 => ?_) (fun c_31 => ?_)
        · skip
          have hv0 : v = 0 := by omega
          subst hv0
          rw [dl_0] at hc
          refine lv_bipush (v := zI 9) C0.1 C0.2.1 dX10_figuresOf_47 rfl ?_
          refine lv_iload_n C0.1 C0.2.1 dX10_figuresOf_49 rfl (lv_at hl 1 rfl) ?_
          refine lv_iconst (v := zI 1) C0.1 C0.2.1 dX10_figuresOf_50 rfl ?_
          refine z_isub C0.1 C0.2.1 dX10_figuresOf_51 ?_
          refine z_imul C0.1 C0.2.1 dX10_figuresOf_52 ?_
          refine lv_iload_n C0.1 C0.2.1 dX10_figuresOf_53 rfl (lv_at hl 2 rfl) ?_
          refine z_iadd C0.1 C0.2.1 dX10_figuresOf_54 ?_
          exact mm_iret (z := ((((9) * ((((nl A : Int)) - (1))))) + ((cy : Int)))) C0 hr hlk hM hS dX10_figuresOf_55 (⟨by rw [fgs_p (fun q => by rw [nl_eq0.mpr q] at c_7; exact c_7 rfl)]; omega, rfl⟩)
        · skip
          refine lv_iinc (v := zI (((cy + 1 : Nat) : Int))) (lv' := [(3, .int (zI (((cy + 1 : Nat) : Int)))), (0, .ref (h)), (2, .int (zI ((nl A : Int)))), (4, .int (zI ((v : Int))))]) C0.1 C0.2.1 dX10_figuresOf_34 hl (k := 2) rfl (z_inc (a := (cy : Int)) (n := 1) (by omega)) (by decide) rfl (fun ls hl => ?_)
          refine lv_iload C0.1 C0.2.1 dX10_figuresOf_37 (lv_at hl 3 rfl) ?_
          refine lv_bipush (v := zI 10) C0.1 C0.2.1 dX10_figuresOf_39 rfl ?_
          refine z_idivp C0.1 C0.2.1 dX10_figuresOf_41 ⟨by omega, by omega⟩ ⟨by omega, by omega⟩ (by omega) (by omega) ?_
          refine z_asI (a := (((v : Int)) / (10))) (b := ((v / 10 : Nat) : Int)) (by omega) ?_
          refine lv_istore (lv' := [(4, .int (zI (((v / 10 : Nat) : Int)))), (3, .int (zI (((cy + 1 : Nat) : Int)))), (0, .ref (h)), (2, .int (zI ((nl A : Int))))]) C0.1 C0.2.1 dX10_figuresOf_42 hl (by decide) rfl (fun ls hl => ?_)
          refine lv_goto (tgt := 29) C0.1 C0.2.1 dX10_figuresOf_44 (by decide) ?_
          exact ih29  (v / 10) (cy + 1) _ _ _ (by omega) (by rw [dl_s (N := v) (by omega)] at hc; omega) (by rw [dl_s (N := v) (by omega)] at hc; omega)  (by omega) hM hS (lv_sub hl [2, 3, 1, 0] rfl)
    exact L29 (_ + 1) (dg A (nl A - 1)) 0 _ _ _ (hdt) (Nat.zero_add _) (Nat.zero_le _)  (Nat.lt_succ_self _) hM hS (lv_sub hl [3, 2, 1, 0] rfl)
  · skip
    refine lv_iconst (v := zI 1) C0.1 C0.2.1 dX10_figuresOf_10 rfl ?_
    exact mm_iret (z := 1) C0 hr hlk hM hS dX10_figuresOf_11 (⟨by rw [nl_eq0 (N := A) |>.mp (by omega), fgs_0]; rfl, rfl⟩)

def rX10_isLong : Room := { frames := 1, cells := 0, slots := 0, locals := 22 }
theorem vw_X10_isLong : mm_Vw RX10 yX10_isLong cX10_isLong 2 (some .boolean) 1 := ⟨tw_1045, tp_23, tw_10, tw_1046, by decide +kernel⟩
set_option maxHeartbeats 4000000 in
set_option maxRecDepth 100000 in
theorem c_X10_isLong (l : Launch) (G : mG) (E0 : mE) {h : Nat} {x1 x2 x3 x4 x5 x6 x7 x8 : Int} (hO : ro G E0 h x1 x2 x3 x4 x5 x6 x7 x8) {R : Nat → Nat} (hR : rg G E0 h R) {j : Int} {a A : Nat} (hj : j = (a : Int)) (ha : a < 16) (hA : R a = A) : mm_Ci l yX10_isLong (.code yX10_isLong cX10_isLong 2 (some .boolean) :: wsG) rX10_isLong G [.ref (h), .int (zI (j))] E0 (fun z E => z = (if 24 < nl A then 1 else 0) ∧ E = E0) := by
  refine mm_of_i (by decide +kernel) (Nat.le_of_ble_eq_true rfl) ?_
  intro p e s m args below meth c ls C0 hr hlk hM hl hS
  have hl : lv_has ls 2 [(0, .ref (h)), (1, .int (zI (j)))] := hl
  have hnA : nl A ≤ 80 := hA ▸ hR.1 a ha
  refine lv_aload_n C0.1 C0.2.1 dX10_isLong_0 rfl (lv_at hl 0 rfl) ?_
  refine lv_iload_n C0.1 C0.2.1 dX10_isLong_1 rfl (lv_at hl 1 rfl) ?_
  refine mm_callVi (As := [.int (zI (j))]) C0 vw_X10_sizeOf tw_997 (c_X10_sizeOf l G _ hO hR hj ha hA) hM (hO) rfl rfl hl.1 rfl (Nat.le_of_ble_eq_true rfl) ⟨rfl, rfl, Nat.le_of_ble_eq_true rfl, Nat.le_of_ble_eq_true rfl, Nat.zero_le _, Nat.zero_le _⟩ dX10_isLong_2 hS (fun z_2 E1 H locs hp hM hS => ?_)
  obtain ⟨hz_2, hEq⟩ := hp
  rw [hEq] at hM
  refine z_asI (b := (nl A : Int)) (hz_2) ?_
  refine lv_bipush (v := zI 24) C0.1 C0.2.1 dX10_isLong_5 rfl ?_
  refine z_icmp_le (tgt := 14) C0.1 C0.2.1 dX10_isLong_7 (by decide) ⟨by omega, by omega⟩ ⟨by omega, by omega⟩ (fun c_7 => ?_) (fun c_7 => ?_)
  · skip
    refine lv_iconst (v := zI 0) C0.1 C0.2.1 dX10_isLong_14 rfl ?_
    exact mm_zret (z := 0) C0 hr hlk hM hS (by omega) dX10_isLong_15 (⟨by rw [if_neg (by omega)], rfl⟩)
  · skip
    refine lv_iconst (v := zI 1) C0.1 C0.2.1 dX10_isLong_10 rfl ?_
    refine lv_goto (tgt := 15) C0.1 C0.2.1 dX10_isLong_11 (by decide) ?_
    exact mm_zret (z := 1) C0 hr hlk hM hS (by omega) dX10_isLong_15 (⟨by rw [if_pos (by omega)], rfl⟩)

def rX10_come : Room := { frames := 2, cells := 0, slots := 0, locals := 46 }
theorem vw_X10_come : mm_Vw RX10 yX10_come cX10_come 3 (some .int) 2 := ⟨tw_1041, tp_22, tw_10, tw_1042, by decide +kernel⟩
set_option maxHeartbeats 4000000 in
set_option maxRecDepth 100000 in
theorem c_X10_come (l : Launch) (G : mG) (E0 : mE) {h : Nat} {x1 x2 x3 x4 x5 x6 x7 x8 : Int} (hO : ro G E0 h x1 x2 x3 x4 x5 x6 x7 x8) {R : Nat → Nat} (hR : rg G E0 h R) {fh : Nat → Int} (hH : E0 (h + 2) = some (mm_I G 8 fh)) {i : Int} {t : Nat} (hi : i = (t : Int)) (ht : t < 8) {j : Int} {a A : Nat} (hj : j = (a : Int)) (ha : a < 16) (hA : R a = A) : mm_Ci l yX10_come (.code yX10_come cX10_come 3 (some .int) :: wsG) rX10_come G [.ref (h), .int (zI (i)), .int (zI (j))] E0 (fun z E => z = lanZ A ∧ ((24 < nl A ∧ E = E0) ∨ (nl A ≤ 24 ∧ (∃ R1, rg G E h R1 ∧ R1 t = A ∧ ∀ r, r ≠ t → R1 r = R r) ∧ E (h + 2) = some (mm_I G 8 (zup fh t 1)) ∧ ∀ q : Nat, (q ≠ h + 1 ∧ q ≠ h + 2) → E q = E0 q))) := by
  refine mm_of_i (by decide +kernel) (Nat.le_of_ble_eq_true rfl) ?_
  intro p e s m args below meth c ls C0 hr hlk hM hl hS
  have hl : lv_has ls 3 [(0, .ref (h)), (1, .int (zI (i))), (2, .int (zI (j)))] := hl
  have hnA : nl A ≤ 80 := hA ▸ hR.1 a ha
  refine lv_aload_n C0.1 C0.2.1 dX10_come_0 rfl (lv_at hl 0 rfl) ?_
  refine lv_iload_n C0.1 C0.2.1 dX10_come_1 rfl (lv_at hl 2 rfl) ?_
  refine mm_callVi (As := [.int (zI (j))]) C0 vw_X10_isLong tw_1043 (c_X10_isLong l G _ hO hR hj ha hA) hM (hO) rfl rfl hl.1 rfl (Nat.le_of_ble_eq_true rfl) ⟨rfl, rfl, Nat.le_of_ble_eq_true rfl, Nat.le_of_ble_eq_true rfl, Nat.zero_le _, Nat.zero_le _⟩ dX10_come_2 hS (fun z_2 E1 H locs hp hM hS => ?_)
  obtain ⟨hz_2, hEq⟩ := hp
  rw [hEq] at hM
  have hz_2b := if01 hz_2
  refine z_if_eq (tgt := 11) C0.1 C0.2.1 dX10_come_5 (by decide) ⟨by omega, by omega⟩ (fun c_5 => ?_) (fun c_5 => ?_)
  · skip
    refine lv_aload_n C0.1 C0.2.1 dX10_come_11 rfl (lv_at hl 0 rfl) ?_
    refine lv_iload_n C0.1 C0.2.1 dX10_come_12 rfl (lv_at hl 1 rfl) ?_
    refine lv_iload_n C0.1 C0.2.1 dX10_come_13 rfl (lv_at hl 2 rfl) ?_
    refine mm_callVv (As := [.int (zI (i)), .int (zI (j))]) C0 vw_X10_copy tw_1047 (c_X10_copy l G _ hO hR hi (by omega) hj ha hA) hM (hO) rfl rfl hl.1 rfl (Nat.le_of_ble_eq_true rfl) ⟨rfl, rfl, Nat.le_of_ble_eq_true rfl, Nat.le_of_ble_eq_true rfl, Nat.zero_le _, Nat.zero_le _⟩ dX10_come_14 hS (fun E2 H locs hp hM hS => ?_)
    obtain ⟨⟨R1, hR1, vt, kr⟩, fr⟩ := hp
    have hO := ro.kept hO (fr _ (by omega))
    have hH := (fr _ (by omega)).trans hH
    have hg := fr
    refine lv_aload_n C0.1 C0.2.1 dX10_come_17 rfl (lv_at hl 0 rfl) ?_
    refine mm_get (fs := [.ref (h + 1), .ref (h + 2), .ref (h + 3), .ref (h + 4), .int (zI (x1)), .int (zI (x2)), .long (zL (x3)), .ref (h + 5), .ref (h + 6), .ref (h + 7), .ref (h + 8), .int (zI (x4)), .int (zI (x5)), .int (zI (x6)), .int (zI (x7)), .int (zI (x8)), .ref (h + 9), .ref (h + 10), .ref (h + 11), .ref (h + 12)]) C0 (C := RX10) (T := TX10) (N := 20) iG_X10 hM (hO) rfl 1 (by decide) tw_917 rfl rfl dX10_come_18 ?_
    refine lv_iload_n C0.1 C0.2.1 dX10_come_21 rfl (lv_at hl 1 rfl) ?_
    refine lv_iconst (v := zI 1) C0.1 C0.2.1 dX10_come_22 rfl ?_
    refine mm_iast C0 hM hS (g := fh) (hH) (t) (i := i) (x := 1) (by omega) (by omega) (by decide) dX10_come_23 (fun H locs hM hS hsz => ?_)
    obtain ⟨E3, hE3⟩ : ∃ X : mE, X = mm_up E2 (h + 2) (mm_I G 8 (zup (fh) (t) (1))) := ⟨_, rfl⟩
    replace hM : mm_M G E3 H := by rw [hE3]; exact hM
    have frs : ∀ q : Nat, q ≠ h + 2 → E3 q = E2 q := fun q h => by rw [hE3]; exact mm_up_n _ _ h
    have hat : E3 (h + 2) = some (mm_I G 8 (zup (fh) (t) (1))) := by rw [hE3]; exact mm_up_s _ _ _
    have hH := hat
    have hR1 := hR1.kept (frs _ (by omega))
    have hg2 : ∀ q : Nat, (q ≠ h + 1 ∧ q ≠ h + 2) → E3 q = E0 q := fun q h => (frs q (by omega)).trans (hg q (by omega))
    have hO := ro.kept hO (frs _ (by omega))
    refine lv_aload_n C0.1 C0.2.1 dX10_come_24 rfl (lv_at hl 0 rfl) ?_
    refine lv_iload_n C0.1 C0.2.1 dX10_come_25 rfl (lv_at hl 1 rfl) ?_
    refine mm_callVi (As := [.int (zI (i))]) C0 vw_X10_figuresOf tw_993 (c_X10_figuresOf l G _ hO hR1 hi (by omega) vt) hM (hO) rfl rfl hl.1 rfl (Nat.le_of_ble_eq_true rfl) ⟨rfl, rfl, Nat.le_of_ble_eq_true rfl, Nat.le_of_ble_eq_true rfl, Nat.zero_le _, Nat.zero_le _⟩ dX10_come_26 hS (fun z_26 E4 H locs hp hM hS => ?_)
    obtain ⟨hz_26, hEq⟩ := hp
    rw [hEq] at hM
    refine z_asI (b := (fgs A : Int)) (hz_26) ?_
    exact mm_iret (z := (fgs A : Int)) C0 hr hlk hM hS dX10_come_29 (⟨by unfold lanZ; rw [if_neg (by omega)], Or.inr ⟨by omega, ⟨R1, hR1, vt, kr⟩, hH, hg2⟩⟩)
  · skip
    refine lv_bipush (v := zI (-3)) C0.1 C0.2.1 dX10_come_8 rfl ?_
    exact mm_iret (z := (-3)) C0 hr hlk hM hS dX10_come_10 (⟨by unfold lanZ; rw [if_pos (by omega)], Or.inl ⟨by omega, rfl⟩⟩)

def rX10_lacks : Room := { frames := 0, cells := 0, slots := 0, locals := 0 }
theorem vw_X10_lacks : mm_Vw RX10 yX10_lacks cX10_lacks 3 (some .int) 2 := ⟨tw_1115, tp_37, tw_10, tw_1116, by decide +kernel⟩
set_option maxHeartbeats 4000000 in
set_option maxRecDepth 100000 in
theorem c_X10_lacks (l : Launch) (G : mG) (E0 : mE) {h : Nat} {x1 x2 x3 x4 x5 x6 x7 x8 : Int} (hO : ro G E0 h x1 x2 x3 x4 x5 x6 x7 x8) {fh : Nat → Int} (hH : E0 (h + 2) = some (mm_I G 8 fh)) {i : Int} {t : Nat} (hi : i = (t : Int)) (ht : t < 8) {v : Int} {w : Nat} (hv : v = 0 ∨ v = 1) (hw : fh t = (w : Int)) (hw6 : w ≤ 6) : mm_Ci l yX10_lacks (.code yX10_lacks cX10_lacks 3 (some .int) :: wsG) rX10_lacks G [.ref (h), .int (zI (i)), .int (zI (v))] E0 (fun z E => z = (if v = 0 then nFau w else sFau w) ∧ E = E0) := by
  refine mm_of_i (by decide +kernel) (Nat.le_of_ble_eq_true rfl) ?_
  intro p e s m args below meth c ls C0 hr hlk hM hl hS
  have hl : lv_has ls 3 [(0, .ref (h)), (1, .int (zI (i))), (2, .int (zI (v)))] := hl
  refine lv_aload_n C0.1 C0.2.1 dX10_lacks_0 rfl (lv_at hl 0 rfl) ?_
  refine mm_get (fs := [.ref (h + 1), .ref (h + 2), .ref (h + 3), .ref (h + 4), .int (zI (x1)), .int (zI (x2)), .long (zL (x3)), .ref (h + 5), .ref (h + 6), .ref (h + 7), .ref (h + 8), .int (zI (x4)), .int (zI (x5)), .int (zI (x6)), .int (zI (x7)), .int (zI (x8)), .ref (h + 9), .ref (h + 10), .ref (h + 11), .ref (h + 12)]) C0 (C := RX10) (T := TX10) (N := 20) iG_X10 hM (hO) rfl 1 (by decide) tw_917 rfl rfl dX10_lacks_1 ?_
  refine lv_iload_n C0.1 C0.2.1 dX10_lacks_4 rfl (lv_at hl 1 rfl) ?_
  refine mm_iald C0 hM (g := fh) (hH) (t) (i := i) (by omega) (by omega) (by decide) dX10_lacks_5 ?_
  refine z_asI (b := (w : Int)) (hw) ?_
  refine z_if_ne (tgt := 14) C0.1 C0.2.1 dX10_lacks_6 (by decide) ⟨by omega, by omega⟩ (fun c_6 => ?_) (fun c_6 => ?_)
  · skip
    refine lv_aload_n C0.1 C0.2.1 dX10_lacks_14 rfl (lv_at hl 0 rfl) ?_
    refine mm_get (fs := [.ref (h + 1), .ref (h + 2), .ref (h + 3), .ref (h + 4), .int (zI (x1)), .int (zI (x2)), .long (zL (x3)), .ref (h + 5), .ref (h + 6), .ref (h + 7), .ref (h + 8), .int (zI (x4)), .int (zI (x5)), .int (zI (x6)), .int (zI (x7)), .int (zI (x8)), .ref (h + 9), .ref (h + 10), .ref (h + 11), .ref (h + 12)]) C0 (C := RX10) (T := TX10) (N := 20) iG_X10 hM (hO) rfl 1 (by decide) tw_917 rfl rfl dX10_lacks_15 ?_
    refine lv_iload_n C0.1 C0.2.1 dX10_lacks_18 rfl (lv_at hl 1 rfl) ?_
    refine mm_iald C0 hM (g := fh) (hH) (t) (i := i) (by omega) (by omega) (by decide) dX10_lacks_19 ?_
    refine z_asI (b := (w : Int)) (hw) ?_
    refine lv_iconst (v := zI 1) C0.1 C0.2.1 dX10_lacks_20 rfl ?_
    refine z_icmp_le (tgt := 28) C0.1 C0.2.1 dX10_lacks_21 (by decide) ⟨by omega, by omega⟩ ⟨by omega, by omega⟩ (fun c_21 => ?_) (fun c_21 => ?_)
    · skip
      refine lv_iconst (v := zI 0) C0.1 C0.2.1 dX10_lacks_28 rfl ?_
      refine lv_iload_n C0.1 C0.2.1 dX10_lacks_29 rfl (lv_at hl 2 rfl) ?_
      refine z_icmp_ne (tgt := 37) C0.1 C0.2.1 dX10_lacks_30 (by decide) ⟨by omega, by omega⟩ ⟨by omega, by omega⟩ (fun c_30 => ?_) (fun c_30 => ?_)
      · skip
        refine lv_bipush (v := zI (-12)) C0.1 C0.2.1 dX10_lacks_37 rfl ?_
        exact mm_iret (z := (-12)) C0 hr hlk hM hS dX10_lacks_39 (⟨by unfold nFau sFau; split <;> (try split) <;> (try split) <;> omega, rfl⟩)
      · skip
        refine lv_iconst (v := zI 0) C0.1 C0.2.1 dX10_lacks_33 rfl ?_
        refine lv_goto (tgt := 39) C0.1 C0.2.1 dX10_lacks_34 (by decide) ?_
        exact mm_iret (z := 0) C0 hr hlk hM hS dX10_lacks_39 (⟨by unfold nFau sFau; split <;> (try split) <;> (try split) <;> omega, rfl⟩)
    · skip
      refine lv_iconst (v := zI 1) C0.1 C0.2.1 dX10_lacks_24 rfl ?_
      refine lv_goto (tgt := 29) C0.1 C0.2.1 dX10_lacks_25 (by decide) ?_
      refine lv_iload_n C0.1 C0.2.1 dX10_lacks_29 rfl (lv_at hl 2 rfl) ?_
      refine z_icmp_ne (tgt := 37) C0.1 C0.2.1 dX10_lacks_30 (by decide) ⟨by omega, by omega⟩ ⟨by omega, by omega⟩ (fun c_30 => ?_) (fun c_30 => ?_)
      · skip
        refine lv_bipush (v := zI (-12)) C0.1 C0.2.1 dX10_lacks_37 rfl ?_
        exact mm_iret (z := (-12)) C0 hr hlk hM hS dX10_lacks_39 (⟨by unfold nFau sFau; split <;> (try split) <;> (try split) <;> omega, rfl⟩)
      · skip
        refine lv_iconst (v := zI 0) C0.1 C0.2.1 dX10_lacks_33 rfl ?_
        refine lv_goto (tgt := 39) C0.1 C0.2.1 dX10_lacks_34 (by decide) ?_
        exact mm_iret (z := 0) C0 hr hlk hM hS dX10_lacks_39 (⟨by unfold nFau sFau; split <;> (try split) <;> (try split) <;> omega, rfl⟩)
  · skip
    refine lv_bipush (v := zI (-11)) C0.1 C0.2.1 dX10_lacks_9 rfl ?_
    refine lv_goto (tgt := 39) C0.1 C0.2.1 dX10_lacks_11 (by decide) ?_
    exact mm_iret (z := (-11)) C0 hr hlk hM hS dX10_lacks_39 (⟨by unfold nFau sFau; split <;> (try split) <;> (try split) <;> omega, rfl⟩)
