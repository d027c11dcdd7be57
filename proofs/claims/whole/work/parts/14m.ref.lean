theorem clo_y {i : Int} {n : Nat} (h : i = -1) : clo i n = (n : Int) := if_pos h
theorem clo_n {i : Int} {n : Nat} (h : ¬ i = -1) : clo i n = -4 := if_neg h
theorem off_b {d y : Int} (h1 : 2 ≤ d) (h2 : d ≤ 9999) (h3 : 0 ≤ y) (h4 : y ≤ 10000) : 0 ≤ d * y * y ∧ d * y * y ≤ 999900000000 := by
  have m0 : 0 ≤ d * y := Int.mul_nonneg (by omega) h3
  have m1 : d * y ≤ 9999 * 10000 := Int.mul_le_mul h2 h4 h3 (by omega)
  exact ⟨Int.mul_nonneg m0 h3, Int.mul_le_mul m1 h4 h3 (by omega)⟩
theorem ps_sq {n a : Nat} (h : 2 * (a * a) ≤ n) : (sq ((n : Int) - ((a * a : Nat) : Int))) ↔ ∃ b, a ≤ b ∧ ps sqf n a b := by
  constructor
  · rintro ⟨r, hr⟩
    rw [← Int.natCast_mul] at hr
    have h2 : r * r + a * a = n := by omega
    refine ⟨r, Nat.le_of_not_lt fun q => ?_, by unfold ps sqf; omega⟩
    have := Nat.mul_lt_mul_of_lt_of_le q (Nat.le_of_lt q) (by omega)
    omega
  · rintro ⟨b, h1, h2⟩
    unfold ps sqf at h2
    exact ⟨b, by rw [← Int.natCast_mul]; omega⟩
theorem ps_no {n a : Nat} (h : n < 2 * (a * a)) : ∀ j, a ≤ j → ¬ ∃ b, j ≤ b ∧ ps sqf n j b := fun j hj => by
  rintro ⟨b, h1, h2⟩
  unfold ps sqf at h2
  have := Nat.mul_le_mul hj hj
  have := Nat.mul_le_mul h1 h1
  omega

def rX10_off : Room := { frames := 3, cells := 0, slots := 0, locals := 68 }
theorem vw_X10_off : mm_Vw RX10 yX10_off cX10_off 6 (some .int) 3 := ⟨tw_1234, tw_1235, tw_10, tw_1236, by decide +kernel⟩
set_option maxHeartbeats 4000000 in
set_option maxRecDepth 100000 in
theorem c_X10_off (l : Launch) (G : mG) (E0 : mE) {h : Nat} {S : mST} (hF : rf G E0 h S) (hok : okR S) {d f i : Int} (hr_d : rI d) (hr_f : rI f) (hr_i : rI i) : mm_Ci l yX10_off (.code yX10_off cX10_off 6 (some .int) :: wsG) rX10_off G [.ref (h), .int (zI (d)), .int (zI (f)), .int (zI (i))] E0 (fun z E => z = (pf_off S d f i).1 ∧ rf G E h (pf_off S d f i).2 ∧ ∀ q : Nat, (q < h ∨ h + 13 ≤ q) → E q = E0 q) := by
  refine mm_of_i (by decide +kernel) (Nat.le_of_ble_eq_true rfl) ?_
  intro p e s m args below meth c ls C0 hr hlk hM hl hS
  have hl : lv_has ls 6 [(0, .ref (h)), (1, .int (zI (d))), (2, .int (zI (f))), (3, .int (zI (i)))] := hl
  obtain ⟨hr_d1, hr_d2⟩ := hr_d
  obtain ⟨hr_f1, hr_f2⟩ := hr_f
  obtain ⟨hr_i1, hr_i2⟩ := hr_i
  obtain ⟨R, x2, x3, x4, x5, x6, x7, hX⟩ := hF
  have hX0 := hX
  obtain ⟨hTk, hPk, hKk, hSk⟩ := hok
  obtain ⟨hO, hR, hRp, ⟨fh, fc, hH, hC, hPa⟩, hTp, hCl, hKp, hSh, him⟩ := hX
  
  refine lv_iload_n C0.1 C0.2.1 dX10_off_0 rfl (lv_at hl 1 rfl) ?_
  refine mm_callSi (As := [.int (zI (d))]) C0 sw_X10_isRoot tw_1189 (c_X10_isRoot l G _ (d := d) ⟨by omega, by omega⟩) hM rfl hl.1 rfl (Nat.le_of_ble_eq_true rfl) ⟨rfl, rfl, Nat.le_of_ble_eq_true rfl, Nat.le_of_ble_eq_true rfl, Nat.zero_le _, Nat.zero_le _⟩ dX10_off_1 hS (fun z_1 E1 H locs hp hM hS => ?_)
  obtain ⟨hz_1, hEq⟩ := hp
  rw [hEq] at hM
  have hz01 : z_1 = 0 ∨ z_1 = 1 := hz_1.elim (fun h => Or.inr h.1) (fun h => Or.inl h.1)
  refine z_if_eq (tgt := 35) C0.1 C0.2.1 dX10_off_4 (by decide) ⟨by omega, by omega⟩ (fun c_4 => ?_) (fun c_4 => ?_)
  · skip
    have hno : ¬ isRt d := hz_1.elim (fun h => by omega) (fun h => h.2)
    refine lv_iconst (v := zI (-1)) C0.1 C0.2.1 dX10_off_35 rfl ?_
    exact mm_iret (z := (-1)) C0 hr hlk hM hS dX10_off_36 (by have he : pf_off S d f i = ((-1), S) := (by unfold pf_off; rw [if_neg (fun q => hno (bq_y q.1))]); rw [he]; exact ⟨rfl, hX0.rf, fun _ _ => rfl⟩)
  · skip
    obtain ⟨hq1, hq2, hq3⟩ := hz_1.elim (fun h => h.2) (fun h => by omega)
    have hyes : bq (isRt d) = true := bq_t ⟨hq1, hq2, hq3⟩
    refine lv_iload_n C0.1 C0.2.1 dX10_off_7 rfl (lv_at hl 2 rfl) ?_
    refine z_i2l C0.1 C0.2.1 dX10_off_8 ⟨by omega, by omega⟩ ?_
    refine mm_ldc2 (z := (-99)) C0 tw_1237 rfl dX10_off_9 ?_
    refine mm_ldc2 (z := 99) C0 tw_1007 rfl dX10_off_12 ?_
    refine mm_callSi (As := [.long (zL (f)), .long (zL ((-99))), .long (zL (99))]) C0 sw_X10_in tw_985 (c_X10_in l G _ (v := f) (lo := (-99)) (hi := 99) ⟨by omega, by omega⟩ ⟨by omega, by omega⟩ ⟨by omega, by omega⟩) hM rfl hl.1 rfl (Nat.le_of_ble_eq_true rfl) ⟨rfl, rfl, Nat.le_of_ble_eq_true rfl, Nat.le_of_ble_eq_true rfl, Nat.zero_le _, Nat.zero_le _⟩ dX10_off_15 hS (fun z_15 E2 H locs hp hM hS => ?_)
    obtain ⟨hz_15, hEq⟩ := hp
    rw [hEq] at hM
    have hz_15b := if01 hz_15
    refine z_if_eq (tgt := 35) C0.1 C0.2.1 dX10_off_18 (by decide) ⟨by omega, by omega⟩ (fun c_18 => ?_) (fun c_18 => ?_)
    · skip
      refine lv_iconst (v := zI (-1)) C0.1 C0.2.1 dX10_off_35 rfl ?_
      exact mm_iret (z := (-1)) C0 hr hlk hM hS dX10_off_36 (by have he : pf_off S d f i = ((-1), S) := (by unfold pf_off; rw [if_neg (fun q => by have q1 := q.2; omega)]); rw [he]; exact ⟨rfl, hX0.rf, fun _ _ => rfl⟩)
    · skip
      refine lv_iload_n C0.1 C0.2.1 dX10_off_21 rfl (lv_at hl 3 rfl) ?_
      refine z_i2l C0.1 C0.2.1 dX10_off_22 ⟨by omega, by omega⟩ ?_
      refine mm_ldc2 (z := (-1)) C0 tw_1200 rfl dX10_off_23 ?_
      refine mm_ldc2 (z := 9999) C0 tw_1192 rfl dX10_off_26 ?_
      refine mm_callSi (As := [.long (zL (i)), .long (zL ((-1))), .long (zL (9999))]) C0 sw_X10_in tw_985 (c_X10_in l G _ (v := i) (lo := (-1)) (hi := 9999) ⟨by omega, by omega⟩ ⟨by omega, by omega⟩ ⟨by omega, by omega⟩) hM rfl hl.1 rfl (Nat.le_of_ble_eq_true rfl) ⟨rfl, rfl, Nat.le_of_ble_eq_true rfl, Nat.le_of_ble_eq_true rfl, Nat.zero_le _, Nat.zero_le _⟩ dX10_off_29 hS (fun z_29 E3 H locs hp hM hS => ?_)
      obtain ⟨hz_29, hEq⟩ := hp
      rw [hEq] at hM
      have hz_29b := if01 hz_29
      refine z_if_ne (tgt := 37) C0.1 C0.2.1 dX10_off_32 (by decide) ⟨by omega, by omega⟩ (fun c_32 => ?_) (fun c_32 => ?_)
      · skip
        refine lv_iconst (v := zI 0) C0.1 C0.2.1 dX10_off_37 rfl ?_
        refine lv_istore (lv' := [(4, .int (zI (0))), (0, .ref (h)), (1, .int (zI (d))), (2, .int (zI (f))), (3, .int (zI (i)))]) C0.1 C0.2.1 dX10_off_38 hl (by decide) rfl (fun ls hl => ?_)
        refine lv_iconst (v := zI 0) C0.1 C0.2.1 dX10_off_40 rfl ?_
        refine lv_istore (lv' := [(5, .int (zI (0))), (4, .int (zI (0))), (0, .ref (h)), (1, .int (zI (d))), (2, .int (zI (f))), (3, .int (zI (i)))]) C0.1 C0.2.1 dX10_off_41 hl (by decide) rfl (fun ls hl => ?_)
        have L43 : ∀ (k43 : Nat) (y cn : Nat) (H : Heap) (locs : List Loc) (ls : Array Slot), (y ≤ 10000) → (cn ≤ y) → (scan (fun y => bq (sq (d * (y : Int) * (y : Int) + f))) (fun y => (y : Int)) i 0 0 10000 = scan (fun y => bq (sq (d * (y : Int) * (y : Int) + f))) (fun y => (y : Int)) i y cn (10000 - y)) → 10000 - y < k43 → mm_M G E0 H → va_S (mm_A G) s.heap H locs → lv_has ls 6 [(0, .ref (h)), (1, .int (zI (d))), (2, .int (zI (f))), (3, .int (zI (i))), (4, .int (zI ((cn : Int)))), (5, .int (zI ((y : Int))))] → W p l e rX10_off s m args below meth c H locs 0 0 (mm_Zi G below args s (fun z E => z = (pf_off S d f i).1 ∧ rf G E h (pf_off S d f i).2 ∧ ∀ q : Nat, (q < h ∨ h + 13 ≤ q) → E q = E0 q)) (F0 m 43 ls []) := by
          intro k43
          induction k43 with
          | zero => intro y cn H locs ls hy hcn hsc hk hM hS hl; exact absurd hk (Nat.not_lt_zero _)
          | succ k43 ih43 =>
            intro y cn H locs ls hy hcn hsc hk43 hM hS hl
            refine lv_iload C0.1 C0.2.1 dX10_off_43 (lv_at hl 5 rfl) ?_
            refine lv_sipush (v := zI 10000) C0.1 C0.2.1 dX10_off_45 rfl ?_
            refine z_icmp_ge (tgt := 88) C0.1 C0.2.1 dX10_off_48 (by decide) ⟨by omega, by omega⟩ ⟨by omega, by omega⟩ (fun c_48 => ?_) (fun c_48 => ?_)
            · skip
              have hye : y = 10000 := by omega
              subst hye
              rw [Nat.sub_self, scan_0] at hsc
              refine lv_iload_n C0.1 C0.2.1 dX10_off_88 rfl (lv_at hl 3 rfl) ?_
              refine z_if_ge (tgt := 97) C0.1 C0.2.1 dX10_off_89 (by decide) ⟨by omega, by omega⟩ (fun c_89 => ?_) (fun c_89 => ?_)
              · skip
                refine lv_bipush (v := zI (-4)) C0.1 C0.2.1 dX10_off_97 rfl ?_
                exact mm_iret (z := (-4)) C0 hr hlk hM hS dX10_off_99 (by have he : pf_off S d f i = ((-4), S) := (by unfold pf_off; rw [if_pos ⟨hyes, by omega, by omega⟩, hsc, clo_n (by omega)]); rw [he]; exact ⟨rfl, hX0.rf, fun _ _ => rfl⟩)
              · skip
                refine lv_iload C0.1 C0.2.1 dX10_off_92 (lv_at hl 4 rfl) ?_
                refine lv_goto (tgt := 99) C0.1 C0.2.1 dX10_off_94 (by decide) ?_
                exact mm_iret (z := (cn : Int)) C0 hr hlk hM hS dX10_off_99 (by have he : pf_off S d f i = ((cn : Int), S) := (by unfold pf_off; rw [if_pos ⟨hyes, by omega, by omega⟩, hsc, clo_y (by omega)]); rw [he]; exact ⟨rfl, hX0.rf, fun _ _ => rfl⟩)
            · skip
              obtain ⟨v9, hv9⟩ : ∃ v : Int, v = d * (y : Int) * (y : Int) + f := ⟨_, rfl⟩
              have hvb := off_b (d := d) (y := (y : Int)) (by omega) (by omega) (by omega) (by omega)
              have hvr : -99 ≤ v9 ∧ v9 ≤ 999900000099 := by rw [hv9]; omega
              obtain ⟨hvr1, hvr2⟩ := hvr
              have hv9h : hid (v9 = d * (y : Int) * (y : Int) + f) := hv9
              clear hv9 hvb
              refine lv_iload_n C0.1 C0.2.1 dX10_off_51 rfl (lv_at hl 1 rfl) ?_
              refine z_i2l C0.1 C0.2.1 dX10_off_52 ⟨by omega, by omega⟩ ?_
              refine lv_iload C0.1 C0.2.1 dX10_off_53 (lv_at hl 5 rfl) ?_
              refine z_i2l C0.1 C0.2.1 dX10_off_55 ⟨by omega, by omega⟩ ?_
              refine z_lmul C0.1 C0.2.1 dX10_off_56 ?_
              refine lv_iload C0.1 C0.2.1 dX10_off_57 (lv_at hl 5 rfl) ?_
              refine z_i2l C0.1 C0.2.1 dX10_off_59 ⟨by omega, by omega⟩ ?_
              refine z_lmul C0.1 C0.2.1 dX10_off_60 ?_
              refine lv_iload_n C0.1 C0.2.1 dX10_off_61 rfl (lv_at hl 2 rfl) ?_
              refine z_i2l C0.1 C0.2.1 dX10_off_62 ⟨by omega, by omega⟩ ?_
              refine z_ladd C0.1 C0.2.1 dX10_off_63 ?_
              refine z_asL (a := ((((((d) * ((y : Int)))) * ((y : Int)))) + (f))) (b := v9) ((show v9 = _ from hv9h).symm) ?_
              refine mm_callSi (As := [.long (zL (v9))]) C0 sw_X10_isSquare tw_1193 (c_X10_isSquare l G _ (v := v9) ⟨by omega, by omega⟩) hM rfl hl.1 rfl (Nat.le_of_ble_eq_true rfl) ⟨rfl, rfl, Nat.le_of_ble_eq_true rfl, Nat.le_of_ble_eq_true rfl, Nat.zero_le _, Nat.zero_le _⟩ dX10_off_64 hS (fun z_64 E4 H locs hp hM hS => ?_)
              obtain ⟨hz_64, hEq⟩ := hp
              rw [hEq] at hM
              have hz01 : z_64 = 0 ∨ z_64 = 1 := hz_64.elim (fun h => Or.inr h.1) (fun h => Or.inl h.1)
              refine z_if_eq (tgt := 82) C0.1 C0.2.1 dX10_off_67 (by decide) ⟨by omega, by omega⟩ (fun c_67 => ?_) (fun c_67 => ?_)
              · skip
                have hns : ¬ sq (d * (y : Int) * (y : Int) + f) := (show v9 = _ from hv9h) ▸ hz_64.elim (fun h => by omega) (fun h => h.2)
                refine lv_iinc (v := zI (((y + 1 : Nat) : Int))) (lv' := [(5, .int (zI (((y + 1 : Nat) : Int)))), (0, .ref (h)), (1, .int (zI (d))), (2, .int (zI (f))), (3, .int (zI (i))), (4, .int (zI ((cn : Int))))]) C0.1 C0.2.1 dX10_off_82 hl (k := 5) rfl (z_inc (a := (y : Int)) (n := 1) (by omega)) (by decide) rfl (fun ls hl => ?_)
                refine lv_goto (tgt := 43) C0.1 C0.2.1 dX10_off_85 (by decide) ?_
                exact ih43  (y + 1) cn _ _ _ (by omega) (by omega) (by rw [hsc, scan_f (m := 10000 - (y + 1)) (by omega) (bq_f hns)])  (by omega) hM hS (lv_sub hl [1, 2, 3, 4, 5, 0] rfl)
              · skip
                have hys : sq (d * (y : Int) * (y : Int) + f) := (show v9 = _ from hv9h) ▸ hz_64.elim (fun h => h.2) (fun h => by omega)
                refine lv_iload C0.1 C0.2.1 dX10_off_70 (lv_at hl 4 rfl) ?_
                refine lv_iload_n C0.1 C0.2.1 dX10_off_72 rfl (lv_at hl 3 rfl) ?_
                refine z_icmp_ne (tgt := 79) C0.1 C0.2.1 dX10_off_73 (by decide) ⟨by omega, by omega⟩ ⟨by omega, by omega⟩ (fun c_73 => ?_) (fun c_73 => ?_)
                · skip
                  refine lv_iinc (v := zI (((cn + 1 : Nat) : Int))) (lv' := [(4, .int (zI (((cn + 1 : Nat) : Int)))), (0, .ref (h)), (1, .int (zI (d))), (2, .int (zI (f))), (3, .int (zI (i))), (5, .int (zI ((y : Int))))]) C0.1 C0.2.1 dX10_off_79 hl (k := 4) rfl (z_inc (a := (cn : Int)) (n := 1) (by omega)) (by decide) rfl (fun ls hl => ?_)
                  refine lv_iinc (v := zI (((y + 1 : Nat) : Int))) (lv' := [(5, .int (zI (((y + 1 : Nat) : Int)))), (4, .int (zI (((cn + 1 : Nat) : Int)))), (0, .ref (h)), (1, .int (zI (d))), (2, .int (zI (f))), (3, .int (zI (i)))]) C0.1 C0.2.1 dX10_off_82 hl (k := 5) rfl (z_inc (a := (y : Int)) (n := 1) (by omega)) (by decide) rfl (fun ls hl => ?_)
                  refine lv_goto (tgt := 43) C0.1 C0.2.1 dX10_off_85 (by decide) ?_
                  exact ih43  (y + 1) (cn + 1) _ _ _ (by omega) (by omega) (by rw [hsc, scan_t (m := 10000 - (y + 1)) (by omega) (bq_t hys) (by omega)])  (by omega) hM hS (lv_sub hl [2, 3, 4, 5, 1, 0] rfl)
                · skip
                  refine lv_iload C0.1 C0.2.1 dX10_off_76 (lv_at hl 5 rfl) ?_
                  exact mm_iret (z := (y : Int)) C0 hr hlk hM hS dX10_off_78 (by have he : pf_off S d f i = ((y : Int), S) := (by unfold pf_off; rw [if_pos ⟨hyes, by omega, by omega⟩, hsc, scan_hit (m := 10000 - (y + 1)) (by omega) (bq_t hys) (by omega)]); rw [he]; exact ⟨rfl, hX0.rf, fun _ _ => rfl⟩)
        exact L43 (_ + 1) 0 0 _ _ _ (Nat.zero_le _) (Nat.zero_le _) (rfl)  (Nat.lt_succ_self _) hM hS (lv_sub hl [2, 3, 4, 5, 1, 0] rfl)
      · skip
        refine lv_iconst (v := zI (-1)) C0.1 C0.2.1 dX10_off_35 rfl ?_
        exact mm_iret (z := (-1)) C0 hr hlk hM hS dX10_off_36 (by have he : pf_off S d f i = ((-1), S) := (by unfold pf_off; rw [if_neg (fun q => by have q1 := q.2; omega)]); rw [he]; exact ⟨rfl, hX0.rf, fun _ _ => rfl⟩)

def rX10_two : Room := { frames := 2, cells := 0, slots := 0, locals := 48 }
theorem vw_X10_two : mm_Vw RX10 yX10_two cX10_two 5 (some .int) 2 := ⟨tw_1245, tw_1246, tw_10, tw_1247, by decide +kernel⟩
set_option maxHeartbeats 4000000 in
set_option maxRecDepth 100000 in
theorem c_X10_two (l : Launch) (G : mG) (E0 : mE) {h : Nat} {S : mST} (hF : rf G E0 h S) (hok : okR S) {n i : Int} (hr_n : rI n) (hr_i : rI i) : mm_Ci l yX10_two (.code yX10_two cX10_two 5 (some .int) :: wsG) rX10_two G [.ref (h), .int (zI (n)), .int (zI (i))] E0 (fun z E => z = (pf_two S n i).1 ∧ rf G E h (pf_two S n i).2 ∧ ∀ q : Nat, (q < h ∨ h + 13 ≤ q) → E q = E0 q) := by
  refine mm_of_i (by decide +kernel) (Nat.le_of_ble_eq_true rfl) ?_
  intro p e s m args below meth c ls C0 hr hlk hM hl hS
  have hl : lv_has ls 5 [(0, .ref (h)), (1, .int (zI (n))), (2, .int (zI (i)))] := hl
  obtain ⟨hr_n1, hr_n2⟩ := hr_n
  obtain ⟨hr_i1, hr_i2⟩ := hr_i
  obtain ⟨R, x2, x3, x4, x5, x6, x7, hX⟩ := hF
  have hX0 := hX
  obtain ⟨hTk, hPk, hKk, hSk⟩ := hok
  obtain ⟨hO, hR, hRp, ⟨fh, fc, hH, hC, hPa⟩, hTp, hCl, hKp, hSh, him⟩ := hX
  
  refine lv_iload_n C0.1 C0.2.1 dX10_two_0 rfl (lv_at hl 1 rfl) ?_
  refine z_i2l C0.1 C0.2.1 dX10_two_1 ⟨by omega, by omega⟩ ?_
  refine lv_lconst (v := zL 0) C0.1 C0.2.1 dX10_two_2 rfl ?_
  refine mm_ldc2 (z := 1000000000) C0 tw_992 rfl dX10_two_3 ?_
  refine mm_callSi (As := [.long (zL (n)), .long (zL (0)), .long (zL (1000000000))]) C0 sw_X10_in tw_985 (c_X10_in l G _ (v := n) (lo := 0) (hi := 1000000000) ⟨by omega, by omega⟩ ⟨by omega, by omega⟩ ⟨by omega, by omega⟩) hM rfl hl.1 rfl (Nat.le_of_ble_eq_true rfl) ⟨rfl, rfl, Nat.le_of_ble_eq_true rfl, Nat.le_of_ble_eq_true rfl, Nat.zero_le _, Nat.zero_le _⟩ dX10_two_6 hS (fun z_6 E1 H locs hp hM hS => ?_)
  obtain ⟨hz_6, hEq⟩ := hp
  rw [hEq] at hM
  have hz_6b := if01 hz_6
  refine z_if_eq (tgt := 17) C0.1 C0.2.1 dX10_two_9 (by decide) ⟨by omega, by omega⟩ (fun c_9 => ?_) (fun c_9 => ?_)
  · skip
    refine lv_iconst (v := zI (-1)) C0.1 C0.2.1 dX10_two_17 rfl ?_
    exact mm_iret (z := (-1)) C0 hr hlk hM hS dX10_two_18 (by have he : pf_two S n i = ((-1), S) := (by unfold pf_two; rw [if_neg (by omega)]); rw [he]; exact ⟨rfl, hX0.rf, fun _ _ => rfl⟩)
  · skip
    refine lv_iload_n C0.1 C0.2.1 dX10_two_12 rfl (lv_at hl 2 rfl) ?_
    refine lv_iconst (v := zI (-1)) C0.1 C0.2.1 dX10_two_13 rfl ?_
    refine z_icmp_ge (tgt := 19) C0.1 C0.2.1 dX10_two_14 (by decide) ⟨by omega, by omega⟩ ⟨by omega, by omega⟩ (fun c_14 => ?_) (fun c_14 => ?_)
    · skip
      refine lv_iconst (v := zI 0) C0.1 C0.2.1 dX10_two_19 rfl ?_
      refine lv_istore_n (lv' := [(3, .int (zI (0))), (0, .ref (h)), (1, .int (zI (n))), (2, .int (zI (i)))]) C0.1 C0.2.1 dX10_two_20 rfl hl (by decide) rfl (fun ls hl => ?_)
      refine lv_iconst (v := zI 0) C0.1 C0.2.1 dX10_two_21 rfl ?_
      refine lv_istore (lv' := [(4, .int (zI (0))), (3, .int (zI (0))), (0, .ref (h)), (1, .int (zI (n))), (2, .int (zI (i)))]) C0.1 C0.2.1 dX10_two_22 hl (by decide) rfl (fun ls hl => ?_)
      have L24 : ∀ (k24 : Nat) (a cn : Nat) (H : Heap) (locs : List Loc) (ls : Array Slot), (a ≤ 22362) → (cn ≤ a) → (scan (psB sqf n.toNat) (fun y => (y : Int)) i 0 0 40000 = scan (psB sqf n.toNat) (fun y => (y : Int)) i a cn (40000 - a)) → 22363 - a < k24 → mm_M G E0 H → va_S (mm_A G) s.heap H locs → lv_has ls 5 [(0, .ref (h)), (1, .int (zI (n))), (2, .int (zI (i))), (3, .int (zI ((cn : Int)))), (4, .int (zI ((a : Int))))] → W p l e rX10_two s m args below meth c H locs 0 0 (mm_Zi G below args s (fun z E => z = (pf_two S n i).1 ∧ rf G E h (pf_two S n i).2 ∧ ∀ q : Nat, (q < h ∨ h + 13 ≤ q) → E q = E0 q)) (F0 m 24 ls []) := by
        intro k24
        induction k24 with
        | zero => intro a cn H locs ls hy hcn hsc hk hM hS hl; exact absurd hk (Nat.not_lt_zero _)
        | succ k24 ih24 =>
          intro a cn H locs ls hy hcn hsc hk24 hM hS hl
          obtain ⟨q9, hq9⟩ : ∃ q, q = a * a := ⟨_, rfl⟩
          have hq9b : q9 ≤ 22362 * 22362 := hq9 ▸ Nat.mul_le_mul (by omega) (by omega)
          have hq9z : ((a : Nat) : Int) * ((a : Nat) : Int) = (q9 : Int) := by rw [hq9]; exact (Int.natCast_mul _ _).symm
          have hq9y : 2 * ((a : Nat) : Int) * ((a : Nat) : Int) = ((2 * q9 : Nat) : Int) := by rw [Int.mul_assoc, hq9z]; omega
          have hq9h : hid (q9 = a * a) := hq9
          have hq9z := show hid _ from hq9z
          have hq9y := show hid _ from hq9y
          clear hq9
          refine mm_ldc2 (z := 2) C0 tw_1089 rfl dX10_two_24 ?_
          refine lv_iload C0.1 C0.2.1 dX10_two_27 (lv_at hl 4 rfl) ?_
          refine z_i2l C0.1 C0.2.1 dX10_two_29 ⟨by omega, by omega⟩ ?_
          refine z_lmul C0.1 C0.2.1 dX10_two_30 ?_
          refine lv_iload C0.1 C0.2.1 dX10_two_31 (lv_at hl 4 rfl) ?_
          refine z_i2l C0.1 C0.2.1 dX10_two_33 ⟨by omega, by omega⟩ ?_
          refine z_lmul C0.1 C0.2.1 dX10_two_34 ?_
          refine z_asL (a := ((((2) * ((a : Int)))) * ((a : Int)))) (b := ((2 * q9 : Nat) : Int)) ((show _ = _ from hq9y)) ?_
          refine lv_iload_n C0.1 C0.2.1 dX10_two_35 rfl (lv_at hl 1 rfl) ?_
          refine z_i2l C0.1 C0.2.1 dX10_two_36 ⟨by omega, by omega⟩ ?_
          refine z_lcmp_gt (tgt := 72) C0.1 C0.2.1 dX10_two_37 dX10_two_38 (by decide) ⟨by omega, by omega⟩ ⟨by omega, by omega⟩ (fun c_37 => ?_) (fun c_37 => ?_)
          · skip
            rw [scan_end (p := psB sqf n.toNat) (n := 40000 - a) (fun j hj => bq_f (ps_no (n := n.toNat) (a := a) (by rw [← show q9 = _ from hq9h]; omega) j hj))] at hsc
            refine lv_iload_n C0.1 C0.2.1 dX10_two_72 rfl (lv_at hl 2 rfl) ?_
            refine z_if_ge (tgt := 80) C0.1 C0.2.1 dX10_two_73 (by decide) ⟨by omega, by omega⟩ (fun c_73 => ?_) (fun c_73 => ?_)
            · skip
              refine lv_bipush (v := zI (-4)) C0.1 C0.2.1 dX10_two_80 rfl ?_
              exact mm_iret (z := (-4)) C0 hr hlk hM hS dX10_two_82 (by have he : pf_two S n i = ((-4), S) := (by unfold pf_two; rw [if_pos (by omega), hsc, clo_n (by omega)]); rw [he]; exact ⟨rfl, hX0.rf, fun _ _ => rfl⟩)
            · skip
              refine lv_iload_n C0.1 C0.2.1 dX10_two_76 rfl (lv_at hl 3 rfl) ?_
              refine lv_goto (tgt := 82) C0.1 C0.2.1 dX10_two_77 (by decide) ?_
              exact mm_iret (z := (cn : Int)) C0 hr hlk hM hS dX10_two_82 (by have he : pf_two S n i = ((cn : Int), S) := (by unfold pf_two; rw [if_pos (by omega), hsc, clo_y (by omega)]); rw [he]; exact ⟨rfl, hX0.rf, fun _ _ => rfl⟩)
          · skip
            have hlt : a ≤ 22361 := Nat.le_of_not_lt fun q => by have h9 := Nat.mul_le_mul (show 22362 ≤ a from q) (show 22362 ≤ a from q); rw [← show q9 = _ from hq9h] at h9; omega
            refine lv_iload_n C0.1 C0.2.1 dX10_two_41 rfl (lv_at hl 1 rfl) ?_
            refine lv_iload C0.1 C0.2.1 dX10_two_42 (lv_at hl 4 rfl) ?_
            refine lv_iload C0.1 C0.2.1 dX10_two_44 (lv_at hl 4 rfl) ?_
            refine z_imul C0.1 C0.2.1 dX10_two_46 ?_
            refine z_asI (a := (((a : Int)) * ((a : Int)))) (b := (q9 : Int)) ((show _ = _ from hq9z)) ?_
            refine z_isub C0.1 C0.2.1 dX10_two_47 ?_
            refine z_i2l C0.1 C0.2.1 dX10_two_48 ⟨by omega, by omega⟩ ?_
            refine mm_callSi (As := [.long (zL (((n) - ((q9 : Int)))))]) C0 sw_X10_isSquare tw_1193 (c_X10_isSquare l G _ (v := n - (q9 : Int)) ⟨by omega, by omega⟩) hM rfl hl.1 rfl (Nat.le_of_ble_eq_true rfl) ⟨rfl, rfl, Nat.le_of_ble_eq_true rfl, Nat.le_of_ble_eq_true rfl, Nat.zero_le _, Nat.zero_le _⟩ dX10_two_49 hS (fun z_49 E2 H locs hp hM hS => ?_)
            obtain ⟨hz_49, hEq⟩ := hp
            rw [hEq] at hM
            have hz01 : z_49 = 0 ∨ z_49 = 1 := hz_49.elim (fun h => Or.inr h.1) (fun h => Or.inl h.1)
            have hps := ps_sq (n := n.toNat) (a := a) (by rw [← show q9 = _ from hq9h]; omega)
            rw [← show q9 = _ from hq9h, show ((n.toNat : Nat) : Int) = n by omega] at hps
            refine z_if_eq (tgt := 66) C0.1 C0.2.1 dX10_two_52 (by decide) ⟨by omega, by omega⟩ (fun c_52 => ?_) (fun c_52 => ?_)
            · skip
              have hns := fun q => hz_49.elim (fun h => (by omega : False)) (fun h => h.2 (hps.mpr q))
              refine lv_iinc (v := zI (((a + 1 : Nat) : Int))) (lv' := [(4, .int (zI (((a + 1 : Nat) : Int)))), (0, .ref (h)), (1, .int (zI (n))), (2, .int (zI (i))), (3, .int (zI ((cn : Int))))]) C0.1 C0.2.1 dX10_two_66 hl (k := 4) rfl (z_inc (a := (a : Int)) (n := 1) (by omega)) (by decide) rfl (fun ls hl => ?_)
              refine lv_goto (tgt := 24) C0.1 C0.2.1 dX10_two_69 (by decide) ?_
              exact ih24  (a + 1) cn _ _ _ (by omega) (by omega) (by rw [hsc, scan_f (m := 40000 - (a + 1)) (by omega) (bq_f hns)])  (by omega) hM hS (lv_sub hl [1, 2, 3, 4, 0] rfl)
            · skip
              have hys := hps.mp (hz_49.elim (fun h => h.2) (fun h => by omega))
              refine lv_iload_n C0.1 C0.2.1 dX10_two_55 rfl (lv_at hl 3 rfl) ?_
              refine lv_iload_n C0.1 C0.2.1 dX10_two_56 rfl (lv_at hl 2 rfl) ?_
              refine z_icmp_ne (tgt := 63) C0.1 C0.2.1 dX10_two_57 (by decide) ⟨by omega, by omega⟩ ⟨by omega, by omega⟩ (fun c_57 => ?_) (fun c_57 => ?_)
              · skip
                refine lv_iinc (v := zI (((cn + 1 : Nat) : Int))) (lv' := [(3, .int (zI (((cn + 1 : Nat) : Int)))), (0, .ref (h)), (1, .int (zI (n))), (2, .int (zI (i))), (4, .int (zI ((a : Int))))]) C0.1 C0.2.1 dX10_two_63 hl (k := 3) rfl (z_inc (a := (cn : Int)) (n := 1) (by omega)) (by decide) rfl (fun ls hl => ?_)
                refine lv_iinc (v := zI (((a + 1 : Nat) : Int))) (lv' := [(4, .int (zI (((a + 1 : Nat) : Int)))), (3, .int (zI (((cn + 1 : Nat) : Int)))), (0, .ref (h)), (1, .int (zI (n))), (2, .int (zI (i)))]) C0.1 C0.2.1 dX10_two_66 hl (k := 4) rfl (z_inc (a := (a : Int)) (n := 1) (by omega)) (by decide) rfl (fun ls hl => ?_)
                refine lv_goto (tgt := 24) C0.1 C0.2.1 dX10_two_69 (by decide) ?_
                exact ih24  (a + 1) (cn + 1) _ _ _ (by omega) (by omega) (by rw [hsc, scan_t (m := 40000 - (a + 1)) (by omega) (bq_t hys) (by omega)])  (by omega) hM hS (lv_sub hl [2, 3, 4, 1, 0] rfl)
              · skip
                refine lv_iload C0.1 C0.2.1 dX10_two_60 (lv_at hl 4 rfl) ?_
                exact mm_iret (z := (a : Int)) C0 hr hlk hM hS dX10_two_62 (by have he : pf_two S n i = ((a : Int), S) := (by unfold pf_two; rw [if_pos (by omega), hsc, scan_hit (m := 40000 - (a + 1)) (by omega) (bq_t hys) (by omega)]); rw [he]; exact ⟨rfl, hX0.rf, fun _ _ => rfl⟩)
      exact L24 (_ + 1) 0 0 _ _ _ (Nat.zero_le _) (Nat.zero_le _) (rfl)  (Nat.lt_succ_self _) hM hS (lv_sub hl [2, 3, 4, 1, 0] rfl)
    · skip
      refine lv_iconst (v := zI (-1)) C0.1 C0.2.1 dX10_two_17 rfl ?_
      exact mm_iret (z := (-1)) C0 hr hlk hM hS dX10_two_18 (by have he : pf_two S n i = ((-1), S) := (by unfold pf_two; rw [if_neg (by omega)]); rw [he]; exact ⟨rfl, hX0.rf, fun _ _ => rfl⟩)

def rX10_isSeven : Room := { frames := 0, cells := 0, slots := 0, locals := 0 }
theorem sw_X10_isSeven : mm_Sw yX10_isSeven cX10_isSeven 2 (some .boolean) 1 := ⟨tw_1264, tw_10, tw_1265, by decide +kernel⟩
set_option maxHeartbeats 4000000 in
set_option maxRecDepth 100000 in
theorem c_X10_isSeven (l : Launch) (G : mG) (E0 : mE) {nn : Int} {n : Nat} (hnn : nn = (n : Int)) (hn : n < 2147483648) : mm_Ci l yX10_isSeven (.code yX10_isSeven cX10_isSeven 2 (some .boolean) :: wsG) rX10_isSeven G [.int (zI (nn))] E0 (fun z E => ((z = 1 ∧ s7 n = true) ∨ (z = 0 ∧ s7 n = false)) ∧ E = E0) := by
  refine mm_of_i (by decide +kernel) (Nat.le_of_ble_eq_true rfl) ?_
  intro p e s m args below meth c ls C0 hr hlk hM hl hS
  have hl : lv_has ls 2 [(0, .int (zI (nn)))] := hl
  refine lv_iload_n C0.1 C0.2.1 dX10_isSeven_0 rfl (lv_at hl 0 rfl) ?_
  refine z_asI (a := nn) (b := (n : Int)) (hnn) ?_
  refine lv_istore_n (lv' := [(1, .int (zI ((n : Int)))), (0, .int (zI (nn)))]) C0.1 C0.2.1 dX10_isSeven_1 rfl hl (by decide) rfl (fun ls hl => ?_)
  have L2 : ∀ (k2 : Nat) (r : Nat) (H : Heap) (locs : List Loc) (ls : Array Slot), (r ≤ n) → (s7 r = s7 n) → r < k2 → mm_M G E0 H → va_S (mm_A G) s.heap H locs → lv_has ls 2 [(0, .int (zI (nn))), (1, .int (zI ((r : Int))))] → W p l e rX10_isSeven s m args below meth c H locs 0 0 (mm_Zi G below args s (fun z E => ((z = 1 ∧ s7 n = true) ∨ (z = 0 ∧ s7 n = false)) ∧ E = E0)) (F0 m 2 ls []) := by
    intro k2
    induction k2 with
    | zero => intro r H locs ls hrn hs hk hM hS hl; exact absurd hk (Nat.not_lt_zero _)
    | succ k2 ih2 =>
      intro r H locs ls hrn hs hk2 hM hS hl
      refine lv_iload_n C0.1 C0.2.1 dX10_isSeven_2 rfl (lv_at hl 1 rfl) ?_
      refine z_if_le (tgt := 19) C0.1 C0.2.1 dX10_isSeven_3 (by decide) ⟨by omega, by omega⟩ (fun c_3 => ?_) (fun c_3 => ?_)
      · skip
        refine lv_iload_n C0.1 C0.2.1 dX10_isSeven_19 rfl (lv_at hl 1 rfl) ?_
        refine lv_bipush (v := zI 8) C0.1 C0.2.1 dX10_isSeven_20 rfl ?_
        refine z_iremp C0.1 C0.2.1 dX10_isSeven_22 ⟨by omega, by omega⟩ ⟨by omega, by omega⟩ (by omega) (by omega) ?_
        refine lv_bipush (v := zI 7) C0.1 C0.2.1 dX10_isSeven_23 rfl ?_
        refine z_icmp_ne (tgt := 32) C0.1 C0.2.1 dX10_isSeven_25 (by decide) ⟨by omega, by omega⟩ ⟨by omega, by omega⟩ (fun c_25 => ?_) (fun c_25 => ?_)
        · skip
          refine lv_iconst (v := zI 0) C0.1 C0.2.1 dX10_isSeven_32 rfl ?_
          exact mm_zret (z := 0) C0 hr hlk hM hS (by omega) dX10_isSeven_33 (⟨Or.inr ⟨rfl, by rw [← hs, s7_e (by omega)]; exact beq_eq_false_iff_ne.mpr (by omega)⟩, rfl⟩)
        · skip
          refine lv_iconst (v := zI 1) C0.1 C0.2.1 dX10_isSeven_28 rfl ?_
          refine lv_goto (tgt := 33) C0.1 C0.2.1 dX10_isSeven_29 (by decide) ?_
          exact mm_zret (z := 1) C0 hr hlk hM hS (by omega) dX10_isSeven_33 (⟨Or.inl ⟨rfl, by rw [← hs, s7_e (by omega)]; exact beq_iff_eq.mpr (by omega)⟩, rfl⟩)
      · skip
        refine lv_iload_n C0.1 C0.2.1 dX10_isSeven_6 rfl (lv_at hl 1 rfl) ?_
        refine lv_iconst (v := zI 4) C0.1 C0.2.1 dX10_isSeven_7 rfl ?_
        refine z_iremp C0.1 C0.2.1 dX10_isSeven_8 ⟨by omega, by omega⟩ ⟨by omega, by omega⟩ (by omega) (by omega) ?_
        refine z_if_ne (tgt := 19) C0.1 C0.2.1 dX10_isSeven_9 (by decide) ⟨by omega, by omega⟩ (fun c_9 => ?_) (fun c_9 => ?_)
        · skip
          refine lv_iload_n C0.1 C0.2.1 dX10_isSeven_19 rfl (lv_at hl 1 rfl) ?_
          refine lv_bipush (v := zI 8) C0.1 C0.2.1 dX10_isSeven_20 rfl ?_
          refine z_iremp C0.1 C0.2.1 dX10_isSeven_22 ⟨by omega, by omega⟩ ⟨by omega, by omega⟩ (by omega) (by omega) ?_
          refine lv_bipush (v := zI 7) C0.1 C0.2.1 dX10_isSeven_23 rfl ?_
          refine z_icmp_ne (tgt := 32) C0.1 C0.2.1 dX10_isSeven_25 (by decide) ⟨by omega, by omega⟩ ⟨by omega, by omega⟩ (fun c_25 => ?_) (fun c_25 => ?_)
          · skip
            refine lv_iconst (v := zI 0) C0.1 C0.2.1 dX10_isSeven_32 rfl ?_
            exact mm_zret (z := 0) C0 hr hlk hM hS (by omega) dX10_isSeven_33 (⟨Or.inr ⟨rfl, by rw [← hs, s7_e (by omega)]; exact beq_eq_false_iff_ne.mpr (by omega)⟩, rfl⟩)
          · skip
            refine lv_iconst (v := zI 1) C0.1 C0.2.1 dX10_isSeven_28 rfl ?_
            refine lv_goto (tgt := 33) C0.1 C0.2.1 dX10_isSeven_29 (by decide) ?_
            exact mm_zret (z := 1) C0 hr hlk hM hS (by omega) dX10_isSeven_33 (⟨Or.inl ⟨rfl, by rw [← hs, s7_e (by omega)]; exact beq_iff_eq.mpr (by omega)⟩, rfl⟩)
        · skip
          refine lv_iload_n C0.1 C0.2.1 dX10_isSeven_12 rfl (lv_at hl 1 rfl) ?_
          refine lv_iconst (v := zI 4) C0.1 C0.2.1 dX10_isSeven_13 rfl ?_
          refine z_idivp C0.1 C0.2.1 dX10_isSeven_14 ⟨by omega, by omega⟩ ⟨by omega, by omega⟩ (by omega) (by omega) ?_
          refine z_asI (a := (((r : Int)) / (4))) (b := ((r / 4 : Nat) : Int)) (by omega) ?_
          refine lv_istore_n (lv' := [(1, .int (zI (((r / 4 : Nat) : Int)))), (0, .int (zI (nn)))]) C0.1 C0.2.1 dX10_isSeven_15 rfl hl (by decide) rfl (fun ls hl => ?_)
          refine lv_goto (tgt := 2) C0.1 C0.2.1 dX10_isSeven_16 (by decide) ?_
          exact ih2  (r / 4) _ _ _ (by omega) (by rw [← hs]; exact (s7_s ⟨by omega, by omega⟩).symm)  (by omega) hM hS (lv_sub hl [1, 0] rfl)
  exact L2 (_ + 1) n _ _ _ (Nat.le_refl _) (rfl)  (Nat.lt_succ_self _) hM hS (lv_sub hl [1, 0] rfl)

def rX10_fewest : Room := { frames := 2, cells := 0, slots := 0, locals := 48 }
theorem vw_X10_fewest : mm_Vw RX10 yX10_fewest cX10_fewest 3 (some .int) 1 := ⟨tw_1267, tw_1268, tw_10, tw_1269, by decide +kernel⟩
set_option maxHeartbeats 4000000 in
set_option maxRecDepth 100000 in
theorem c_X10_fewest (l : Launch) (G : mG) (E0 : mE) {h : Nat} {S : mST} (hF : rf G E0 h S) (hok : okR S) {n : Int} (hr_n : rI n) : mm_Ci l yX10_fewest (.code yX10_fewest cX10_fewest 3 (some .int) :: wsG) rX10_fewest G [.ref (h), .int (zI (n))] E0 (fun z E => z = (pf_fewest S n).1 ∧ rf G E h (pf_fewest S n).2 ∧ ∀ q : Nat, (q < h ∨ h + 13 ≤ q) → E q = E0 q) := by
  refine mm_of_i (by decide +kernel) (Nat.le_of_ble_eq_true rfl) ?_
  intro p e s m args below meth c ls C0 hr hlk hM hl hS
  have hl : lv_has ls 3 [(0, .ref (h)), (1, .int (zI (n)))] := hl
  obtain ⟨hr_n1, hr_n2⟩ := hr_n
  obtain ⟨R, x2, x3, x4, x5, x6, x7, hX⟩ := hF
  have hX0 := hX
  obtain ⟨hTk, hPk, hKk, hSk⟩ := hok
  obtain ⟨hO, hR, hRp, ⟨fh, fc, hH, hC, hPa⟩, hTp, hCl, hKp, hSh, him⟩ := hX
  
  refine lv_iload_n C0.1 C0.2.1 dX10_fewest_0 rfl (lv_at hl 1 rfl) ?_
  refine z_i2l C0.1 C0.2.1 dX10_fewest_1 ⟨by omega, by omega⟩ ?_
  refine lv_lconst (v := zL 0) C0.1 C0.2.1 dX10_fewest_2 rfl ?_
  refine mm_ldc2 (z := 1000000000) C0 tw_992 rfl dX10_fewest_3 ?_
  refine mm_callSi (As := [.long (zL (n)), .long (zL (0)), .long (zL (1000000000))]) C0 sw_X10_in tw_985 (c_X10_in l G _ (v := n) (lo := 0) (hi := 1000000000) ⟨by omega, by omega⟩ ⟨by omega, by omega⟩ ⟨by omega, by omega⟩) hM rfl hl.1 rfl (Nat.le_of_ble_eq_true rfl) ⟨rfl, rfl, Nat.le_of_ble_eq_true rfl, Nat.le_of_ble_eq_true rfl, Nat.zero_le _, Nat.zero_le _⟩ dX10_fewest_6 hS (fun z_6 E1 H locs hp hM hS => ?_)
  obtain ⟨hz_6, hEq⟩ := hp
  rw [hEq] at hM
  have hz_6b := if01 hz_6
  refine z_if_ne (tgt := 14) C0.1 C0.2.1 dX10_fewest_9 (by decide) ⟨by omega, by omega⟩ (fun c_9 => ?_) (fun c_9 => ?_)
  · skip
    refine lv_iload_n C0.1 C0.2.1 dX10_fewest_14 rfl (lv_at hl 1 rfl) ?_
    refine z_i2l C0.1 C0.2.1 dX10_fewest_15 ⟨by omega, by omega⟩ ?_
    refine mm_callSi (As := [.long (zL (n))]) C0 sw_X10_isSquare tw_1193 (c_X10_isSquare l G _ (v := n) ⟨by omega, by omega⟩) hM rfl hl.1 rfl (Nat.le_of_ble_eq_true rfl) ⟨rfl, rfl, Nat.le_of_ble_eq_true rfl, Nat.le_of_ble_eq_true rfl, Nat.zero_le _, Nat.zero_le _⟩ dX10_fewest_16 hS (fun z_16 E2 H locs hp hM hS => ?_)
    obtain ⟨hz_16, hEq⟩ := hp
    rw [hEq] at hM
    have hz01 : z_16 = 0 ∨ z_16 = 1 := hz_16.elim (fun h => Or.inr h.1) (fun h => Or.inl h.1)
    have hne : ((n.toNat : Nat) : Int) = n := by omega
    refine z_if_eq (tgt := 32) C0.1 C0.2.1 dX10_fewest_19 (by decide) ⟨by omega, by omega⟩ (fun c_19 => ?_) (fun c_19 => ?_)
    · skip
      have hns1 : ¬ sq n := hz_16.elim (fun h => by omega) (fun h => h.2)
      have hn0 : ¬ n.toNat = 0 := fun q => hns1 (by rw [show n = 0 by omega]; exact ⟨0, rfl⟩)
      refine lv_iconst (v := zI 1) C0.1 C0.2.1 dX10_fewest_32 rfl ?_
      refine lv_istore_n (lv' := [(2, .int (zI (1))), (0, .ref (h)), (1, .int (zI (n)))]) C0.1 C0.2.1 dX10_fewest_33 rfl hl (by decide) rfl (fun ls hl => ?_)
      have L34 : ∀ (k34 : Nat) (a : Nat) (H : Heap) (locs : List Loc) (ls : Array Slot), (1 ≤ a) → (a ≤ 22362) → (∀ x, 1 ≤ x → x < a → ¬ ∃ b, x ≤ b ∧ ps sqf n.toNat x b) → 22363 - a < k34 → mm_M G E0 H → va_S (mm_A G) s.heap H locs → lv_has ls 3 [(0, .ref (h)), (1, .int (zI (n))), (2, .int (zI ((a : Int))))] → W p l e rX10_fewest s m args below meth c H locs 0 0 (mm_Zi G below args s (fun z E => z = (pf_fewest S n).1 ∧ rf G E h (pf_fewest S n).2 ∧ ∀ q : Nat, (q < h ∨ h + 13 ≤ q) → E q = E0 q)) (F0 m 34 ls []) := by
        intro k34
        induction k34 with
        | zero => intro a H locs ls ha1 hy hno9 hk hM hS hl; exact absurd hk (Nat.not_lt_zero _)
        | succ k34 ih34 =>
          intro a H locs ls ha1 hy hno9 hk34 hM hS hl
          obtain ⟨q9, hq9⟩ : ∃ q, q = a * a := ⟨_, rfl⟩
          have hq9b : q9 ≤ 22362 * 22362 := hq9 ▸ Nat.mul_le_mul (by omega) (by omega)
          have hq9z : ((a : Nat) : Int) * ((a : Nat) : Int) = (q9 : Int) := by rw [hq9]; exact (Int.natCast_mul _ _).symm
          have hq9y : 2 * ((a : Nat) : Int) * ((a : Nat) : Int) = ((2 * q9 : Nat) : Int) := by rw [Int.mul_assoc, hq9z]; omega
          have hq9h : hid (q9 = a * a) := hq9
          have hq9z := show hid _ from hq9z
          have hq9y := show hid _ from hq9y
          clear hq9
          refine mm_ldc2 (z := 2) C0 tw_1089 rfl dX10_fewest_34 ?_
          refine lv_iload_n C0.1 C0.2.1 dX10_fewest_37 rfl (lv_at hl 2 rfl) ?_
          refine z_i2l C0.1 C0.2.1 dX10_fewest_38 ⟨by omega, by omega⟩ ?_
          refine z_lmul C0.1 C0.2.1 dX10_fewest_39 ?_
          refine lv_iload_n C0.1 C0.2.1 dX10_fewest_40 rfl (lv_at hl 2 rfl) ?_
          refine z_i2l C0.1 C0.2.1 dX10_fewest_41 ⟨by omega, by omega⟩ ?_
          refine z_lmul C0.1 C0.2.1 dX10_fewest_42 ?_
          refine z_asL (a := ((((2) * ((a : Int)))) * ((a : Int)))) (b := ((2 * q9 : Nat) : Int)) ((show _ = _ from hq9y)) ?_
          refine lv_iload_n C0.1 C0.2.1 dX10_fewest_43 rfl (lv_at hl 1 rfl) ?_
          refine z_i2l C0.1 C0.2.1 dX10_fewest_44 ⟨by omega, by omega⟩ ?_
          refine z_lcmp_gt (tgt := 69) C0.1 C0.2.1 dX10_fewest_45 dX10_fewest_46 (by decide) ⟨by omega, by omega⟩ ⟨by omega, by omega⟩ (fun c_45 => ?_) (fun c_45 => ?_)
          · skip
            have hnone : ¬ ∃ a b, 1 ≤ a ∧ a ≤ b ∧ ps sqf n.toNat a b := fun ⟨x, y, h1, h2, h3⟩ => by
              rcases Nat.lt_or_ge x a with q | q
              · exact hno9 x h1 q ⟨y, h2, h3⟩
              · exact ps_no (n := n.toNat) (a := a) (by rw [← show q9 = _ from hq9h]; omega) x q ⟨y, h2, h3⟩
            refine lv_iload_n C0.1 C0.2.1 dX10_fewest_69 rfl (lv_at hl 1 rfl) ?_
            refine mm_callSi (As := [.int (zI (n))]) C0 sw_X10_isSeven tw_1263 (c_X10_isSeven l G _ (n := n.toNat) (by omega) (by omega)) hM rfl hl.1 rfl (Nat.le_of_ble_eq_true rfl) ⟨rfl, rfl, Nat.le_of_ble_eq_true rfl, Nat.le_of_ble_eq_true rfl, Nat.zero_le _, Nat.zero_le _⟩ dX10_fewest_70 hS (fun z_70 E3 H locs hp hM hS => ?_)
            obtain ⟨hz_70, hEq⟩ := hp
            rw [hEq] at hM
            have hz01 : z_70 = 0 ∨ z_70 = 1 := hz_70.elim (fun h => Or.inr h.1) (fun h => Or.inl h.1)
            refine z_if_eq (tgt := 80) C0.1 C0.2.1 dX10_fewest_73 (by decide) ⟨by omega, by omega⟩ (fun c_73 => ?_) (fun c_73 => ?_)
            · skip
              have h7 := hz_70.elim (fun h => by omega) (fun h => h.2)
              refine lv_iconst (v := zI 3) C0.1 C0.2.1 dX10_fewest_80 rfl ?_
              exact mm_iret (z := 3) C0 hr hlk hM hS dX10_fewest_81 (by have he : pf_fewest S n = (3, S) := (by unfold pf_fewest fwR; rw [if_pos (by omega), if_neg hn0, hne, if_neg (fun q => hns1 (bq_y q)), if_neg (fun q => hnone (bq_y q)), if_neg (by rw [h7]; decide)]); rw [he]; exact ⟨rfl, hX0.rf, fun _ _ => rfl⟩)
            · skip
              have h7 := hz_70.elim (fun h => h.2) (fun h => by omega)
              refine lv_iconst (v := zI 4) C0.1 C0.2.1 dX10_fewest_76 rfl ?_
              refine lv_goto (tgt := 81) C0.1 C0.2.1 dX10_fewest_77 (by decide) ?_
              exact mm_iret (z := 4) C0 hr hlk hM hS dX10_fewest_81 (by have he : pf_fewest S n = (4, S) := (by unfold pf_fewest fwR; rw [if_pos (by omega), if_neg hn0, hne, if_neg (fun q => hns1 (bq_y q)), if_neg (fun q => hnone (bq_y q)), if_pos h7]); rw [he]; exact ⟨rfl, hX0.rf, fun _ _ => rfl⟩)
          · skip
            have hlt : a ≤ 22361 := Nat.le_of_not_lt fun q => by have h9 := Nat.mul_le_mul (show 22362 ≤ a from q) (show 22362 ≤ a from q); rw [← show q9 = _ from hq9h] at h9; omega
            refine lv_iload_n C0.1 C0.2.1 dX10_fewest_49 rfl (lv_at hl 1 rfl) ?_
            refine lv_iload_n C0.1 C0.2.1 dX10_fewest_50 rfl (lv_at hl 2 rfl) ?_
            refine lv_iload_n C0.1 C0.2.1 dX10_fewest_51 rfl (lv_at hl 2 rfl) ?_
            refine z_imul C0.1 C0.2.1 dX10_fewest_52 ?_
            refine z_asI (a := (((a : Int)) * ((a : Int)))) (b := (q9 : Int)) ((show _ = _ from hq9z)) ?_
            refine z_isub C0.1 C0.2.1 dX10_fewest_53 ?_
            refine z_i2l C0.1 C0.2.1 dX10_fewest_54 ⟨by omega, by omega⟩ ?_
            refine mm_callSi (As := [.long (zL (((n) - ((q9 : Int)))))]) C0 sw_X10_isSquare tw_1193 (c_X10_isSquare l G _ (v := n - (q9 : Int)) ⟨by omega, by omega⟩) hM rfl hl.1 rfl (Nat.le_of_ble_eq_true rfl) ⟨rfl, rfl, Nat.le_of_ble_eq_true rfl, Nat.le_of_ble_eq_true rfl, Nat.zero_le _, Nat.zero_le _⟩ dX10_fewest_55 hS (fun z_55 E4 H locs hp hM hS => ?_)
            obtain ⟨hz_55, hEq⟩ := hp
            rw [hEq] at hM
            have hz01 : z_55 = 0 ∨ z_55 = 1 := hz_55.elim (fun h => Or.inr h.1) (fun h => Or.inl h.1)
            have hps := ps_sq (n := n.toNat) (a := a) (by rw [← show q9 = _ from hq9h]; omega)
            rw [← show q9 = _ from hq9h, show ((n.toNat : Nat) : Int) = n by omega] at hps
            refine z_if_eq (tgt := 63) C0.1 C0.2.1 dX10_fewest_58 (by decide) ⟨by omega, by omega⟩ (fun c_58 => ?_) (fun c_58 => ?_)
            · skip
              have hns := fun q => hz_55.elim (fun h => (by omega : False)) (fun h => h.2 (hps.mpr q))
              refine lv_iinc (v := zI ((a : Int) + 1)) (lv' := [(2, .int (zI ((a : Int) + 1))), (0, .ref (h)), (1, .int (zI (n)))]) C0.1 C0.2.1 dX10_fewest_63 hl (k := 2) rfl (z_inc (a := (a : Int)) (n := 1) (rfl)) (by decide) rfl (fun ls hl => ?_)
              refine lv_goto (tgt := 34) C0.1 C0.2.1 dX10_fewest_66 (by decide) ?_
              exact ih34  (a + 1) _ _ _ (by omega) (by omega) (fun x h1 h2 => if q : x = a then (by subst q; exact hns) else hno9 x h1 (by omega))  (by omega) hM hS (lv_sub hl [1, 2, 0] rfl)
            · skip
              have hyx := hps.mp (hz_55.elim (fun h => h.2) (fun h => by omega))
              refine lv_iconst (v := zI 2) C0.1 C0.2.1 dX10_fewest_61 rfl ?_
              exact mm_iret (z := 2) C0 hr hlk hM hS dX10_fewest_62 (by have he : pf_fewest S n = (2, S) := (by unfold pf_fewest fwR; rw [if_pos (by omega), if_neg hn0, hne, if_neg (fun q => hns1 (bq_y q)), if_pos (bq_t (hyx.elim fun b9 hb => ⟨a, b9, ha1, hb.1, hb.2⟩))]); rw [he]; exact ⟨rfl, hX0.rf, fun _ _ => rfl⟩)
      exact L34 (_ + 1) 1 _ _ _ (Nat.le_refl _) (by omega) (fun x h1 h2 => by omega)  (Nat.lt_succ_self _) hM hS (lv_sub hl [1, 2, 0] rfl)
    · skip
      have hys1 : sq n := hz_16.elim (fun h => h.2) (fun h => by omega)
      refine lv_iload_n C0.1 C0.2.1 dX10_fewest_22 rfl (lv_at hl 1 rfl) ?_
      refine z_if_ne (tgt := 30) C0.1 C0.2.1 dX10_fewest_23 (by decide) ⟨by omega, by omega⟩ (fun c_23 => ?_) (fun c_23 => ?_)
      · skip
        refine lv_iconst (v := zI 1) C0.1 C0.2.1 dX10_fewest_30 rfl ?_
        exact mm_iret (z := 1) C0 hr hlk hM hS dX10_fewest_31 (by have he : pf_fewest S n = (1, S) := (by unfold pf_fewest fwR; rw [if_pos (by omega), if_neg (by omega), hne, if_pos (bq_t hys1)]); rw [he]; exact ⟨rfl, hX0.rf, fun _ _ => rfl⟩)
      · skip
        refine lv_iconst (v := zI 0) C0.1 C0.2.1 dX10_fewest_26 rfl ?_
        refine lv_goto (tgt := 31) C0.1 C0.2.1 dX10_fewest_27 (by decide) ?_
        exact mm_iret (z := 0) C0 hr hlk hM hS dX10_fewest_31 (by have he : pf_fewest S n = (0, S) := (by unfold pf_fewest fwR; rw [if_pos (by omega), if_pos (by omega)]); rw [he]; exact ⟨rfl, hX0.rf, fun _ _ => rfl⟩)
  · skip
    refine lv_iconst (v := zI (-1)) C0.1 C0.2.1 dX10_fewest_12 rfl ?_
    exact mm_iret (z := (-1)) C0 hr hlk hM hS dX10_fewest_13 (by have he : pf_fewest S n = ((-1), S) := (by unfold pf_fewest; rw [if_neg (by omega)]); rw [he]; exact ⟨rfl, hX0.rf, fun _ _ => rfl⟩)

def rX10_wall : Room := { frames := 1, cells := 0, slots := 0, locals := 25 }
theorem vw_X10_wall : mm_Vw RX10 yX10_wall cX10_wall 6 (some .int) 2 := ⟨tw_1271, tw_1272, tw_10, tw_1273, by decide +kernel⟩
set_option maxHeartbeats 4000000 in
set_option maxRecDepth 100000 in
theorem c_X10_wall (l : Launch) (G : mG) (E0 : mE) {h : Nat} {S : mST} (hF : rf G E0 h S) (hok : okR S) {n i : Int} (hr_n : rI n) (hr_i : rI i) : mm_Ci l yX10_wall (.code yX10_wall cX10_wall 6 (some .int) :: wsG) rX10_wall G [.ref (h), .int (zI (n)), .int (zI (i))] E0 (fun z E => z = (pf_wall S n i).1 ∧ rf G E h (pf_wall S n i).2 ∧ ∀ q : Nat, (q < h ∨ h + 13 ≤ q) → E q = E0 q) := by
  refine mm_of_i (by decide +kernel) (Nat.le_of_ble_eq_true rfl) ?_
  intro p e s m args below meth c ls C0 hr hlk hM hl hS
  have hl : lv_has ls 6 [(0, .ref (h)), (1, .int (zI (n))), (2, .int (zI (i)))] := hl
  obtain ⟨hr_n1, hr_n2⟩ := hr_n
  obtain ⟨hr_i1, hr_i2⟩ := hr_i
  obtain ⟨R, x2, x3, x4, x5, x6, x7, hX⟩ := hF
  have hX0 := hX
  obtain ⟨hTk, hPk, hKk, hSk⟩ := hok
  obtain ⟨hO, hR, hRp, ⟨fh, fc, hH, hC, hPa⟩, hTp, hCl, hKp, hSh, him⟩ := hX
  
  refine lv_iload_n C0.1 C0.2.1 dX10_wall_0 rfl (lv_at hl 1 rfl) ?_
  refine z_i2l C0.1 C0.2.1 dX10_wall_1 ⟨by omega, by omega⟩ ?_
  refine lv_lconst (v := zL 1) C0.1 C0.2.1 dX10_wall_2 rfl ?_
  refine mm_ldc2 (z := 999) C0 tw_1243 rfl dX10_wall_3 ?_
  refine mm_callSi (As := [.long (zL (n)), .long (zL (1)), .long (zL (999))]) C0 sw_X10_in tw_985 (c_X10_in l G _ (v := n) (lo := 1) (hi := 999) ⟨by omega, by omega⟩ ⟨by omega, by omega⟩ ⟨by omega, by omega⟩) hM rfl hl.1 rfl (Nat.le_of_ble_eq_true rfl) ⟨rfl, rfl, Nat.le_of_ble_eq_true rfl, Nat.le_of_ble_eq_true rfl, Nat.zero_le _, Nat.zero_le _⟩ dX10_wall_6 hS (fun z_6 E1 H locs hp hM hS => ?_)
  obtain ⟨hz_6, hEq⟩ := hp
  rw [hEq] at hM
  have hz_6b := if01 hz_6
  refine z_if_eq (tgt := 17) C0.1 C0.2.1 dX10_wall_9 (by decide) ⟨by omega, by omega⟩ (fun c_9 => ?_) (fun c_9 => ?_)
  · skip
    refine lv_iconst (v := zI (-1)) C0.1 C0.2.1 dX10_wall_17 rfl ?_
    exact mm_iret (z := (-1)) C0 hr hlk hM hS dX10_wall_18 (by have he : pf_wall S n i = ((-1), S) := (by unfold pf_wall; rw [if_neg (by omega)]); rw [he]; exact ⟨rfl, hX0.rf, fun _ _ => rfl⟩)
  · skip
    refine lv_iload_n C0.1 C0.2.1 dX10_wall_12 rfl (lv_at hl 2 rfl) ?_
    refine lv_iconst (v := zI (-1)) C0.1 C0.2.1 dX10_wall_13 rfl ?_
    refine z_icmp_ge (tgt := 19) C0.1 C0.2.1 dX10_wall_14 (by decide) ⟨by omega, by omega⟩ ⟨by omega, by omega⟩ (fun c_14 => ?_) (fun c_14 => ?_)
    · skip
      refine lv_bipush (v := zI 8) C0.1 C0.2.1 dX10_wall_19 rfl ?_
      refine lv_iload_n C0.1 C0.2.1 dX10_wall_21 rfl (lv_at hl 1 rfl) ?_
      refine z_imul C0.1 C0.2.1 dX10_wall_22 ?_
      refine lv_iload_n C0.1 C0.2.1 dX10_wall_23 rfl (lv_at hl 1 rfl) ?_
      refine z_imul C0.1 C0.2.1 dX10_wall_24 ?_
      obtain ⟨P9, hP9⟩ : ∃ P, P = 8 * n.toNat * n.toNat := ⟨_, rfl⟩
      have hPb : P9 ≤ 8 * 999 * 999 := hP9 ▸ Nat.mul_le_mul (Nat.mul_le_mul_left _ (by omega)) (by omega)
      have hPz : 8 * n * n = (P9 : Int) := by rw [hP9, Int.natCast_mul, Int.natCast_mul, show ((n.toNat : Nat) : Int) = n by omega]; rfl
      have hPh : hid (P9 = 8 * n.toNat * n.toNat) := hP9
      refine z_asI (a := ((((8) * (n))) * (n))) (b := (P9 : Int)) (hPz) ?_
      refine lv_istore_n (lv' := [(3, .int (zI ((P9 : Int)))), (0, .ref (h)), (1, .int (zI (n))), (2, .int (zI (i)))]) C0.1 C0.2.1 dX10_wall_25 rfl hl (by decide) rfl (fun ls hl => ?_)
      refine lv_iconst (v := zI 0) C0.1 C0.2.1 dX10_wall_26 rfl ?_
      refine lv_istore (lv' := [(4, .int (zI (0))), (3, .int (zI ((P9 : Int)))), (0, .ref (h)), (1, .int (zI (n))), (2, .int (zI (i)))]) C0.1 C0.2.1 dX10_wall_27 hl (by decide) rfl (fun ls hl => ?_)
      refine lv_iconst (v := zI 1) C0.1 C0.2.1 dX10_wall_29 rfl ?_
      refine lv_istore (lv' := [(5, .int (zI (1))), (4, .int (zI (0))), (3, .int (zI ((P9 : Int)))), (0, .ref (h)), (1, .int (zI (n))), (2, .int (zI (i)))]) C0.1 C0.2.1 dX10_wall_30 hl (by decide) rfl (fun ls hl => ?_)
      have L32 : ∀ (k32 : Nat) (u cn : Nat) (H : Heap) (locs : List Loc) (ls : Array Slot), (1 ≤ u) → (u ≤ 2827) → (cn ≤ u) → (scan (wlB P9) (fun u => ((u + 4 * n.toNat : Nat) : Int)) i 1 0 3000 = scan (wlB P9) (fun u => ((u + 4 * n.toNat : Nat) : Int)) i u cn (3001 - u)) → 2828 - u < k32 → mm_M G E0 H → va_S (mm_A G) s.heap H locs → lv_has ls 6 [(0, .ref (h)), (1, .int (zI (n))), (2, .int (zI (i))), (3, .int (zI ((P9 : Int)))), (4, .int (zI ((cn : Int)))), (5, .int (zI ((u : Int))))] → W p l e rX10_wall s m args below meth c H locs 0 0 (mm_Zi G below args s (fun z E => z = (pf_wall S n i).1 ∧ rf G E h (pf_wall S n i).2 ∧ ∀ q : Nat, (q < h ∨ h + 13 ≤ q) → E q = E0 q)) (F0 m 32 ls []) := by
        intro k32
        induction k32 with
        | zero => intro u cn H locs ls hu1 hy hcn hsc hk hM hS hl; exact absurd hk (Nat.not_lt_zero _)
        | succ k32 ih32 =>
          intro u cn H locs ls hu1 hy hcn hsc hk32 hM hS hl
          obtain ⟨q9, hq9⟩ : ∃ q, q = u * u := ⟨_, rfl⟩
          have hq9b : q9 ≤ 2827 * 2827 := hq9 ▸ Nat.mul_le_mul (by omega) (by omega)
          have hq9z : hid (((u : Nat) : Int) * ((u : Nat) : Int) = (q9 : Int)) := by rw [hq9]; exact (Int.natCast_mul _ _).symm
          have hq9h : hid (q9 = u * u) := hq9
          clear hq9
          have hmo := Nat.mod_lt P9 (show 0 < u by omega)
          refine lv_iload C0.1 C0.2.1 dX10_wall_32 (lv_at hl 5 rfl) ?_
          refine lv_iload C0.1 C0.2.1 dX10_wall_34 (lv_at hl 5 rfl) ?_
          refine z_imul C0.1 C0.2.1 dX10_wall_36 ?_
          refine z_asI (a := (((u : Int)) * ((u : Int)))) (b := (q9 : Int)) ((show _ = _ from hq9z)) ?_
          refine lv_iload_n C0.1 C0.2.1 dX10_wall_37 rfl (lv_at hl 3 rfl) ?_
          refine z_icmp_gt (tgt := 70) C0.1 C0.2.1 dX10_wall_38 (by decide) ⟨by omega, by omega⟩ ⟨by omega, by omega⟩ (fun c_38 => ?_) (fun c_38 => ?_)
          · skip
            rw [scan_end (n := 3001 - u) (wl_end (P := P9) (u := u) (by rw [← show q9 = _ from hq9h]; omega))] at hsc
            refine lv_iload_n C0.1 C0.2.1 dX10_wall_70 rfl (lv_at hl 2 rfl) ?_
            refine z_if_ge (tgt := 79) C0.1 C0.2.1 dX10_wall_71 (by decide) ⟨by omega, by omega⟩ (fun c_71 => ?_) (fun c_71 => ?_)
            · skip
              refine lv_bipush (v := zI (-4)) C0.1 C0.2.1 dX10_wall_79 rfl ?_
              exact mm_iret (z := (-4)) C0 hr hlk hM hS dX10_wall_81 (by have he : pf_wall S n i = ((-4), S) := (by unfold pf_wall; rw [if_pos (by omega), ← show P9 = _ from hPh, hsc, clo_n (by omega)]); rw [he]; exact ⟨rfl, hX0.rf, fun _ _ => rfl⟩)
            · skip
              refine lv_iload C0.1 C0.2.1 dX10_wall_74 (lv_at hl 4 rfl) ?_
              refine lv_goto (tgt := 81) C0.1 C0.2.1 dX10_wall_76 (by decide) ?_
              exact mm_iret (z := (cn : Int)) C0 hr hlk hM hS dX10_wall_81 (by have he : pf_wall S n i = ((cn : Int), S) := (by unfold pf_wall; rw [if_pos (by omega), ← show P9 = _ from hPh, hsc, clo_y (by omega)]); rw [he]; exact ⟨rfl, hX0.rf, fun _ _ => rfl⟩)
          · skip
            have hlt : u ≤ 2826 := Nat.le_of_not_lt fun q => by have h9 := Nat.mul_le_mul (show 2827 ≤ u from q) (show 2827 ≤ u from q); rw [← show q9 = _ from hq9h] at h9; omega
            refine lv_iload_n C0.1 C0.2.1 dX10_wall_41 rfl (lv_at hl 3 rfl) ?_
            refine lv_iload C0.1 C0.2.1 dX10_wall_42 (lv_at hl 5 rfl) ?_
            refine z_iremp C0.1 C0.2.1 dX10_wall_44 ⟨by omega, by omega⟩ ⟨by omega, by omega⟩ (by omega) (by omega) ?_
            refine z_if_ne (tgt := 64) C0.1 C0.2.1 dX10_wall_45 (by decide) ⟨by omega, by omega⟩ (fun c_45 => ?_) (fun c_45 => ?_)
            · skip
              have hns : wlB P9 u = false := by unfold wlB; rw [decide_eq_true (by rw [← show q9 = _ from hq9h]; omega)]; exact beq_eq_false_iff_ne.mpr (by omega)
              refine lv_iinc (v := zI (((u + 1 : Nat) : Int))) (lv' := [(5, .int (zI (((u + 1 : Nat) : Int)))), (0, .ref (h)), (1, .int (zI (n))), (2, .int (zI (i))), (3, .int (zI ((P9 : Int)))), (4, .int (zI ((cn : Int))))]) C0.1 C0.2.1 dX10_wall_64 hl (k := 5) rfl (z_inc (a := (u : Int)) (n := 1) (by omega)) (by decide) rfl (fun ls hl => ?_)
              refine lv_goto (tgt := 32) C0.1 C0.2.1 dX10_wall_67 (by decide) ?_
              exact ih32  (u + 1) cn _ _ _ (by omega) (by omega) (by omega) (by rw [hsc, scan_f (m := 3001 - (u + 1)) (by omega) hns])  (by omega) hM hS (lv_sub hl [1, 2, 3, 4, 5, 0] rfl)
            · skip
              have hys : wlB P9 u = true := by unfold wlB; rw [decide_eq_true (by rw [← show q9 = _ from hq9h]; omega)]; exact beq_iff_eq.mpr (by omega)
              refine lv_iload C0.1 C0.2.1 dX10_wall_48 (lv_at hl 4 rfl) ?_
              refine lv_iload_n C0.1 C0.2.1 dX10_wall_50 rfl (lv_at hl 2 rfl) ?_
              refine z_icmp_ne (tgt := 61) C0.1 C0.2.1 dX10_wall_51 (by decide) ⟨by omega, by omega⟩ ⟨by omega, by omega⟩ (fun c_51 => ?_) (fun c_51 => ?_)
              · skip
                refine lv_iinc (v := zI (((cn + 1 : Nat) : Int))) (lv' := [(4, .int (zI (((cn + 1 : Nat) : Int)))), (0, .ref (h)), (1, .int (zI (n))), (2, .int (zI (i))), (3, .int (zI ((P9 : Int)))), (5, .int (zI ((u : Int))))]) C0.1 C0.2.1 dX10_wall_61 hl (k := 4) rfl (z_inc (a := (cn : Int)) (n := 1) (by omega)) (by decide) rfl (fun ls hl => ?_)
                refine lv_iinc (v := zI (((u + 1 : Nat) : Int))) (lv' := [(5, .int (zI (((u + 1 : Nat) : Int)))), (4, .int (zI (((cn + 1 : Nat) : Int)))), (0, .ref (h)), (1, .int (zI (n))), (2, .int (zI (i))), (3, .int (zI ((P9 : Int))))]) C0.1 C0.2.1 dX10_wall_64 hl (k := 5) rfl (z_inc (a := (u : Int)) (n := 1) (by omega)) (by decide) rfl (fun ls hl => ?_)
                refine lv_goto (tgt := 32) C0.1 C0.2.1 dX10_wall_67 (by decide) ?_
                exact ih32  (u + 1) (cn + 1) _ _ _ (by omega) (by omega) (by omega) (by rw [hsc, scan_t (m := 3001 - (u + 1)) (by omega) hys (by omega)])  (by omega) hM hS (lv_sub hl [2, 3, 4, 5, 1, 0] rfl)
              · skip
                refine lv_iload C0.1 C0.2.1 dX10_wall_54 (lv_at hl 5 rfl) ?_
                refine lv_iconst (v := zI 4) C0.1 C0.2.1 dX10_wall_56 rfl ?_
                refine lv_iload_n C0.1 C0.2.1 dX10_wall_57 rfl (lv_at hl 1 rfl) ?_
                refine z_imul C0.1 C0.2.1 dX10_wall_58 ?_
                refine z_iadd C0.1 C0.2.1 dX10_wall_59 ?_
                exact mm_iret (z := (((u : Int)) + (((4) * (n))))) C0 hr hlk hM hS dX10_wall_60 (by have he : pf_wall S n i = (((u + 4 * n.toNat : Nat) : Int), S) := (by unfold pf_wall; rw [if_pos (by omega), ← show P9 = _ from hPh, hsc, scan_hit (m := 3001 - (u + 1)) (by omega) hys (by omega)]); rw [he]; exact ⟨by omega, hX0.rf, fun _ _ => rfl⟩)
      exact L32 (_ + 1) 1 0 _ _ _ (Nat.le_refl _) (by omega) (Nat.zero_le _) (rfl)  (Nat.lt_succ_self _) hM hS (lv_sub hl [3, 4, 5, 2, 1, 0] rfl)
    · skip
      refine lv_iconst (v := zI (-1)) C0.1 C0.2.1 dX10_wall_17 rfl ?_
      exact mm_iret (z := (-1)) C0 hr hlk hM hS dX10_wall_18 (by have he : pf_wall S n i = ((-1), S) := (by unfold pf_wall; rw [if_neg (by omega)]); rw [he]; exact ⟨rfl, hX0.rf, fun _ _ => rfl⟩)
