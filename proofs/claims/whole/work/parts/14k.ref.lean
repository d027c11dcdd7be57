theorem rt_31 {N X : Nat} (h : rtP 2 N X) (hN : N < 9223372036854775808) : X ≤ 3037000499 := Nat.le_of_not_lt fun q => by
  have h1 := h.1
  rw [Nat.pow_two] at h1
  have := Nat.mul_le_mul (show 3037000500 ≤ X from q) (show 3037000500 ≤ X from q)
  omega
theorem sq_rt {N : Nat} : sq (N : Int) ↔ rtF N * rtF N = N := by
  constructor
  · intro h
    obtain ⟨r, hr⟩ := h
    have hr2 : r * r = N := by rw [← Int.natCast_mul] at hr; omega
    rw [rt_ex2 (rtF_p N) hr2]; exact hr2
  · intro h
    exact ⟨rtF N, by rw [← Int.natCast_mul, h]⟩
theorem sq_neg {v : Int} (h : v < 0) : ¬ sq v := fun q => by
  obtain ⟨r, hr⟩ := q
  rw [← Int.natCast_mul] at hr
  omega

def rX10_rootLong : Room := { frames := 0, cells := 0, slots := 0, locals := 0 }
theorem sw_X10_rootLong : mm_Sw yX10_rootLong cX10_rootLong 8 (some .long) 1 := ⟨tw_1197, tw_10, tw_1198, by decide +kernel⟩
set_option maxHeartbeats 4000000 in
set_option maxRecDepth 100000 in
theorem c_X10_rootLong (l : Launch) (G : mG) (E0 : mE) {v : Int} (N : Nat) (hv : v = (N : Int)) (hN : N < 9223372036854775808) : mm_Cl l yX10_rootLong (.code yX10_rootLong cX10_rootLong 8 (some .long) :: wsG) rX10_rootLong G [.long (zL (v))] E0 (fun z E => z = (rtF N : Int) ∧ E = E0) := by
  refine mm_of_l (by decide +kernel) (Nat.le_of_ble_eq_true rfl) ?_
  intro p e s m args below meth c ls C0 hr hlk hM hl hS
  have hl : lv_has ls 8 [(0, .long (zL (v)))] := hl
  obtain ⟨X, hXe⟩ : ∃ X, X = rtF N := ⟨_, rfl⟩
  have hX : rtP 2 N X := hXe ▸ rtF_p N
  have hX9 := rt_31 hX hN
  refine lv_lconst (v := zL 0) C0.1 C0.2.1 dX10_rootLong_0 rfl ?_
  refine lv_lstore_n (lv' := [(2, .long (zL (0))), (0, .long (zL (v)))]) C0.1 C0.2.1 dX10_rootLong_1 rfl hl (by decide) rfl (fun ls hl => ?_)
  refine mm_ldc2 (z := 3037000499) C0 tw_1199 rfl dX10_rootLong_2 ?_
  refine lv_lstore (lv' := [(4, .long (zL (3037000499))), (2, .long (zL (0))), (0, .long (zL (v)))]) C0.1 C0.2.1 dX10_rootLong_5 hl (by decide) rfl (fun ls hl => ?_)
  have L7 : ∀ (k7 : Nat) (lo hi9 : Nat) (H : Heap) (locs : List Loc) (ls : Array Slot), (lo ≤ X) → (X ≤ hi9) → (hi9 ≤ 3037000499) → hi9 - lo < k7 → mm_M G E0 H → va_S (mm_A G) s.heap H locs → lv_has ls 8 [(0, .long (zL (v))), (2, .long (zL ((lo : Int)))), (4, .long (zL ((hi9 : Int))))] → W p l e rX10_rootLong s m args below meth c H locs 0 0 (mm_Zl G below args s (fun z E => z = (rtF N : Int) ∧ E = E0)) (F0 m 7 ls []) := by
    intro k7
    induction k7 with
    | zero => intro lo hi9 H locs ls hl1 hl2 hh9 hk hM hS hl; exact absurd hk (Nat.not_lt_zero _)
    | succ k7 ih7 =>
      intro lo hi9 H locs ls hl1 hl2 hh9 hk7 hM hS hl
      refine lv_lload_n C0.1 C0.2.1 dX10_rootLong_7 rfl (lv_at hl 1 rfl) ?_
      refine lv_lload C0.1 C0.2.1 dX10_rootLong_8 (lv_at hl 2 rfl) ?_
      refine z_lcmp_ge (tgt := 53) C0.1 C0.2.1 dX10_rootLong_10 dX10_rootLong_11 (by decide) ⟨by omega, by omega⟩ ⟨by omega, by omega⟩ (fun c_10 => ?_) (fun c_10 => ?_)
      · skip
        refine lv_lload_n C0.1 C0.2.1 dX10_rootLong_53 rfl (lv_at hl 1 rfl) ?_
        exact mm_lret (z := (lo : Int)) C0 hr hlk hM hS dX10_rootLong_54 (⟨by omega, rfl⟩)
      · skip
        obtain ⟨md, hmd1, hmd2, hmd3⟩ : ∃ md, lo < md ∧ md ≤ hi9 ∧ md = lo + (hi9 - lo + 1) / 2 := ⟨_, by omega, by omega, rfl⟩
        obtain ⟨p9, hp9⟩ : ∃ p, p = md * md := ⟨_, rfl⟩
        have hpb : p9 ≤ 3037000499 * 3037000499 := hp9 ▸ Nat.mul_le_mul (by omega) (by omega)
        have hpl : p9 ≤ N ↔ md ≤ X := by rw [hp9]; exact rt_sq hX
        have hp9h : hid (p9 = md * md) := hp9; clear hp9
        refine lv_lload_n C0.1 C0.2.1 dX10_rootLong_14 rfl (lv_at hl 1 rfl) ?_
        refine lv_lload C0.1 C0.2.1 dX10_rootLong_15 (lv_at hl 2 rfl) ?_
        refine lv_lload_n C0.1 C0.2.1 dX10_rootLong_17 rfl (lv_at hl 1 rfl) ?_
        refine z_lsub C0.1 C0.2.1 dX10_rootLong_18 ?_
        refine lv_lconst (v := zL 1) C0.1 C0.2.1 dX10_rootLong_19 rfl ?_
        refine z_ladd C0.1 C0.2.1 dX10_rootLong_20 ?_
        refine mm_ldc2 (z := 2) C0 tw_1089 rfl dX10_rootLong_21 ?_
        refine z_ldivp C0.1 C0.2.1 dX10_rootLong_24 ⟨by omega, by omega⟩ ⟨by omega, by omega⟩ (by omega) (by omega) ?_
        refine z_ladd C0.1 C0.2.1 dX10_rootLong_25 ?_
        refine z_asL (a := (((lo : Int)) + ((((((((hi9 : Int)) - ((lo : Int)))) + (1))) / (2))))) (b := (md : Int)) (by omega) ?_
        refine lv_lstore (lv' := [(6, .long (zL ((md : Int)))), (0, .long (zL (v))), (2, .long (zL ((lo : Int)))), (4, .long (zL ((hi9 : Int))))]) C0.1 C0.2.1 dX10_rootLong_26 hl (by decide) rfl (fun ls hl => ?_)
        refine lv_lload C0.1 C0.2.1 dX10_rootLong_28 (lv_at hl 0 rfl) ?_
        refine lv_lload C0.1 C0.2.1 dX10_rootLong_30 (lv_at hl 0 rfl) ?_
        refine z_lmul C0.1 C0.2.1 dX10_rootLong_32 ?_
        refine z_asL (a := (((md : Int)) * ((md : Int)))) (b := (p9 : Int)) (by rw [show p9 = _ from hp9h]; exact (Int.natCast_mul _ _).symm) ?_
        refine lv_lload_n C0.1 C0.2.1 dX10_rootLong_33 rfl (lv_at hl 1 rfl) ?_
        refine z_lcmp_gt (tgt := 44) C0.1 C0.2.1 dX10_rootLong_34 dX10_rootLong_35 (by decide) ⟨by omega, by omega⟩ ⟨by omega, by omega⟩ (fun c_34 => ?_) (fun c_34 => ?_)
        · skip
          have hcm : ¬ md ≤ X := fun q => by have := hpl.mpr q; omega
          refine lv_lload C0.1 C0.2.1 dX10_rootLong_44 (lv_at hl 0 rfl) ?_
          refine lv_lconst (v := zL 1) C0.1 C0.2.1 dX10_rootLong_46 rfl ?_
          refine z_lsub C0.1 C0.2.1 dX10_rootLong_47 ?_
          refine z_asL (a := (((md : Int)) - (1))) (b := ((md - 1 : Nat) : Int)) (by omega) ?_
          refine lv_lstore (lv' := [(4, .long (zL (((md - 1 : Nat) : Int)))), (6, .long (zL ((md : Int)))), (0, .long (zL (v))), (2, .long (zL ((lo : Int))))]) C0.1 C0.2.1 dX10_rootLong_48 hl (by decide) rfl (fun ls hl => ?_)
          refine lv_goto (tgt := 7) C0.1 C0.2.1 dX10_rootLong_50 (by decide) ?_
          exact ih7  lo (md - 1) _ _ _ (by omega) (by omega) (by omega)  (by omega) hM hS (lv_sub hl [2, 3, 0] rfl)
        · skip
          have hcm : md ≤ X := hpl.mp (by omega)
          refine lv_lload C0.1 C0.2.1 dX10_rootLong_38 (lv_at hl 0 rfl) ?_
          refine lv_lstore_n (lv' := [(2, .long (zL ((md : Int)))), (6, .long (zL ((md : Int)))), (0, .long (zL (v))), (4, .long (zL ((hi9 : Int))))]) C0.1 C0.2.1 dX10_rootLong_40 rfl hl (by decide) rfl (fun ls hl => ?_)
          refine lv_goto (tgt := 50) C0.1 C0.2.1 dX10_rootLong_41 (by decide) ?_
          refine lv_goto (tgt := 7) C0.1 C0.2.1 dX10_rootLong_50 (by decide) ?_
          exact ih7  md hi9 _ _ _ (by omega) (by omega) (by omega)  (by omega) hM hS (lv_sub hl [2, 0, 3] rfl)
  exact L7 (_ + 1) 0 3037000499 _ _ _ (Nat.zero_le _) (hX9) (Nat.le_refl _)  (Nat.lt_succ_self _) hM hS (lv_sub hl [2, 1, 0] rfl)

def rX10_isSquare : Room := { frames := 1, cells := 0, slots := 0, locals := 27 }
theorem sw_X10_isSquare : mm_Sw yX10_isSquare cX10_isSquare 2 (some .boolean) 1 := ⟨tw_1194, tw_10, tw_1195, by decide +kernel⟩
set_option maxHeartbeats 4000000 in
set_option maxRecDepth 100000 in
theorem c_X10_isSquare (l : Launch) (G : mG) (E0 : mE) {v : Int} (hv : rL v) : mm_Ci l yX10_isSquare (.code yX10_isSquare cX10_isSquare 2 (some .boolean) :: wsG) rX10_isSquare G [.long (zL (v))] E0 (fun z E => ((z = 1 ∧ sq v) ∨ (z = 0 ∧ ¬ sq v)) ∧ E = E0) := by
  refine mm_of_i (by decide +kernel) (Nat.le_of_ble_eq_true rfl) ?_
  intro p e s m args below meth c ls C0 hr hlk hM hl hS
  have hl : lv_has ls 2 [(0, .long (zL (v)))] := hl
  obtain ⟨hv1, hv2⟩ := hv
  refine lv_lload_n C0.1 C0.2.1 dX10_isSquare_0 rfl (lv_at hl 0 rfl) ?_
  refine lv_lconst (v := zL 0) C0.1 C0.2.1 dX10_isSquare_1 rfl ?_
  refine z_lcmp_lt (tgt := 24) C0.1 C0.2.1 dX10_isSquare_2 dX10_isSquare_3 (by decide) ⟨by omega, by omega⟩ ⟨by omega, by omega⟩ (fun c_2 => ?_) (fun c_2 => ?_)
  · skip
    have hns := sq_neg c_2
    refine lv_iconst (v := zI 0) C0.1 C0.2.1 dX10_isSquare_24 rfl ?_
    exact mm_zret (z := 0) C0 hr hlk hM hS (by omega) dX10_isSquare_25 (⟨Or.inr ⟨rfl, hns⟩, rfl⟩)
  · skip
    refine lv_lload_n C0.1 C0.2.1 dX10_isSquare_6 rfl (lv_at hl 0 rfl) ?_
    refine mm_callSl (As := [.long (zL (v))]) C0 sw_X10_rootLong tw_1196 (c_X10_rootLong l G _ v.toNat (by omega) (by omega)) hM rfl hl.1 rfl (Nat.le_of_ble_eq_true rfl) ⟨rfl, rfl, Nat.le_of_ble_eq_true rfl, Nat.le_of_ble_eq_true rfl, Nat.zero_le _, Nat.zero_le _⟩ dX10_isSquare_7 hS (fun z_7 E1 H locs hp hM hS => ?_)
    obtain ⟨hz_7, hEq⟩ := hp
    rw [hEq] at hM
    refine z_asL (b := (rtF v.toNat : Int)) (hz_7) ?_
    obtain ⟨q9, hq9⟩ : ∃ q, q = rtF v.toNat * rtF v.toNat := ⟨_, rfl⟩
    have hqn : q9 ≤ v.toNat := by rw [hq9, ← Nat.pow_two]; exact (rtF_p _).1
    have hsv : sq v ↔ q9 = v.toNat := by rw [hq9, ← sq_rt, show ((v.toNat : Nat) : Int) = v by omega]
    have hq9h : hid (q9 = rtF v.toNat * rtF v.toNat) := hq9
    clear hq9
    refine lv_lload_n C0.1 C0.2.1 dX10_isSquare_10 rfl (lv_at hl 0 rfl) ?_
    refine mm_callSl (As := [.long (zL (v))]) C0 sw_X10_rootLong tw_1196 (c_X10_rootLong l G _ v.toNat (by omega) (by omega)) hM rfl hl.1 rfl (Nat.le_of_ble_eq_true rfl) ⟨rfl, rfl, Nat.le_of_ble_eq_true rfl, Nat.le_of_ble_eq_true rfl, Nat.zero_le _, Nat.zero_le _⟩ dX10_isSquare_11 hS (fun z_11 E2 H locs hp hM hS => ?_)
    obtain ⟨hz_11, hEq⟩ := hp
    rw [hEq] at hM
    refine z_asL (b := (rtF v.toNat : Int)) (hz_11) ?_
    refine z_lmul C0.1 C0.2.1 dX10_isSquare_14 ?_
    refine z_asL (a := (((rtF v.toNat : Int)) * ((rtF v.toNat : Int)))) (b := (q9 : Int)) (by rw [show q9 = _ from hq9h]; exact (Int.natCast_mul _ _).symm) ?_
    refine lv_lload_n C0.1 C0.2.1 dX10_isSquare_15 rfl (lv_at hl 0 rfl) ?_
    refine z_lcmp_ne (tgt := 24) C0.1 C0.2.1 dX10_isSquare_16 dX10_isSquare_17 (by decide) ⟨by omega, by omega⟩ ⟨by omega, by omega⟩ (fun c_16 => ?_) (fun c_16 => ?_)
    · skip
      have hns : ¬ sq v := fun q => by have := hsv.mp q; omega
      refine lv_iconst (v := zI 0) C0.1 C0.2.1 dX10_isSquare_24 rfl ?_
      exact mm_zret (z := 0) C0 hr hlk hM hS (by omega) dX10_isSquare_25 (⟨Or.inr ⟨rfl, hns⟩, rfl⟩)
    · skip
      have hys : sq v := hsv.mpr (by omega)
      refine lv_iconst (v := zI 1) C0.1 C0.2.1 dX10_isSquare_20 rfl ?_
      refine lv_goto (tgt := 25) C0.1 C0.2.1 dX10_isSquare_21 (by decide) ?_
      exact mm_zret (z := 1) C0 hr hlk hM hS (by omega) dX10_isSquare_25 (⟨Or.inl ⟨rfl, hys⟩, rfl⟩)

def rX10_isRoot : Room := { frames := 2, cells := 0, slots := 0, locals := 48 }
theorem sw_X10_isRoot : mm_Sw yX10_isRoot cX10_isRoot 1 (some .boolean) 1 := ⟨tw_1190, tw_10, tw_1191, by decide +kernel⟩
set_option maxHeartbeats 4000000 in
set_option maxRecDepth 100000 in
theorem c_X10_isRoot (l : Launch) (G : mG) (E0 : mE) {d : Int} (hd : rI d) : mm_Ci l yX10_isRoot (.code yX10_isRoot cX10_isRoot 1 (some .boolean) :: wsG) rX10_isRoot G [.int (zI (d))] E0 (fun z E => ((z = 1 ∧ 2 ≤ d ∧ d ≤ 9999 ∧ ¬ sq d) ∨ (z = 0 ∧ ¬ (2 ≤ d ∧ d ≤ 9999 ∧ ¬ sq d))) ∧ E = E0) := by
  refine mm_of_i (by decide +kernel) (Nat.le_of_ble_eq_true rfl) ?_
  intro p e s m args below meth c ls C0 hr hlk hM hl hS
  have hl : lv_has ls 1 [(0, .int (zI (d)))] := hl
  obtain ⟨hd1, hd2⟩ := hd
  refine lv_iload_n C0.1 C0.2.1 dX10_isRoot_0 rfl (lv_at hl 0 rfl) ?_
  refine z_i2l C0.1 C0.2.1 dX10_isRoot_1 ⟨by omega, by omega⟩ ?_
  refine mm_ldc2 (z := 2) C0 tw_1089 rfl dX10_isRoot_2 ?_
  refine mm_ldc2 (z := 9999) C0 tw_1192 rfl dX10_isRoot_5 ?_
  refine mm_callSi (As := [.long (zL (d)), .long (zL (2)), .long (zL (9999))]) C0 sw_X10_in tw_985 (c_X10_in l G _ (v := d) (lo := 2) (hi := 9999) ⟨by omega, by omega⟩ ⟨by omega, by omega⟩ ⟨by omega, by omega⟩) hM rfl hl.1 rfl (Nat.le_of_ble_eq_true rfl) ⟨rfl, rfl, Nat.le_of_ble_eq_true rfl, Nat.le_of_ble_eq_true rfl, Nat.zero_le _, Nat.zero_le _⟩ dX10_isRoot_8 hS (fun z_8 E1 H locs hp hM hS => ?_)
  obtain ⟨hz_8, hEq⟩ := hp
  rw [hEq] at hM
  have hz_8b := if01 hz_8
  refine z_if_eq (tgt := 26) C0.1 C0.2.1 dX10_isRoot_11 (by decide) ⟨by omega, by omega⟩ (fun c_11 => ?_) (fun c_11 => ?_)
  · skip
    refine lv_iconst (v := zI 0) C0.1 C0.2.1 dX10_isRoot_26 rfl ?_
    exact mm_zret (z := 0) C0 hr hlk hM hS (by omega) dX10_isRoot_27 (⟨Or.inr ⟨rfl, fun q => by omega⟩, rfl⟩)
  · skip
    refine lv_iload_n C0.1 C0.2.1 dX10_isRoot_14 rfl (lv_at hl 0 rfl) ?_
    refine z_i2l C0.1 C0.2.1 dX10_isRoot_15 ⟨by omega, by omega⟩ ?_
    refine mm_callSi (As := [.long (zL (d))]) C0 sw_X10_isSquare tw_1193 (c_X10_isSquare l G _ (v := d) ⟨by omega, by omega⟩) hM rfl hl.1 rfl (Nat.le_of_ble_eq_true rfl) ⟨rfl, rfl, Nat.le_of_ble_eq_true rfl, Nat.le_of_ble_eq_true rfl, Nat.zero_le _, Nat.zero_le _⟩ dX10_isRoot_16 hS (fun z_16 E2 H locs hp hM hS => ?_)
    obtain ⟨hz_16, hEq⟩ := hp
    rw [hEq] at hM
    have hz01 : z_16 = 0 ∨ z_16 = 1 := hz_16.elim (fun h => Or.inr h.1) (fun h => Or.inl h.1)
    refine z_if_ne (tgt := 26) C0.1 C0.2.1 dX10_isRoot_19 (by decide) ⟨by omega, by omega⟩ (fun c_19 => ?_) (fun c_19 => ?_)
    · skip
      have hs9 : sq d := hz_16.elim (fun h => h.2) (fun h => by omega)
      refine lv_iconst (v := zI 0) C0.1 C0.2.1 dX10_isRoot_26 rfl ?_
      exact mm_zret (z := 0) C0 hr hlk hM hS (by omega) dX10_isRoot_27 (⟨Or.inr ⟨rfl, fun q => q.2.2 hs9⟩, rfl⟩)
    · skip
      have hs9 : ¬ sq d := hz_16.elim (fun h => by omega) (fun h => h.2)
      refine lv_iconst (v := zI 1) C0.1 C0.2.1 dX10_isRoot_22 rfl ?_
      refine lv_goto (tgt := 27) C0.1 C0.2.1 dX10_isRoot_23 (by decide) ?_
      exact mm_zret (z := 1) C0 hr hlk hM hS (by omega) dX10_isRoot_27 (⟨Or.inl ⟨rfl, by omega, by omega, hs9⟩, rfl⟩)

def rX10_beginParts : Room := { frames := 1, cells := 0, slots := 0, locals := 27 }
theorem vw_X10_beginParts : mm_Vw RX10 yX10_beginParts cX10_beginParts 2 none 1 := ⟨tw_1207, tp_47, tw_10, tw_1208, by decide +kernel⟩
set_option maxHeartbeats 4000000 in
set_option maxRecDepth 100000 in
theorem c_X10_beginParts (l : Launch) (G : mG) (E0 : mE) {h : Nat} {x1 x2 x3 x4 x5 x6 x7 x8 : Int} (hO : ro G E0 h x1 x2 x3 x4 x5 x6 x7 x8) {dd : Int} {d f : Nat} (hdd : dd = (d : Int)) (hrl : rl d f) : mm_Cv l yX10_beginParts (.code yX10_beginParts cX10_beginParts 2 none :: wsG) rX10_beginParts G [.ref (h), .int (zI (dd))] E0 (fun E => ro G E h x1 x2 x3 x4 ((cf d f 0).1 : Int) ((cf d f 0).2.1 : Int) ((cf d f 0).2.2 : Int) x8 ∧ ∀ q : Nat, q ≠ h → E q = E0 q) := by
  refine mm_of_v (by decide +kernel) (Nat.le_of_ble_eq_true rfl) ?_
  intro p e s m args below meth c ls C0 hr hlk hM hl hS
  have hl : lv_has ls 2 [(0, .ref (h)), (1, .int (zI (dd)))] := hl
  have hfr : ∀ q : Nat, q ≠ h → E0 q = E0 q := fun _ _ => rfl
  obtain ⟨hj1, hj2, hj3, hj4, hj5⟩ := id hrl
  have hfe : rtF d = f := rtL_e hrl
  
  refine lv_aload_n C0.1 C0.2.1 dX10_beginParts_0 rfl (lv_at hl 0 rfl) ?_
  refine lv_iconst (v := zI 0) C0.1 C0.2.1 dX10_beginParts_1 rfl ?_
  refine mm_put (v := .int (zI (0))) (fs := [.ref (h + 1), .ref (h + 2), .ref (h + 3), .ref (h + 4), .int (zI (x1)), .int (zI (x2)), .long (zL (x3)), .ref (h + 5), .ref (h + 6), .ref (h + 7), .ref (h + 8), .int (zI (x4)), .int (zI (x5)), .int (zI (x6)), .int (zI (x7)), .int (zI (x8)), .ref (h + 9), .ref (h + 10), .ref (h + 11), .ref (h + 12)]) C0 (C := RX10) (T := TX10) (N := 20) iG_X10 tyX10 tyX10_ok nmX10 hM hS (hO) rfl 12 (by decide) tw_928 rfl rfl (ty := tyX10 12) (tyX10_ok 12 (by decide)) rfl rfl (Nat.le_of_ble_eq_true rfl) dX10_beginParts_2 (fun H locs hM hS hsz => ?_)
  obtain ⟨E1, hE1⟩ : ∃ X : mE, X = mm_up E0 (h) (.inr (9, [.ref (h + 1), .ref (h + 2), .ref (h + 3), .ref (h + 4), .int (zI (x1)), .int (zI (x2)), .long (zL (x3)), .ref (h + 5), .ref (h + 6), .ref (h + 7), .ref (h + 8), .int (zI (x4)), .int (zI (0)), .int (zI (x6)), .int (zI (x7)), .int (zI (x8)), .ref (h + 9), .ref (h + 10), .ref (h + 11), .ref (h + 12)])) := ⟨_, rfl⟩
  replace hM : mm_M G E1 H := by rw [hE1]; exact hM
  have frs : ∀ q : Nat, q ≠ h → E1 q = E0 q := fun q h => by rw [hE1]; exact mm_up_n _ _ h
  have hat : E1 (h) = some (.inr (9, [.ref (h + 1), .ref (h + 2), .ref (h + 3), .ref (h + 4), .int (zI (x1)), .int (zI (x2)), .long (zL (x3)), .ref (h + 5), .ref (h + 6), .ref (h + 7), .ref (h + 8), .int (zI (x4)), .int (zI (0)), .int (zI (x6)), .int (zI (x7)), .int (zI (x8)), .ref (h + 9), .ref (h + 10), .ref (h + 11), .ref (h + 12)])) := by rw [hE1]; exact mm_up_s _ _ _
  have hO : ro G E1 h x1 x2 x3 x4 0 x6 x7 x8 := hat
  have hfr := (fun q h => (frs q (by omega)).trans (hfr q h) : ∀ q : Nat, q ≠ h → E1 q = E0 q)
  refine lv_aload_n C0.1 C0.2.1 dX10_beginParts_5 rfl (lv_at hl 0 rfl) ?_
  refine lv_iconst (v := zI 1) C0.1 C0.2.1 dX10_beginParts_6 rfl ?_
  refine mm_put (v := .int (zI (1))) (fs := [.ref (h + 1), .ref (h + 2), .ref (h + 3), .ref (h + 4), .int (zI (x1)), .int (zI (x2)), .long (zL (x3)), .ref (h + 5), .ref (h + 6), .ref (h + 7), .ref (h + 8), .int (zI (x4)), .int (zI (0)), .int (zI (x6)), .int (zI (x7)), .int (zI (x8)), .ref (h + 9), .ref (h + 10), .ref (h + 11), .ref (h + 12)]) C0 (C := RX10) (T := TX10) (N := 20) iG_X10 tyX10 tyX10_ok nmX10 hM hS (hO) rfl 13 (by decide) tw_929 rfl rfl (ty := tyX10 13) (tyX10_ok 13 (by decide)) rfl rfl (Nat.le_of_ble_eq_true rfl) dX10_beginParts_7 (fun H locs hM hS hsz => ?_)
  obtain ⟨E2, hE2⟩ : ∃ X : mE, X = mm_up E1 (h) (.inr (9, [.ref (h + 1), .ref (h + 2), .ref (h + 3), .ref (h + 4), .int (zI (x1)), .int (zI (x2)), .long (zL (x3)), .ref (h + 5), .ref (h + 6), .ref (h + 7), .ref (h + 8), .int (zI (x4)), .int (zI (0)), .int (zI (1)), .int (zI (x7)), .int (zI (x8)), .ref (h + 9), .ref (h + 10), .ref (h + 11), .ref (h + 12)])) := ⟨_, rfl⟩
  replace hM : mm_M G E2 H := by rw [hE2]; exact hM
  have frs : ∀ q : Nat, q ≠ h → E2 q = E1 q := fun q h => by rw [hE2]; exact mm_up_n _ _ h
  have hat : E2 (h) = some (.inr (9, [.ref (h + 1), .ref (h + 2), .ref (h + 3), .ref (h + 4), .int (zI (x1)), .int (zI (x2)), .long (zL (x3)), .ref (h + 5), .ref (h + 6), .ref (h + 7), .ref (h + 8), .int (zI (x4)), .int (zI (0)), .int (zI (1)), .int (zI (x7)), .int (zI (x8)), .ref (h + 9), .ref (h + 10), .ref (h + 11), .ref (h + 12)])) := by rw [hE2]; exact mm_up_s _ _ _
  have hO : ro G E2 h x1 x2 x3 x4 0 1 x7 x8 := hat
  have hfr := (fun q h => (frs q (by omega)).trans (hfr q h) : ∀ q : Nat, q ≠ h → E2 q = E0 q)
  refine lv_aload_n C0.1 C0.2.1 dX10_beginParts_10 rfl (lv_at hl 0 rfl) ?_
  refine lv_iload_n C0.1 C0.2.1 dX10_beginParts_11 rfl (lv_at hl 1 rfl) ?_
  refine z_i2l C0.1 C0.2.1 dX10_beginParts_12 ⟨by omega, by omega⟩ ?_
  refine mm_callSl (As := [.long (zL (dd))]) C0 sw_X10_rootLong tw_1196 (c_X10_rootLong l G _ d (by omega) (by omega)) hM rfl hl.1 rfl (Nat.le_of_ble_eq_true rfl) ⟨rfl, rfl, Nat.le_of_ble_eq_true rfl, Nat.le_of_ble_eq_true rfl, Nat.zero_le _, Nat.zero_le _⟩ dX10_beginParts_13 hS (fun z_13 E3 H locs hp hM hS => ?_)
  obtain ⟨hz_13, hEq⟩ := hp
  rw [hEq] at hM
  refine z_asL (b := (rtF d : Int)) (hz_13) ?_
  refine z_l2i C0.1 C0.2.1 dX10_beginParts_16 ?_
  refine z_asI (a := (rtF d : Int)) (b := (f : Int)) (by rw [hfe]) ?_
  refine mm_put (v := .int (zI ((f : Int)))) (fs := [.ref (h + 1), .ref (h + 2), .ref (h + 3), .ref (h + 4), .int (zI (x1)), .int (zI (x2)), .long (zL (x3)), .ref (h + 5), .ref (h + 6), .ref (h + 7), .ref (h + 8), .int (zI (x4)), .int (zI (0)), .int (zI (1)), .int (zI (x7)), .int (zI (x8)), .ref (h + 9), .ref (h + 10), .ref (h + 11), .ref (h + 12)]) C0 (C := RX10) (T := TX10) (N := 20) iG_X10 tyX10 tyX10_ok nmX10 hM hS (hO) rfl 14 (by decide) tw_930 rfl rfl (ty := tyX10 14) (tyX10_ok 14 (by decide)) rfl rfl (Nat.le_of_ble_eq_true rfl) dX10_beginParts_17 (fun H locs hM hS hsz => ?_)
  obtain ⟨E4, hE4⟩ : ∃ X : mE, X = mm_up E2 (h) (.inr (9, [.ref (h + 1), .ref (h + 2), .ref (h + 3), .ref (h + 4), .int (zI (x1)), .int (zI (x2)), .long (zL (x3)), .ref (h + 5), .ref (h + 6), .ref (h + 7), .ref (h + 8), .int (zI (x4)), .int (zI (0)), .int (zI (1)), .int (zI ((f : Int))), .int (zI (x8)), .ref (h + 9), .ref (h + 10), .ref (h + 11), .ref (h + 12)])) := ⟨_, rfl⟩
  replace hM : mm_M G E4 H := by rw [hE4]; exact hM
  have frs : ∀ q : Nat, q ≠ h → E4 q = E2 q := fun q h => by rw [hE4]; exact mm_up_n _ _ h
  have hat : E4 (h) = some (.inr (9, [.ref (h + 1), .ref (h + 2), .ref (h + 3), .ref (h + 4), .int (zI (x1)), .int (zI (x2)), .long (zL (x3)), .ref (h + 5), .ref (h + 6), .ref (h + 7), .ref (h + 8), .int (zI (x4)), .int (zI (0)), .int (zI (1)), .int (zI ((f : Int))), .int (zI (x8)), .ref (h + 9), .ref (h + 10), .ref (h + 11), .ref (h + 12)])) := by rw [hE4]; exact mm_up_s _ _ _
  have hO : ro G E4 h x1 x2 x3 x4 0 1 (f : Int) x8 := hat
  have hfr := (fun q h => (frs q (by omega)).trans (hfr q h) : ∀ q : Nat, q ≠ h → E4 q = E0 q)
  exact mm_vret C0 hr hlk hM hS dX10_beginParts_20 (⟨hO, hfr⟩)

def rX10_goOn : Room := { frames := 1, cells := 0, slots := 0, locals := 27 }
theorem vw_X10_goOn : mm_Vw RX10 yX10_goOn cX10_goOn 2 none 1 := ⟨tw_1211, tp_48, tw_10, tw_1212, by decide +kernel⟩
set_option maxHeartbeats 4000000 in
set_option maxRecDepth 100000 in
theorem c_X10_goOn (l : Launch) (G : mG) (E0 : mE) {h n : Nat} {x1 x2 x3 x4 x8 : Int} {dd : Int} {d f : Nat} (hdd : dd = (d : Int)) (hrl : rl d f) (hO : ro G E0 h x1 x2 x3 x4 ((cf d f n).1 : Int) ((cf d f n).2.1 : Int) ((cf d f n).2.2 : Int) x8) : mm_Cv l yX10_goOn (.code yX10_goOn cX10_goOn 2 none :: wsG) rX10_goOn G [.ref (h), .int (zI (dd))] E0 (fun E => ro G E h x1 x2 x3 x4 ((cf d f (n + 1)).1 : Int) ((cf d f (n + 1)).2.1 : Int) ((cf d f (n + 1)).2.2 : Int) x8 ∧ ∀ q : Nat, q ≠ h → E q = E0 q) := by
  refine mm_of_v (by decide +kernel) (Nat.le_of_ble_eq_true rfl) ?_
  intro p e s m args below meth c ls C0 hr hlk hM hl hS
  have hl : lv_has ls 2 [(0, .ref (h)), (1, .int (zI (dd)))] := hl
  have hfr : ∀ q : Nat, q ≠ h → E0 q = E0 q := fun _ _ => rfl
  obtain ⟨hj1, hj2, hj3, hj4, hj5⟩ := id hrl
  have hfe : rtF d = f := rtL_e hrl
  obtain ⟨q1, q2, q3, q4, q5, q6, q7⟩ := cf_next hj3 hj4 (cf_ok hj1 hj3 hj4 n)
  have hs := cf_s d f n
  obtain ⟨i1, i2, i3, i4, i5⟩ := cf_ok hj1 hj3 hj4 n
  have hs1 : (cf d f (n + 1)).1 = (cf d f n).2.1 * (cf d f n).2.2 - (cf d f n).1 := rfl
  have hs2 : (cf d f (n + 1)).2.1 = (d - (cf d f (n + 1)).1 * (cf d f (n + 1)).1) / (cf d f n).2.1 := rfl
  have hs3 : (cf d f (n + 1)).2.2 = (f + (cf d f (n + 1)).1) / (cf d f (n + 1)).2.1 := rfl
  rw [← hs1] at q2 q3
  rw [← hs1, ← hs2] at q4
  have hD9 : (cf d f (n + 1)).2.1 ≤ f + (cf d f (n + 1)).1 := (cf_ok hj1 hj3 hj4 (n + 1)).2.2.1
  clear hs q5 i4 i5
  obtain ⟨p9, hp9⟩ : ∃ p, p = (cf d f n).2.1 * (cf d f n).2.2 := ⟨_, rfl⟩
  rw [← hp9] at hs1 q1
  obtain ⟨r9, hr9⟩ : ∃ r, r = (cf d f (n + 1)).1 * (cf d f (n + 1)).1 := ⟨_, rfl⟩
  rw [← hr9] at hs2 q3
  have hp9z : (p9 : Int) = ((cf d f n).2.1 : Int) * ((cf d f n).2.2 : Int) := by rw [hp9]; exact Int.natCast_mul _ _
  have hr9z : (r9 : Int) = ((cf d f (n + 1)).1 : Int) * ((cf d f (n + 1)).1 : Int) := by rw [hr9]; exact Int.natCast_mul _ _
  have hp9h := show hid _ from hp9z
  have hr9h := show hid _ from hr9z
  clear hp9 hr9 hp9z hr9z
  refine lv_aload_n C0.1 C0.2.1 dX10_goOn_0 rfl (lv_at hl 0 rfl) ?_
  refine lv_aload_n C0.1 C0.2.1 dX10_goOn_1 rfl (lv_at hl 0 rfl) ?_
  refine mm_get (fs := [.ref (h + 1), .ref (h + 2), .ref (h + 3), .ref (h + 4), .int (zI (x1)), .int (zI (x2)), .long (zL (x3)), .ref (h + 5), .ref (h + 6), .ref (h + 7), .ref (h + 8), .int (zI (x4)), .int (zI (((cf d f n).1 : Int))), .int (zI (((cf d f n).2.1 : Int))), .int (zI (((cf d f n).2.2 : Int))), .int (zI (x8)), .ref (h + 9), .ref (h + 10), .ref (h + 11), .ref (h + 12)]) C0 (C := RX10) (T := TX10) (N := 20) iG_X10 hM (hO) rfl 13 (by decide) tw_929 rfl rfl dX10_goOn_2 ?_
  refine lv_aload_n C0.1 C0.2.1 dX10_goOn_5 rfl (lv_at hl 0 rfl) ?_
  refine mm_get (fs := [.ref (h + 1), .ref (h + 2), .ref (h + 3), .ref (h + 4), .int (zI (x1)), .int (zI (x2)), .long (zL (x3)), .ref (h + 5), .ref (h + 6), .ref (h + 7), .ref (h + 8), .int (zI (x4)), .int (zI (((cf d f n).1 : Int))), .int (zI (((cf d f n).2.1 : Int))), .int (zI (((cf d f n).2.2 : Int))), .int (zI (x8)), .ref (h + 9), .ref (h + 10), .ref (h + 11), .ref (h + 12)]) C0 (C := RX10) (T := TX10) (N := 20) iG_X10 hM (hO) rfl 14 (by decide) tw_930 rfl rfl dX10_goOn_6 ?_
  refine z_imul C0.1 C0.2.1 dX10_goOn_9 ?_
  refine z_asI (a := ((((cf d f n).2.1 : Int)) * (((cf d f n).2.2 : Int)))) (b := (p9 : Int)) ((show _ = _ from hp9h).symm) ?_
  refine lv_aload_n C0.1 C0.2.1 dX10_goOn_10 rfl (lv_at hl 0 rfl) ?_
  refine mm_get (fs := [.ref (h + 1), .ref (h + 2), .ref (h + 3), .ref (h + 4), .int (zI (x1)), .int (zI (x2)), .long (zL (x3)), .ref (h + 5), .ref (h + 6), .ref (h + 7), .ref (h + 8), .int (zI (x4)), .int (zI (((cf d f n).1 : Int))), .int (zI (((cf d f n).2.1 : Int))), .int (zI (((cf d f n).2.2 : Int))), .int (zI (x8)), .ref (h + 9), .ref (h + 10), .ref (h + 11), .ref (h + 12)]) C0 (C := RX10) (T := TX10) (N := 20) iG_X10 hM (hO) rfl 12 (by decide) tw_928 rfl rfl dX10_goOn_11 ?_
  refine z_isub C0.1 C0.2.1 dX10_goOn_14 ?_
  refine z_asI (a := (((p9 : Int)) - (((cf d f n).1 : Int)))) (b := ((cf d f (n + 1)).1 : Int)) (by omega) ?_
  refine mm_put (v := .int (zI (((cf d f (n + 1)).1 : Int)))) (fs := [.ref (h + 1), .ref (h + 2), .ref (h + 3), .ref (h + 4), .int (zI (x1)), .int (zI (x2)), .long (zL (x3)), .ref (h + 5), .ref (h + 6), .ref (h + 7), .ref (h + 8), .int (zI (x4)), .int (zI (((cf d f n).1 : Int))), .int (zI (((cf d f n).2.1 : Int))), .int (zI (((cf d f n).2.2 : Int))), .int (zI (x8)), .ref (h + 9), .ref (h + 10), .ref (h + 11), .ref (h + 12)]) C0 (C := RX10) (T := TX10) (N := 20) iG_X10 tyX10 tyX10_ok nmX10 hM hS (hO) rfl 12 (by decide) tw_928 rfl rfl (ty := tyX10 12) (tyX10_ok 12 (by decide)) rfl rfl (Nat.le_of_ble_eq_true rfl) dX10_goOn_15 (fun H locs hM hS hsz => ?_)
  obtain ⟨E1, hE1⟩ : ∃ X : mE, X = mm_up E0 (h) (.inr (9, [.ref (h + 1), .ref (h + 2), .ref (h + 3), .ref (h + 4), .int (zI (x1)), .int (zI (x2)), .long (zL (x3)), .ref (h + 5), .ref (h + 6), .ref (h + 7), .ref (h + 8), .int (zI (x4)), .int (zI (((cf d f (n + 1)).1 : Int))), .int (zI (((cf d f n).2.1 : Int))), .int (zI (((cf d f n).2.2 : Int))), .int (zI (x8)), .ref (h + 9), .ref (h + 10), .ref (h + 11), .ref (h + 12)])) := ⟨_, rfl⟩
  replace hM : mm_M G E1 H := by rw [hE1]; exact hM
  have frs : ∀ q : Nat, q ≠ h → E1 q = E0 q := fun q h => by rw [hE1]; exact mm_up_n _ _ h
  have hat : E1 (h) = some (.inr (9, [.ref (h + 1), .ref (h + 2), .ref (h + 3), .ref (h + 4), .int (zI (x1)), .int (zI (x2)), .long (zL (x3)), .ref (h + 5), .ref (h + 6), .ref (h + 7), .ref (h + 8), .int (zI (x4)), .int (zI (((cf d f (n + 1)).1 : Int))), .int (zI (((cf d f n).2.1 : Int))), .int (zI (((cf d f n).2.2 : Int))), .int (zI (x8)), .ref (h + 9), .ref (h + 10), .ref (h + 11), .ref (h + 12)])) := by rw [hE1]; exact mm_up_s _ _ _
  have hO : ro G E1 h x1 x2 x3 x4 ((cf d f (n + 1)).1 : Int) ((cf d f n).2.1 : Int) ((cf d f n).2.2 : Int) x8 := hat
  have hfr := (fun q h => (frs q (by omega)).trans (hfr q h) : ∀ q : Nat, q ≠ h → E1 q = E0 q)
  refine lv_aload_n C0.1 C0.2.1 dX10_goOn_18 rfl (lv_at hl 0 rfl) ?_
  refine lv_iload_n C0.1 C0.2.1 dX10_goOn_19 rfl (lv_at hl 1 rfl) ?_
  refine lv_aload_n C0.1 C0.2.1 dX10_goOn_20 rfl (lv_at hl 0 rfl) ?_
  refine mm_get (fs := [.ref (h + 1), .ref (h + 2), .ref (h + 3), .ref (h + 4), .int (zI (x1)), .int (zI (x2)), .long (zL (x3)), .ref (h + 5), .ref (h + 6), .ref (h + 7), .ref (h + 8), .int (zI (x4)), .int (zI (((cf d f (n + 1)).1 : Int))), .int (zI (((cf d f n).2.1 : Int))), .int (zI (((cf d f n).2.2 : Int))), .int (zI (x8)), .ref (h + 9), .ref (h + 10), .ref (h + 11), .ref (h + 12)]) C0 (C := RX10) (T := TX10) (N := 20) iG_X10 hM (hO) rfl 12 (by decide) tw_928 rfl rfl dX10_goOn_21 ?_
  refine lv_aload_n C0.1 C0.2.1 dX10_goOn_24 rfl (lv_at hl 0 rfl) ?_
  refine mm_get (fs := [.ref (h + 1), .ref (h + 2), .ref (h + 3), .ref (h + 4), .int (zI (x1)), .int (zI (x2)), .long (zL (x3)), .ref (h + 5), .ref (h + 6), .ref (h + 7), .ref (h + 8), .int (zI (x4)), .int (zI (((cf d f (n + 1)).1 : Int))), .int (zI (((cf d f n).2.1 : Int))), .int (zI (((cf d f n).2.2 : Int))), .int (zI (x8)), .ref (h + 9), .ref (h + 10), .ref (h + 11), .ref (h + 12)]) C0 (C := RX10) (T := TX10) (N := 20) iG_X10 hM (hO) rfl 12 (by decide) tw_928 rfl rfl dX10_goOn_25 ?_
  refine z_imul C0.1 C0.2.1 dX10_goOn_28 ?_
  refine z_asI (a := ((((cf d f (n + 1)).1 : Int)) * (((cf d f (n + 1)).1 : Int)))) (b := (r9 : Int)) ((show _ = _ from hr9h).symm) ?_
  refine z_isub C0.1 C0.2.1 dX10_goOn_29 ?_
  refine lv_aload_n C0.1 C0.2.1 dX10_goOn_30 rfl (lv_at hl 0 rfl) ?_
  refine mm_get (fs := [.ref (h + 1), .ref (h + 2), .ref (h + 3), .ref (h + 4), .int (zI (x1)), .int (zI (x2)), .long (zL (x3)), .ref (h + 5), .ref (h + 6), .ref (h + 7), .ref (h + 8), .int (zI (x4)), .int (zI (((cf d f (n + 1)).1 : Int))), .int (zI (((cf d f n).2.1 : Int))), .int (zI (((cf d f n).2.2 : Int))), .int (zI (x8)), .ref (h + 9), .ref (h + 10), .ref (h + 11), .ref (h + 12)]) C0 (C := RX10) (T := TX10) (N := 20) iG_X10 hM (hO) rfl 13 (by decide) tw_929 rfl rfl dX10_goOn_31 ?_
  refine z_idivp C0.1 C0.2.1 dX10_goOn_34 ⟨by omega, by omega⟩ ⟨by omega, by omega⟩ (by omega) (by omega) ?_
  refine z_asI (a := ((((dd) - ((r9 : Int)))) / (((cf d f n).2.1 : Int)))) (b := ((cf d f (n + 1)).2.1 : Int)) (by rw [hs2, hdd, show (d : Int) - (r9 : Int) = ((d - r9 : Nat) : Int) by omega]; exact (Int.natCast_ediv _ _).symm) ?_
  refine mm_put (v := .int (zI (((cf d f (n + 1)).2.1 : Int)))) (fs := [.ref (h + 1), .ref (h + 2), .ref (h + 3), .ref (h + 4), .int (zI (x1)), .int (zI (x2)), .long (zL (x3)), .ref (h + 5), .ref (h + 6), .ref (h + 7), .ref (h + 8), .int (zI (x4)), .int (zI (((cf d f (n + 1)).1 : Int))), .int (zI (((cf d f n).2.1 : Int))), .int (zI (((cf d f n).2.2 : Int))), .int (zI (x8)), .ref (h + 9), .ref (h + 10), .ref (h + 11), .ref (h + 12)]) C0 (C := RX10) (T := TX10) (N := 20) iG_X10 tyX10 tyX10_ok nmX10 hM hS (hO) rfl 13 (by decide) tw_929 rfl rfl (ty := tyX10 13) (tyX10_ok 13 (by decide)) rfl rfl (Nat.le_of_ble_eq_true rfl) dX10_goOn_35 (fun H locs hM hS hsz => ?_)
  obtain ⟨E2, hE2⟩ : ∃ X : mE, X = mm_up E1 (h) (.inr (9, [.ref (h + 1), .ref (h + 2), .ref (h + 3), .ref (h + 4), .int (zI (x1)), .int (zI (x2)), .long (zL (x3)), .ref (h + 5), .ref (h + 6), .ref (h + 7), .ref (h + 8), .int (zI (x4)), .int (zI (((cf d f (n + 1)).1 : Int))), .int (zI (((cf d f (n + 1)).2.1 : Int))), .int (zI (((cf d f n).2.2 : Int))), .int (zI (x8)), .ref (h + 9), .ref (h + 10), .ref (h + 11), .ref (h + 12)])) := ⟨_, rfl⟩
  replace hM : mm_M G E2 H := by rw [hE2]; exact hM
  have frs : ∀ q : Nat, q ≠ h → E2 q = E1 q := fun q h => by rw [hE2]; exact mm_up_n _ _ h
  have hat : E2 (h) = some (.inr (9, [.ref (h + 1), .ref (h + 2), .ref (h + 3), .ref (h + 4), .int (zI (x1)), .int (zI (x2)), .long (zL (x3)), .ref (h + 5), .ref (h + 6), .ref (h + 7), .ref (h + 8), .int (zI (x4)), .int (zI (((cf d f (n + 1)).1 : Int))), .int (zI (((cf d f (n + 1)).2.1 : Int))), .int (zI (((cf d f n).2.2 : Int))), .int (zI (x8)), .ref (h + 9), .ref (h + 10), .ref (h + 11), .ref (h + 12)])) := by rw [hE2]; exact mm_up_s _ _ _
  have hO : ro G E2 h x1 x2 x3 x4 ((cf d f (n + 1)).1 : Int) ((cf d f (n + 1)).2.1 : Int) ((cf d f n).2.2 : Int) x8 := hat
  have hfr := (fun q h => (frs q (by omega)).trans (hfr q h) : ∀ q : Nat, q ≠ h → E2 q = E0 q)
  refine lv_aload_n C0.1 C0.2.1 dX10_goOn_38 rfl (lv_at hl 0 rfl) ?_
  refine lv_iload_n C0.1 C0.2.1 dX10_goOn_39 rfl (lv_at hl 1 rfl) ?_
  refine z_i2l C0.1 C0.2.1 dX10_goOn_40 ⟨by omega, by omega⟩ ?_
  refine mm_callSl (As := [.long (zL (dd))]) C0 sw_X10_rootLong tw_1196 (c_X10_rootLong l G _ d (by omega) (by omega)) hM rfl hl.1 rfl (Nat.le_of_ble_eq_true rfl) ⟨rfl, rfl, Nat.le_of_ble_eq_true rfl, Nat.le_of_ble_eq_true rfl, Nat.zero_le _, Nat.zero_le _⟩ dX10_goOn_41 hS (fun z_41 E3 H locs hp hM hS => ?_)
  obtain ⟨hz_41, hEq⟩ := hp
  rw [hEq] at hM
  refine z_asL (b := (f : Int)) (hz_41.trans (by rw [hfe])) ?_
  refine z_l2i C0.1 C0.2.1 dX10_goOn_44 ?_
  refine lv_aload_n C0.1 C0.2.1 dX10_goOn_45 rfl (lv_at hl 0 rfl) ?_
  refine mm_get (fs := [.ref (h + 1), .ref (h + 2), .ref (h + 3), .ref (h + 4), .int (zI (x1)), .int (zI (x2)), .long (zL (x3)), .ref (h + 5), .ref (h + 6), .ref (h + 7), .ref (h + 8), .int (zI (x4)), .int (zI (((cf d f (n + 1)).1 : Int))), .int (zI (((cf d f (n + 1)).2.1 : Int))), .int (zI (((cf d f n).2.2 : Int))), .int (zI (x8)), .ref (h + 9), .ref (h + 10), .ref (h + 11), .ref (h + 12)]) C0 (C := RX10) (T := TX10) (N := 20) iG_X10 hM (hO) rfl 12 (by decide) tw_928 rfl rfl dX10_goOn_46 ?_
  refine z_iadd C0.1 C0.2.1 dX10_goOn_49 ?_
  refine lv_aload_n C0.1 C0.2.1 dX10_goOn_50 rfl (lv_at hl 0 rfl) ?_
  refine mm_get (fs := [.ref (h + 1), .ref (h + 2), .ref (h + 3), .ref (h + 4), .int (zI (x1)), .int (zI (x2)), .long (zL (x3)), .ref (h + 5), .ref (h + 6), .ref (h + 7), .ref (h + 8), .int (zI (x4)), .int (zI (((cf d f (n + 1)).1 : Int))), .int (zI (((cf d f (n + 1)).2.1 : Int))), .int (zI (((cf d f n).2.2 : Int))), .int (zI (x8)), .ref (h + 9), .ref (h + 10), .ref (h + 11), .ref (h + 12)]) C0 (C := RX10) (T := TX10) (N := 20) iG_X10 hM (hO) rfl 13 (by decide) tw_929 rfl rfl dX10_goOn_51 ?_
  refine z_idivp C0.1 C0.2.1 dX10_goOn_54 ⟨by omega, by omega⟩ ⟨by omega, by omega⟩ (by omega) (by omega) ?_
  refine z_asI (a := (((((f : Int)) + (((cf d f (n + 1)).1 : Int)))) / (((cf d f (n + 1)).2.1 : Int)))) (b := ((cf d f (n + 1)).2.2 : Int)) (by rw [hs3, show (f : Int) + ((cf d f (n + 1)).1 : Int) = ((f + (cf d f (n + 1)).1 : Nat) : Int) by omega]; exact (Int.natCast_ediv _ _).symm) ?_
  refine mm_put (v := .int (zI (((cf d f (n + 1)).2.2 : Int)))) (fs := [.ref (h + 1), .ref (h + 2), .ref (h + 3), .ref (h + 4), .int (zI (x1)), .int (zI (x2)), .long (zL (x3)), .ref (h + 5), .ref (h + 6), .ref (h + 7), .ref (h + 8), .int (zI (x4)), .int (zI (((cf d f (n + 1)).1 : Int))), .int (zI (((cf d f (n + 1)).2.1 : Int))), .int (zI (((cf d f n).2.2 : Int))), .int (zI (x8)), .ref (h + 9), .ref (h + 10), .ref (h + 11), .ref (h + 12)]) C0 (C := RX10) (T := TX10) (N := 20) iG_X10 tyX10 tyX10_ok nmX10 hM hS (hO) rfl 14 (by decide) tw_930 rfl rfl (ty := tyX10 14) (tyX10_ok 14 (by decide)) rfl rfl (Nat.le_of_ble_eq_true rfl) dX10_goOn_55 (fun H locs hM hS hsz => ?_)
  obtain ⟨E4, hE4⟩ : ∃ X : mE, X = mm_up E2 (h) (.inr (9, [.ref (h + 1), .ref (h + 2), .ref (h + 3), .ref (h + 4), .int (zI (x1)), .int (zI (x2)), .long (zL (x3)), .ref (h + 5), .ref (h + 6), .ref (h + 7), .ref (h + 8), .int (zI (x4)), .int (zI (((cf d f (n + 1)).1 : Int))), .int (zI (((cf d f (n + 1)).2.1 : Int))), .int (zI (((cf d f (n + 1)).2.2 : Int))), .int (zI (x8)), .ref (h + 9), .ref (h + 10), .ref (h + 11), .ref (h + 12)])) := ⟨_, rfl⟩
  replace hM : mm_M G E4 H := by rw [hE4]; exact hM
  have frs : ∀ q : Nat, q ≠ h → E4 q = E2 q := fun q h => by rw [hE4]; exact mm_up_n _ _ h
  have hat : E4 (h) = some (.inr (9, [.ref (h + 1), .ref (h + 2), .ref (h + 3), .ref (h + 4), .int (zI (x1)), .int (zI (x2)), .long (zL (x3)), .ref (h + 5), .ref (h + 6), .ref (h + 7), .ref (h + 8), .int (zI (x4)), .int (zI (((cf d f (n + 1)).1 : Int))), .int (zI (((cf d f (n + 1)).2.1 : Int))), .int (zI (((cf d f (n + 1)).2.2 : Int))), .int (zI (x8)), .ref (h + 9), .ref (h + 10), .ref (h + 11), .ref (h + 12)])) := by rw [hE4]; exact mm_up_s _ _ _
  have hO : ro G E4 h x1 x2 x3 x4 ((cf d f (n + 1)).1 : Int) ((cf d f (n + 1)).2.1 : Int) ((cf d f (n + 1)).2.2 : Int) x8 := hat
  have hfr := (fun q h => (frs q (by omega)).trans (hfr q h) : ∀ q : Nat, q ≠ h → E4 q = E0 q)
  exact mm_vret C0 hr hlk hM hS dX10_goOn_58 (⟨hO, hfr⟩)

def rX10_roundOf : Room := { frames := 2, cells := 0, slots := 0, locals := 48 }
theorem vw_X10_roundOf : mm_Vw RX10 yX10_roundOf cX10_roundOf 4 (some .int) 1 := ⟨tw_1203, tp_46, tw_10, tw_1204, by decide +kernel⟩
set_option maxHeartbeats 4000000 in
set_option maxRecDepth 100000 in
theorem c_X10_roundOf (l : Launch) (G : mG) (E0 : mE) {h : Nat} {x1 x2 x3 x4 x5 x6 x7 x8 : Int} (hO : ro G E0 h x1 x2 x3 x4 x5 x6 x7 x8) {dd : Int} {d f : Nat} (hdd : dd = (d : Int)) (hrl : rl d f) {k : Nat} (hk : rnd d f k) (hk9 : k ≤ 400) : mm_Ci l yX10_roundOf (.code yX10_roundOf cX10_roundOf 4 (some .int) :: wsG) rX10_roundOf G [.ref (h), .int (zI (dd))] E0 (fun z E => z = (k : Int) ∧ (∃ y5 y6 y7 : Int, ro G E h x1 x2 x3 x4 y5 y6 y7 x8) ∧ ∀ q : Nat, q ≠ h → E q = E0 q) := by
  refine mm_of_i (by decide +kernel) (Nat.le_of_ble_eq_true rfl) ?_
  intro p e s m args below meth c ls C0 hr hlk hM hl hS
  have hl : lv_has ls 4 [(0, .ref (h)), (1, .int (zI (dd)))] := hl
  have hfr : ∀ q : Nat, q ≠ h → E0 q = E0 q := fun _ _ => rfl
  obtain ⟨hj1, hj2, hj3, hj4, hj5⟩ := id hrl
  have hfe : rtF d = f := rtL_e hrl
  have hkp := hk.1
  refine lv_aload_n C0.1 C0.2.1 dX10_roundOf_0 rfl (lv_at hl 0 rfl) ?_
  refine lv_iload_n C0.1 C0.2.1 dX10_roundOf_1 rfl (lv_at hl 1 rfl) ?_
  refine mm_callVv (As := [.int (zI (dd))]) C0 vw_X10_beginParts tw_1205 (c_X10_beginParts l G _ hO hdd hrl) hM (hO) rfl rfl hl.1 rfl (Nat.le_of_ble_eq_true rfl) ⟨rfl, rfl, Nat.le_of_ble_eq_true rfl, Nat.le_of_ble_eq_true rfl, Nat.zero_le _, Nat.zero_le _⟩ dX10_roundOf_2 hS (fun E1 H locs hp hM hS => ?_)
  obtain ⟨hO, fr⟩ := hp
  have hfr := (fun q h => (fr q (by omega)).trans (hfr q h) : ∀ q : Nat, q ≠ h → E1 q = E0 q)
  refine lv_iconst (v := zI 0) C0.1 C0.2.1 dX10_roundOf_5 rfl ?_
  refine lv_istore_n (lv' := [(2, .int (zI (0))), (0, .ref (h)), (1, .int (zI (dd)))]) C0.1 C0.2.1 dX10_roundOf_6 rfl hl (by decide) rfl (fun ls hl => ?_)
  refine lv_iconst (v := zI 2) C0.1 C0.2.1 dX10_roundOf_7 rfl ?_
  refine lv_aload_n C0.1 C0.2.1 dX10_roundOf_8 rfl (lv_at hl 1 rfl) ?_
  refine mm_get (fs := [.ref (h + 1), .ref (h + 2), .ref (h + 3), .ref (h + 4), .int (zI (x1)), .int (zI (x2)), .long (zL (x3)), .ref (h + 5), .ref (h + 6), .ref (h + 7), .ref (h + 8), .int (zI (x4)), .int (zI (((cf d f 0).1 : Int))), .int (zI (((cf d f 0).2.1 : Int))), .int (zI (((cf d f 0).2.2 : Int))), .int (zI (x8)), .ref (h + 9), .ref (h + 10), .ref (h + 11), .ref (h + 12)]) C0 (C := RX10) (T := TX10) (N := 20) iG_X10 hM (hO) rfl 14 (by decide) tw_930 rfl rfl dX10_roundOf_9 ?_
  refine z_imul C0.1 C0.2.1 dX10_roundOf_12 ?_
  refine z_asI (a := ((2) * (((cf d f 0).2.2 : Int)))) (b := ((2 * f : Nat) : Int)) (by show 2 * (((cf d f 0).2.2 : Nat) : Int) = _; rw [show (cf d f 0).2.2 = f from rfl]; omega) ?_
  refine lv_istore_n (lv' := [(3, .int (zI (((2 * f : Nat) : Int)))), (2, .int (zI (0))), (0, .ref (h)), (1, .int (zI (dd)))]) C0.1 C0.2.1 dX10_roundOf_13 rfl hl (by decide) rfl (fun ls hl => ?_)
  have L14 : ∀ (k14 : Nat) (n : Nat) (E2 : mE) (H : Heap) (locs : List Loc) (ls : Array Slot), (n ≤ k) → (ro G E2 h x1 x2 x3 x4 ((cf d f n).1 : Int) ((cf d f n).2.1 : Int) ((cf d f n).2.2 : Int) x8) → (∀ q : Nat, q ≠ h → E2 q = E0 q) → k - n < k14 → mm_M G E2 H → va_S (mm_A G) s.heap H locs → lv_has ls 4 [(0, .ref (h)), (1, .int (zI (dd))), (2, .int (zI ((n : Int)))), (3, .int (zI (((2 * f : Nat) : Int))))] → W p l e rX10_roundOf s m args below meth c H locs 0 0 (mm_Zi G below args s (fun z E => z = (k : Int) ∧ (∃ y5 y6 y7 : Int, ro G E h x1 x2 x3 x4 y5 y6 y7 x8) ∧ ∀ q : Nat, q ≠ h → E q = E0 q)) (F0 m 14 ls []) := by
    intro k14
    induction k14 with
    | zero => intro n E2 H locs ls hn hO hfr hk hM hS hl; exact absurd hk (Nat.not_lt_zero _)
    | succ k14 ih14 =>
      intro n E2 H locs ls hn hO hfr hk14 hM hS hl
      obtain ⟨hca1, hca2⟩ := cf_a hrl n
      refine lv_iload_n C0.1 C0.2.1 dX10_roundOf_14 rfl (lv_at hl 2 rfl) ?_
      refine z_if_eq (tgt := 26) C0.1 C0.2.1 dX10_roundOf_15 (by decide) ⟨by omega, by omega⟩ (fun c_15 => ?_) (fun c_15 => ?_)
      · skip
        have hnk : n < k := by omega
        refine lv_aload_n C0.1 C0.2.1 dX10_roundOf_26 rfl (lv_at hl 0 rfl) ?_
        refine lv_iload_n C0.1 C0.2.1 dX10_roundOf_27 rfl (lv_at hl 1 rfl) ?_
        refine mm_callVv (As := [.int (zI (dd))]) C0 vw_X10_goOn tw_1209 (c_X10_goOn l G _ hdd hrl hO) hM (hO) rfl rfl hl.1 rfl (Nat.le_of_ble_eq_true rfl) ⟨rfl, rfl, Nat.le_of_ble_eq_true rfl, Nat.le_of_ble_eq_true rfl, Nat.zero_le _, Nat.zero_le _⟩ dX10_roundOf_28 hS (fun E3 H locs hp hM hS => ?_)
        obtain ⟨hO, fr⟩ := hp
        have hfr := (fun q h => (fr q (by omega)).trans (hfr q h) : ∀ q : Nat, q ≠ h → E3 q = E0 q)
        refine lv_iinc (v := zI (((n + 1 : Nat) : Int))) (lv' := [(2, .int (zI (((n + 1 : Nat) : Int)))), (0, .ref (h)), (1, .int (zI (dd))), (3, .int (zI (((2 * f : Nat) : Int))))]) C0.1 C0.2.1 dX10_roundOf_31 hl (k := 2) rfl (z_inc (a := (n : Int)) (n := 1) (by omega)) (by decide) rfl (fun ls hl => ?_)
        refine lv_goto (tgt := 14) C0.1 C0.2.1 dX10_roundOf_34 (by decide) ?_
        exact ih14  (n + 1) E3 _ _ _ (by omega) (hO) (hfr) (by omega) hM hS (lv_sub hl [1, 2, 0, 3] rfl)
      · skip
        skip
        refine lv_aload_n C0.1 C0.2.1 dX10_roundOf_18 rfl (lv_at hl 0 rfl) ?_
        refine mm_get (fs := [.ref (h + 1), .ref (h + 2), .ref (h + 3), .ref (h + 4), .int (zI (x1)), .int (zI (x2)), .long (zL (x3)), .ref (h + 5), .ref (h + 6), .ref (h + 7), .ref (h + 8), .int (zI (x4)), .int (zI (((cf d f n).1 : Int))), .int (zI (((cf d f n).2.1 : Int))), .int (zI (((cf d f n).2.2 : Int))), .int (zI (x8)), .ref (h + 9), .ref (h + 10), .ref (h + 11), .ref (h + 12)]) C0 (C := RX10) (T := TX10) (N := 20) iG_X10 hM (hO) rfl 14 (by decide) tw_930 rfl rfl dX10_roundOf_19 ?_
        refine lv_iload_n C0.1 C0.2.1 dX10_roundOf_22 rfl (lv_at hl 3 rfl) ?_
        refine z_icmp_eq (tgt := 37) C0.1 C0.2.1 dX10_roundOf_23 (by decide) ⟨by omega, by omega⟩ ⟨by omega, by omega⟩ (fun c_23 => ?_) (fun c_23 => ?_)
        · skip
          have hnk : n = k := Nat.le_antisymm hn (Nat.le_of_not_lt fun q => hk.2.2 n (by omega) q (by omega))
          refine lv_iload_n C0.1 C0.2.1 dX10_roundOf_37 rfl (lv_at hl 2 rfl) ?_
          exact mm_iret (z := (n : Int)) C0 hr hlk hM hS dX10_roundOf_38 (⟨by omega, ⟨_, _, _, hO⟩, hfr⟩)
        · skip
          have hnk : n < k := Nat.lt_of_le_of_ne hn fun q => by have := hk.2.1; rw [← q] at this; omega
          refine lv_aload_n C0.1 C0.2.1 dX10_roundOf_26 rfl (lv_at hl 0 rfl) ?_
          refine lv_iload_n C0.1 C0.2.1 dX10_roundOf_27 rfl (lv_at hl 1 rfl) ?_
          refine mm_callVv (As := [.int (zI (dd))]) C0 vw_X10_goOn tw_1209 (c_X10_goOn l G _ hdd hrl hO) hM (hO) rfl rfl hl.1 rfl (Nat.le_of_ble_eq_true rfl) ⟨rfl, rfl, Nat.le_of_ble_eq_true rfl, Nat.le_of_ble_eq_true rfl, Nat.zero_le _, Nat.zero_le _⟩ dX10_roundOf_28 hS (fun E4 H locs hp hM hS => ?_)
          obtain ⟨hO, fr⟩ := hp
          have hfr := (fun q h => (fr q (by omega)).trans (hfr q h) : ∀ q : Nat, q ≠ h → E4 q = E0 q)
          refine lv_iinc (v := zI (((n + 1 : Nat) : Int))) (lv' := [(2, .int (zI (((n + 1 : Nat) : Int)))), (0, .ref (h)), (1, .int (zI (dd))), (3, .int (zI (((2 * f : Nat) : Int))))]) C0.1 C0.2.1 dX10_roundOf_31 hl (k := 2) rfl (z_inc (a := (n : Int)) (n := 1) (by omega)) (by decide) rfl (fun ls hl => ?_)
          refine lv_goto (tgt := 14) C0.1 C0.2.1 dX10_roundOf_34 (by decide) ?_
          exact ih14  (n + 1) E4 _ _ _ (by omega) (hO) (hfr) (by omega) hM hS (lv_sub hl [1, 2, 0, 3] rfl)
  exact L14 (_ + 1) 0 E1 _ _ _ (Nat.zero_le _) (hO) (hfr) (Nat.lt_succ_self _) hM hS (lv_sub hl [2, 3, 1, 0] rfl)

def rX10_less : Room := { frames := 3, cells := 0, slots := 0, locals := 71 }
theorem vw_X10_less : mm_Vw RX10 yX10_less cX10_less 2 (some .int) 1 := ⟨tw_1214, tw_1215, tw_10, tw_1216, by decide +kernel⟩
set_option maxHeartbeats 4000000 in
set_option maxRecDepth 100000 in
theorem c_X10_less (l : Launch) (G : mG) (E0 : mE) {h : Nat} {S : mST} (hF : rf G E0 h S) (hok : okR S) {d : Int} (hr_d : rI d) : mm_Ci l yX10_less (.code yX10_less cX10_less 2 (some .int) :: wsG) rX10_less G [.ref (h), .int (zI (d))] E0 (fun z E => z = (pf_less S d).1 ∧ rf G E h (pf_less S d).2 ∧ ∀ q : Nat, (q < h ∨ h + 13 ≤ q) → E q = E0 q) := by
  refine mm_of_i (by decide +kernel) (Nat.le_of_ble_eq_true rfl) ?_
  intro p e s m args below meth c ls C0 hr hlk hM hl hS
  have hl : lv_has ls 2 [(0, .ref (h)), (1, .int (zI (d)))] := hl
  obtain ⟨hr_d1, hr_d2⟩ := hr_d
  obtain ⟨R, x2, x3, x4, x5, x6, x7, hX⟩ := hF
  have hX0 := hX
  obtain ⟨hTk, hPk, hKk, hSk⟩ := hok
  obtain ⟨hO, hR, hRp, ⟨fh, fc, hH, hC, hPa⟩, hTp, hCl, hKp, hSh, him⟩ := hX
  have hfr : ∀ q : Nat, (q < h ∨ h + 13 ≤ q) → E0 q = E0 q := fun _ _ => rfl
  refine lv_iload_n C0.1 C0.2.1 dX10_less_0 rfl (lv_at hl 1 rfl) ?_
  refine mm_callSi (As := [.int (zI (d))]) C0 sw_X10_isRoot tw_1189 (c_X10_isRoot l G _ (d := d) ⟨by omega, by omega⟩) hM rfl hl.1 rfl (Nat.le_of_ble_eq_true rfl) ⟨rfl, rfl, Nat.le_of_ble_eq_true rfl, Nat.le_of_ble_eq_true rfl, Nat.zero_le _, Nat.zero_le _⟩ dX10_less_1 hS (fun z_1 E1 H locs hp hM hS => ?_)
  obtain ⟨hz_1, hEq⟩ := hp
  rw [hEq] at hM
  have hz01 : z_1 = 0 ∨ z_1 = 1 := hz_1.elim (fun h => Or.inr h.1) (fun h => Or.inl h.1)
  refine z_if_eq (tgt := 17) C0.1 C0.2.1 dX10_less_4 (by decide) ⟨by omega, by omega⟩ (fun c_4 => ?_) (fun c_4 => ?_)
  · skip
    have hno : ¬ isRt d := hz_1.elim (fun h => by omega) (fun h => h.2)
    refine lv_iconst (v := zI (-1)) C0.1 C0.2.1 dX10_less_17 rfl ?_
    exact mm_iret (z := (-1)) C0 hr hlk hM hS dX10_less_18 (by have he : pf_less S d = ((-1), S) := (by unfold pf_less; rw [if_neg (fun q => hno (bq_y q))]); rw [he]; exact ⟨rfl, hX0.rf, fun _ _ => rfl⟩)
  · skip
    obtain ⟨hq1, hq2, hq3⟩ := hz_1.elim (fun h => h.2) (fun h => by omega)
    obtain ⟨f, hrl⟩ := rl_ex hq1 hq2 hq3
    obtain ⟨hk9, hk4⟩ := rnL_p hrl
    have hfe := rtL_e hrl
    have hdd : d = (d.toNat : Int) := by omega
    have hyes : bq (isRt d) = true := bq_t ⟨hq1, hq2, hq3⟩
    refine lv_aload_n C0.1 C0.2.1 dX10_less_7 rfl (lv_at hl 0 rfl) ?_
    refine lv_iload_n C0.1 C0.2.1 dX10_less_8 rfl (lv_at hl 1 rfl) ?_
    refine mm_callVi (As := [.int (zI (d))]) C0 vw_X10_roundOf tw_1201 (c_X10_roundOf l G _ hO hdd hrl hk9 hk4) hM (hO) rfl rfl hl.1 rfl (Nat.le_of_ble_eq_true rfl) ⟨rfl, rfl, Nat.le_of_ble_eq_true rfl, Nat.le_of_ble_eq_true rfl, Nat.zero_le _, Nat.zero_le _⟩ dX10_less_9 hS (fun z9 E2 H locs hp hM hS => ?_)
    obtain ⟨hz9, ⟨y5, y6, y7, hO⟩, fr⟩ := hp
    have hfr := (fun q h => (fr q (by omega)).trans (hfr q h) : ∀ q : Nat, (q < h ∨ h + 13 ≤ q) → E2 q = E0 q)
    have hX1 := hX0.o hO fr
    refine lv_iconst (v := zI 2) C0.1 C0.2.1 dX10_less_12 rfl ?_
    refine z_iremp C0.1 C0.2.1 dX10_less_13 ⟨by omega, by omega⟩ ⟨by omega, by omega⟩ (by omega) (by omega) ?_
    refine lv_goto (tgt := 18) C0.1 C0.2.1 dX10_less_14 (by decide) ?_
    exact mm_iret (z := ((z9) % (2))) C0 hr hlk hM hS dX10_less_18 (by have he : pf_less S d = (((rnL d.toNat % 2 : Nat) : Int), S) := (by unfold pf_less; rw [if_pos hyes]); rw [he]; exact ⟨by rw [hz9]; omega, hX1.rf, hfr⟩)

def rX10_round : Room := { frames := 3, cells := 0, slots := 0, locals := 71 }
theorem vw_X10_round : mm_Vw RX10 yX10_round cX10_round 6 (some .int) 2 := ⟨tw_1186, tw_1187, tw_10, tw_1188, by decide +kernel⟩
set_option maxHeartbeats 4000000 in
set_option maxRecDepth 100000 in
theorem c_X10_round (l : Launch) (G : mG) (E0 : mE) {h : Nat} {S : mST} (hF : rf G E0 h S) (hok : okR S) {d i : Int} (hr_d : rI d) (hr_i : rI i) : mm_Ci l yX10_round (.code yX10_round cX10_round 6 (some .int) :: wsG) rX10_round G [.ref (h), .int (zI (d)), .int (zI (i))] E0 (fun z E => z = (pf_round S d i).1 ∧ rf G E h (pf_round S d i).2 ∧ ∀ q : Nat, (q < h ∨ h + 13 ≤ q) → E q = E0 q) := by
  refine mm_of_i (by decide +kernel) (Nat.le_of_ble_eq_true rfl) ?_
  intro p e s m args below meth c ls C0 hr hlk hM hl hS
  have hl : lv_has ls 6 [(0, .ref (h)), (1, .int (zI (d))), (2, .int (zI (i)))] := hl
  obtain ⟨hr_d1, hr_d2⟩ := hr_d
  obtain ⟨hr_i1, hr_i2⟩ := hr_i
  obtain ⟨R, x2, x3, x4, x5, x6, x7, hX⟩ := hF
  have hX0 := hX
  obtain ⟨hTk, hPk, hKk, hSk⟩ := hok
  obtain ⟨hO, hR, hRp, ⟨fh, fc, hH, hC, hPa⟩, hTp, hCl, hKp, hSh, him⟩ := hX
  have hfr : ∀ q : Nat, q ≠ h → E0 q = E0 q := fun _ _ => rfl
  refine lv_iload_n C0.1 C0.2.1 dX10_round_0 rfl (lv_at hl 1 rfl) ?_
  refine mm_callSi (As := [.int (zI (d))]) C0 sw_X10_isRoot tw_1189 (c_X10_isRoot l G _ (d := d) ⟨by omega, by omega⟩) hM rfl hl.1 rfl (Nat.le_of_ble_eq_true rfl) ⟨rfl, rfl, Nat.le_of_ble_eq_true rfl, Nat.le_of_ble_eq_true rfl, Nat.zero_le _, Nat.zero_le _⟩ dX10_round_1 hS (fun z_1 E1 H locs hp hM hS => ?_)
  obtain ⟨hz_1, hEq⟩ := hp
  rw [hEq] at hM
  have hz01 : z_1 = 0 ∨ z_1 = 1 := hz_1.elim (fun h => Or.inr h.1) (fun h => Or.inl h.1)
  refine z_if_eq (tgt := 21) C0.1 C0.2.1 dX10_round_4 (by decide) ⟨by omega, by omega⟩ (fun c_4 => ?_) (fun c_4 => ?_)
  · skip
    have hno : ¬ isRt d := hz_1.elim (fun h => by omega) (fun h => h.2)
    refine lv_iconst (v := zI (-1)) C0.1 C0.2.1 dX10_round_21 rfl ?_
    exact mm_iret (z := (-1)) C0 hr hlk hM hS dX10_round_22 (by have he : pf_round S d i = ((-1), S) := (by unfold pf_round; rw [if_neg (fun q => hno (bq_y q.1))]); rw [he]; exact ⟨rfl, hX0.rf, fun _ _ => rfl⟩)
  · skip
    obtain ⟨hq1, hq2, hq3⟩ := hz_1.elim (fun h => h.2) (fun h => by omega)
    obtain ⟨f, hrl⟩ := rl_ex hq1 hq2 hq3
    obtain ⟨hk9, hk4⟩ := rnL_p hrl
    have hfe := rtL_e hrl
    have hdd : d = (d.toNat : Int) := by omega
    have hyes : bq (isRt d) = true := bq_t ⟨hq1, hq2, hq3⟩
    refine lv_iload_n C0.1 C0.2.1 dX10_round_7 rfl (lv_at hl 2 rfl) ?_
    refine z_i2l C0.1 C0.2.1 dX10_round_8 ⟨by omega, by omega⟩ ?_
    refine mm_ldc2 (z := (-1)) C0 tw_1200 rfl dX10_round_9 ?_
    refine mm_ldc2 (z := 9999) C0 tw_1192 rfl dX10_round_12 ?_
    refine mm_callSi (As := [.long (zL (i)), .long (zL ((-1))), .long (zL (9999))]) C0 sw_X10_in tw_985 (c_X10_in l G _ (v := i) (lo := (-1)) (hi := 9999) ⟨by omega, by omega⟩ ⟨by omega, by omega⟩ ⟨by omega, by omega⟩) hM rfl hl.1 rfl (Nat.le_of_ble_eq_true rfl) ⟨rfl, rfl, Nat.le_of_ble_eq_true rfl, Nat.le_of_ble_eq_true rfl, Nat.zero_le _, Nat.zero_le _⟩ dX10_round_15 hS (fun z_15 E2 H locs hp hM hS => ?_)
    obtain ⟨hz_15, hEq⟩ := hp
    rw [hEq] at hM
    have hz_15b := if01 hz_15
    refine z_if_ne (tgt := 23) C0.1 C0.2.1 dX10_round_18 (by decide) ⟨by omega, by omega⟩ (fun c_18 => ?_) (fun c_18 => ?_)
    · skip
      refine lv_aload_n C0.1 C0.2.1 dX10_round_23 rfl (lv_at hl 0 rfl) ?_
      refine lv_iload_n C0.1 C0.2.1 dX10_round_24 rfl (lv_at hl 1 rfl) ?_
      refine mm_callVi (As := [.int (zI (d))]) C0 vw_X10_roundOf tw_1201 (c_X10_roundOf l G _ hO hdd hrl hk9 hk4) hM (hO) rfl rfl hl.1 rfl (Nat.le_of_ble_eq_true rfl) ⟨rfl, rfl, Nat.le_of_ble_eq_true rfl, Nat.le_of_ble_eq_true rfl, Nat.zero_le _, Nat.zero_le _⟩ dX10_round_25 hS (fun z25 E3 H locs hp hM hS => ?_)
      obtain ⟨hz25, ⟨y5, y6, y7, hO⟩, fr⟩ := hp
      have hfr := (fun q h => (fr q (by omega)).trans (hfr q h) : ∀ q : Nat, q ≠ h → E3 q = E0 q)
      have hkp := hk9.1
      refine lv_istore_n (lv' := [(3, .int (zI (z25))), (0, .ref (h)), (1, .int (zI (d))), (2, .int (zI (i)))]) C0.1 C0.2.1 dX10_round_28 rfl hl (by decide) rfl (fun ls hl => ?_)
      refine lv_iload_n C0.1 C0.2.1 dX10_round_29 rfl (lv_at hl 3 rfl) ?_
      refine z_if_ge (tgt := 35) C0.1 C0.2.1 dX10_round_30 (by decide) ⟨by omega, by omega⟩ (fun c_30 => ?_) (fun c_30 => ?_)
      · skip
        refine lv_aload_n C0.1 C0.2.1 dX10_round_35 rfl (lv_at hl 1 rfl) ?_
        refine lv_iload_n C0.1 C0.2.1 dX10_round_36 rfl (lv_at hl 2 rfl) ?_
        refine mm_callVv (As := [.int (zI (d))]) C0 vw_X10_beginParts tw_1205 (c_X10_beginParts l G _ hO hdd hrl) hM (hO) rfl rfl hl.1 rfl (Nat.le_of_ble_eq_true rfl) ⟨rfl, rfl, Nat.le_of_ble_eq_true rfl, Nat.le_of_ble_eq_true rfl, Nat.zero_le _, Nat.zero_le _⟩ dX10_round_37 hS (fun E4 H locs hp hM hS => ?_)
        obtain ⟨hO, fr⟩ := hp
        have hfr := (fun q h => (fr q (by omega)).trans (hfr q h) : ∀ q : Nat, q ≠ h → E4 q = E0 q)
        refine lv_iload_n C0.1 C0.2.1 dX10_round_40 rfl (lv_at hl 3 rfl) ?_
        refine z_if_ne (tgt := 48) C0.1 C0.2.1 dX10_round_41 (by decide) ⟨by omega, by omega⟩ (fun c_41 => ?_) (fun c_41 => ?_)
        · skip
          obtain ⟨g9, hg9, hcg, hgb⟩ : ∃ g : Nat, g = (i.toNat - 1) % rnL d.toNat + 1 ∧ (cf d.toNat f g).2.2 = (cf d.toNat f i.toNat).2.2 ∧ g ≤ 401 := ⟨_, rfl, by rw [← cf_per hrl hk9 (by omega)], by have := Nat.mod_lt (i.toNat - 1) hkp; omega⟩
          refine lv_iload_n C0.1 C0.2.1 dX10_round_48 rfl (lv_at hl 3 rfl) ?_
          refine lv_iconst (v := zI 1) C0.1 C0.2.1 dX10_round_49 rfl ?_
          refine z_isub C0.1 C0.2.1 dX10_round_50 ?_
          refine lv_iload_n C0.1 C0.2.1 dX10_round_51 rfl (lv_at hl 0 rfl) ?_
          refine z_iremp C0.1 C0.2.1 dX10_round_52 ⟨by omega, by omega⟩ ⟨by omega, by omega⟩ (by omega) (by omega) ?_
          refine lv_iconst (v := zI 1) C0.1 C0.2.1 dX10_round_53 rfl ?_
          refine z_iadd C0.1 C0.2.1 dX10_round_54 ?_
          refine z_asI (a := ((((((i) - (1))) % (z25))) + (1))) (b := (g9 : Int)) (by rw [hg9, hz25, Int.natCast_add, Int.natCast_emod, show ((i.toNat - 1 : Nat) : Int) = i - 1 by omega]; rfl) ?_
          refine lv_istore (lv' := [(4, .int (zI ((g9 : Int)))), (3, .int (zI (z25))), (0, .ref (h)), (1, .int (zI (d))), (2, .int (zI (i)))]) C0.1 C0.2.1 dX10_round_55 hl (by decide) rfl (fun ls hl => ?_)
          refine lv_iconst (v := zI 0) C0.1 C0.2.1 dX10_round_57 rfl ?_
          refine lv_istore (lv' := [(5, .int (zI (0))), (4, .int (zI ((g9 : Int)))), (3, .int (zI (z25))), (0, .ref (h)), (1, .int (zI (d))), (2, .int (zI (i)))]) C0.1 C0.2.1 dX10_round_58 hl (by decide) rfl (fun ls hl => ?_)
          have L60 : ∀ (k60 : Nat) (n : Nat) (E5 : mE) (H : Heap) (locs : List Loc) (ls : Array Slot), (n ≤ g9) → (ro G E5 h ((S.1.2.2 : Nat) : Int) x2 x3 x4 ((cf d.toNat f n).1 : Int) ((cf d.toNat f n).2.1 : Int) ((cf d.toNat f n).2.2 : Int) S.1.1) → (∀ q : Nat, q ≠ h → E5 q = E0 q) → g9 - n < k60 → mm_M G E5 H → va_S (mm_A G) s.heap H locs → lv_has ls 6 [(0, .ref (h)), (1, .int (zI (d))), (4, .int (zI ((g9 : Int)))), (5, .int (zI ((n : Int))))] → W p l e rX10_round s m args below meth c H locs 0 0 (mm_Zi G below args s (fun z E => z = (pf_round S d i).1 ∧ rf G E h (pf_round S d i).2 ∧ ∀ q : Nat, (q < h ∨ h + 13 ≤ q) → E q = E0 q)) (F0 m 60 ls []) := by
            intro k60
            induction k60 with
            | zero => intro n E5 H locs ls hn hO hfr hk hM hS hl; exact absurd hk (Nat.not_lt_zero _)
            | succ k60 ih60 =>
              intro n E5 H locs ls hn hO hfr hk60 hM hS hl
              refine lv_iload C0.1 C0.2.1 dX10_round_60 (lv_at hl 3 rfl) ?_
              refine lv_iload C0.1 C0.2.1 dX10_round_62 (lv_at hl 2 rfl) ?_
              refine z_icmp_ge (tgt := 78) C0.1 C0.2.1 dX10_round_64 (by decide) ⟨by omega, by omega⟩ ⟨by omega, by omega⟩ (fun c_64 => ?_) (fun c_64 => ?_)
              · skip
                have hne : n = g9 := by omega
                subst hne
                have hX1 := hX0.o hO hfr
                refine lv_aload_n C0.1 C0.2.1 dX10_round_78 rfl (lv_at hl 0 rfl) ?_
                refine mm_get (fs := [.ref (h + 1), .ref (h + 2), .ref (h + 3), .ref (h + 4), .int (zI (((S.1.2.2 : Nat) : Int))), .int (zI (x2)), .long (zL (x3)), .ref (h + 5), .ref (h + 6), .ref (h + 7), .ref (h + 8), .int (zI (x4)), .int (zI (((cf d.toNat f n).1 : Int))), .int (zI (((cf d.toNat f n).2.1 : Int))), .int (zI (((cf d.toNat f n).2.2 : Int))), .int (zI (S.1.1)), .ref (h + 9), .ref (h + 10), .ref (h + 11), .ref (h + 12)]) C0 (C := RX10) (T := TX10) (N := 20) iG_X10 hM (hO) rfl 14 (by decide) tw_930 rfl rfl dX10_round_79 ?_
                exact mm_iret (z := ((cf d.toNat f n).2.2 : Int)) C0 hr hlk hM hS dX10_round_82 (by have he : pf_round S d i = (((cf d.toNat f i.toNat).2.2 : Int), S) := (by unfold pf_round; rw [if_pos ⟨hyes, by omega, by omega⟩, if_neg (by omega), hfe]); rw [he]; exact ⟨by rw [hcg], hX1.rf, fun q h => hfr q (by omega)⟩)
              · skip
                refine lv_aload_n C0.1 C0.2.1 dX10_round_67 rfl (lv_at hl 0 rfl) ?_
                refine lv_iload_n C0.1 C0.2.1 dX10_round_68 rfl (lv_at hl 1 rfl) ?_
                refine mm_callVv (As := [.int (zI (d))]) C0 vw_X10_goOn tw_1209 (c_X10_goOn l G _ hdd hrl hO) hM (hO) rfl rfl hl.1 rfl (Nat.le_of_ble_eq_true rfl) ⟨rfl, rfl, Nat.le_of_ble_eq_true rfl, Nat.le_of_ble_eq_true rfl, Nat.zero_le _, Nat.zero_le _⟩ dX10_round_69 hS (fun E6 H locs hp hM hS => ?_)
                obtain ⟨hO, fr⟩ := hp
                have hfr := (fun q h => (fr q (by omega)).trans (hfr q h) : ∀ q : Nat, q ≠ h → E6 q = E0 q)
                refine lv_iinc (v := zI (((n + 1 : Nat) : Int))) (lv' := [(5, .int (zI (((n + 1 : Nat) : Int)))), (0, .ref (h)), (1, .int (zI (d))), (4, .int (zI ((g9 : Int))))]) C0.1 C0.2.1 dX10_round_72 hl (k := 3) rfl (z_inc (a := (n : Int)) (n := 1) (by omega)) (by decide) rfl (fun ls hl => ?_)
                refine lv_goto (tgt := 60) C0.1 C0.2.1 dX10_round_75 (by decide) ?_
                exact ih60  (n + 1) E6 _ _ _ (by omega) (hO) (hfr) (by omega) hM hS (lv_sub hl [1, 2, 3, 0] rfl)
          exact L60 (_ + 1) 0 E4 _ _ _ (Nat.zero_le _) (hO) (hfr) (Nat.lt_succ_self _) hM hS (lv_sub hl [3, 4, 1, 0] rfl)
        · skip
          obtain ⟨g9, hg9, hcg, hgb⟩ : ∃ g : Nat, g = i.toNat ∧ (cf d.toNat f g).2.2 = (cf d.toNat f i.toNat).2.2 ∧ g ≤ 401 := ⟨i.toNat, rfl, rfl, by omega⟩
          refine lv_iconst (v := zI 0) C0.1 C0.2.1 dX10_round_44 rfl ?_
          refine lv_goto (tgt := 55) C0.1 C0.2.1 dX10_round_45 (by decide) ?_
          refine z_asI (a := 0) (b := (g9 : Int)) (by rw [hg9]; omega) ?_
          refine lv_istore (lv' := [(4, .int (zI ((g9 : Int)))), (3, .int (zI (z25))), (0, .ref (h)), (1, .int (zI (d))), (2, .int (zI (i)))]) C0.1 C0.2.1 dX10_round_55 hl (by decide) rfl (fun ls hl => ?_)
          refine lv_iconst (v := zI 0) C0.1 C0.2.1 dX10_round_57 rfl ?_
          refine lv_istore (lv' := [(5, .int (zI (0))), (4, .int (zI ((g9 : Int)))), (3, .int (zI (z25))), (0, .ref (h)), (1, .int (zI (d))), (2, .int (zI (i)))]) C0.1 C0.2.1 dX10_round_58 hl (by decide) rfl (fun ls hl => ?_)
          have L60 : ∀ (k60 : Nat) (n : Nat) (E7 : mE) (H : Heap) (locs : List Loc) (ls : Array Slot), (n ≤ g9) → (ro G E7 h ((S.1.2.2 : Nat) : Int) x2 x3 x4 ((cf d.toNat f n).1 : Int) ((cf d.toNat f n).2.1 : Int) ((cf d.toNat f n).2.2 : Int) S.1.1) → (∀ q : Nat, q ≠ h → E7 q = E0 q) → g9 - n < k60 → mm_M G E7 H → va_S (mm_A G) s.heap H locs → lv_has ls 6 [(0, .ref (h)), (1, .int (zI (d))), (4, .int (zI ((g9 : Int)))), (5, .int (zI ((n : Int))))] → W p l e rX10_round s m args below meth c H locs 0 0 (mm_Zi G below args s (fun z E => z = (pf_round S d i).1 ∧ rf G E h (pf_round S d i).2 ∧ ∀ q : Nat, (q < h ∨ h + 13 ≤ q) → E q = E0 q)) (F0 m 60 ls []) := by
            intro k60
            induction k60 with
            | zero => intro n E7 H locs ls hn hO hfr hk hM hS hl; exact absurd hk (Nat.not_lt_zero _)
            | succ k60 ih60 =>
              intro n E7 H locs ls hn hO hfr hk60 hM hS hl
              refine lv_iload C0.1 C0.2.1 dX10_round_60 (lv_at hl 3 rfl) ?_
              refine lv_iload C0.1 C0.2.1 dX10_round_62 (lv_at hl 2 rfl) ?_
              refine z_icmp_ge (tgt := 78) C0.1 C0.2.1 dX10_round_64 (by decide) ⟨by omega, by omega⟩ ⟨by omega, by omega⟩ (fun c_64 => ?_) (fun c_64 => ?_)
              · skip
                have hne : n = g9 := by omega
                subst hne
                have hX1 := hX0.o hO hfr
                refine lv_aload_n C0.1 C0.2.1 dX10_round_78 rfl (lv_at hl 0 rfl) ?_
                refine mm_get (fs := [.ref (h + 1), .ref (h + 2), .ref (h + 3), .ref (h + 4), .int (zI (((S.1.2.2 : Nat) : Int))), .int (zI (x2)), .long (zL (x3)), .ref (h + 5), .ref (h + 6), .ref (h + 7), .ref (h + 8), .int (zI (x4)), .int (zI (((cf d.toNat f n).1 : Int))), .int (zI (((cf d.toNat f n).2.1 : Int))), .int (zI (((cf d.toNat f n).2.2 : Int))), .int (zI (S.1.1)), .ref (h + 9), .ref (h + 10), .ref (h + 11), .ref (h + 12)]) C0 (C := RX10) (T := TX10) (N := 20) iG_X10 hM (hO) rfl 14 (by decide) tw_930 rfl rfl dX10_round_79 ?_
                exact mm_iret (z := ((cf d.toNat f n).2.2 : Int)) C0 hr hlk hM hS dX10_round_82 (by have he : pf_round S d i = (((cf d.toNat f i.toNat).2.2 : Int), S) := (by unfold pf_round; rw [if_pos ⟨hyes, by omega, by omega⟩, if_neg (by omega), hfe]); rw [he]; exact ⟨by rw [hcg], hX1.rf, fun q h => hfr q (by omega)⟩)
              · skip
                refine lv_aload_n C0.1 C0.2.1 dX10_round_67 rfl (lv_at hl 0 rfl) ?_
                refine lv_iload_n C0.1 C0.2.1 dX10_round_68 rfl (lv_at hl 1 rfl) ?_
                refine mm_callVv (As := [.int (zI (d))]) C0 vw_X10_goOn tw_1209 (c_X10_goOn l G _ hdd hrl hO) hM (hO) rfl rfl hl.1 rfl (Nat.le_of_ble_eq_true rfl) ⟨rfl, rfl, Nat.le_of_ble_eq_true rfl, Nat.le_of_ble_eq_true rfl, Nat.zero_le _, Nat.zero_le _⟩ dX10_round_69 hS (fun E8 H locs hp hM hS => ?_)
                obtain ⟨hO, fr⟩ := hp
                have hfr := (fun q h => (fr q (by omega)).trans (hfr q h) : ∀ q : Nat, q ≠ h → E8 q = E0 q)
                refine lv_iinc (v := zI (((n + 1 : Nat) : Int))) (lv' := [(5, .int (zI (((n + 1 : Nat) : Int)))), (0, .ref (h)), (1, .int (zI (d))), (4, .int (zI ((g9 : Int))))]) C0.1 C0.2.1 dX10_round_72 hl (k := 3) rfl (z_inc (a := (n : Int)) (n := 1) (by omega)) (by decide) rfl (fun ls hl => ?_)
                refine lv_goto (tgt := 60) C0.1 C0.2.1 dX10_round_75 (by decide) ?_
                exact ih60  (n + 1) E8 _ _ _ (by omega) (hO) (hfr) (by omega) hM hS (lv_sub hl [1, 2, 3, 0] rfl)
          exact L60 (_ + 1) 0 E4 _ _ _ (Nat.zero_le _) (hO) (hfr) (Nat.lt_succ_self _) hM hS (lv_sub hl [3, 4, 1, 0] rfl)
      · skip
        refine lv_iload_n C0.1 C0.2.1 dX10_round_33 rfl (lv_at hl 0 rfl) ?_
        exact mm_iret (z := z25) C0 hr hlk hM hS dX10_round_34 (by have he : pf_round S d i = ((rnL d.toNat : Int), S) := (by unfold pf_round; rw [if_pos ⟨hyes, by omega, by omega⟩, if_pos (by omega)]); rw [he]; exact ⟨hz25, (hX0.o hO hfr).rf, fun q h => hfr q (by omega)⟩)
    · skip
      refine lv_iconst (v := zI (-1)) C0.1 C0.2.1 dX10_round_21 rfl ?_
      exact mm_iret (z := (-1)) C0 hr hlk hM hS dX10_round_22 (by have he : pf_round S d i = ((-1), S) := (by unfold pf_round; rw [if_neg (fun q => by have q1 := q.2; omega)]); rw [he]; exact ⟨rfl, hX0.rf, fun _ _ => rfl⟩)
