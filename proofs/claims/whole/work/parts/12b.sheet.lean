/-- a sheet: its row, its lane, how long it is (less than 0: none) -/
def sh_ (G : mG) (E : mE) (t : Nat) (f : Nat → Int) (ln len : Int) : Prop := E t = some (.inr (5, [.ref (t + 1), .int (zI ln), .int (zI len)])) ∧ E (t + 1) = some (mm_J G 24 f)
theorem sh_.kept {G : mG} {E E1 : mE} {t : Nat} {f : Nat → Int} {ln len : Int} (h : sh_ G E t f ln len) (h1 : E1 t = E t) (h2 : E1 (t + 1) = E (t + 1)) : sh_ G E1 t f ln len := ⟨h1.trans h.1, h2.trans h.2⟩
def shF (ln len a i n : Int) : Int := if len < 0 then -11 else if a ≠ ln then -12 else if i < 0 ∨ len - n < i then -13 else 0
theorem zup0 {f : Nat → Int} {u : Nat} (h : ∀ j, j < u → f j = 0) : ∀ j, j < u + 1 → zup f u 0 j = 0 := fun j hj => by
  unfold zup; split
  · rfl
  · exact h j (by omega)

def rX6_fault : Room := { frames := 0, cells := 0, slots := 0, locals := 0 }
theorem vw_X6_fault : mm_Vw RX6 yX6_fault cX6_fault 4 (some .int) 3 := ⟨tw_878, tw_879, tw_9, tw_880, by decide +kernel⟩
set_option maxHeartbeats 4000000 in
set_option maxRecDepth 100000 in
theorem c_X6_fault (l : Launch) (G : mG) (E0 : mE) {t : Nat} {f : Nat → Int} {ln len a i n : Int} (hP : sh_ G E0 t f ln len) (hle : len ≤ 24) (hln : rI ln) (hle1 : -1 ≤ len) (ha : rI a) (hi : rI i) (hn : 1 ≤ n) (hn2 : n ≤ 24) : mm_Ci l yX6_fault (.code yX6_fault cX6_fault 4 (some .int) :: wsG) rX6_fault G [.ref (t), .int (zI (a)), .int (zI (i)), .int (zI (n))] E0 (fun z E => z = shF ln len a i n ∧ E = E0) := by
  refine mm_of_i (by decide +kernel) (Nat.le_of_ble_eq_true rfl) ?_
  intro p e s m args below meth c ls C0 hr hlk hM hl hS
  have hl : lv_has ls 4 [(0, .ref (t)), (1, .int (zI (a))), (2, .int (zI (i))), (3, .int (zI (n)))] := hl
  obtain ⟨hi1, hi2⟩ := hi
  obtain ⟨ha1, ha2⟩ := ha
  obtain ⟨hln1, hln2⟩ := hln
  refine lv_aload_n C0.1 C0.2.1 dX6_fault_0 rfl (lv_at hl 0 rfl) ?_
  refine mm_get (fs := [.ref (t + 1), .int (zI (ln)), .int (zI (len))]) C0 (C := RX6) (T := TX6) (N := 3) iG_X6 hM (hP.1) rfl 2 (by decide) tw_227 rfl rfl dX6_fault_1 ?_
  refine z_if_ge (tgt := 10) C0.1 C0.2.1 dX6_fault_4 (by decide) ⟨by omega, by omega⟩ (fun c_4 => ?_) (fun c_4 => ?_)
  · skip
    refine lv_iload_n C0.1 C0.2.1 dX6_fault_10 rfl (lv_at hl 1 rfl) ?_
    refine lv_aload_n C0.1 C0.2.1 dX6_fault_11 rfl (lv_at hl 0 rfl) ?_
    refine mm_get (fs := [.ref (t + 1), .int (zI (ln)), .int (zI (len))]) C0 (C := RX6) (T := TX6) (N := 3) iG_X6 hM (hP.1) rfl 1 (by decide) tw_226 rfl rfl dX6_fault_12 ?_
    refine z_icmp_eq (tgt := 21) C0.1 C0.2.1 dX6_fault_15 (by decide) ⟨by omega, by omega⟩ ⟨by omega, by omega⟩ (fun c_15 => ?_) (fun c_15 => ?_)
    · skip
      refine lv_iload_n C0.1 C0.2.1 dX6_fault_21 rfl (lv_at hl 2 rfl) ?_
      refine z_if_lt (tgt := 35) C0.1 C0.2.1 dX6_fault_22 (by decide) ⟨by omega, by omega⟩ (fun c_22 => ?_) (fun c_22 => ?_)
      · skip
        refine lv_bipush (v := zI (-13)) C0.1 C0.2.1 dX6_fault_35 rfl ?_
        refine lv_goto (tgt := 41) C0.1 C0.2.1 dX6_fault_37 (by decide) ?_
        exact mm_iret (z := (-13)) C0 hr hlk hM hS dX6_fault_41 (⟨by unfold shF; rw [if_neg (by omega), if_neg (by omega), if_pos (by omega)], rfl⟩)
      · skip
        refine lv_iload_n C0.1 C0.2.1 dX6_fault_25 rfl (lv_at hl 2 rfl) ?_
        refine lv_aload_n C0.1 C0.2.1 dX6_fault_26 rfl (lv_at hl 0 rfl) ?_
        refine mm_get (fs := [.ref (t + 1), .int (zI (ln)), .int (zI (len))]) C0 (C := RX6) (T := TX6) (N := 3) iG_X6 hM (hP.1) rfl 2 (by decide) tw_227 rfl rfl dX6_fault_27 ?_
        refine lv_iload_n C0.1 C0.2.1 dX6_fault_30 rfl (lv_at hl 3 rfl) ?_
        refine z_isub C0.1 C0.2.1 dX6_fault_31 ?_
        refine z_icmp_le (tgt := 40) C0.1 C0.2.1 dX6_fault_32 (by decide) ⟨by omega, by omega⟩ ⟨by omega, by omega⟩ (fun c_32 => ?_) (fun c_32 => ?_)
        · skip
          refine lv_iconst (v := zI 0) C0.1 C0.2.1 dX6_fault_40 rfl ?_
          exact mm_iret (z := 0) C0 hr hlk hM hS dX6_fault_41 (⟨by unfold shF; rw [if_neg (by omega), if_neg (by omega), if_neg (by omega)], rfl⟩)
        · skip
          refine lv_bipush (v := zI (-13)) C0.1 C0.2.1 dX6_fault_35 rfl ?_
          refine lv_goto (tgt := 41) C0.1 C0.2.1 dX6_fault_37 (by decide) ?_
          exact mm_iret (z := (-13)) C0 hr hlk hM hS dX6_fault_41 (⟨by unfold shF; rw [if_neg (by omega), if_neg (by omega), if_pos (by omega)], rfl⟩)
    · skip
      refine lv_bipush (v := zI (-12)) C0.1 C0.2.1 dX6_fault_18 rfl ?_
      exact mm_iret (z := (-12)) C0 hr hlk hM hS dX6_fault_20 (⟨by unfold shF; rw [if_neg (by omega), if_pos (by omega)], rfl⟩)
  · skip
    refine lv_bipush (v := zI (-11)) C0.1 C0.2.1 dX6_fault_7 rfl ?_
    exact mm_iret (z := (-11)) C0 hr hlk hM hS dX6_fault_9 (⟨by unfold shF; rw [if_pos (by omega)], rfl⟩)

def rX6_itemAt : Room := { frames := 0, cells := 0, slots := 0, locals := 0 }
theorem vw_X6_itemAt : mm_Vw RX6 yX6_itemAt cX6_itemAt 2 (some .long) 1 := ⟨tw_882, tw_883, tw_9, tw_884, by decide +kernel⟩
set_option maxHeartbeats 4000000 in
set_option maxRecDepth 100000 in
theorem c_X6_itemAt (l : Launch) (G : mG) (E0 : mE) {t i : Nat} {f : Nat → Int} {ln len : Int} (hP : sh_ G E0 t f ln len) (hi : i < 24) : mm_Cl l yX6_itemAt (.code yX6_itemAt cX6_itemAt 2 (some .long) :: wsG) rX6_itemAt G [.ref (t), .int (zI ((i : Int)))] E0 (fun z E => z = f i ∧ E = E0) := by
  refine mm_of_l (by decide +kernel) (Nat.le_of_ble_eq_true rfl) ?_
  intro p e s m args below meth c ls C0 hr hlk hM hl hS
  have hl : lv_has ls 2 [(0, .ref (t)), (1, .int (zI ((i : Int))))] := hl
  refine lv_iload_n C0.1 C0.2.1 dX6_itemAt_0 rfl (lv_at hl 1 rfl) ?_
  refine z_if_lt (tgt := 19) C0.1 C0.2.1 dX6_itemAt_1 (by decide) ⟨by omega, by omega⟩ (fun c_1 => ?_) (fun c_1 => ?_)
  · skip
    omega
  · skip
    refine lv_iload_n C0.1 C0.2.1 dX6_itemAt_4 rfl (lv_at hl 1 rfl) ?_
    refine lv_bipush (v := zI 24) C0.1 C0.2.1 dX6_itemAt_5 rfl ?_
    refine z_icmp_ge (tgt := 19) C0.1 C0.2.1 dX6_itemAt_7 (by decide) ⟨by omega, by omega⟩ ⟨by omega, by omega⟩ (fun c_7 => ?_) (fun c_7 => ?_)
    · skip
      omega
    · skip
      refine lv_aload_n C0.1 C0.2.1 dX6_itemAt_10 rfl (lv_at hl 0 rfl) ?_
      refine mm_get (fs := [.ref (t + 1), .int (zI (ln)), .int (zI (len))]) C0 (C := RX6) (T := TX6) (N := 3) iG_X6 hM (hP.1) rfl 0 (by decide) tw_225 rfl rfl dX6_itemAt_11 ?_
      refine lv_iload_n C0.1 C0.2.1 dX6_itemAt_14 rfl (lv_at hl 1 rfl) ?_
      refine mm_lald C0 hM (g := f) (hP.2) (i) (i := (i : Int)) (by omega) (by omega) (by decide) dX6_itemAt_15 ?_
      refine lv_goto (tgt := 20) C0.1 C0.2.1 dX6_itemAt_16 (by decide) ?_
      exact mm_lret (z := (f) (i)) C0 hr hlk hM hS dX6_itemAt_20 (⟨rfl, rfl⟩)

def rX6_write : Room := { frames := 0, cells := 0, slots := 0, locals := 0 }
theorem vw_X6_write : mm_Vw RX6 yX6_write cX6_write 4 none 2 := ⟨tw_902, tw_903, tw_9, tw_904, by decide +kernel⟩
set_option maxHeartbeats 4000000 in
set_option maxRecDepth 100000 in
theorem c_X6_write (l : Launch) (G : mG) (E0 : mE) {t i : Nat} {f : Nat → Int} {ln len v : Int} (hP : sh_ G E0 t f ln len) (hi : i < 24) (hln : rI ln) : mm_Cv l yX6_write (.code yX6_write cX6_write 4 none :: wsG) rX6_write G [.ref (t), .int (zI ((i : Int))), .long (zL (v))] E0 (fun E => sh_ G E t (zup f i (asLn ln v)) ln len ∧ ∀ q : Nat, (q < t ∨ t + 2 ≤ q) → E q = E0 q) := by
  refine mm_of_v (by decide +kernel) (Nat.le_of_ble_eq_true rfl) ?_
  intro p e s m args below meth c ls C0 hr hlk hM hl hS
  have hl : lv_has ls 4 [(0, .ref (t)), (1, .int (zI ((i : Int)))), (2, .long (zL (v)))] := hl
  obtain ⟨hln1, hln2⟩ := hln
  have hrb := rI_b v
  have hrh := rI_h v
  obtain ⟨hrb1, hrb2⟩ := hrb
  refine lv_iload_n C0.1 C0.2.1 dX6_write_0 rfl (lv_at hl 1 rfl) ?_
  refine z_if_lt (tgt := 45) C0.1 C0.2.1 dX6_write_1 (by decide) ⟨by omega, by omega⟩ (fun c_1 => ?_) (fun c_1 => ?_)
  · skip
    omega
  · skip
    refine lv_iload_n C0.1 C0.2.1 dX6_write_4 rfl (lv_at hl 1 rfl) ?_
    refine lv_bipush (v := zI 24) C0.1 C0.2.1 dX6_write_5 rfl ?_
    refine z_icmp_ge (tgt := 45) C0.1 C0.2.1 dX6_write_7 (by decide) ⟨by omega, by omega⟩ ⟨by omega, by omega⟩ (fun c_7 => ?_) (fun c_7 => ?_)
    · skip
      omega
    · skip
      refine lv_aload_n C0.1 C0.2.1 dX6_write_10 rfl (lv_at hl 0 rfl) ?_
      refine mm_get (fs := [.ref (t + 1), .int (zI (ln)), .int (zI (len))]) C0 (C := RX6) (T := TX6) (N := 3) iG_X6 hM (hP.1) rfl 0 (by decide) tw_225 rfl rfl dX6_write_11 ?_
      refine lv_iload_n C0.1 C0.2.1 dX6_write_14 rfl (lv_at hl 1 rfl) ?_
      refine lv_aload_n C0.1 C0.2.1 dX6_write_15 rfl (lv_at hl 0 rfl) ?_
      refine mm_get (fs := [.ref (t + 1), .int (zI (ln)), .int (zI (len))]) C0 (C := RX6) (T := TX6) (N := 3) iG_X6 hM (hP.1) rfl 1 (by decide) tw_226 rfl rfl dX6_write_16 ?_
      refine z_if_ne (tgt := 29) C0.1 C0.2.1 dX6_write_19 (by decide) ⟨by omega, by omega⟩ (fun c_19 => ?_) (fun c_19 => ?_)
      · skip
        refine lv_aload_n C0.1 C0.2.1 dX6_write_29 rfl (lv_at hl 0 rfl) ?_
        refine mm_get (fs := [.ref (t + 1), .int (zI (ln)), .int (zI (len))]) C0 (C := RX6) (T := TX6) (N := 3) iG_X6 hM (hP.1) rfl 1 (by decide) tw_226 rfl rfl dX6_write_30 ?_
        refine lv_iconst (v := zI 1) C0.1 C0.2.1 dX6_write_33 rfl ?_
        refine z_icmp_ne (tgt := 43) C0.1 C0.2.1 dX6_write_34 (by decide) ⟨by omega, by omega⟩ ⟨by omega, by omega⟩ (fun c_34 => ?_) (fun c_34 => ?_)
        · skip
          have hv9 : v = asLn ln v := by unfold asLn; rw [if_neg (by omega), if_neg (by omega)]
          refine lv_lload_n C0.1 C0.2.1 dX6_write_43 rfl (lv_at hl 2 rfl) ?_
          refine z_asL (a := v) (b := (asLn ln v)) (hv9) ?_
          refine mm_last C0 hM hS (g := f) (hP.2) (i) (i := (i : Int)) (x := (asLn ln v)) (by omega) (by omega) (by decide) dX6_write_44 (fun H locs hM hS hsz => ?_)
          obtain ⟨E1, hE1⟩ : ∃ X : mE, X = mm_up E0 (t + 1) (mm_J G 24 (zup (f) (i) ((asLn ln v)))) := ⟨_, rfl⟩
          replace hM : mm_M G E1 H := by rw [hE1]; exact hM
          have frs : ∀ q : Nat, q ≠ t + 1 → E1 q = E0 q := fun q h => by rw [hE1]; exact mm_up_n _ _ h
          have hat : E1 (t + 1) = some (mm_J G 24 (zup (f) (i) ((asLn ln v)))) := by rw [hE1]; exact mm_up_s _ _ _
          have hP2 : sh_ G E1 t (zup f i (asLn ln v)) ln len := ⟨(frs _ (by omega)).trans hP.1, hat⟩
          have hf2 := frs
          exact mm_vret C0 hr hlk hM hS dX6_write_45 (⟨hP2, fun q h => hf2 q (by omega)⟩)
        · skip
          have hv9 : Int.bmod v 4294967296 = asLn ln v := by unfold asLn; rw [if_neg (by omega), if_pos (by omega)]
          refine lv_lload_n C0.1 C0.2.1 dX6_write_37 rfl (lv_at hl 2 rfl) ?_
          refine z_l2i C0.1 C0.2.1 dX6_write_38 ?_
          rw [zI_b v]
          refine z_i2l C0.1 C0.2.1 dX6_write_39 ⟨by omega, by omega⟩ ?_
          refine lv_goto (tgt := 44) C0.1 C0.2.1 dX6_write_40 (by decide) ?_
          refine z_asL (a := (Int.bmod v 4294967296)) (b := (asLn ln v)) (hv9) ?_
          refine mm_last C0 hM hS (g := f) (hP.2) (i) (i := (i : Int)) (x := (asLn ln v)) (by omega) (by omega) (by decide) dX6_write_44 (fun H locs hM hS hsz => ?_)
          obtain ⟨E2, hE2⟩ : ∃ X : mE, X = mm_up E0 (t + 1) (mm_J G 24 (zup (f) (i) ((asLn ln v)))) := ⟨_, rfl⟩
          replace hM : mm_M G E2 H := by rw [hE2]; exact hM
          have frs : ∀ q : Nat, q ≠ t + 1 → E2 q = E0 q := fun q h => by rw [hE2]; exact mm_up_n _ _ h
          have hat : E2 (t + 1) = some (mm_J G 24 (zup (f) (i) ((asLn ln v)))) := by rw [hE2]; exact mm_up_s _ _ _
          have hP2 : sh_ G E2 t (zup f i (asLn ln v)) ln len := ⟨(frs _ (by omega)).trans hP.1, hat⟩
          have hf2 := frs
          exact mm_vret C0 hr hlk hM hS dX6_write_45 (⟨hP2, fun q h => hf2 q (by omega)⟩)
      · skip
        have hv9 : Int.bmod v 65536 = asLn ln v := by unfold asLn; rw [if_pos (by omega)]
        refine lv_lload_n C0.1 C0.2.1 dX6_write_22 rfl (lv_at hl 2 rfl) ?_
        refine z_l2i C0.1 C0.2.1 dX6_write_23 ?_
        refine z_i2s C0.1 C0.2.1 dX6_write_24 ?_
        refine z_i2l C0.1 C0.2.1 dX6_write_25 ⟨by omega, by omega⟩ ?_
        refine lv_goto (tgt := 44) C0.1 C0.2.1 dX6_write_26 (by decide) ?_
        refine z_asL (a := (Int.bmod v 65536)) (b := (asLn ln v)) (hv9) ?_
        refine mm_last C0 hM hS (g := f) (hP.2) (i) (i := (i : Int)) (x := (asLn ln v)) (by omega) (by omega) (by decide) dX6_write_44 (fun H locs hM hS hsz => ?_)
        obtain ⟨E3, hE3⟩ : ∃ X : mE, X = mm_up E0 (t + 1) (mm_J G 24 (zup (f) (i) ((asLn ln v)))) := ⟨_, rfl⟩
        replace hM : mm_M G E3 H := by rw [hE3]; exact hM
        have frs : ∀ q : Nat, q ≠ t + 1 → E3 q = E0 q := fun q h => by rw [hE3]; exact mm_up_n _ _ h
        have hat : E3 (t + 1) = some (mm_J G 24 (zup (f) (i) ((asLn ln v)))) := by rw [hE3]; exact mm_up_s _ _ _
        have hP2 : sh_ G E3 t (zup f i (asLn ln v)) ln len := ⟨(frs _ (by omega)).trans hP.1, hat⟩
        have hf2 := frs
        exact mm_vret C0 hr hlk hM hS dX6_write_45 (⟨hP2, fun q h => hf2 q (by omega)⟩)

def rX6_begin : Room := { frames := 0, cells := 0, slots := 0, locals := 0 }
theorem vw_X6_begin : mm_Vw RX6 yX6_begin cX6_begin 4 none 2 := ⟨tw_890, tw_891, tw_9, tw_892, by decide +kernel⟩
set_option maxHeartbeats 4000000 in
set_option maxRecDepth 100000 in
theorem c_X6_begin (l : Launch) (G : mG) (E0 : mE) {t : Nat} {f : Nat → Int} {ln0 len0 ln len : Int} (hP : sh_ G E0 t f ln0 len0) : mm_Cv l yX6_begin (.code yX6_begin cX6_begin 4 none :: wsG) rX6_begin G [.ref (t), .int (zI (ln)), .int (zI (len))] E0 (fun E => (∃ g : Nat → Int, sh_ G E t g ln len ∧ ∀ j, j < 24 → g j = 0) ∧ ∀ q : Nat, (q < t ∨ t + 2 ≤ q) → E q = E0 q) := by
  refine mm_of_v (by decide +kernel) (Nat.le_of_ble_eq_true rfl) ?_
  intro p e s m args below meth c ls C0 hr hlk hM hl hS
  have hl : lv_has ls 4 [(0, .ref (t)), (1, .int (zI (ln))), (2, .int (zI (len)))] := hl
  have hfr : ∀ q : Nat, (q < t ∨ t + 2 ≤ q) → E0 q = E0 q := fun _ _ => rfl
  refine lv_iconst (v := zI 0) C0.1 C0.2.1 dX6_begin_0 rfl ?_
  refine lv_istore_n (lv' := [(3, .int (zI (0))), (0, .ref (t)), (1, .int (zI (ln))), (2, .int (zI (len)))]) C0.1 C0.2.1 dX6_begin_1 rfl hl (by decide) rfl (fun ls hl => ?_)
  have L2 : ∀ (k2 : Nat) (u : Nat) (g : Nat → Int) (E1 : mE) (H : Heap) (locs : List Loc) (ls : Array Slot), (u ≤ 24) → (∀ j, j < u → g j = 0) → (sh_ G E1 t g ln0 len0) → (∀ q : Nat, (q < t ∨ t + 2 ≤ q) → E1 q = E0 q) → 24 - u < k2 → mm_M G E1 H → va_S (mm_A G) s.heap H locs → lv_has ls 4 [(0, .ref (t)), (1, .int (zI (ln))), (2, .int (zI (len))), (3, .int (zI ((u : Int))))] → W p l e rX6_begin s m args below meth c H locs 0 0 (mm_Zv G below args s (fun E => (∃ g : Nat → Int, sh_ G E t g ln len ∧ ∀ j, j < 24 → g j = 0) ∧ ∀ q : Nat, (q < t ∨ t + 2 ≤ q) → E q = E0 q)) (F0 m 2 ls []) := by
    intro k2
    induction k2 with
    | zero => intro u g E1 H locs ls hu hz hP hfr hk hM hS hl; exact absurd hk (Nat.not_lt_zero _)
    | succ k2 ih2 =>
      intro u g E1 H locs ls hu hz hP hfr hk2 hM hS hl
      refine lv_iload_n C0.1 C0.2.1 dX6_begin_2 rfl (lv_at hl 3 rfl) ?_
      refine lv_bipush (v := zI 24) C0.1 C0.2.1 dX6_begin_3 rfl ?_
      refine z_icmp_ge (tgt := 21) C0.1 C0.2.1 dX6_begin_5 (by decide) ⟨by omega, by omega⟩ ⟨by omega, by omega⟩ (fun c_5 => ?_) (fun c_5 => ?_)
      · skip
        refine lv_aload_n C0.1 C0.2.1 dX6_begin_21 rfl (lv_at hl 0 rfl) ?_
        refine lv_iload_n C0.1 C0.2.1 dX6_begin_22 rfl (lv_at hl 1 rfl) ?_
        refine mm_put (v := .int (zI (ln))) (fs := [.ref (t + 1), .int (zI (ln0)), .int (zI (len0))]) C0 (C := RX6) (T := TX6) (N := 3) iG_X6 tyX6 tyX6_ok nmX6 hM hS (hP.1) rfl 1 (by decide) tw_226 rfl rfl (ty := tyX6 1) (tyX6_ok 1 (by decide)) rfl rfl (Nat.le_of_ble_eq_true rfl) dX6_begin_23 (fun H locs hM hS hsz => ?_)
        obtain ⟨E2, hE2⟩ : ∃ X : mE, X = mm_up E1 (t) (.inr (5, [.ref (t + 1), .int (zI (ln)), .int (zI (len0))])) := ⟨_, rfl⟩
        replace hM : mm_M G E2 H := by rw [hE2]; exact hM
        have frs : ∀ q : Nat, q ≠ t → E2 q = E1 q := fun q h => by rw [hE2]; exact mm_up_n _ _ h
        have hat : E2 (t) = some (.inr (5, [.ref (t + 1), .int (zI (ln)), .int (zI (len0))])) := by rw [hE2]; exact mm_up_s _ _ _
        have hP : sh_ G E2 t g ln len0 := ⟨hat, (frs _ (by omega)).trans hP.2⟩
        have hfr := (fun q h => (frs q (by omega)).trans (hfr q h) : ∀ q : Nat, (q < t ∨ t + 2 ≤ q) → E2 q = E0 q)
        refine lv_aload_n C0.1 C0.2.1 dX6_begin_26 rfl (lv_at hl 0 rfl) ?_
        refine lv_iload_n C0.1 C0.2.1 dX6_begin_27 rfl (lv_at hl 2 rfl) ?_
        refine mm_put (v := .int (zI (len))) (fs := [.ref (t + 1), .int (zI (ln)), .int (zI (len0))]) C0 (C := RX6) (T := TX6) (N := 3) iG_X6 tyX6 tyX6_ok nmX6 hM hS (hP.1) rfl 2 (by decide) tw_227 rfl rfl (ty := tyX6 2) (tyX6_ok 2 (by decide)) rfl rfl (Nat.le_of_ble_eq_true rfl) dX6_begin_28 (fun H locs hM hS hsz => ?_)
        obtain ⟨E3, hE3⟩ : ∃ X : mE, X = mm_up E2 (t) (.inr (5, [.ref (t + 1), .int (zI (ln)), .int (zI (len))])) := ⟨_, rfl⟩
        replace hM : mm_M G E3 H := by rw [hE3]; exact hM
        have frs : ∀ q : Nat, q ≠ t → E3 q = E2 q := fun q h => by rw [hE3]; exact mm_up_n _ _ h
        have hat : E3 (t) = some (.inr (5, [.ref (t + 1), .int (zI (ln)), .int (zI (len))])) := by rw [hE3]; exact mm_up_s _ _ _
        have hP : sh_ G E3 t g ln len := ⟨hat, (frs _ (by omega)).trans hP.2⟩
        have hfr := (fun q h => (frs q (by omega)).trans (hfr q h) : ∀ q : Nat, (q < t ∨ t + 2 ≤ q) → E3 q = E0 q)
        exact mm_vret C0 hr hlk hM hS dX6_begin_31 (⟨⟨g, hP, fun j h => hz j (by omega)⟩, hfr⟩)
      · skip
        refine lv_aload_n C0.1 C0.2.1 dX6_begin_8 rfl (lv_at hl 0 rfl) ?_
        refine mm_get (fs := [.ref (t + 1), .int (zI (ln0)), .int (zI (len0))]) C0 (C := RX6) (T := TX6) (N := 3) iG_X6 hM (hP.1) rfl 0 (by decide) tw_225 rfl rfl dX6_begin_9 ?_
        refine lv_iload_n C0.1 C0.2.1 dX6_begin_12 rfl (lv_at hl 3 rfl) ?_
        refine lv_lconst (v := zL 0) C0.1 C0.2.1 dX6_begin_13 rfl ?_
        refine mm_last C0 hM hS (g := g) (hP.2) (u) (i := (u : Int)) (x := 0) (by omega) (by omega) (by decide) dX6_begin_14 (fun H locs hM hS hsz => ?_)
        obtain ⟨E4, hE4⟩ : ∃ X : mE, X = mm_up E1 (t + 1) (mm_J G 24 (zup (g) (u) (0))) := ⟨_, rfl⟩
        replace hM : mm_M G E4 H := by rw [hE4]; exact hM
        have frs : ∀ q : Nat, q ≠ t + 1 → E4 q = E1 q := fun q h => by rw [hE4]; exact mm_up_n _ _ h
        have hat : E4 (t + 1) = some (mm_J G 24 (zup (g) (u) (0))) := by rw [hE4]; exact mm_up_s _ _ _
        have hP : sh_ G E4 t (zup g u 0) ln0 len0 := ⟨(frs _ (by omega)).trans hP.1, hat⟩
        have hfr := (fun q h => (frs q (by omega)).trans (hfr q h) : ∀ q : Nat, (q < t ∨ t + 2 ≤ q) → E4 q = E0 q)
        refine lv_iinc (v := zI (((u + 1 : Nat) : Int))) (lv' := [(3, .int (zI (((u + 1 : Nat) : Int)))), (0, .ref (t)), (1, .int (zI (ln))), (2, .int (zI (len)))]) C0.1 C0.2.1 dX6_begin_15 hl (k := 3) rfl (z_inc (a := (u : Int)) (n := 1) (by omega)) (by decide) rfl (fun ls hl => ?_)
        refine lv_goto (tgt := 2) C0.1 C0.2.1 dX6_begin_18 (by decide) ?_
        exact ih2  (u + 1) (zup g u 0) E4 _ _ _ (by omega) (zup0 hz) (hP) (hfr) (by omega) hM hS (lv_sub hl [1, 2, 3, 0] rfl)
  exact L2 (_ + 1) 0 f E0 _ _ _ (Nat.zero_le _) (fun j h => absurd h (Nat.not_lt_zero _)) (hP) (hfr) (Nat.lt_succ_self _) hM hS (lv_sub hl [1, 2, 3, 0] rfl)
