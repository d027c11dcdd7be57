theorem mm_Cv.mono {l : Launch} {y : MethodName} {ws : List Cond} {rm : Room} {G : mG} {av : List Value} {E : mE} {P P2 : mE → Prop} (h : mm_Cv l y ws rm G av E P) (hp : ∀ E1, P E1 → P2 E1) : mm_Cv l y ws rm G av E P2 := by
  unfold mm_Cv Met at *
  refine MetFree.mono h (fun _ _ h => h) (fun _ _ _ _ _ h => h) (fun a s o t _ h => ?_)
  obtain ⟨⟨⟨u, h1, h2, h3⟩, h4⟩, h5⟩ := h
  exact ⟨⟨⟨u, h1, hp _ h2, h3⟩, h4⟩, h5⟩
theorem mm_Ci.mono {l : Launch} {y : MethodName} {ws : List Cond} {rm : Room} {G : mG} {av : List Value} {E : mE} {P P2 : Int → mE → Prop} (h : mm_Ci l y ws rm G av E P) (hp : ∀ z E1, P z E1 → P2 z E1) : mm_Ci l y ws rm G av E P2 := by
  unfold mm_Ci Met at *
  refine MetFree.mono h (fun _ _ h => h) (fun _ _ _ _ _ h => h) (fun a s o t _ h => ?_)
  obtain ⟨⟨⟨r, u, h1, ⟨z, hz, h2⟩, h3⟩, h4⟩, h5⟩ := h
  exact ⟨⟨⟨r, u, h1, ⟨z, hz, hp _ _ h2⟩, h3⟩, h4⟩, h5⟩
theorem mm_Cl.mono {l : Launch} {y : MethodName} {ws : List Cond} {rm : Room} {G : mG} {av : List Value} {E : mE} {P P2 : Int → mE → Prop} (h : mm_Cl l y ws rm G av E P) (hp : ∀ z E1, P z E1 → P2 z E1) : mm_Cl l y ws rm G av E P2 := by
  unfold mm_Cl Met at *
  refine MetFree.mono h (fun _ _ h => h) (fun _ _ _ _ _ h => h) (fun a s o t _ h => ?_)
  obtain ⟨⟨⟨r, u, h1, ⟨z, hz, h2⟩, h3⟩, h4⟩, h5⟩ := h
  exact ⟨⟨⟨r, u, h1, ⟨z, hz, hp _ _ h2⟩, h3⟩, h4⟩, h5⟩
def lmb (f : Nat → Nat) (n : Nat) (i : Int) : Int := if 0 ≤ i ∧ i < (n : Int) then (f i.toNat : Int) else 0
theorem lmb_in {f : Nat → Nat} {n k : Nat} {i : Int} (h : i = (k : Int)) (hk : k < n) : lmb f n i = (f k : Int) := by
  subst h; unfold lmb; rw [if_pos ⟨by omega, by omega⟩]; simp
theorem lmb_out {f : Nat → Nat} {n : Nat} {i : Int} (h : i < 0 ∨ (n : Int) ≤ i) : lmb f n i = 0 := if_neg (by omega)
theorem lmb_dg {f : Nat → Nat} {N k : Nat} {i : Int} (hf : ∀ j, j < nl N → f j = dg N j) (h : i = (k : Int)) : lmb f (nl N) i = (dg N k : Int) := by
  by_cases hk : k < nl N
  · rw [lmb_in h hk, hf k hk]
  · rw [lmb_out (by omega), dg_hi (by omega)]; rfl
def wup (f : Nat → Nat) (i : Int) (v : Nat) : Nat → Nat := if 0 ≤ i ∧ i < 56 then nup f i.toNat v else f
theorem wup_in {f : Nat → Nat} {v k : Nat} {i : Int} (h : i = (k : Int)) (hk : k < 56) : wup f i v = nup f k v := by
  subst h; unfold wup; rw [if_pos ⟨by omega, by omega⟩]; simp

def rX8_limb : Room := { frames := 0, cells := 0, slots := 0, locals := 0 }
theorem vw_X8_limb : mm_Vw RX8 yX8_limb cX8_limb 2 (some .long) 1 := ⟨tw_309, tw_310, tw_4, tw_311, by decide +kernel⟩
set_option maxHeartbeats 4000000 in
set_option maxRecDepth 100000 in
theorem c_X8_limb (l : Launch) (G : mG) (E0 : mE) {t n : Nat} {f : Nat → Nat} {i : Int} (hT : wR G E0 t n f) (hi : rI i) : mm_Cl l yX8_limb (.code yX8_limb cX8_limb 2 (some .long) :: wsG) rX8_limb G [.ref (t), .int (zI (i))] E0 (fun z E => z = lmb f n i ∧ E = E0) := by
  refine mm_of_l (by decide +kernel) (Nat.le_of_ble_eq_true rfl) ?_
  intro p e s m args below meth c ls C0 hr hlk hM hl hS
  have hl : lv_has ls 2 [(0, .ref (t)), (1, .int (zI (i)))] := hl
  have hn := hT.2.2.1
  obtain ⟨hi1, hi2⟩ := hi
  refine lv_iload_n C0.1 C0.2.1 dX8_limb_0 rfl (lv_at hl 1 rfl) ?_
  refine z_if_lt (tgt := 27) C0.1 C0.2.1 dX8_limb_1 (by decide) ⟨by omega, by omega⟩ (fun c_1 => ?_) (fun c_1 => ?_)
  · skip
    refine lv_lconst (v := zL 0) C0.1 C0.2.1 dX8_limb_27 rfl ?_
    exact mm_lret (z := 0) C0 hr hlk hM hS dX8_limb_28 (⟨(lmb_out (by omega)).symm, rfl⟩)
  · skip
    refine lv_iload_n C0.1 C0.2.1 dX8_limb_4 rfl (lv_at hl 1 rfl) ?_
    refine lv_aload_n C0.1 C0.2.1 dX8_limb_5 rfl (lv_at hl 0 rfl) ?_
    refine mm_get (fs := [.ref (t + 1), .int (zI ((n : Int)))]) C0 (C := RX8) (T := TX8) (N := 2) iG_X8 hM (hT.1) rfl 1 (by decide) tw_82 rfl rfl dX8_limb_6 ?_
    refine z_icmp_ge (tgt := 27) C0.1 C0.2.1 dX8_limb_9 (by decide) ⟨by omega, by omega⟩ ⟨by omega, by omega⟩ (fun c_9 => ?_) (fun c_9 => ?_)
    · skip
      refine lv_lconst (v := zL 0) C0.1 C0.2.1 dX8_limb_27 rfl ?_
      exact mm_lret (z := 0) C0 hr hlk hM hS dX8_limb_28 (⟨(lmb_out (by omega)).symm, rfl⟩)
    · skip
      refine lv_iload_n C0.1 C0.2.1 dX8_limb_12 rfl (lv_at hl 1 rfl) ?_
      refine lv_bipush (v := zI 56) C0.1 C0.2.1 dX8_limb_13 rfl ?_
      refine z_icmp_ge (tgt := 27) C0.1 C0.2.1 dX8_limb_15 (by decide) ⟨by omega, by omega⟩ ⟨by omega, by omega⟩ (fun c_15 => ?_) (fun c_15 => ?_)
      · skip
        refine lv_lconst (v := zL 0) C0.1 C0.2.1 dX8_limb_27 rfl ?_
        exact mm_lret (z := 0) C0 hr hlk hM hS dX8_limb_28 (⟨(lmb_out (by omega)).symm, rfl⟩)
      · skip
        refine lv_aload_n C0.1 C0.2.1 dX8_limb_18 rfl (lv_at hl 0 rfl) ?_
        refine mm_get (fs := [.ref (t + 1), .int (zI ((n : Int)))]) C0 (C := RX8) (T := TX8) (N := 2) iG_X8 hM (hT.1) rfl 0 (by decide) tw_80 rfl rfl dX8_limb_19 ?_
        refine lv_iload_n C0.1 C0.2.1 dX8_limb_22 rfl (lv_at hl 1 rfl) ?_
        refine mm_lald C0 hM (g := (fun j => (f j : Int))) (hT.2.1) (i.toNat) (i := i) (by omega) (by omega) (by decide) dX8_limb_23 ?_
        refine z_asL (b := (f i.toNat : Int)) (rfl) ?_
        refine lv_goto (tgt := 28) C0.1 C0.2.1 dX8_limb_24 (by decide) ?_
        exact mm_lret (z := (f i.toNat : Int)) C0 hr hlk hM hS dX8_limb_28 (⟨(lmb_in (k := i.toNat) (by omega) (by omega)).symm, rfl⟩)

def rX8_write : Room := { frames := 0, cells := 0, slots := 0, locals := 0 }
theorem vw_X8_write : mm_Vw RX8 yX8_write cX8_write 4 none 2 := ⟨tw_283, tw_284, tw_4, tw_285, by decide +kernel⟩
set_option maxHeartbeats 4000000 in
set_option maxRecDepth 100000 in
theorem c_X8_write (l : Launch) (G : mG) (E0 : mE) {t n : Nat} {f : Nat → Nat} {i v : Int} (w : Nat) (hv : v = (w : Int)) (hw : w < 1000000000) (hT : wR G E0 t n f) (hi : rI i) : mm_Cv l yX8_write (.code yX8_write cX8_write 4 none :: wsG) rX8_write G [.ref (t), .int (zI (i)), .long (zL (v))] E0 (fun E => wR G E t n (wup f i w) ∧ ∀ q : Nat, q ≠ t + 1 → E q = E0 q) := by
  refine mm_of_v (by decide +kernel) (Nat.le_of_ble_eq_true rfl) ?_
  intro p e s m args below meth c ls C0 hr hlk hM hl hS
  have hl : lv_has ls 4 [(0, .ref (t)), (1, .int (zI (i))), (2, .long (zL (v)))] := hl
  have hn := hT.2.2.1
  obtain ⟨hi1, hi2⟩ := hi
  refine lv_iload_n C0.1 C0.2.1 dX8_write_0 rfl (lv_at hl 1 rfl) ?_
  refine z_if_lt (tgt := 17) C0.1 C0.2.1 dX8_write_1 (by decide) ⟨by omega, by omega⟩ (fun c_1 => ?_) (fun c_1 => ?_)
  · skip
    exact mm_vret C0 hr hlk hM hS dX8_write_17 (by rw [show wup f i w = f from if_neg (by omega)]; exact ⟨hT, fun _ _ => rfl⟩)
  · skip
    refine lv_iload_n C0.1 C0.2.1 dX8_write_4 rfl (lv_at hl 1 rfl) ?_
    refine lv_bipush (v := zI 56) C0.1 C0.2.1 dX8_write_5 rfl ?_
    refine z_icmp_ge (tgt := 17) C0.1 C0.2.1 dX8_write_7 (by decide) ⟨by omega, by omega⟩ ⟨by omega, by omega⟩ (fun c_7 => ?_) (fun c_7 => ?_)
    · skip
      exact mm_vret C0 hr hlk hM hS dX8_write_17 (by rw [show wup f i w = f from if_neg (by omega)]; exact ⟨hT, fun _ _ => rfl⟩)
    · skip
      refine lv_aload_n C0.1 C0.2.1 dX8_write_10 rfl (lv_at hl 0 rfl) ?_
      refine mm_get (fs := [.ref (t + 1), .int (zI ((n : Int)))]) C0 (C := RX8) (T := TX8) (N := 2) iG_X8 hM (hT.1) rfl 0 (by decide) tw_80 rfl rfl dX8_write_11 ?_
      refine lv_iload_n C0.1 C0.2.1 dX8_write_14 rfl (lv_at hl 1 rfl) ?_
      refine lv_lload_n C0.1 C0.2.1 dX8_write_15 rfl (lv_at hl 2 rfl) ?_
      refine mm_last C0 hM hS (g := (fun j => (f j : Int))) (hT.2.1) (i.toNat) (i := i) (x := v) (by omega) (by omega) (by decide) dX8_write_16 (fun H locs hM hS hsz => ?_)
      obtain ⟨E1, hE1⟩ : ∃ X : mE, X = mm_up E0 (t + 1) (mm_J G 56 (zup ((fun j => (f j : Int))) (i.toNat) (v))) := ⟨_, rfl⟩
      replace hM : mm_M G E1 H := by rw [hE1]; exact hM
      have frs : ∀ q : Nat, q ≠ t + 1 → E1 q = E0 q := fun q h => by rw [hE1]; exact mm_up_n _ _ h
      have hat : E1 (t + 1) = some (mm_J G 56 (zup ((fun j => (f j : Int))) (i.toNat) (v))) := by rw [hE1]; exact mm_up_s _ _ _
      exact mm_vret C0 hr hlk hM hS dX8_write_17 (by rw [wup_in (k := i.toNat) (by omega) (by omega)]; refine ⟨⟨(frs t (by omega)).trans hT.1, ?_, hn, fun j hj => ?_⟩, frs⟩; rw [hat, hv, zup_nup]; unfold nup; split; exact hw; exact hT.2.2.2 j hj)

def rX8_trim : Room := { frames := 1, cells := 0, slots := 0, locals := 23 }
theorem vw_X8_trim : mm_Vw RX8 yX8_trim cX8_trim 3 none 1 := ⟨tw_287, tw_288, tw_4, tw_289, by decide +kernel⟩
set_option maxHeartbeats 4000000 in
set_option maxRecDepth 100000 in
theorem c_X8_trim (l : Launch) (G : mG) (E0 : mE) {t n : Nat} {f : Nat → Nat} {k : Int} (hT : wR G E0 t n f) (hk0 : rI k) : mm_Cv l yX8_trim (.code yX8_trim cX8_trim 3 none :: wsG) rX8_trim G [.ref (t), .int (zI (k))] E0 (fun E => (∃ u : Nat, wR G E t u f ∧ (u : Int) ≤ max 0 (min k 56) ∧ (u = 0 ∨ f (u - 1) ≠ 0) ∧ ∀ j : Nat, u ≤ j → (j : Int) < min k 56 → f j = 0) ∧ ∀ q : Nat, q ≠ t → E q = E0 q) := by
  refine mm_of_v (by decide +kernel) (Nat.le_of_ble_eq_true rfl) ?_
  intro p e s m args below meth c ls C0 hr hlk hM hl hS
  have hl : lv_has ls 3 [(0, .ref (t)), (1, .int (zI (k)))] := hl
  have hn := hT.2.2.1
  obtain ⟨hk1, hk2⟩ := hk0
  refine lv_iconst (v := zI 0) C0.1 C0.2.1 dX8_trim_0 rfl ?_
  refine lv_iload_n C0.1 C0.2.1 dX8_trim_1 rfl (lv_at hl 1 rfl) ?_
  refine lv_bipush (v := zI 56) C0.1 C0.2.1 dX8_trim_2 rfl ?_
  refine z_imin C0.1 C0.2.1 (C0.2.2.1.trans hl.1.symm) C0.2.2.2.1 (C0.2.2.2.2.1 _ tml_tw_290) (C0.2.2.2.2.1 _ tms_min) (C0.2.2.2.2.1 _ tmi) (C0.2.2.2.2.1 _ tmc_min) (Nat.le_of_ble_eq_true rfl) (Nat.le_of_ble_eq_true rfl) (Nat.zero_le _) (Nat.zero_le _) ⟨by omega, by omega⟩ ⟨by omega, by omega⟩ dX8_trim_4 ?_
  refine z_imax C0.1 C0.2.1 (C0.2.2.1.trans hl.1.symm) C0.2.2.2.1 (C0.2.2.2.2.1 _ tml_tw_293) (C0.2.2.2.2.1 _ tms_max) (C0.2.2.2.2.1 _ tmi) (C0.2.2.2.2.1 _ tmc_max) (Nat.le_of_ble_eq_true rfl) (Nat.le_of_ble_eq_true rfl) (Nat.zero_le _) (Nat.zero_le _) ⟨by omega, by omega⟩ ⟨by omega, by omega⟩ dX8_trim_7 ?_
  refine z_asI (a := (max (0) ((min (k) (56))))) (b := ((max 0 (min k 56)).toNat : Int)) (by omega) ?_
  refine lv_istore_n (lv' := [(2, .int (zI (((max 0 (min k 56)).toNat : Int)))), (0, .ref (t)), (1, .int (zI (k)))]) C0.1 C0.2.1 dX8_trim_10 rfl hl (by decide) rfl (fun ls hl => ?_)
  have L11 : ∀ (k11 : Nat) (u : Nat) (H : Heap) (locs : List Loc) (ls : Array Slot), ((u : Int) ≤ max 0 (min k 56)) → (∀ j : Nat, u ≤ j → (j : Int) < min k 56 → f j = 0) → u < k11 → mm_M G E0 H → va_S (mm_A G) s.heap H locs → lv_has ls 3 [(0, .ref (t)), (1, .int (zI (k))), (2, .int (zI ((u : Int))))] → W p l e rX8_trim s m args below meth c H locs 0 0 (mm_Zv G below args s (fun E => (∃ u : Nat, wR G E t u f ∧ (u : Int) ≤ max 0 (min k 56) ∧ (u = 0 ∨ f (u - 1) ≠ 0) ∧ ∀ j : Nat, u ≤ j → (j : Int) < min k 56 → f j = 0) ∧ ∀ q : Nat, q ≠ t → E q = E0 q)) (F0 m 11 ls []) := by
    intro k11
    induction k11 with
    | zero => intro u H locs ls hu hz hk hM hS hl; exact absurd hk (Nat.not_lt_zero _)
    | succ k11 ih11 =>
      intro u H locs ls hu hz hk11 hM hS hl
      refine lv_iload_n C0.1 C0.2.1 dX8_trim_11 rfl (lv_at hl 2 rfl) ?_
      refine z_if_le (tgt := 34) C0.1 C0.2.1 dX8_trim_12 (by decide) ⟨by omega, by omega⟩ (fun c_12 => ?_) (fun c_12 => ?_)
      · skip
        refine lv_aload_n C0.1 C0.2.1 dX8_trim_34 rfl (lv_at hl 0 rfl) ?_
        refine lv_iload_n C0.1 C0.2.1 dX8_trim_35 rfl (lv_at hl 2 rfl) ?_
        refine mm_put (v := .int (zI ((u : Int)))) (fs := [.ref (t + 1), .int (zI ((n : Int)))]) C0 (C := RX8) (T := TX8) (N := 2) iG_X8 tyX8 tyX8_ok nmX8 hM hS (hT.1) rfl 1 (by decide) tw_82 rfl rfl (ty := tyX8 1) (tyX8_ok 1 (by decide)) rfl rfl (Nat.le_of_ble_eq_true rfl) dX8_trim_36 (fun H locs hM hS hsz => ?_)
        obtain ⟨E1, hE1⟩ : ∃ X : mE, X = mm_up E0 (t) (.inr (7, [.ref (t + 1), .int (zI ((u : Int)))])) := ⟨_, rfl⟩
        replace hM : mm_M G E1 H := by rw [hE1]; exact hM
        have frs : ∀ q : Nat, q ≠ t → E1 q = E0 q := fun q h => by rw [hE1]; exact mm_up_n _ _ h
        have hat : E1 (t) = some (.inr (7, [.ref (t + 1), .int (zI ((u : Int)))])) := by rw [hE1]; exact mm_up_s _ _ _
        exact mm_vret C0 hr hlk hM hS dX8_trim_39 (⟨⟨u, ⟨hat, (frs _ (by omega)).trans hT.2.1, by omega, hT.2.2.2⟩, hu, by omega, hz⟩, frs⟩)
      · skip
        refine lv_aload_n C0.1 C0.2.1 dX8_trim_15 rfl (lv_at hl 0 rfl) ?_
        refine mm_get (fs := [.ref (t + 1), .int (zI ((n : Int)))]) C0 (C := RX8) (T := TX8) (N := 2) iG_X8 hM (hT.1) rfl 0 (by decide) tw_80 rfl rfl dX8_trim_16 ?_
        refine lv_iload_n C0.1 C0.2.1 dX8_trim_19 rfl (lv_at hl 2 rfl) ?_
        refine lv_iconst (v := zI 1) C0.1 C0.2.1 dX8_trim_20 rfl ?_
        refine z_isub C0.1 C0.2.1 dX8_trim_21 ?_
        have hf := hT.2.2.2 (u - 1) (by omega)
        refine mm_lald C0 hM (g := (fun j => (f j : Int))) (hT.2.1) (u - 1) (i := (((u : Int)) - (1))) (by omega) (by omega) (by decide) dX8_trim_22 ?_
        refine z_asL (b := (f (u - 1) : Int)) (rfl) ?_
        refine lv_lconst (v := zL 0) C0.1 C0.2.1 dX8_trim_23 rfl ?_
        refine z_lcmp_ne (tgt := 34) C0.1 C0.2.1 dX8_trim_24 dX8_trim_25 (by decide) ⟨by omega, by omega⟩ ⟨by omega, by omega⟩ (fun c_24 => ?_) (fun c_24 => ?_)
        · skip
          refine lv_aload_n C0.1 C0.2.1 dX8_trim_34 rfl (lv_at hl 0 rfl) ?_
          refine lv_iload_n C0.1 C0.2.1 dX8_trim_35 rfl (lv_at hl 2 rfl) ?_
          refine mm_put (v := .int (zI ((u : Int)))) (fs := [.ref (t + 1), .int (zI ((n : Int)))]) C0 (C := RX8) (T := TX8) (N := 2) iG_X8 tyX8 tyX8_ok nmX8 hM hS (hT.1) rfl 1 (by decide) tw_82 rfl rfl (ty := tyX8 1) (tyX8_ok 1 (by decide)) rfl rfl (Nat.le_of_ble_eq_true rfl) dX8_trim_36 (fun H locs hM hS hsz => ?_)
          obtain ⟨E2, hE2⟩ : ∃ X : mE, X = mm_up E0 (t) (.inr (7, [.ref (t + 1), .int (zI ((u : Int)))])) := ⟨_, rfl⟩
          replace hM : mm_M G E2 H := by rw [hE2]; exact hM
          have frs : ∀ q : Nat, q ≠ t → E2 q = E0 q := fun q h => by rw [hE2]; exact mm_up_n _ _ h
          have hat : E2 (t) = some (.inr (7, [.ref (t + 1), .int (zI ((u : Int)))])) := by rw [hE2]; exact mm_up_s _ _ _
          exact mm_vret C0 hr hlk hM hS dX8_trim_39 (⟨⟨u, ⟨hat, (frs _ (by omega)).trans hT.2.1, by omega, hT.2.2.2⟩, hu, by omega, hz⟩, frs⟩)
        · skip
          refine lv_iinc (v := zI (((u - 1 : Nat) : Int))) (lv' := [(2, .int (zI (((u - 1 : Nat) : Int)))), (0, .ref (t)), (1, .int (zI (k)))]) C0.1 C0.2.1 dX8_trim_28 hl (k := 2) rfl (z_inc (a := (u : Int)) (n := (-1)) (by omega)) (by decide) rfl (fun ls hl => ?_)
          refine lv_goto (tgt := 11) C0.1 C0.2.1 dX8_trim_31 (by decide) ?_
          exact ih11  (u - 1) _ _ _ (by omega) (fun j h1 h2 => if q : j = u - 1 then (by subst q; omega) else hz j (by omega) h2)  (by omega) hM hS (lv_sub hl [1, 2, 0] rfl)
  exact L11 (_ + 1) ((max 0 (min k 56)).toNat) _ _ _ (by omega) (fun j h1 h2 => by omega)  (Nat.lt_succ_self _) hM hS (lv_sub hl [1, 2, 0] rfl)

theorem trim_W {G : mG} {E : mE} {t u N m : Nat} {f : Nat → Nat} {k : Int} (hT : wR G E t u f) (hN : N < 1000000000 ^ m) (hm : m ≤ 56) (hk : k = (m : Int)) (hf : ∀ j, j < m → f j = dg N j) (hu : (u : Int) ≤ max 0 (min k 56)) (ht : u = 0 ∨ f (u - 1) ≠ 0) (hz : ∀ j : Nat, u ≤ j → (j : Int) < min k 56 → f j = 0) : isW G E t N := by
  have hum : u ≤ m := by omega
  refine isW.of hT (nl_uniq hN hum (fun j h1 h2 => ?_) ?_) (fun j hj => hf j (by omega))
  · rw [← hf j h2]; exact hz j h1 (by omega)
  · rcases ht with h | h
    · exact Or.inl h
    · by_cases q : u = 0
      · exact Or.inl q
      · refine Or.inr ?_
        rw [← hf (u - 1) (by omega)]; exact h
theorem c_X8_trimW (l : Launch) (G : mG) (E0 : mE) {t n N m : Nat} {f : Nat → Nat} {k : Int} (hT : wR G E0 t n f) (hN : N < 1000000000 ^ m) (hm : m ≤ 56) (hk : k = (m : Int)) (hf : ∀ j, j < m → f j = dg N j) : mm_Cv l yX8_trim (.code yX8_trim cX8_trim 3 none :: wsG) rX8_trim G [.ref t, .int (zI k)] E0 (fun E => isW G E t N ∧ ∀ q : Nat, q ≠ t → E q = E0 q) :=
  (c_X8_trim l G E0 hT ⟨by omega, by omega⟩).mono fun E1 h => by
    obtain ⟨⟨u, h1, h2, h3, h4⟩, h5⟩ := h
    exact ⟨trim_W h1 hN hm hk hf h2 h3 h4, h5⟩
theorem setLong_dg {N : Nat} (f : Nat → Nat) (hN : N < 9223372036854775808) : ∀ j, j < 3 → nup (nup (nup f 0 (N % 1000000000)) 1 (N / 1000000000 % 1000000000)) 2 (N / 1000000000 / 1000000000) j = dg N j := by
  intro j hj
  unfold nup dg
  rcases (show j = 0 ∨ j = 1 ∨ j = 2 by omega) with rfl | rfl | rfl
  · simp
  · simp
  · simp only [if_pos rfl]
    rw [show (1000000000 : Nat) ^ 2 = 1000000000000000000 by decide]
    simp
    omega

def rX8_widen : Room := { frames := 1, cells := 0, slots := 0, locals := 23 }
theorem vw_X8_widen : mm_Vw RX8 yX8_widen cX8_widen 1 none 0 := ⟨tw_433, tw_434, tw_4, tw_435, by decide +kernel⟩
set_option maxHeartbeats 4000000 in
set_option maxRecDepth 100000 in
theorem c_X8_widen (l : Launch) (G : mG) (E0 : mE) {t n : Nat} {f : Nat → Nat} (hT : wR G E0 t n f) (hn : n < 56) : mm_Cv l yX8_widen (.code yX8_widen cX8_widen 1 none :: wsG) rX8_widen G [.ref (t)] E0 (fun E => wR G E t (n + 1) (nup f n 0) ∧ ∀ q : Nat, (q < t ∨ t + 2 ≤ q) → E q = E0 q) := by
  refine mm_of_v (by decide +kernel) (Nat.le_of_ble_eq_true rfl) ?_
  intro p e s m args below meth c ls C0 hr hlk hM hl hS
  have hl : lv_has ls 1 [(0, .ref (t))] := hl
  refine lv_aload_n C0.1 C0.2.1 dX8_widen_0 rfl (lv_at hl 0 rfl) ?_
  refine lv_aload_n C0.1 C0.2.1 dX8_widen_1 rfl (lv_at hl 0 rfl) ?_
  refine mm_get (fs := [.ref (t + 1), .int (zI ((n : Int)))]) C0 (C := RX8) (T := TX8) (N := 2) iG_X8 hM (hT.1) rfl 1 (by decide) tw_82 rfl rfl dX8_widen_2 ?_
  refine lv_lconst (v := zL 0) C0.1 C0.2.1 dX8_widen_5 rfl ?_
  refine mm_callVv (As := [.int (zI ((n : Int))), .long (zL (0))]) C0 vw_X8_write tw_282 (c_X8_write l G _ 0 rfl (by omega) hT ⟨by omega, by omega⟩) hM (hT.1) rfl rfl hl.1 rfl (Nat.le_of_ble_eq_true rfl) ⟨rfl, rfl, Nat.le_of_ble_eq_true rfl, Nat.le_of_ble_eq_true rfl, Nat.zero_le _, Nat.zero_le _⟩ dX8_widen_6 hS (fun E1 H locs hp hM hS => ?_)
  obtain ⟨hT, fr⟩ := hp
  rw [wup_in rfl hn] at hT
  refine lv_aload_n C0.1 C0.2.1 dX8_widen_9 rfl (lv_at hl 0 rfl) ?_
  refine lv_aload_n C0.1 C0.2.1 dX8_widen_10 rfl (lv_at hl 0 rfl) ?_
  refine mm_get (fs := [.ref (t + 1), .int (zI ((n : Int)))]) C0 (C := RX8) (T := TX8) (N := 2) iG_X8 hM (hT.1) rfl 1 (by decide) tw_82 rfl rfl dX8_widen_11 ?_
  refine lv_bipush (v := zI 56) C0.1 C0.2.1 dX8_widen_14 rfl ?_
  refine z_icmp_ge (tgt := 28) C0.1 C0.2.1 dX8_widen_16 (by decide) ⟨by omega, by omega⟩ ⟨by omega, by omega⟩ (fun c_16 => ?_) (fun c_16 => ?_)
  · skip
    omega
  · skip
    refine lv_aload_n C0.1 C0.2.1 dX8_widen_19 rfl (lv_at hl 0 rfl) ?_
    refine mm_get (fs := [.ref (t + 1), .int (zI ((n : Int)))]) C0 (C := RX8) (T := TX8) (N := 2) iG_X8 hM (hT.1) rfl 1 (by decide) tw_82 rfl rfl dX8_widen_20 ?_
    refine lv_iconst (v := zI 1) C0.1 C0.2.1 dX8_widen_23 rfl ?_
    refine z_iadd C0.1 C0.2.1 dX8_widen_24 ?_
    refine lv_goto (tgt := 30) C0.1 C0.2.1 dX8_widen_25 (by decide) ?_
    refine mm_put (v := .int (zI ((((n : Int)) + (1))))) (fs := [.ref (t + 1), .int (zI ((n : Int)))]) C0 (C := RX8) (T := TX8) (N := 2) iG_X8 tyX8 tyX8_ok nmX8 hM hS (hT.1) rfl 1 (by decide) tw_82 rfl rfl (ty := tyX8 1) (tyX8_ok 1 (by decide)) rfl rfl (Nat.le_of_ble_eq_true rfl) dX8_widen_30 (fun H locs hM hS hsz => ?_)
    obtain ⟨E2, hE2⟩ : ∃ X : mE, X = mm_up E1 (t) (.inr (7, [.ref (t + 1), .int (zI ((((n : Int)) + (1))))])) := ⟨_, rfl⟩
    replace hM : mm_M G E2 H := by rw [hE2]; exact hM
    have frs : ∀ q : Nat, q ≠ t → E2 q = E1 q := fun q h => by rw [hE2]; exact mm_up_n _ _ h
    have hat : E2 (t) = some (.inr (7, [.ref (t + 1), .int (zI ((((n : Int)) + (1))))])) := by rw [hE2]; exact mm_up_s _ _ _
    exact mm_vret C0 hr hlk hM hS dX8_widen_33 (⟨⟨hat, (frs _ (by omega)).trans hT.2.1, by omega, hT.2.2.2⟩, fun q h => (frs q (by omega)).trans (fr q (by omega))⟩)

def rX8_setLong : Room := { frames := 2, cells := 0, slots := 0, locals := 45 }
theorem vw_X8_setLong : mm_Vw RX8 yX8_setLong cX8_setLong 3 none 1 := ⟨tw_278, tw_279, tw_4, tw_280, by decide +kernel⟩
set_option maxHeartbeats 4000000 in
set_option maxRecDepth 100000 in
theorem c_X8_setLong (l : Launch) (G : mG) (E0 : mE) {t n N : Nat} {f : Nat → Nat} {v : Int} (hT : wR G E0 t n f) (hv : v = (N : Int)) (hN : N < 9223372036854775808) : mm_Cv l yX8_setLong (.code yX8_setLong cX8_setLong 3 none :: wsG) rX8_setLong G [.ref (t), .long (zL (v))] E0 (fun E => isW G E t N ∧ ∀ q : Nat, (q < t ∨ t + 2 ≤ q) → E q = E0 q) := by
  refine mm_of_v (by decide +kernel) (Nat.le_of_ble_eq_true rfl) ?_
  intro p e s m args below meth c ls C0 hr hlk hM hl hS
  have hl : lv_has ls 3 [(0, .ref (t)), (1, .long (zL (v)))] := hl
  have hfr : ∀ q : Nat, (q < t ∨ t + 2 ≤ q) → E0 q = E0 q := fun _ _ => rfl
  refine lv_aload_n C0.1 C0.2.1 dX8_setLong_0 rfl (lv_at hl 0 rfl) ?_
  refine lv_iconst (v := zI 0) C0.1 C0.2.1 dX8_setLong_1 rfl ?_
  refine lv_lload_n C0.1 C0.2.1 dX8_setLong_2 rfl (lv_at hl 1 rfl) ?_
  refine mm_ldc2 (z := 1000000000) C0 tw_281 rfl dX8_setLong_3 ?_
  refine z_lremp C0.1 C0.2.1 dX8_setLong_6 ⟨by omega, by omega⟩ ⟨by omega, by omega⟩ (by omega) (by omega) ?_
  refine mm_callVv (As := [.int (zI (0)), .long (zL (((v) % (1000000000))))]) C0 vw_X8_write tw_282 (c_X8_write l G _ (N % 1000000000) (by omega) (by omega) hT ⟨by omega, by omega⟩) hM (hT.1) rfl rfl hl.1 rfl (Nat.le_of_ble_eq_true rfl) ⟨rfl, rfl, Nat.le_of_ble_eq_true rfl, Nat.le_of_ble_eq_true rfl, Nat.zero_le _, Nat.zero_le _⟩ dX8_setLong_7 hS (fun E1 H locs hp hM hS => ?_)
  obtain ⟨hT, fr⟩ := hp
  have hfr := (fun q h => (fr q (by omega)).trans (hfr q h) : ∀ q : Nat, (q < t ∨ t + 2 ≤ q) → E1 q = E0 q)
  rw [wup_in (i := 0) (k := 0) rfl (by omega)] at hT
  refine lv_aload_n C0.1 C0.2.1 dX8_setLong_10 rfl (lv_at hl 0 rfl) ?_
  refine lv_iconst (v := zI 1) C0.1 C0.2.1 dX8_setLong_11 rfl ?_
  refine lv_lload_n C0.1 C0.2.1 dX8_setLong_12 rfl (lv_at hl 1 rfl) ?_
  refine mm_ldc2 (z := 1000000000) C0 tw_281 rfl dX8_setLong_13 ?_
  refine z_ldivp C0.1 C0.2.1 dX8_setLong_16 ⟨by omega, by omega⟩ ⟨by omega, by omega⟩ (by omega) (by omega) ?_
  refine mm_ldc2 (z := 1000000000) C0 tw_281 rfl dX8_setLong_17 ?_
  refine z_lremp C0.1 C0.2.1 dX8_setLong_20 ⟨by omega, by omega⟩ ⟨by omega, by omega⟩ (by omega) (by omega) ?_
  refine mm_callVv (As := [.int (zI (1)), .long (zL (((((v) / (1000000000))) % (1000000000))))]) C0 vw_X8_write tw_282 (c_X8_write l G _ (N / 1000000000 % 1000000000) (by omega) (by omega) hT ⟨by omega, by omega⟩) hM (hT.1) rfl rfl hl.1 rfl (Nat.le_of_ble_eq_true rfl) ⟨rfl, rfl, Nat.le_of_ble_eq_true rfl, Nat.le_of_ble_eq_true rfl, Nat.zero_le _, Nat.zero_le _⟩ dX8_setLong_21 hS (fun E2 H locs hp hM hS => ?_)
  obtain ⟨hT, fr⟩ := hp
  have hfr := (fun q h => (fr q (by omega)).trans (hfr q h) : ∀ q : Nat, (q < t ∨ t + 2 ≤ q) → E2 q = E0 q)
  rw [wup_in (i := 1) (k := 1) rfl (by omega)] at hT
  refine lv_aload_n C0.1 C0.2.1 dX8_setLong_24 rfl (lv_at hl 0 rfl) ?_
  refine lv_iconst (v := zI 2) C0.1 C0.2.1 dX8_setLong_25 rfl ?_
  refine lv_lload_n C0.1 C0.2.1 dX8_setLong_26 rfl (lv_at hl 1 rfl) ?_
  refine mm_ldc2 (z := 1000000000) C0 tw_281 rfl dX8_setLong_27 ?_
  refine z_ldivp C0.1 C0.2.1 dX8_setLong_30 ⟨by omega, by omega⟩ ⟨by omega, by omega⟩ (by omega) (by omega) ?_
  refine mm_ldc2 (z := 1000000000) C0 tw_281 rfl dX8_setLong_31 ?_
  refine z_ldivp C0.1 C0.2.1 dX8_setLong_34 ⟨by omega, by omega⟩ ⟨by omega, by omega⟩ (by omega) (by omega) ?_
  refine mm_callVv (As := [.int (zI (2)), .long (zL (((((v) / (1000000000))) / (1000000000))))]) C0 vw_X8_write tw_282 (c_X8_write l G _ (N / 1000000000 / 1000000000) (by omega) (by omega) hT ⟨by omega, by omega⟩) hM (hT.1) rfl rfl hl.1 rfl (Nat.le_of_ble_eq_true rfl) ⟨rfl, rfl, Nat.le_of_ble_eq_true rfl, Nat.le_of_ble_eq_true rfl, Nat.zero_le _, Nat.zero_le _⟩ dX8_setLong_35 hS (fun E3 H locs hp hM hS => ?_)
  obtain ⟨hT, fr⟩ := hp
  have hfr := (fun q h => (fr q (by omega)).trans (hfr q h) : ∀ q : Nat, (q < t ∨ t + 2 ≤ q) → E3 q = E0 q)
  rw [wup_in (i := 2) (k := 2) rfl (by omega)] at hT
  refine lv_aload_n C0.1 C0.2.1 dX8_setLong_38 rfl (lv_at hl 0 rfl) ?_
  refine lv_iconst (v := zI 3) C0.1 C0.2.1 dX8_setLong_39 rfl ?_
  refine mm_callVv (As := [.int (zI (3))]) C0 vw_X8_trim tw_286 (c_X8_trimW l G _ (N := N) (m := 3) hT (by omega) (by omega) rfl (setLong_dg _ hN)) hM (hT.1) rfl rfl hl.1 rfl (Nat.le_of_ble_eq_true rfl) ⟨rfl, rfl, Nat.le_of_ble_eq_true rfl, Nat.le_of_ble_eq_true rfl, Nat.zero_le _, Nat.zero_le _⟩ dX8_setLong_40 hS (fun E4 H locs hp hM hS => ?_)
  obtain ⟨hW, fr⟩ := hp
  have hfr := (fun q h => (fr q (by omega)).trans (hfr q h) : ∀ q : Nat, (q < t ∨ t + 2 ≤ q) → E4 q = E0 q)
  exact mm_vret C0 hr hlk hM hS dX8_setLong_43 (⟨hW, hfr⟩)
