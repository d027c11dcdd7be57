/-- a heap of items; a film of nine figures each; a place copied; a book of claims judged -/
def smI (f : Nat → Int) (b : Nat) : Nat → Nat
  | 0 => 0
  | n + 1 => smI f b n + (f (b + n)).toNat
theorem smI_le {f : Nat → Int} {b : Nat} : ∀ n : Nat, (∀ j, j < n → f (b + j) < 9223372036854775808) → smI f b n ≤ n * 9223372036854775807
  | 0, _ => by show 0 ≤ _; omega
  | n + 1, h => by
    have h1 := smI_le n (fun j hj => h j (by omega))
    have h2 := h n (by omega)
    show smI f b n + (f (b + n)).toNat ≤ _
    omega
theorem smI_nl {f : Nat → Int} {b n : Nat} (hn : n ≤ 24) (h : ∀ j, j < n → f (b + j) < 9223372036854775808) : nl (smI f b n) ≤ 4 := (nl_le _ _).mpr (Nat.lt_of_le_of_lt (smI_le n h) (by omega))
theorem nlL {N : Nat} (h : N < 9223372036854775808) : nl N ≤ 3 := (nl_le _ _).mpr (by omega)
def flU (g : Nat → Int) (ln : Int) (b N : Nat) : Nat → Nat → Int
  | 0 => g
  | n + 1 => zup (flU g ln b N n) (b + n) (asLn ln (dg N n : Int))
theorem flU_r {g : Nat → Int} {ln : Int} {b N : Nat} (h : ∀ j, j < 24 → rL (g j)) : ∀ n, ∀ j, j < 24 → rL (flU g ln b N n j)
  | 0, j, hj => h j hj
  | n + 1, j, hj => zup_r (flU_r h n) (asLn_r ⟨by have := dg_lt N n; omega, by have := dg_lt N n; omega⟩) j hj
noncomputable def pf_heap (S : mST) (a l f n t : Int) : Int × mST := if inS a ∧ inL l ∧ (1 ≤ n ∧ n ≤ 24) ∧ inP t then (if shF (S.2.2.2.2.1 a.toNat) (S.2.2.2.2.2 a.toNat) l f n ≠ 0 then (shF (S.2.2.2.2.1 a.toNat) (S.2.2.2.2.2 a.toNat) l f n, S) else if bq (∀ j, j < n.toNat → 0 ≤ S.2.2.2.1 a.toNat (f.toNat + j)) = true then (lanZ (smI (S.2.2.2.1 a.toNat) f.toNat n.toNat), lanS S t.toNat (smI (S.2.2.2.1 a.toNat) f.toNat n.toNat)) else (-2, S)) else (-1, S)
def flN (N : Nat) : Nat := max 1 (nl N)
def pf_film (S : mST) (p a l f : Int) : Int × mST := if inP p ∧ inS a ∧ inL l then (if nFau (S.2.1.1 p.toNat) ≠ 0 then (nFau (S.2.1.1 p.toNat), S) else if shF (S.2.2.2.2.1 a.toNat) (S.2.2.2.2.2 a.toNat) l f (flN (S.2.1.2.2 p.toNat)) ≠ 0 then (shF (S.2.2.2.2.1 a.toNat) (S.2.2.2.2.2 a.toNat) l f (flN (S.2.1.2.2 p.toNat)), S) else ((flN (S.2.1.2.2 p.toNat) : Int), shPut S a.toNat (flU (S.2.2.2.1 a.toNat) (S.2.2.2.2.1 a.toNat) f.toNat (S.2.1.2.2 p.toNat) (flN (S.2.1.2.2 p.toNat))) (S.2.2.2.2.1 a.toNat) (S.2.2.2.2.2 a.toNat))) else (-1, S)
def pf_image (S : mST) : Int × mST := (1, ((1, S.1.2), S.2.1, S.2.1, S.2.2.2))
def pf_restore (S : mST) : Int × mST := if S.1.1 = 0 then (-4, S) else (1, (S.1, S.2.2.1, S.2.2.1, S.2.2.2))
abbrev soP (B : Nat → Int) (L a : Nat) : Prop := shp (clD B L a).toNat (rnV B L (clP2 B L a + 1)).toNat (rnV B L (clP5 B L a)).toNat = (rnV B L a).toNat
abbrev clE (B : Nat → Int) (L a : Nat) : Nat := skp B L (rnE B L (clP5 B L a))
def jdW (B : Nat → Int) (L a i : Nat) (w : Int) : Int := if w = -4 ∧ ¬ soP B L a then (i : Int) else w
def jdg (B : Nat → Int) (L : Nat) : Nat → Nat → Nat → Int → Int
  | 0, _, _, w => w
  | r + 1, i, a, w => if clZ B L a ≠ 0 then clZ B L a else if ¬ clE B L a < L then jdW B L a i w else if i = 7 ∨ B (clE B L a) ≠ 44 then -20 - (clE B L a : Int) else jdg B L r (i + 1) (clE B L a + 1) (jdW B L a i w)
def pf_claims (S : mST) : Int × mST := (jdg S.1.2.1 S.1.2.2 8 0 0 (-4), sTap S S.1.2.1 0)
theorem jdg_s {B : Nat → Int} {L q r i a : Nat} {w : Int} (hq : q = r + 1) : jdg B L q i a w = if clZ B L a ≠ 0 then clZ B L a else if ¬ clE B L a < L then jdW B L a i w else if i = 7 ∨ B (clE B L a) ≠ 44 then -20 - (clE B L a : Int) else jdg B L r (i + 1) (clE B L a + 1) (jdW B L a i w) := by subst hq; rfl

def rX9_heap : Room := { frames := 5, cells := 0, slots := 0, locals := 110 }
theorem vw_X9_heap : mm_Vw RX9 yX9_heap cX9_heap 10 (some .int) 5 := ⟨tw_868, tw_869, tw_1, tw_870, by decide +kernel⟩
set_option maxHeartbeats 4000000 in
set_option maxRecDepth 100000 in
theorem c_X9_heap (l : Launch) (G : mG) (E0 : mE) {h : Nat} {S : mST} (hS9 : st G E0 h S) {a w f n t : Int} (hr_a : rI a) (hr_w : rI w) (hr_f : rI f) (hr_n : rI n) (hr_t : rI t) : mm_Ci l yX9_heap (.code yX9_heap cX9_heap 10 (some .int) :: wsG) rX9_heap G [.ref (h), .int (zI (a)), .int (zI (w)), .int (zI (f)), .int (zI (n)), .int (zI (t))] E0 (fun z E => z = (pf_heap S a w f n t).1 ∧ st G E h (pf_heap S a w f n t).2 ∧ ∀ q : Nat, (q < h ∨ h + 106 ≤ q) → E q = E0 q) := by
  refine mm_of_i (by decide +kernel) (Nat.le_of_ble_eq_true rfl) ?_
  intro p e s m args below meth c ls C0 hr hlk hM hl hS
  have hl : lv_has ls 10 [(0, .ref (h)), (1, .int (zI (a))), (2, .int (zI (w))), (3, .int (zI (f))), (4, .int (zI (n))), (5, .int (zI (t)))] := hl
  obtain ⟨hr_a1, hr_a2⟩ := hr_a
  obtain ⟨hr_w1, hr_w2⟩ := hr_w
  obtain ⟨hr_f1, hr_f2⟩ := hr_f
  obtain ⟨hr_n1, hr_n2⟩ := hr_n
  obtain ⟨hr_t1, hr_t2⟩ := hr_t
  have hSo := hS9
  obtain ⟨⟨hO1, ⟨f1, f2, f3, hr1, hr2, hr3, hf1, hf2, hf3⟩, ⟨hTp, hTk⟩, ⟨hPl, hPk⟩, ⟨hKl, hKk⟩, ⟨hSh, hSk⟩⟩, hSc⟩ := hS9
  obtain ⟨hR46, hR48⟩ := hSo.2.2.2.2.2
  have hfr : ∀ q : Nat, (q < h + 46 ∨ h + 50 ≤ q) → E0 q = E0 q := fun _ _ => rfl
  refine lv_iload_n C0.1 C0.2.1 dX9_heap_0 rfl (lv_at hl 1 rfl) ?_
  refine mm_callSi (As := [.int (zI (a))]) C0 sw_X9_isSheet tw_871 (c_X9_isSheet l G _ (i := a) ⟨by omega, by omega⟩) hM rfl hl.1 rfl (Nat.le_of_ble_eq_true rfl) ⟨rfl, rfl, Nat.le_of_ble_eq_true rfl, Nat.le_of_ble_eq_true rfl, Nat.zero_le _, Nat.zero_le _⟩ dX9_heap_1 hS (fun z_1 E1 H locs hp hM hS => ?_)
  obtain ⟨hz_1, hEq⟩ := hp
  rw [hEq] at hM
  have hz_1b := if01 hz_1
  refine z_if_eq (tgt := 35) C0.1 C0.2.1 dX9_heap_4 (by decide) ⟨by omega, by omega⟩ (fun c_4 => ?_) (fun c_4 => ?_)
  · skip
    refine lv_iconst (v := zI (-1)) C0.1 C0.2.1 dX9_heap_35 rfl ?_
    exact mm_iret (z := (-1)) C0 hr hlk hM hS dX9_heap_36 (by have he : pf_heap S a w f n t = ((-1), S) := (by unfold pf_heap; rw [if_neg (by omega)]); rw [he]; exact ⟨rfl, hSo, (fun _ _ => rfl)⟩)
  · skip
    refine lv_iload_n C0.1 C0.2.1 dX9_heap_7 rfl (lv_at hl 2 rfl) ?_
    refine mm_callSi (As := [.int (zI (w))]) C0 sw_X9_isLane tw_874 (c_X9_isLane l G _ (i := w) ⟨by omega, by omega⟩) hM rfl hl.1 rfl (Nat.le_of_ble_eq_true rfl) ⟨rfl, rfl, Nat.le_of_ble_eq_true rfl, Nat.le_of_ble_eq_true rfl, Nat.zero_le _, Nat.zero_le _⟩ dX9_heap_8 hS (fun z_8 E2 H locs hp hM hS => ?_)
    obtain ⟨hz_8, hEq⟩ := hp
    rw [hEq] at hM
    have hz_8b := if01 hz_8
    refine z_if_eq (tgt := 35) C0.1 C0.2.1 dX9_heap_11 (by decide) ⟨by omega, by omega⟩ (fun c_11 => ?_) (fun c_11 => ?_)
    · skip
      refine lv_iconst (v := zI (-1)) C0.1 C0.2.1 dX9_heap_35 rfl ?_
      exact mm_iret (z := (-1)) C0 hr hlk hM hS dX9_heap_36 (by have he : pf_heap S a w f n t = ((-1), S) := (by unfold pf_heap; rw [if_neg (by omega)]); rw [he]; exact ⟨rfl, hSo, (fun _ _ => rfl)⟩)
    · skip
      refine lv_iload C0.1 C0.2.1 dX9_heap_14 (lv_at hl 4 rfl) ?_
      refine lv_iconst (v := zI 1) C0.1 C0.2.1 dX9_heap_16 rfl ?_
      refine z_icmp_lt (tgt := 35) C0.1 C0.2.1 dX9_heap_17 (by decide) ⟨by omega, by omega⟩ ⟨by omega, by omega⟩ (fun c_17 => ?_) (fun c_17 => ?_)
      · skip
        refine lv_iconst (v := zI (-1)) C0.1 C0.2.1 dX9_heap_35 rfl ?_
        exact mm_iret (z := (-1)) C0 hr hlk hM hS dX9_heap_36 (by have he : pf_heap S a w f n t = ((-1), S) := (by unfold pf_heap; rw [if_neg (by omega)]); rw [he]; exact ⟨rfl, hSo, (fun _ _ => rfl)⟩)
      · skip
        refine lv_iload C0.1 C0.2.1 dX9_heap_20 (lv_at hl 4 rfl) ?_
        refine lv_bipush (v := zI 24) C0.1 C0.2.1 dX9_heap_22 rfl ?_
        refine z_icmp_gt (tgt := 35) C0.1 C0.2.1 dX9_heap_24 (by decide) ⟨by omega, by omega⟩ ⟨by omega, by omega⟩ (fun c_24 => ?_) (fun c_24 => ?_)
        · skip
          refine lv_iconst (v := zI (-1)) C0.1 C0.2.1 dX9_heap_35 rfl ?_
          exact mm_iret (z := (-1)) C0 hr hlk hM hS dX9_heap_36 (by have he : pf_heap S a w f n t = ((-1), S) := (by unfold pf_heap; rw [if_neg (by omega)]); rw [he]; exact ⟨rfl, hSo, (fun _ _ => rfl)⟩)
        · skip
          refine lv_iload C0.1 C0.2.1 dX9_heap_27 (lv_at hl 5 rfl) ?_
          refine mm_callSi (As := [.int (zI (t))]) C0 sw_X9_isPlace tw_274 (c_X9_isPlace l G _ (i := t) ⟨by omega, by omega⟩) hM rfl hl.1 rfl (Nat.le_of_ble_eq_true rfl) ⟨rfl, rfl, Nat.le_of_ble_eq_true rfl, Nat.le_of_ble_eq_true rfl, Nat.zero_le _, Nat.zero_le _⟩ dX9_heap_29 hS (fun z_29 E3 H locs hp hM hS => ?_)
          obtain ⟨hz_29, hEq⟩ := hp
          rw [hEq] at hM
          have hz_29b := if01 hz_29
          refine z_if_ne (tgt := 37) C0.1 C0.2.1 dX9_heap_32 (by decide) ⟨by omega, by omega⟩ (fun c_32 => ?_) (fun c_32 => ?_)
          · skip
            obtain ⟨i, hpi⟩ : ∃ i : Nat, a = (i : Int) := ⟨(a).toNat, by omega⟩
            have hi_i : i < 4 := by omega
            have ht_i : (a).toNat = i := by omega
            obtain ⟨sg_i, hs_i, hg_i⟩ := hSh i hi_i
            obtain ⟨⟨hl_i1, hl_i2⟩, ⟨he_i1, he_i2⟩, hf_i⟩ := hSk i hi_i
            obtain ⟨u, hpu⟩ : ∃ u : Nat, t = (u : Int) := ⟨(t).toNat, by omega⟩
            have hi_u : u < 8 := by omega
            have ht_u : (t).toNat = u := by omega
            refine lv_aload_n C0.1 C0.2.1 dX9_heap_37 rfl (lv_at hl 0 rfl) ?_
            refine mm_get (fs := [.ref (h + 1), .ref (h + 2), .ref (h + 3), .ref (h + 4), .ref (h + 6), .ref (h + 17), .ref (h + 30), .ref (h + 31), .ref (h + 46), .ref (h + 48), .int (zI (S.1.1))]) C0 (C := RX9) (T := TX9) (N := 11) iG_X9 hM (hO1) rfl 2 (by decide) tw_238 rfl rfl dX9_heap_38 ?_
            refine lv_iload_n C0.1 C0.2.1 dX9_heap_41 rfl (lv_at hl 1 rfl) ?_
            refine mm_aald C0 hM 3 (C := "OrangeHeaps$Sheet") (hr3) rfl (i) (i := a) (by omega) (by omega) (by decide) (v := h + 98 + 2 * i) (hf3 _ (by omega)) dX9_heap_42 ?_
            refine lv_iload_n C0.1 C0.2.1 dX9_heap_43 rfl (lv_at hl 2 rfl) ?_
            refine lv_iload_n C0.1 C0.2.1 dX9_heap_44 rfl (lv_at hl 3 rfl) ?_
            refine lv_iload C0.1 C0.2.1 dX9_heap_45 (lv_at hl 4 rfl) ?_
            refine mm_callVi (As := [.int (zI (w)), .int (zI (f)), .int (zI (n))]) C0 vw_X6_fault tw_877 (c_X6_fault l G _ hs_i (by omega) ⟨by omega, by omega⟩ (by omega) ⟨by omega, by omega⟩ ⟨by omega, by omega⟩ (by omega) (by omega)) hM (hs_i.1) rfl rfl hl.1 rfl (Nat.le_of_ble_eq_true rfl) ⟨rfl, rfl, Nat.le_of_ble_eq_true rfl, Nat.le_of_ble_eq_true rfl, Nat.zero_le _, Nat.zero_le _⟩ dX9_heap_47 hS (fun z_47 E4 H locs hp hM hS => ?_)
            obtain ⟨hz_47, hEq⟩ := hp
            rw [hEq] at hM
            refine z_asI (b := (shF (S.2.2.2.2.1 i) (S.2.2.2.2.2 i) w f n)) (hz_47) ?_
            have hfb := shF_b (ln := (S.2.2.2.2.1 i)) (len := (S.2.2.2.2.2 i)) (a := w) (i := f) (n := n)
            refine lv_istore (lv' := [(6, .int (zI ((shF (S.2.2.2.2.1 i) (S.2.2.2.2.2 i) w f n)))), (0, .ref (h)), (1, .int (zI (a))), (2, .int (zI (w))), (3, .int (zI (f))), (4, .int (zI (n))), (5, .int (zI (t)))]) C0.1 C0.2.1 dX9_heap_50 hl (by decide) rfl (fun ls hl => ?_)
            refine lv_iload C0.1 C0.2.1 dX9_heap_52 (lv_at hl 0 rfl) ?_
            refine z_if_eq (tgt := 60) C0.1 C0.2.1 dX9_heap_54 (by decide) ⟨by omega, by omega⟩ (fun c_54 => ?_) (fun c_54 => ?_)
            · skip
              have hf0 := shF_0 c_54
              have hb9 : ∀ k, k ≤ n.toNat → nl (smI (S.2.2.2.1 i) f.toNat k) ≤ 4 := fun k hk => smI_nl (by omega) (fun j hj => (hf_i (f.toNat + j) (by omega)).2)
              refine lv_aload_n C0.1 C0.2.1 dX9_heap_60 rfl (lv_at hl 1 rfl) ?_
              refine mm_get (fs := [.ref (h + 1), .ref (h + 2), .ref (h + 3), .ref (h + 4), .ref (h + 6), .ref (h + 17), .ref (h + 30), .ref (h + 31), .ref (h + 46), .ref (h + 48), .int (zI (S.1.1))]) C0 (C := RX9) (T := TX9) (N := 11) iG_X9 hM (hO1) rfl 8 (by decide) tw_244 rfl rfl dX9_heap_61 ?_
              refine lv_lconst (v := zL 0) C0.1 C0.2.1 dX9_heap_64 rfl ?_
              refine mm_callVv (As := [.long (zL (0))]) C0 vw_X8_setLong tw_277 (c_X8_setLongV l G _ (N := 0) hR46 rfl (by omega)) hM ((hR46.obj).choose_spec) rfl rfl hl.1 rfl (Nat.le_of_ble_eq_true rfl) ⟨rfl, rfl, Nat.le_of_ble_eq_true rfl, Nat.le_of_ble_eq_true rfl, Nat.zero_le _, Nat.zero_le _⟩ dX9_heap_65 hS (fun E5 H locs hp hM hS => ?_)
              obtain ⟨hW, fr⟩ := hp
              have hO1 := hO.kept hO1 (fr _ (by omega))
              have hr3 := (fr _ (by omega)).trans hr3
              have hR48 := isV.kept hR48 (fr _ (by omega)) (fr _ (by omega))
              have hs_i := sh_.kept hs_i (fr _ (by omega)) (fr _ (by omega))
              have hfr := (fun q h => (fr q (by omega)).trans (hfr q h) : ∀ q : Nat, (q < h + 46 ∨ h + 50 ≤ q) → E5 q = E0 q)
              refine lv_iconst (v := zI 0) C0.1 C0.2.1 dX9_heap_68 rfl ?_
              refine lv_istore (lv' := [(7, .int (zI (0))), (6, .int (zI ((shF (S.2.2.2.2.1 i) (S.2.2.2.2.2 i) w f n)))), (0, .ref (h)), (1, .int (zI (a))), (2, .int (zI (w))), (3, .int (zI (f))), (4, .int (zI (n))), (5, .int (zI (t)))]) C0.1 C0.2.1 dX9_heap_69 hl (by decide) rfl (fun ls hl => ?_)
              have L71 : ∀ (k71 : Nat) (j : Nat) (E6 : mE) (H : Heap) (locs : List Loc) (ls : Array Slot), (j ≤ n.toNat) → (∀ k, k < j → 0 ≤ S.2.2.2.1 i (f.toNat + k)) → (hO G E6 h S.1.1) → (E6 (h + 3) = some (mm_Q G 3 4 f3)) → (isW G E6 (h + 46) (smI (S.2.2.2.1 i) f.toNat j)) → (isV G E6 (h + 48)) → (sh_ G E6 (h + 98 + 2 * i) sg_i (S.2.2.2.2.1 i) (S.2.2.2.2.2 i)) → (∀ q : Nat, (q < h + 46 ∨ h + 50 ≤ q) → E6 q = E0 q) → n.toNat - j < k71 → mm_M G E6 H → va_S (mm_A G) s.heap H locs → lv_has ls 10 [(0, .ref (h)), (1, .int (zI (a))), (2, .int (zI (w))), (3, .int (zI (f))), (4, .int (zI (n))), (5, .int (zI (t))), (7, .int (zI ((j : Int))))] → W p l e rX9_heap s m args below meth c H locs 0 0 (mm_Zi G below args s (fun z E => z = (pf_heap S a w f n t).1 ∧ st G E h (pf_heap S a w f n t).2 ∧ ∀ q : Nat, (q < h ∨ h + 106 ≤ q) → E q = E0 q)) (F0 m 71 ls []) := by
                intro k71
                induction k71 with
                | zero => intro j E6 H locs ls hj hps hO1 hr3 hW hR48 hs_i hfr hk hM hS hl; exact absurd hk (Nat.not_lt_zero _)
                | succ k71 ih71 =>
                  intro j E6 H locs ls hj hps hO1 hr3 hW hR48 hs_i hfr hk71 hM hS hl
                  refine lv_iload C0.1 C0.2.1 dX9_heap_71 (lv_at hl 6 rfl) ?_
                  refine lv_iload C0.1 C0.2.1 dX9_heap_73 (lv_at hl 4 rfl) ?_
                  refine z_icmp_ge (tgt := 129) C0.1 C0.2.1 dX9_heap_75 (by decide) ⟨by omega, by omega⟩ ⟨by omega, by omega⟩ (fun c_75 => ?_) (fun c_75 => ?_)
                  · skip
                    have hje : j = n.toNat := by omega
                    subst hje
                    have hS1 : st G E6 h S := ⟨hSo.1.kept (fun q _ => hfr q (by omega)), hSo.2.1.kept (fun q _ => hfr q (by omega)), hSo.2.2.1.kept (fun q _ => hfr q (by omega)), hSo.2.2.2.1.kept (hfr _ (by omega)), hSo.2.2.2.2.1.kept (fun q _ => hfr q (by omega)), hW.v, hR48⟩
                    have hg := hfr
                    refine lv_aload_n C0.1 C0.2.1 dX9_heap_129 rfl (lv_at hl 0 rfl) ?_
                    refine lv_iload C0.1 C0.2.1 dX9_heap_130 (lv_at hl 5 rfl) ?_
                    refine lv_aload_n C0.1 C0.2.1 dX9_heap_132 rfl (lv_at hl 0 rfl) ?_
                    refine mm_get (fs := [.ref (h + 1), .ref (h + 2), .ref (h + 3), .ref (h + 4), .ref (h + 6), .ref (h + 17), .ref (h + 30), .ref (h + 31), .ref (h + 46), .ref (h + 48), .int (zI (S.1.1))]) C0 (C := RX9) (T := TX9) (N := 11) iG_X9 hM (hO1) rfl 8 (by decide) tw_244 rfl rfl dX9_heap_133 ?_
                    refine mm_callVi (As := [.int (zI (t)), .ref (h + 46)]) C0 vw_X9_land tw_296 (c_X9_land l G _ hS1 u hpu hi_u hW (by omega)) hM (hO1) rfl rfl hl.1 rfl (Nat.le_of_ble_eq_true rfl) ⟨rfl, rfl, Nat.le_of_ble_eq_true rfl, Nat.le_of_ble_eq_true rfl, Nat.zero_le _, Nat.zero_le _⟩ dX9_heap_136 hS (fun z9 E7 H locs hp hM hS => ?_)
                    obtain ⟨hz9, hS2, -, fr⟩ := hp
                    have hO1 := hO.kept hO1 (fr _ (by omega))
                    have hr3 := (fr _ (by omega)).trans hr3
                    have hR48 := isV.kept hR48 (fr _ (by omega)) (fr _ (by omega))
                    have hs_i := sh_.kept hs_i (fr _ (by omega)) (fr _ (by omega))
                    exact mm_iret (z := z9) C0 hr hlk hM hS dX9_heap_139 (by have he : pf_heap S a w f n t = (lanZ (smI (S.2.2.2.1 i) f.toNat n.toNat), lanS S u (smI (S.2.2.2.1 i) f.toNat n.toNat)) := (by unfold pf_heap; rw [if_pos (by omega), ht_i, ht_u, if_neg (fun q => q c_54), if_pos (bq_t hps)]); rw [he]; exact ⟨hz9, hS2, fun q h => (fr q (by omega)).trans (hg q (by omega))⟩)
                  · skip
                    refine lv_aload_n C0.1 C0.2.1 dX9_heap_78 rfl (lv_at hl 0 rfl) ?_
                    refine mm_get (fs := [.ref (h + 1), .ref (h + 2), .ref (h + 3), .ref (h + 4), .ref (h + 6), .ref (h + 17), .ref (h + 30), .ref (h + 31), .ref (h + 46), .ref (h + 48), .int (zI (S.1.1))]) C0 (C := RX9) (T := TX9) (N := 11) iG_X9 hM (hO1) rfl 2 (by decide) tw_238 rfl rfl dX9_heap_79 ?_
                    refine lv_iload_n C0.1 C0.2.1 dX9_heap_82 rfl (lv_at hl 1 rfl) ?_
                    refine mm_aald C0 hM 3 (C := "OrangeHeaps$Sheet") (hr3) rfl (i) (i := a) (by omega) (by omega) (by decide) (v := h + 98 + 2 * i) (hf3 _ (by omega)) dX9_heap_83 ?_
                    refine lv_iload_n C0.1 C0.2.1 dX9_heap_84 rfl (lv_at hl 3 rfl) ?_
                    refine lv_iload C0.1 C0.2.1 dX9_heap_85 (lv_at hl 6 rfl) ?_
                    refine z_iadd C0.1 C0.2.1 dX9_heap_87 ?_
                    refine z_asI (a := ((f) + ((j : Int)))) (b := ((f.toNat + j : Nat) : Int)) (by omega) ?_
                    refine mm_callVl (As := [.int (zI (((f.toNat + j : Nat) : Int)))]) C0 vw_X6_itemAt tw_881 (c_X6_itemAt l G _ hs_i (i := f.toNat + j) (by omega)) hM (hs_i.1) rfl rfl hl.1 rfl (Nat.le_of_ble_eq_true rfl) ⟨rfl, rfl, Nat.le_of_ble_eq_true rfl, Nat.le_of_ble_eq_true rfl, Nat.zero_le _, Nat.zero_le _⟩ dX9_heap_88 hS (fun z_88 E8 H locs hp hM hS => ?_)
                    obtain ⟨hz_88, hEq⟩ := hp
                    rw [hEq] at hM
                    refine z_asL (b := (sg_i (f.toNat + j))) (hz_88) ?_
                    have hgj := hg_i (f.toNat + j) (by omega)
                    obtain ⟨hgr1, hgr2⟩ := hf_i (f.toNat + j) (by omega)
                    refine lv_lstore (lv' := [(8, .long (zL ((sg_i (f.toNat + j))))), (0, .ref (h)), (1, .int (zI (a))), (2, .int (zI (w))), (3, .int (zI (f))), (4, .int (zI (n))), (5, .int (zI (t))), (7, .int (zI ((j : Int))))]) C0.1 C0.2.1 dX9_heap_91 hl (by decide) rfl (fun ls hl => ?_)
                    refine lv_lload C0.1 C0.2.1 dX9_heap_93 (lv_at hl 0 rfl) ?_
                    refine lv_lconst (v := zL 0) C0.1 C0.2.1 dX9_heap_95 rfl ?_
                    refine z_lcmp_ge (tgt := 103) C0.1 C0.2.1 dX9_heap_96 dX9_heap_97 (by decide) ⟨by omega, by omega⟩ ⟨by omega, by omega⟩ (fun c_96 => ?_) (fun c_96 => ?_)
                    · skip
                      have hb10 := hb9 j (by omega)
                      have hb11 := nlL (N := (S.2.2.2.1 i (f.toNat + j)).toNat) (by omega)
                      refine lv_aload_n C0.1 C0.2.1 dX9_heap_103 rfl (lv_at hl 1 rfl) ?_
                      refine mm_get (fs := [.ref (h + 1), .ref (h + 2), .ref (h + 3), .ref (h + 4), .ref (h + 6), .ref (h + 17), .ref (h + 30), .ref (h + 31), .ref (h + 46), .ref (h + 48), .int (zI (S.1.1))]) C0 (C := RX9) (T := TX9) (N := 11) iG_X9 hM (hO1) rfl 9 (by decide) tw_245 rfl rfl dX9_heap_104 ?_
                      refine lv_lload C0.1 C0.2.1 dX9_heap_107 (lv_at hl 0 rfl) ?_
                      refine mm_callVv (As := [.long (zL ((sg_i (f.toNat + j))))]) C0 vw_X8_setLong tw_277 (c_X8_setLongV l G _ (N := (S.2.2.2.1 i (f.toNat + j)).toNat) hR48 (by omega) (by omega)) hM ((hR48.obj).choose_spec) rfl rfl hl.1 rfl (Nat.le_of_ble_eq_true rfl) ⟨rfl, rfl, Nat.le_of_ble_eq_true rfl, Nat.le_of_ble_eq_true rfl, Nat.zero_le _, Nat.zero_le _⟩ dX9_heap_109 hS (fun E9 H locs hp hM hS => ?_)
                      obtain ⟨hY, fr⟩ := hp
                      have hO1 := hO.kept hO1 (fr _ (by omega))
                      have hr3 := (fr _ (by omega)).trans hr3
                      have hW := isW.kept hW (fr _ (by omega)) (fr _ (by omega))
                      have hs_i := sh_.kept hs_i (fr _ (by omega)) (fr _ (by omega))
                      have hfr := (fun q h => (fr q (by omega)).trans (hfr q h) : ∀ q : Nat, (q < h + 46 ∨ h + 50 ≤ q) → E9 q = E0 q)
                      refine lv_aload_n C0.1 C0.2.1 dX9_heap_112 rfl (lv_at hl 1 rfl) ?_
                      refine mm_get (fs := [.ref (h + 1), .ref (h + 2), .ref (h + 3), .ref (h + 4), .ref (h + 6), .ref (h + 17), .ref (h + 30), .ref (h + 31), .ref (h + 46), .ref (h + 48), .int (zI (S.1.1))]) C0 (C := RX9) (T := TX9) (N := 11) iG_X9 hM (hO1) rfl 8 (by decide) tw_244 rfl rfl dX9_heap_113 ?_
                      refine lv_aload_n C0.1 C0.2.1 dX9_heap_116 rfl (lv_at hl 1 rfl) ?_
                      refine mm_get (fs := [.ref (h + 1), .ref (h + 2), .ref (h + 3), .ref (h + 4), .ref (h + 6), .ref (h + 17), .ref (h + 30), .ref (h + 31), .ref (h + 46), .ref (h + 48), .int (zI (S.1.1))]) C0 (C := RX9) (T := TX9) (N := 11) iG_X9 hM (hO1) rfl 9 (by decide) tw_245 rfl rfl dX9_heap_117 ?_
                      refine mm_callVv (As := [.ref (h + 48)]) C0 vw_X8_add tw_461 (c_X8_add l G _ hW hY (by omega) (by omega) (by omega)) hM ((hW.v.obj).choose_spec) rfl rfl hl.1 rfl (Nat.le_of_ble_eq_true rfl) ⟨rfl, rfl, Nat.le_of_ble_eq_true rfl, Nat.le_of_ble_eq_true rfl, Nat.zero_le _, Nat.zero_le _⟩ dX9_heap_120 hS (fun E10 H locs hp hM hS => ?_)
                      obtain ⟨hW, fr⟩ := hp
                      have hO1 := hO.kept hO1 (fr _ (by omega))
                      have hr3 := (fr _ (by omega)).trans hr3
                      have hs_i := sh_.kept hs_i (fr _ (by omega)) (fr _ (by omega))
                      have hfr := (fun q h => (fr q (by omega)).trans (hfr q h) : ∀ q : Nat, (q < h + 46 ∨ h + 50 ≤ q) → E10 q = E0 q)
                      have hY := isW.kept hY (fr _ (by omega)) (fr _ (by omega))
                      have hR48 := hY.v
                      refine lv_iinc (v := zI (((j + 1 : Nat) : Int))) (lv' := [(7, .int (zI (((j + 1 : Nat) : Int)))), (8, .long (zL ((sg_i (f.toNat + j))))), (0, .ref (h)), (1, .int (zI (a))), (2, .int (zI (w))), (3, .int (zI (f))), (4, .int (zI (n))), (5, .int (zI (t)))]) C0.1 C0.2.1 dX9_heap_123 hl (k := 7) rfl (z_inc (a := (j : Int)) (n := 1) (by omega)) (by decide) rfl (fun ls hl => ?_)
                      refine lv_goto (tgt := 71) C0.1 C0.2.1 dX9_heap_126 (by decide) ?_
                      exact ih71  (j + 1) E10 _ _ _ (by omega) (fun k hk => if q : k = j then (by subst q; omega) else hps k (by omega)) (hO1) (hr3) (hW) (hR48) (hs_i) (hfr) (by omega) hM hS (lv_sub hl [2, 3, 4, 5, 6, 7, 0] rfl)
                    · skip
                      refine lv_bipush (v := zI (-2)) C0.1 C0.2.1 dX9_heap_100 rfl ?_
                      exact mm_iret (z := (-2)) C0 hr hlk hM hS dX9_heap_102 (by have he : pf_heap S a w f n t = (-2, S) := (by unfold pf_heap; rw [if_pos (by omega), ht_i, if_neg (fun q => q c_54), if_neg (fun q => by have q9 := bq_y q j (by omega); omega)]); rw [he]; exact ⟨rfl, ⟨hSo.1.kept (fun q _ => hfr q (by omega)), hSo.2.1.kept (fun q _ => hfr q (by omega)), hSo.2.2.1.kept (fun q _ => hfr q (by omega)), hSo.2.2.2.1.kept (hfr _ (by omega)), hSo.2.2.2.2.1.kept (fun q _ => hfr q (by omega)), hW.v, hR48⟩, fun q h => hfr q (by omega)⟩)
              exact L71 (_ + 1) 0 E5 _ _ _ (Nat.zero_le _) (fun k hk => absurd hk (Nat.not_lt_zero _)) (hO1) (hr3) (hW) (hR48) (hs_i) (hfr) (Nat.lt_succ_self _) hM hS (lv_sub hl [2, 3, 4, 5, 6, 7, 0] rfl)
            · skip
              refine lv_iload C0.1 C0.2.1 dX9_heap_57 (lv_at hl 0 rfl) ?_
              exact mm_iret (z := (shF (S.2.2.2.2.1 i) (S.2.2.2.2.2 i) w f n)) C0 hr hlk hM hS dX9_heap_59 (by have he : pf_heap S a w f n t = ((shF (S.2.2.2.2.1 i) (S.2.2.2.2.2 i) w f n), S) := (by unfold pf_heap; rw [if_pos (by omega), ht_i, if_pos c_54]); rw [he]; exact ⟨rfl, hSo, (fun _ _ => rfl)⟩)
          · skip
            refine lv_iconst (v := zI (-1)) C0.1 C0.2.1 dX9_heap_35 rfl ?_
            exact mm_iret (z := (-1)) C0 hr hlk hM hS dX9_heap_36 (by have he : pf_heap S a w f n t = ((-1), S) := (by unfold pf_heap; rw [if_neg (by omega)]); rw [he]; exact ⟨rfl, hSo, (fun _ _ => rfl)⟩)

def rX9_film : Room := { frames := 1, cells := 0, slots := 0, locals := 23 }
theorem vw_X9_film : mm_Vw RX9 yX9_film cX9_film 9 (some .int) 4 := ⟨tw_906, tw_907, tw_1, tw_908, by decide +kernel⟩
set_option maxHeartbeats 4000000 in
set_option maxRecDepth 100000 in
theorem c_X9_film (l : Launch) (G : mG) (E0 : mE) {h : Nat} {S : mST} (hS9 : st G E0 h S) {pp a w f : Int} (hr_pp : rI pp) (hr_a : rI a) (hr_w : rI w) (hr_f : rI f) : mm_Ci l yX9_film (.code yX9_film cX9_film 9 (some .int) :: wsG) rX9_film G [.ref (h), .int (zI (pp)), .int (zI (a)), .int (zI (w)), .int (zI (f))] E0 (fun z E => z = (pf_film S pp a w f).1 ∧ st G E h (pf_film S pp a w f).2 ∧ ∀ q : Nat, (q < h ∨ h + 106 ≤ q) → E q = E0 q) := by
  refine mm_of_i (by decide +kernel) (Nat.le_of_ble_eq_true rfl) ?_
  intro p e s m args below meth c ls C0 hr hlk hM hl hS
  have hl : lv_has ls 9 [(0, .ref (h)), (1, .int (zI (pp))), (2, .int (zI (a))), (3, .int (zI (w))), (4, .int (zI (f)))] := hl
  obtain ⟨hr_pp1, hr_pp2⟩ := hr_pp
  obtain ⟨hr_a1, hr_a2⟩ := hr_a
  obtain ⟨hr_w1, hr_w2⟩ := hr_w
  obtain ⟨hr_f1, hr_f2⟩ := hr_f
  have hSo := hS9
  obtain ⟨⟨hO1, ⟨f1, f2, f3, hr1, hr2, hr3, hf1, hf2, hf3⟩, ⟨hTp, hTk⟩, ⟨hPl, hPk⟩, ⟨hKl, hKk⟩, ⟨hSh, hSk⟩⟩, hSc⟩ := hS9
  refine lv_iload_n C0.1 C0.2.1 dX9_film_0 rfl (lv_at hl 1 rfl) ?_
  refine mm_callSi (As := [.int (zI (pp))]) C0 sw_X9_isPlace tw_274 (c_X9_isPlace l G _ (i := pp) ⟨by omega, by omega⟩) hM rfl hl.1 rfl (Nat.le_of_ble_eq_true rfl) ⟨rfl, rfl, Nat.le_of_ble_eq_true rfl, Nat.le_of_ble_eq_true rfl, Nat.zero_le _, Nat.zero_le _⟩ dX9_film_1 hS (fun z_1 E1 H locs hp hM hS => ?_)
  obtain ⟨hz_1, hEq⟩ := hp
  rw [hEq] at hM
  have hz_1b := if01 hz_1
  refine z_if_eq (tgt := 21) C0.1 C0.2.1 dX9_film_4 (by decide) ⟨by omega, by omega⟩ (fun c_4 => ?_) (fun c_4 => ?_)
  · skip
    refine lv_iconst (v := zI (-1)) C0.1 C0.2.1 dX9_film_21 rfl ?_
    exact mm_iret (z := (-1)) C0 hr hlk hM hS dX9_film_22 (by have he : pf_film S pp a w f = ((-1), S) := (by unfold pf_film; rw [if_neg (by omega)]); rw [he]; exact ⟨rfl, hSo, (fun _ _ => rfl)⟩)
  · skip
    refine lv_iload_n C0.1 C0.2.1 dX9_film_7 rfl (lv_at hl 2 rfl) ?_
    refine mm_callSi (As := [.int (zI (a))]) C0 sw_X9_isSheet tw_871 (c_X9_isSheet l G _ (i := a) ⟨by omega, by omega⟩) hM rfl hl.1 rfl (Nat.le_of_ble_eq_true rfl) ⟨rfl, rfl, Nat.le_of_ble_eq_true rfl, Nat.le_of_ble_eq_true rfl, Nat.zero_le _, Nat.zero_le _⟩ dX9_film_8 hS (fun z_8 E2 H locs hp hM hS => ?_)
    obtain ⟨hz_8, hEq⟩ := hp
    rw [hEq] at hM
    have hz_8b := if01 hz_8
    refine z_if_eq (tgt := 21) C0.1 C0.2.1 dX9_film_11 (by decide) ⟨by omega, by omega⟩ (fun c_11 => ?_) (fun c_11 => ?_)
    · skip
      refine lv_iconst (v := zI (-1)) C0.1 C0.2.1 dX9_film_21 rfl ?_
      exact mm_iret (z := (-1)) C0 hr hlk hM hS dX9_film_22 (by have he : pf_film S pp a w f = ((-1), S) := (by unfold pf_film; rw [if_neg (by omega)]); rw [he]; exact ⟨rfl, hSo, (fun _ _ => rfl)⟩)
    · skip
      refine lv_iload_n C0.1 C0.2.1 dX9_film_14 rfl (lv_at hl 3 rfl) ?_
      refine mm_callSi (As := [.int (zI (w))]) C0 sw_X9_isLane tw_874 (c_X9_isLane l G _ (i := w) ⟨by omega, by omega⟩) hM rfl hl.1 rfl (Nat.le_of_ble_eq_true rfl) ⟨rfl, rfl, Nat.le_of_ble_eq_true rfl, Nat.le_of_ble_eq_true rfl, Nat.zero_le _, Nat.zero_le _⟩ dX9_film_15 hS (fun z_15 E3 H locs hp hM hS => ?_)
      obtain ⟨hz_15, hEq⟩ := hp
      rw [hEq] at hM
      have hz_15b := if01 hz_15
      refine z_if_ne (tgt := 23) C0.1 C0.2.1 dX9_film_18 (by decide) ⟨by omega, by omega⟩ (fun c_18 => ?_) (fun c_18 => ?_)
      · skip
        obtain ⟨i, hpi⟩ : ∃ i : Nat, pp = (i : Int) := ⟨(pp).toNat, by omega⟩
        have hi_i : i < 8 := by omega
        have ht_i : (pp).toNat = i := by omega
        obtain ⟨hp_i, hw_i⟩ := hPl i hi_i
        obtain ⟨ho_i1, ho_i2, ho_i3, ho_i4⟩ := hPk i hi_i
        obtain ⟨j, hpj⟩ : ∃ j : Nat, a = (j : Int) := ⟨(a).toNat, by omega⟩
        have hi_j : j < 4 := by omega
        have ht_j : (a).toNat = j := by omega
        obtain ⟨sg_j, hs_j, hg_j⟩ := hSh j hi_j
        obtain ⟨⟨hl_j1, hl_j2⟩, ⟨he_j1, he_j2⟩, hf_j⟩ := hSk j hi_j
        refine lv_aload_n C0.1 C0.2.1 dX9_film_23 rfl (lv_at hl 0 rfl) ?_
        refine lv_iload_n C0.1 C0.2.1 dX9_film_24 rfl (lv_at hl 1 rfl) ?_
        refine mm_callVi (As := [.int (zI (pp))]) C0 vw_X9_numberFault tw_385 (c_X9_numberFault l G _ hSo i hpi hi_i) hM (hO1) rfl rfl hl.1 rfl (Nat.le_of_ble_eq_true rfl) ⟨rfl, rfl, Nat.le_of_ble_eq_true rfl, Nat.le_of_ble_eq_true rfl, Nat.zero_le _, Nat.zero_le _⟩ dX9_film_25 hS (fun z_25 E4 H locs hp hM hS => ?_)
        obtain ⟨hz_25, hEq⟩ := hp
        rw [hEq] at hM
        refine z_asI (b := (nFau (S.2.1.1 i))) (hz_25) ?_
        have hnb := nFau_b (S.2.1.1 i)
        refine lv_istore (lv' := [(5, .int (zI ((nFau (S.2.1.1 i))))), (0, .ref (h)), (1, .int (zI (pp))), (2, .int (zI (a))), (3, .int (zI (w))), (4, .int (zI (f)))]) C0.1 C0.2.1 dX9_film_28 hl (by decide) rfl (fun ls hl => ?_)
        refine lv_iload C0.1 C0.2.1 dX9_film_30 (lv_at hl 0 rfl) ?_
        refine z_if_eq (tgt := 38) C0.1 C0.2.1 dX9_film_32 (by decide) ⟨by omega, by omega⟩ (fun c_32 => ?_) (fun c_32 => ?_)
        · skip
          refine lv_aload_n C0.1 C0.2.1 dX9_film_38 rfl (lv_at hl 1 rfl) ?_
          refine mm_get (fs := [.ref (h + 1), .ref (h + 2), .ref (h + 3), .ref (h + 4), .ref (h + 6), .ref (h + 17), .ref (h + 30), .ref (h + 31), .ref (h + 46), .ref (h + 48), .int (zI (S.1.1))]) C0 (C := RX9) (T := TX9) (N := 11) iG_X9 hM (hO1) rfl 0 (by decide) tw_236 rfl rfl dX9_film_39 ?_
          refine lv_iload_n C0.1 C0.2.1 dX9_film_42 rfl (lv_at hl 2 rfl) ?_
          refine mm_aald C0 hM 2 (C := "OrangeHeaps$Place") (hr1) rfl (i) (i := pp) (by omega) (by omega) (by decide) (v := h + 50 + 6 * i) (hf1 _ (by omega)) dX9_film_43 ?_
          refine mm_get (fs := [.int (zI (((S.2.1.1 i : Nat) : Int))), .int (zI (((S.2.1.2.1 i : Nat) : Int))), .ref (h + 50 + 6 * i + 1)]) C0 (C := RX3) (T := TX3) (N := 3) iG_X3 hM (hp_i) rfl 2 (by decide) tw_212 rfl rfl dX9_film_44 ?_
          refine lv_astore (lv' := [(6, .ref (h + 50 + 6 * i + 1)), (5, .int (zI ((nFau (S.2.1.1 i))))), (0, .ref (h)), (1, .int (zI (pp))), (2, .int (zI (a))), (3, .int (zI (w))), (4, .int (zI (f)))]) C0.1 C0.2.1 dX9_film_47 hl (by decide) rfl (fun ls hl => ?_)
          refine lv_iconst (v := zI 1) C0.1 C0.2.1 dX9_film_49 rfl ?_
          refine lv_aload C0.1 C0.2.1 dX9_film_50 (lv_at hl 0 rfl) ?_
          refine mm_get (fs := [.ref (h + 50 + 6 * i + 1 + 1), .int (zI (((nl (S.2.1.2.2 i) : Nat) : Int)))]) C0 (C := RX8) (T := TX8) (N := 2) iG_X8 hM (hw_i.obj) rfl 1 (by decide) tw_85 rfl rfl dX9_film_52 ?_
          have hfl : flN (S.2.1.2.2 i) = max 1 (nl (S.2.1.2.2 i)) := rfl
          have hfl2 : nl (S.2.1.2.2 i) ≤ 24 := ho_i4
          refine z_imax C0.1 C0.2.1 (C0.2.2.1.trans hl.1.symm) C0.2.2.2.1 (C0.2.2.2.2.1 _ tml_tw_909) (C0.2.2.2.2.1 _ tms_max) (C0.2.2.2.2.1 _ tmi) (C0.2.2.2.2.1 _ tmc_max) (Nat.le_of_ble_eq_true rfl) (Nat.le_of_ble_eq_true rfl) (Nat.zero_le _) (Nat.zero_le _) ⟨by omega, by omega⟩ ⟨by omega, by omega⟩ dX9_film_55 ?_
          refine z_asI (a := (max (1) (((nl (S.2.1.2.2 i) : Nat) : Int)))) (b := ((flN (S.2.1.2.2 i) : Nat) : Int)) (by omega) ?_
          refine lv_istore (lv' := [(7, .int (zI (((flN (S.2.1.2.2 i) : Nat) : Int)))), (6, .ref (h + 50 + 6 * i + 1)), (5, .int (zI ((nFau (S.2.1.1 i))))), (0, .ref (h)), (1, .int (zI (pp))), (2, .int (zI (a))), (3, .int (zI (w))), (4, .int (zI (f)))]) C0.1 C0.2.1 dX9_film_58 hl (by decide) rfl (fun ls hl => ?_)
          refine lv_aload_n C0.1 C0.2.1 dX9_film_60 rfl (lv_at hl 3 rfl) ?_
          refine mm_get (fs := [.ref (h + 1), .ref (h + 2), .ref (h + 3), .ref (h + 4), .ref (h + 6), .ref (h + 17), .ref (h + 30), .ref (h + 31), .ref (h + 46), .ref (h + 48), .int (zI (S.1.1))]) C0 (C := RX9) (T := TX9) (N := 11) iG_X9 hM (hO1) rfl 2 (by decide) tw_238 rfl rfl dX9_film_61 ?_
          refine lv_iload_n C0.1 C0.2.1 dX9_film_64 rfl (lv_at hl 5 rfl) ?_
          refine mm_aald C0 hM 3 (C := "OrangeHeaps$Sheet") (hr3) rfl (j) (i := a) (by omega) (by omega) (by decide) (v := h + 98 + 2 * j) (hf3 _ (by omega)) dX9_film_65 ?_
          refine lv_iload_n C0.1 C0.2.1 dX9_film_66 rfl (lv_at hl 6 rfl) ?_
          refine lv_iload C0.1 C0.2.1 dX9_film_67 (lv_at hl 7 rfl) ?_
          refine lv_iload C0.1 C0.2.1 dX9_film_69 (lv_at hl 0 rfl) ?_
          refine mm_callVi (As := [.int (zI (w)), .int (zI (f)), .int (zI (((flN (S.2.1.2.2 i) : Nat) : Int)))]) C0 vw_X6_fault tw_877 (c_X6_fault l G _ hs_j (by omega) ⟨by omega, by omega⟩ (by omega) ⟨by omega, by omega⟩ ⟨by omega, by omega⟩ (by omega) (by omega)) hM (hs_j.1) rfl rfl hl.1 rfl (Nat.le_of_ble_eq_true rfl) ⟨rfl, rfl, Nat.le_of_ble_eq_true rfl, Nat.le_of_ble_eq_true rfl, Nat.zero_le _, Nat.zero_le _⟩ dX9_film_71 hS (fun z_71 E5 H locs hp hM hS => ?_)
          obtain ⟨hz_71, hEq⟩ := hp
          rw [hEq] at hM
          refine z_asI (b := (shF (S.2.2.2.2.1 j) (S.2.2.2.2.2 j) w f ((flN (S.2.1.2.2 i) : Nat) : Int))) (hz_71) ?_
          have hfb := shF_b (ln := S.2.2.2.2.1 j) (len := S.2.2.2.2.2 j) (a := w) (i := f) (n := ((flN (S.2.1.2.2 i) : Nat) : Int))
          refine lv_istore (lv' := [(5, .int (zI ((shF (S.2.2.2.2.1 j) (S.2.2.2.2.2 j) w f ((flN (S.2.1.2.2 i) : Nat) : Int))))), (7, .int (zI (((flN (S.2.1.2.2 i) : Nat) : Int)))), (6, .ref (h + 50 + 6 * i + 1)), (0, .ref (h)), (1, .int (zI (pp))), (2, .int (zI (a))), (3, .int (zI (w))), (4, .int (zI (f)))]) C0.1 C0.2.1 dX9_film_74 hl (by decide) rfl (fun ls hl => ?_)
          refine lv_iload C0.1 C0.2.1 dX9_film_76 (lv_at hl 0 rfl) ?_
          refine z_if_eq (tgt := 84) C0.1 C0.2.1 dX9_film_78 (by decide) ⟨by omega, by omega⟩ (fun c_78 => ?_) (fun c_78 => ?_)
          · skip
            have hf0 := shF_0 c_78
            refine lv_iconst (v := zI 0) C0.1 C0.2.1 dX9_film_84 rfl ?_
            refine lv_istore (lv' := [(8, .int (zI (0))), (5, .int (zI ((shF (S.2.2.2.2.1 j) (S.2.2.2.2.2 j) w f ((flN (S.2.1.2.2 i) : Nat) : Int))))), (7, .int (zI (((flN (S.2.1.2.2 i) : Nat) : Int)))), (6, .ref (h + 50 + 6 * i + 1)), (0, .ref (h)), (1, .int (zI (pp))), (2, .int (zI (a))), (3, .int (zI (w))), (4, .int (zI (f)))]) C0.1 C0.2.1 dX9_film_85 hl (by decide) rfl (fun ls hl => ?_)
            have L87 : ∀ (k87 : Nat) (k : Nat) (sg : Nat → Int) (E6 : mE) (H : Heap) (locs : List Loc) (ls : Array Slot), (k ≤ flN (S.2.1.2.2 i)) → (∀ x, x < 24 → sg x = flU (S.2.2.2.1 j) (S.2.2.2.2.1 j) f.toNat (S.2.1.2.2 i) k x) → (hO G E6 h S.1.1) → (E6 (h + 3) = some (mm_Q G 3 4 f3)) → (isW G E6 (h + 50 + 6 * i + 1) (S.2.1.2.2 i)) → (sh_ G E6 (h + 98 + 2 * j) sg (S.2.2.2.2.1 j) (S.2.2.2.2.2 j)) → (∀ q : Nat, (q < h + 98 + 2 * j ∨ h + 98 + 2 * j + 2 ≤ q) → E6 q = E0 q) → flN (S.2.1.2.2 i) - k < k87 → mm_M G E6 H → va_S (mm_A G) s.heap H locs → lv_has ls 9 [(0, .ref (h)), (2, .int (zI (a))), (4, .int (zI (f))), (6, .ref (h + 50 + 6 * i + 1)), (7, .int (zI (((flN (S.2.1.2.2 i) : Nat) : Int)))), (8, .int (zI ((k : Int))))] → W p l e rX9_film s m args below meth c H locs 0 0 (mm_Zi G below args s (fun z E => z = (pf_film S pp a w f).1 ∧ st G E h (pf_film S pp a w f).2 ∧ ∀ q : Nat, (q < h ∨ h + 106 ≤ q) → E q = E0 q)) (F0 m 87 ls []) := by
              intro k87
              induction k87 with
              | zero => intro k sg E6 H locs ls hk9 hag hO1 hr3 hw_i hs_j hfr hk hM hS hl; exact absurd hk (Nat.not_lt_zero _)
              | succ k87 ih87 =>
                intro k sg E6 H locs ls hk9 hag hO1 hr3 hw_i hs_j hfr hk87 hM hS hl
                refine lv_iload C0.1 C0.2.1 dX9_film_87 (lv_at hl 5 rfl) ?_
                refine lv_iload C0.1 C0.2.1 dX9_film_89 (lv_at hl 4 rfl) ?_
                refine z_icmp_ge (tgt := 121) C0.1 C0.2.1 dX9_film_91 (by decide) ⟨by omega, by omega⟩ ⟨by omega, by omega⟩ (fun c_91 => ?_) (fun c_91 => ?_)
                · skip
                  have hke : k = flN (S.2.1.2.2 i) := by omega
                  subst hke
                  refine lv_iload C0.1 C0.2.1 dX9_film_121 (lv_at hl 4 rfl) ?_
                  exact mm_iret (z := ((flN (S.2.1.2.2 i) : Nat) : Int)) C0 hr hlk hM hS dX9_film_123 (by have he : pf_film S pp a w f = (((flN (S.2.1.2.2 i) : Nat) : Int), shPut S j (flU (S.2.2.2.1 j) (S.2.2.2.2.1 j) f.toNat (S.2.1.2.2 i) (flN (S.2.1.2.2 i))) (S.2.2.2.2.1 j) (S.2.2.2.2.2 j)) := (by unfold pf_film; rw [if_pos (by omega), ht_i, ht_j, if_neg (fun q => q c_32), if_neg (fun q => q c_78)]); rw [he]; exact ⟨rfl, hSo.sht hi_j hs_j hag ⟨hl_j1, hl_j2⟩ ⟨he_j1, he_j2⟩ (flU_r hf_j _) hfr, fun q h => hfr q (by omega)⟩)
                · skip
                  refine lv_aload_n C0.1 C0.2.1 dX9_film_94 rfl (lv_at hl 0 rfl) ?_
                  refine mm_get (fs := [.ref (h + 1), .ref (h + 2), .ref (h + 3), .ref (h + 4), .ref (h + 6), .ref (h + 17), .ref (h + 30), .ref (h + 31), .ref (h + 46), .ref (h + 48), .int (zI (S.1.1))]) C0 (C := RX9) (T := TX9) (N := 11) iG_X9 hM (hO1) rfl 2 (by decide) tw_238 rfl rfl dX9_film_95 ?_
                  refine lv_iload_n C0.1 C0.2.1 dX9_film_98 rfl (lv_at hl 1 rfl) ?_
                  refine mm_aald C0 hM 3 (C := "OrangeHeaps$Sheet") (hr3) rfl (j) (i := a) (by omega) (by omega) (by decide) (v := h + 98 + 2 * j) (hf3 _ (by omega)) dX9_film_99 ?_
                  refine lv_iload C0.1 C0.2.1 dX9_film_100 (lv_at hl 2 rfl) ?_
                  refine lv_iload C0.1 C0.2.1 dX9_film_102 (lv_at hl 5 rfl) ?_
                  refine z_iadd C0.1 C0.2.1 dX9_film_104 ?_
                  refine z_asI (a := ((f) + ((k : Int)))) (b := ((f.toNat + k : Nat) : Int)) (by omega) ?_
                  refine lv_aload C0.1 C0.2.1 dX9_film_105 (lv_at hl 3 rfl) ?_
                  refine lv_iload C0.1 C0.2.1 dX9_film_107 (lv_at hl 5 rfl) ?_
                  refine mm_callVl (As := [.int (zI ((k : Int)))]) C0 vw_X8_limb tw_393 (c_X8_limbW l G _ hw_i k rfl ⟨by omega, by omega⟩) hM (hw_i.obj) rfl rfl hl.1 rfl (Nat.le_of_ble_eq_true rfl) ⟨rfl, rfl, Nat.le_of_ble_eq_true rfl, Nat.le_of_ble_eq_true rfl, Nat.zero_le _, Nat.zero_le _⟩ dX9_film_109 hS (fun z_109 E7 H locs hp hM hS => ?_)
                  obtain ⟨hz_109, hEq⟩ := hp
                  rw [hEq] at hM
                  refine z_asL (b := (dg (S.2.1.2.2 i) k : Int)) (hz_109) ?_
                  have hdk := dg_lt (S.2.1.2.2 i) k
                  refine mm_callVv (As := [.int (zI (((f.toNat + k : Nat) : Int))), .long (zL ((dg (S.2.1.2.2 i) k : Int)))]) C0 vw_X6_write tw_901 (c_X6_write l G _ hs_j (i := f.toNat + k) (by omega) ⟨by omega, by omega⟩) hM (hs_j.1) rfl rfl hl.1 rfl (Nat.le_of_ble_eq_true rfl) ⟨rfl, rfl, Nat.le_of_ble_eq_true rfl, Nat.le_of_ble_eq_true rfl, Nat.zero_le _, Nat.zero_le _⟩ dX9_film_112 hS (fun E8 H locs hp hM hS => ?_)
                  obtain ⟨hs_j, fr⟩ := hp
                  have hO1 := hO.kept hO1 (fr _ (by omega))
                  have hr3 := (fr _ (by omega)).trans hr3
                  have hw_i := isW.kept hw_i (fr _ (by omega)) (fr _ (by omega))
                  have hfr := (fun q h => (fr q (by omega)).trans (hfr q h) : ∀ q : Nat, (q < h + 98 + 2 * j ∨ h + 98 + 2 * j + 2 ≤ q) → E8 q = E0 q)
                  refine lv_iinc (v := zI (((k + 1 : Nat) : Int))) (lv' := [(8, .int (zI (((k + 1 : Nat) : Int)))), (0, .ref (h)), (2, .int (zI (a))), (4, .int (zI (f))), (6, .ref (h + 50 + 6 * i + 1)), (7, .int (zI (((flN (S.2.1.2.2 i) : Nat) : Int))))]) C0.1 C0.2.1 dX9_film_115 hl (k := 5) rfl (z_inc (a := (k : Int)) (n := 1) (by omega)) (by decide) rfl (fun ls hl => ?_)
                  refine lv_goto (tgt := 87) C0.1 C0.2.1 dX9_film_118 (by decide) ?_
                  exact ih87  (k + 1) (zup sg (f.toNat + k) (asLn (S.2.2.2.2.1 j) (dg (S.2.1.2.2 i) k : Int))) E8 _ _ _ (by omega) (zup_ag hag) (hO1) (hr3) (hw_i) (hs_j) (hfr) (by omega) hM hS (lv_sub hl [1, 2, 3, 4, 5, 0] rfl)
            exact L87 (_ + 1) 0 sg_j E0 _ _ _ (Nat.zero_le _) (fun x hx => hg_j x hx) (hO1) (hr3) (hw_i) (hs_j) (fun _ _ => rfl) (Nat.lt_succ_self _) hM hS (lv_sub hl [4, 6, 8, 3, 2, 0] rfl)
          · skip
            refine lv_iload C0.1 C0.2.1 dX9_film_81 (lv_at hl 0 rfl) ?_
            exact mm_iret (z := (shF (S.2.2.2.2.1 j) (S.2.2.2.2.2 j) w f ((flN (S.2.1.2.2 i) : Nat) : Int))) C0 hr hlk hM hS dX9_film_83 (by have he : pf_film S pp a w f = ((shF (S.2.2.2.2.1 j) (S.2.2.2.2.2 j) w f ((flN (S.2.1.2.2 i) : Nat) : Int)), S) := (by unfold pf_film; rw [if_pos (by omega), ht_i, ht_j, if_neg (fun q => q c_32), if_pos c_78]); rw [he]; exact ⟨rfl, hSo, (fun _ _ => rfl)⟩)
        · skip
          refine lv_iload C0.1 C0.2.1 dX9_film_35 (lv_at hl 0 rfl) ?_
          exact mm_iret (z := (nFau (S.2.1.1 i))) C0 hr hlk hM hS dX9_film_37 (by have he : pf_film S pp a w f = ((nFau (S.2.1.1 i)), S) := (by unfold pf_film; rw [if_pos (by omega), ht_i, if_pos c_32]); rw [he]; exact ⟨rfl, hSo, (fun _ _ => rfl)⟩)
      · skip
        refine lv_iconst (v := zI (-1)) C0.1 C0.2.1 dX9_film_21 rfl ?_
        exact mm_iret (z := (-1)) C0 hr hlk hM hS dX9_film_22 (by have he : pf_film S pp a w f = ((-1), S) := (by unfold pf_film; rw [if_neg (by omega)]); rw [he]; exact ⟨rfl, hSo, (fun _ _ => rfl)⟩)
