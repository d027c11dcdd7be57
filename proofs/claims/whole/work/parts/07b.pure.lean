/-! sums, differences, products, quotients by limbs: their steps and their ends -/
theorem add_step {f : Nat → Nat} {N1 N2 i c c1 w : Nat} (hv : bV f i + c * 1000000000 ^ i = N1 % 1000000000 ^ i + N2 % 1000000000 ^ i) (hw : w + c1 * 1000000000 = dg N1 i + dg N2 i + c) : bV (nup f i w) (i + 1) + c1 * 1000000000 ^ (i + 1) = N1 % 1000000000 ^ (i + 1) + N2 % 1000000000 ^ (i + 1) := by
  rw [bV_s, bV_nup (Nat.le_refl i), nup_s, mod_s, mod_s, bP_s, st_add hw, hv, Nat.add_mul]
  omega
theorem add_lt {N1 N2 m : Nat} (h1 : nl N1 ≤ m) (h2 : nl N2 ≤ m) : N1 + N2 < 1000000000 ^ (m + 1) := by
  have a1 := (nl_le m N1).mp h1
  have a2 := (nl_le m N2).mp h2
  rw [bP_s]
  omega
theorem add_end {f : Nat → Nat} {N1 N2 m c : Nat} (h1 : nl N1 ≤ m) (h2 : nl N2 ≤ m) (hf : ∀ j, j < m + 1 → f j < 1000000000) (hv : bV f (m + 1) + c * 1000000000 ^ (m + 1) = N1 % 1000000000 ^ (m + 1) + N2 % 1000000000 ^ (m + 1)) : ∀ j, j < m + 1 → f j = dg (N1 + N2) j := by
  have h := add_lt h1 h2
  rw [Nat.mod_eq_of_lt (by omega), Nat.mod_eq_of_lt (by omega)] at hv
  have hc : c = 0 := by
    rcases Nat.eq_zero_or_pos c with q | q
    · exact q
    · have := Nat.mul_le_mul_right (1000000000 ^ (m + 1)) q
      omega
  subst hc
  exact dg_of hf (by omega)
theorem lmb_dg2 {f : Nat → Nat} {N k : Nat} {i : Int} (h : i = (k : Int)) (hf : k < nl N → f k = dg N k) : lmb f (nl N) i = (dg N k : Int) := by
  by_cases hk : k < nl N
  · rw [lmb_in h hk, hf hk]
  · rw [lmb_out (by omega), dg_hi (by omega)]; rfl
theorem dg_ext {N M : Nat} (h : ∀ j, dg N j = dg M j) : N = M := by
  have h1 : N < 1000000000 ^ (nl N + nl M) := (nl_le _ _).mp (by omega)
  have h2 : M < 1000000000 ^ (nl N + nl M) := (nl_le _ _).mp (by omega)
  exact (dg_all N h1).symm.trans ((bV_congr (fun j _ => h j)).trans (dg_all M h2))
theorem dg_div (N k j : Nat) : dg (N / 1000000000 ^ k) j = dg N (k + j) := by
  unfold dg
  rw [Nat.div_div_eq_div_mul, ← Nat.pow_add]
theorem dg_cmp {N M u : Nat} (h : ∀ j, u + 1 ≤ j → dg N j = dg M j) (h2 : dg N u < dg M u) : N < M := by
  have e : N / 1000000000 ^ (u + 1) = M / 1000000000 ^ (u + 1) := dg_ext (fun j => by rw [dg_div, dg_div]; exact h _ (by omega))
  have a := Nat.div_add_mod N (1000000000 ^ (u + 1))
  have b := Nat.div_add_mod M (1000000000 ^ (u + 1))
  rw [mod_s] at a b
  rw [e] at a
  have p := Nat.mod_lt N (bP_pos u)
  have q := Nat.mul_le_mul_right (1000000000 ^ u) h2
  rw [Nat.succ_mul] at q
  omega
theorem nl_cmp {N M : Nat} (h : nl N < nl M) : N < M := by
  have a := nl_self N
  have b := (nl_lt (nl N) M).mp h
  omega
def cmpZ (a b : Nat) : Int := if a < b then -1 else if a = b then 0 else 1
theorem cmpZ_lt {a b : Nat} (h : a < b) : cmpZ a b = -1 := if_pos h
theorem cmpZ_gt {a b : Nat} (h : b < a) : cmpZ a b = 1 := by unfold cmpZ; rw [if_neg (by omega), if_neg (by omega)]
theorem cmpZ_eq {a b : Nat} (h : a = b) : cmpZ a b = 0 := by unfold cmpZ; rw [if_neg (by omega), if_pos h]
def isV (G : mG) (E : mE) (t : Nat) : Prop := ∃ (n : Nat) (f : Nat → Nat), wR G E t n f
theorem isW.v {G : mG} {E : mE} {t N : Nat} (h : isW G E t N) : isV G E t := by
  obtain ⟨f, h, -⟩ := h
  exact ⟨_, f, h⟩
theorem isV.kept {G : mG} {E E1 : mE} {t : Nat} (h : isV G E t) (h1 : E1 t = E t) (h2 : E1 (t + 1) = E (t + 1)) : isV G E1 t := by
  obtain ⟨n, f, h⟩ := h
  exact ⟨n, f, h.kept h1 h2⟩
theorem c_X8_limbW (l : Launch) (G : mG) (E0 : mE) {t N : Nat} {i : Int} (hT : isW G E0 t N) (k : Nat) (hk : i = (k : Int)) (hi : rI i) : mm_Cl l yX8_limb (.code yX8_limb cX8_limb 2 (some .long) :: wsG) rX8_limb G [.ref t, .int (zI i)] E0 (fun z E => z = (dg N k : Int) ∧ E = E0) := by
  obtain ⟨f, h1, h2⟩ := hT
  exact (c_X8_limb l G E0 h1 hi).mono fun z E h => ⟨h.1.trans (lmb_dg h2 hk), h.2⟩
