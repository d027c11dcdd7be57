/-! further steps and ends; decimal lengths -/
theorem wR.st {G : mG} {E E1 : mE} {t n k w : Nat} {f : Nat → Nat} {x : Int} (h : wR G E t n f) (frs : ∀ q : Nat, q ≠ t + 1 → E1 q = E q) (hat : E1 (t + 1) = some (mm_J G 56 (zup (fun j => (f j : Int)) k x))) (hx : x = (w : Int)) (hw : w < 1000000000) : wR G E1 t n (nup f k w) := by
  refine ⟨(frs t (by omega)).trans h.1, ?_, h.2.2.1, fun j hj => ?_⟩
  · rw [hat, hx, zup_nup]
  · unfold nup; split
    · exact hw
    · exact h.2.2.2 j hj
theorem wR.sz {G : mG} {E E1 : mE} {t n m : Nat} {f : Nat → Nat} {x : Int} (h : wR G E t n f) (frs : ∀ q : Nat, q ≠ t → E1 q = E q) (hat : E1 t = some (.inr (7, [.ref (t + 1), .int (zI x)]))) (hx : x = (m : Int)) (hm : m ≤ 56) : wR G E1 t m f := by
  subst hx
  exact ⟨hat, (frs _ (by omega)).trans h.2.1, hm, h.2.2.2⟩
theorem sub_step {f : Nat → Nat} {N1 N2 i c c1 w : Nat} (hv : bV f i + N2 % 1000000000 ^ i = N1 % 1000000000 ^ i + c * 1000000000 ^ i) (hw : w + dg N2 i + c = dg N1 i + c1 * 1000000000) : bV (nup f i w) (i + 1) + N2 % 1000000000 ^ (i + 1) = N1 % 1000000000 ^ (i + 1) + c1 * 1000000000 ^ (i + 1) := by
  rw [bV_s, bV_nup (Nat.le_refl i), nup_s, mod_s, mod_s, bP_s]
  generalize 1000000000 ^ i = P at *
  have h := congrArg (· * P) hw
  simp only [Nat.add_mul] at h
  have h2 : c1 * 1000000000 * P = c1 * (P * 1000000000) := by rw [Nat.mul_assoc, Nat.mul_comm P]
  omega
theorem sub_end {f : Nat → Nat} {N1 N2 n c : Nat} (hle : N2 ≤ N1) (h1 : N1 < 1000000000 ^ n) (hf : ∀ j, j < n → f j < 1000000000) (hv : bV f n + N2 % 1000000000 ^ n = N1 % 1000000000 ^ n + c * 1000000000 ^ n) : ∀ j, j < n → f j = dg (N1 - N2) j := by
  rw [Nat.mod_eq_of_lt (by omega), Nat.mod_eq_of_lt h1] at hv
  have hb := bV_lt hf
  have hc : c = 0 := by
    rcases Nat.eq_zero_or_pos c with q | q
    · exact q
    · have := Nat.mul_le_mul_right (1000000000 ^ n) q
      omega
  subst hc
  exact dg_of hf (by omega)
theorem mul_bd {d a c : Nat} (hd : d < 1000000000) (ha : a < 1000000000) (hc : c < 1000000000) : d * a + c < 1000000000000000000 := by
  have := Nat.mul_le_mul (show d ≤ 999999999 by omega) (show a ≤ 999999999 by omega)
  omega
theorem mul_bd2 {d a c e : Nat} (hd : d < 1000000000) (ha : a < 1000000000) (hc : c < 1000000000) (he : e < 1000000000) : e + d * a + c < 1000000000000000000 := by
  have := Nat.mul_le_mul (show d ≤ 999999999 by omega) (show a ≤ 999999999 by omega)
  omega
theorem scale_step {f : Nat → Nat} {N a b i c : Nat} (hv : bV f i + c * 1000000000 ^ i = (N % 1000000000 ^ i) * a + b) : bV (nup f i ((dg N i * a + c) % 1000000000)) (i + 1) + (dg N i * a + c) / 1000000000 * 1000000000 ^ (i + 1) = (N % 1000000000 ^ (i + 1)) * a + b := by
  rw [bV_s, bV_nup (Nat.le_refl i), nup_s, mod_s, bP_s]
  generalize 1000000000 ^ i = P at *
  have h : (dg N i * a + c) % 1000000000 + (dg N i * a + c) / 1000000000 * 1000000000 = dg N i * a + c := by omega
  generalize (dg N i * a + c) % 1000000000 = w at *
  generalize (dg N i * a + c) / 1000000000 = c1 at *
  grind
theorem scale_lt {N a b n : Nat} (hN : N < 1000000000 ^ n) (ha : a < 1000000000) (hb : b < 1000000000) : N * a + b < 1000000000 ^ (n + 1) := by
  have h1 := Nat.mul_le_mul (show N ≤ 1000000000 ^ n - 1 by omega) (show a ≤ 999999999 by omega)
  have p := bP_pos n
  rw [bP_s]
  rw [Nat.sub_mul] at h1
  omega
theorem scale_end {f : Nat → Nat} {N a b n c : Nat} (hN : N < 1000000000 ^ n) (ha : a < 1000000000) (hb : b < 1000000000) (hf : ∀ j, j < n + 1 → f j < 1000000000) (hv : bV f (n + 1) + c * 1000000000 ^ (n + 1) = (N % 1000000000 ^ (n + 1)) * a + b) : ∀ j, j < n + 1 → f j = dg (N * a + b) j := by
  have h := scale_lt hN ha hb
  have hN2 : N < 1000000000 ^ (n + 1) := by rw [bP_s]; omega
  rw [Nat.mod_eq_of_lt hN2] at hv
  have hc : c = 0 := by
    rcases Nat.eq_zero_or_pos c with q | q
    · exact q
    · have := Nat.mul_le_mul_right (1000000000 ^ (n + 1)) q
      omega
  subst hc
  exact dg_of hf (by omega)
theorem shr_dg {N u : Nat} : N / 1000000000 ^ u = N / 1000000000 ^ (u + 1) * 1000000000 + dg N u := by
  have h : N / 1000000000 ^ (u + 1) = N / 1000000000 ^ u / 1000000000 := by rw [bP_s, Nat.div_div_eq_div_mul]
  rw [h]
  unfold dg
  omega
theorem shr_q {N d u r : Nat} (hd : 0 < d) (hr : r = N / 1000000000 ^ (u + 1) % d) : dg (N / d) u = (r * 1000000000 + dg N u) / d ∧ N / 1000000000 ^ u % d = (r * 1000000000 + dg N u) % d ∧ (r * 1000000000 + dg N u) / d < 1000000000 := by
  have e := @shr_dg N u
  have hdl := dg_lt N u
  generalize N / 1000000000 ^ (u + 1) = Hh at *
  generalize dg N u = D at *
  have hm := Nat.div_add_mod Hh d
  have hrl := Nat.mod_lt Hh hd
  rw [← hr] at hm hrl
  have h3 : (r * 1000000000 + D) / d < 1000000000 := by
    rw [Nat.div_lt_iff_lt_mul hd]
    have h9 : (r + 1) * 1000000000 ≤ d * 1000000000 := Nat.mul_le_mul_right _ hrl
    rw [Nat.mul_comm] at h9 ⊢
    omega
  have e2 : N / 1000000000 ^ u = d * (Hh / d * 1000000000) + (r * 1000000000 + D) := by
    rw [e]
    have : Hh * 1000000000 = (d * (Hh / d) + r) * 1000000000 := by rw [hm]
    rw [this, Nat.add_mul, Nat.mul_assoc]
    omega
  refine ⟨?_, ?_, h3⟩
  · show N / d / 1000000000 ^ u % 1000000000 = _
    rw [Nat.div_div_eq_div_mul, Nat.mul_comm d, ← Nat.div_div_eq_div_mul, e2, Nat.mul_add_div hd]
    generalize (r * 1000000000 + D) / d = g at *
    omega
  · rw [e2, Nat.mul_add_mod]
theorem prod_step {f f0 : Nat → Nat} {N2 i j c d1 : Nat} (hv : bV f (i + j) + c * 1000000000 ^ (i + j) = bV f0 (i + j) + d1 * (N2 % 1000000000 ^ j) * 1000000000 ^ i) : bV (nup f (i + j) ((f0 (i + j) + d1 * dg N2 j + c) % 1000000000)) (i + (j + 1)) + (f0 (i + j) + d1 * dg N2 j + c) / 1000000000 * 1000000000 ^ (i + (j + 1)) = bV f0 (i + (j + 1)) + d1 * (N2 % 1000000000 ^ (j + 1)) * 1000000000 ^ i := by
  rw [← Nat.add_assoc, bV_s, bV_nup (Nat.le_refl _), nup_s, mod_s, bP_s, bV_s]
  have hp : 1000000000 ^ (i + j) = 1000000000 ^ i * 1000000000 ^ j := Nat.pow_add _ _ _
  rw [hp] at hv ⊢
  generalize 1000000000 ^ i = P at *
  generalize 1000000000 ^ j = Q at *
  have h : (f0 (i + j) + d1 * dg N2 j + c) % 1000000000 + (f0 (i + j) + d1 * dg N2 j + c) / 1000000000 * 1000000000 = f0 (i + j) + d1 * dg N2 j + c := by omega
  generalize (f0 (i + j) + d1 * dg N2 j + c) % 1000000000 = w at *
  generalize (f0 (i + j) + d1 * dg N2 j + c) / 1000000000 = c1 at *
  grind
theorem prod_row {f f0 : Nat → Nat} {N1 N2 i m c : Nat} (hm : N2 < 1000000000 ^ m) (h0 : bV f0 (i + m) = (N1 % 1000000000 ^ i) * N2) (hv : bV f (i + m) + c * 1000000000 ^ (i + m) = bV f0 (i + m) + dg N1 i * (N2 % 1000000000 ^ m) * 1000000000 ^ i) : bV (nup f (i + m) c) (i + 1 + m) = (N1 % 1000000000 ^ (i + 1)) * N2 := by
  rw [Nat.mod_eq_of_lt hm] at hv
  rw [show i + 1 + m = i + m + 1 by omega, bV_s, bV_nup (Nat.le_refl _), nup_s, hv, h0, mod_s]
  grind
theorem prod_end {f : Nat → Nat} {N1 N2 n m : Nat} (h1 : N1 < 1000000000 ^ n) (h2 : N2 < 1000000000 ^ m) (hf : ∀ j, j < n + m → f j < 1000000000) (hv : bV f (n + m) = (N1 % 1000000000 ^ n) * N2) : N1 * N2 < 1000000000 ^ (n + m) ∧ ∀ j, j < n + m → f j = dg (N1 * N2) j := by
  rw [Nat.mod_eq_of_lt h1] at hv
  refine ⟨?_, dg_of hf hv⟩
  rw [← hv]
  exact bV_lt hf
theorem bV_zero {f : Nat → Nat} : ∀ {n : Nat}, (∀ j, j < n → f j = 0) → bV f n = 0
  | 0, _ => rfl
  | n + 1, h => by rw [bV_s, bV_zero (fun j hj => h j (by omega)), h n (by omega)]; simp
def dl (N : Nat) : Nat := if h : N = 0 then 0 else dl (N / 10) + 1
termination_by N
decreasing_by exact Nat.div_lt_self (by omega) (by omega)
theorem dl_0 : dl 0 = 0 := by rw [dl]; simp
theorem dl_s {N : Nat} (h : N ≠ 0) : dl N = dl (N / 10) + 1 := by rw [dl, dif_neg h]
theorem dl_le : ∀ (n N : Nat), dl N ≤ n ↔ N < 10 ^ n
  | 0, N => by
    by_cases h : N = 0
    · subst h; rw [dl_0]; simp
    · rw [dl_s h]; simp; omega
  | n + 1, N => by
    by_cases h : N = 0
    · subst h; rw [dl_0]; exact ⟨fun _ => Nat.pow_pos (by omega), fun _ => by omega⟩
    · rw [dl_s h, Nat.pow_succ, ← Nat.div_lt_iff_lt_mul (by omega), ← dl_le n (N / 10)]
      omega
/-- how many figures a number has, told by its highest limb -/
def fgs (N : Nat) : Nat := if N = 0 then 1 else 9 * (nl N - 1) + dl (dg N (nl N - 1))
theorem fgs_0 : fgs 0 = 1 := if_pos rfl
theorem fgs_p {N : Nat} (h : N ≠ 0) : fgs N = 9 * (nl N - 1) + dl (dg N (nl N - 1)) := if_neg h
theorem bP_10 (k : Nat) : 1000000000 ^ k = 10 ^ (9 * k) := by rw [Nat.pow_mul]
theorem dg_topv {N : Nat} (h : N ≠ 0) : dg N (nl N - 1) = N / 1000000000 ^ (nl N - 1) := by
  have h2 : N < 1000000000 ^ (nl N - 1) * 1000000000 := by rw [← bP_s, show nl N - 1 + 1 = nl N by have := nl_pos.mpr h; omega]; exact nl_self N
  unfold dg
  exact Nat.mod_eq_of_lt ((Nat.div_lt_iff_lt_mul (bP_pos _)).mpr (by rw [Nat.mul_comm]; exact h2))
theorem fgs_lt (N : Nat) : N < 10 ^ fgs N := by
  by_cases h : N = 0
  · subst h; rw [fgs_0]; omega
  · rw [fgs_p h]
    have h1 := (dl_le _ _).mp (Nat.le_refl (dl (dg N (nl N - 1))))
    rw [dg_topv h] at h1 ⊢
    rw [Nat.div_lt_iff_lt_mul (bP_pos _)] at h1
    rw [Nat.pow_add, ← bP_10, Nat.mul_comm]
    exact h1
theorem fgs_pos (N : Nat) : 0 < fgs N := by
  by_cases h : N = 0
  · subst h; rw [fgs_0]; omega
  · rw [fgs_p h]
    have := dg_top h
    rw [dl_s this]
    omega
theorem fgs_le {N n : Nat} (h : N < 1000000000 ^ n) (h0 : 0 < n) : fgs N ≤ 9 * n := by
  by_cases hN : N = 0
  · subst hN; rw [fgs_0]; omega
  · rw [fgs_p hN]
    have h1 := (nl_le n N).mpr h
    have h2 := nl_pos.mpr hN
    have h3 := (dl_le 9 _).mpr (dg_lt N (nl N - 1))
    omega
