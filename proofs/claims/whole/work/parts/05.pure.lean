/-! whole numbers by limbs of nine figures -/
def bV (f : Nat → Nat) : Nat → Nat
  | 0 => 0
  | n + 1 => bV f n + f n * 1000000000 ^ n
def dg (N i : Nat) : Nat := N / 1000000000 ^ i % 1000000000
def nup (f : Nat → Nat) (k x : Nat) : Nat → Nat := fun j => if j = k then x else f j
theorem nup_s (f : Nat → Nat) (k x : Nat) : nup f k x k = x := if_pos rfl
theorem nup_n (f : Nat → Nat) {k j : Nat} (x : Nat) (h : j ≠ k) : nup f k x j = f j := if_neg h
theorem zup_nup (f : Nat → Nat) (k x : Nat) : zup (fun j => (f j : Int)) k (x : Int) = fun j => ((nup f k x j : Nat) : Int) := by
  funext j; unfold zup nup; split <;> rfl
theorem bV_0 (f : Nat → Nat) : bV f 0 = 0 := rfl
theorem bV_s (f : Nat → Nat) (n : Nat) : bV f (n + 1) = bV f n + f n * 1000000000 ^ n := rfl
theorem bP_s (n : Nat) : 1000000000 ^ (n + 1) = 1000000000 ^ n * 1000000000 := Nat.pow_succ _ _
theorem bP_pos (n : Nat) : 0 < 1000000000 ^ n := Nat.pow_pos (by omega)
theorem bV_congr {f g : Nat → Nat} : ∀ {n : Nat}, (∀ j, j < n → f j = g j) → bV f n = bV g n
  | 0, _ => rfl
  | n + 1, h => by rw [bV_s, bV_s, bV_congr (fun j hj => h j (by omega)), h n (by omega)]
theorem bV_nup {f : Nat → Nat} {k x n : Nat} (h : n ≤ k) : bV (nup f k x) n = bV f n := bV_congr (fun j hj => nup_n f x (by omega))
theorem bV_lt {f : Nat → Nat} : ∀ {n : Nat}, (∀ j, j < n → f j < 1000000000) → bV f n < 1000000000 ^ n
  | 0, _ => by simp [bV]
  | n + 1, h => by
    have h1 := bV_lt (n := n) (fun j hj => h j (by omega))
    have h2 := h n (by omega)
    rw [bV_s, bP_s]
    have h3 : (f n + 1) * 1000000000 ^ n ≤ 1000000000 * 1000000000 ^ n := Nat.mul_le_mul_right _ h2
    rw [Nat.add_mul, Nat.one_mul] at h3
    rw [Nat.mul_comm (1000000000 ^ n)]
    omega
theorem bV_mod (N : Nat) : ∀ n : Nat, bV (dg N) n = N % 1000000000 ^ n
  | 0 => by rw [bV_0, Nat.pow_zero, Nat.mod_one]
  | n + 1 => by rw [bV_s, bV_mod N n, Nat.mod_pow_succ, Nat.mul_comm]; rfl
theorem dg_lt (N i : Nat) : dg N i < 1000000000 := Nat.mod_lt _ (by omega)
theorem bV_inj {f g : Nat → Nat} : ∀ {n : Nat}, (∀ j, j < n → f j < 1000000000) → (∀ j, j < n → g j < 1000000000) → bV f n = bV g n → ∀ j, j < n → f j = g j
  | 0, _, _, _ => fun j hj => absurd hj (Nat.not_lt_zero _)
  | n + 1, hf, hg, he => by
    have h1 := bV_lt (f := f) (n := n) (fun j hj => hf j (by omega))
    have h2 := bV_lt (f := g) (n := n) (fun j hj => hg j (by omega))
    rw [bV_s, bV_s] at he
    have p := bP_pos n
    have h3 : f n = g n := by
      have a1 : (bV f n + f n * 1000000000 ^ n) / 1000000000 ^ n = f n := by rw [Nat.add_mul_div_right _ _ p, Nat.div_eq_of_lt h1, Nat.zero_add]
      have a2 : (bV g n + g n * 1000000000 ^ n) / 1000000000 ^ n = g n := by rw [Nat.add_mul_div_right _ _ p, Nat.div_eq_of_lt h2, Nat.zero_add]
      rw [← a1, ← a2, he]
    rw [h3] at he
    have h4 := bV_inj (n := n) (fun j hj => hf j (by omega)) (fun j hj => hg j (by omega)) (by omega)
    intro j hj
    by_cases q : j = n
    · rw [q]; exact h3
    · exact h4 j (by omega)
theorem dg_of {f : Nat → Nat} {n N : Nat} (hf : ∀ j, j < n → f j < 1000000000) (h : bV f n = N) : ∀ j, j < n → f j = dg N j := by
  refine bV_inj hf (fun j _ => dg_lt N j) ?_
  rw [bV_mod, ← h, Nat.mod_eq_of_lt (bV_lt hf)]
def nl (N : Nat) : Nat := if h : N = 0 then 0 else nl (N / 1000000000) + 1
termination_by N
decreasing_by exact Nat.div_lt_self (by omega) (by omega)
theorem nl_0 : nl 0 = 0 := by rw [nl]; simp
theorem nl_s {N : Nat} (h : N ≠ 0) : nl N = nl (N / 1000000000) + 1 := by rw [nl, dif_neg h]
theorem nl_le : ∀ (n N : Nat), nl N ≤ n ↔ N < 1000000000 ^ n
  | 0, N => by
    by_cases h : N = 0
    · subst h; rw [nl_0]; simp
    · rw [nl_s h]; simp; omega
  | n + 1, N => by
    by_cases h : N = 0
    · subst h; rw [nl_0]; exact ⟨fun _ => bP_pos _, fun _ => by omega⟩
    · rw [nl_s h, bP_s, ← Nat.div_lt_iff_lt_mul (by omega), ← nl_le n (N / 1000000000)]
      omega
theorem nl_lt (n N : Nat) : n < nl N ↔ 1000000000 ^ n ≤ N := by
  have := nl_le n N
  omega
theorem nl_self (N : Nat) : N < 1000000000 ^ nl N := (nl_le (nl N) N).mp (Nat.le_refl _)
theorem nl_pos {N : Nat} : 0 < nl N ↔ N ≠ 0 := by rw [nl_lt]; simp; omega
theorem nl_eq0 {N : Nat} : nl N = 0 ↔ N = 0 := by have := @nl_pos N; omega
theorem nl_mono {N M : Nat} (h : N ≤ M) : nl N ≤ nl M := (nl_le _ _).mpr (Nat.lt_of_le_of_lt h (nl_self M))
theorem dg_hi {N j : Nat} (h : nl N ≤ j) : dg N j = 0 := by
  unfold dg
  rw [Nat.div_eq_of_lt ((nl_le j N).mp h)]
theorem dg_top {N : Nat} (h : N ≠ 0) : dg N (nl N - 1) ≠ 0 := by
  have h0 := nl_pos.mpr h
  have h1 : 1000000000 ^ (nl N - 1) ≤ N := (nl_lt _ _).mp (by omega)
  have h2 : N < 1000000000 ^ (nl N - 1) * 1000000000 := by rw [← bP_s, show nl N - 1 + 1 = nl N by omega]; exact nl_self N
  unfold dg
  have p := bP_pos (nl N - 1)
  have h3 : 1 ≤ N / 1000000000 ^ (nl N - 1) := (Nat.le_div_iff_mul_le p).mpr (by omega)
  have h4 : N / 1000000000 ^ (nl N - 1) < 1000000000 := (Nat.div_lt_iff_lt_mul p).mpr (by rw [Nat.mul_comm]; exact h2)
  rw [Nat.mod_eq_of_lt h4]
  omega
theorem nl_uniq {N n m : Nat} (hN : N < 1000000000 ^ m) (hn : n ≤ m) (hz : ∀ j, n ≤ j → j < m → dg N j = 0) (ht : n = 0 ∨ dg N (n - 1) ≠ 0) : n = nl N := by
  have h1 := (nl_le m N).mpr hN
  by_cases h : nl N < n
  · rcases ht with rfl | ht
    · omega
    · exact absurd (dg_hi (by omega)) ht
  · by_cases h2 : n < nl N
    · have h3 := dg_top (nl_pos.mp (by omega : 0 < nl N))
      exact absurd (hz (nl N - 1) (by omega) (by omega)) h3
    · omega
theorem dg_all (N : Nat) {n : Nat} (h : N < 1000000000 ^ n) : bV (dg N) n = N := by rw [bV_mod, Nat.mod_eq_of_lt h]
theorem bV_dg {f : Nat → Nat} {n N : Nat} (h : ∀ j, j < n → f j = dg N j) (hN : N < 1000000000 ^ n) : bV f n = N := by rw [bV_congr h, dg_all N hN]
theorem mod_s (N n : Nat) : N % 1000000000 ^ (n + 1) = N % 1000000000 ^ n + dg N n * 1000000000 ^ n := by rw [Nat.mod_pow_succ, Nat.mul_comm]; rfl
/-- the step of a sum, of a difference, of a product by a small one -/
theorem st_add {V P x c d1 d2 c0 : Nat} (h : x + c * 1000000000 = d1 + d2 + c0) : V + x * P + c * (P * 1000000000) = V + c0 * P + (d1 + d2) * P := by grind
