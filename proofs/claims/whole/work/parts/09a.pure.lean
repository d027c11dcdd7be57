/-! shapes -/
def facN (n tm : Nat) (ls : Int) : Nat := ((n : Int) * (tm : Int) - ls).toNat
def shp (kd k n : Nat) : Nat := if n = 0 then 0 else if kd = 0 then n * n else if kd = 3 then n * facN n (k - 2) ((k : Int) - 4) / 2 else if kd = 1 then n * (n + 1) / 2 else if kd = 2 then n * (n + 1) else n * (n + 1) * facN n (k - 2) ((k : Int) - 5) / 6
theorem facN_z {n tm : Nat} {ls : Int} (h : ls ≤ (n : Int) * (tm : Int)) : (facN n tm ls : Int) = (n : Int) * (tm : Int) - ls := by unfold facN; omega
theorem facN_ge {n k : Nat} {c : Int} (hk : 3 ≤ k) (hn : 0 < n) (hc : c ≤ (k : Int) - 4) : c ≤ (n : Int) * ((k - 2 : Nat) : Int) ∧ (n : Int) ≤ (n : Int) * ((k - 2 : Nat) : Int) - c := by
  obtain ⟨m, rfl⟩ : ∃ m, k = m + 3 := ⟨k - 3, by omega⟩
  obtain ⟨y, rfl⟩ : ∃ y, n = y + 1 := ⟨n - 1, by omega⟩
  have e : ((y + 1 : Nat) : Int) * ((m + 3 - 2 : Nat) : Int) = (y : Int) * (m : Int) + (y : Int) + (m : Int) + 1 := by
    rw [show m + 3 - 2 = m + 1 by omega]; simp only [Int.natCast_add]; grind
  have h0 : 0 ≤ (y : Int) * (m : Int) := Int.mul_nonneg (by omega) (by omega)
  rw [e]
  omega
theorem shp_0 (kd k : Nat) : shp kd k 0 = 0 := if_pos rfl
theorem shp_k0 {k n : Nat} : shp 0 k n = n * n := by
  unfold shp; by_cases h : n = 0
  · subst h; rfl
  · rw [if_neg h, if_pos rfl]
theorem shp_k1 {k n : Nat} : shp 1 k n = n * (n + 1) / 2 := by
  unfold shp; by_cases h : n = 0
  · subst h; rfl
  · rw [if_neg h]; rfl
theorem shp_k2 {k n : Nat} : shp 2 k n = n * (n + 1) := by
  unfold shp; by_cases h : n = 0
  · subst h; rfl
  · rw [if_neg h]; rfl
theorem shp_k3 {k n : Nat} (h : n ≠ 0) : shp 3 k n = n * facN n (k - 2) ((k : Int) - 4) / 2 := by unfold shp; rw [if_neg h]; rfl
theorem shp_k4 {k n : Nat} (h : n ≠ 0) : shp 4 k n = n * (n + 1) * facN n (k - 2) ((k : Int) - 5) / 6 := by unfold shp; rw [if_neg h]; rfl
theorem ev2 (n : Nat) : n * (n + 1) / 2 * 2 = n * (n + 1) := by
  have : n * (n + 1) % 2 = 0 := by
    rcases (show n % 2 = 0 ∨ n % 2 = 1 by omega) with h | h <;> simp [Nat.mul_mod, Nat.add_mod, h]
  omega
theorem ev3 {n k : Nat} (hk : 3 ≤ k) (hn : 0 < n) : shp 3 k n * 2 = n * facN n (k - 2) ((k : Int) - 4) := by
  rw [shp_k3 (by omega)]
  have h := (facN_ge (c := (k : Int) - 4) hk hn (by omega)).1
  have e := facN_z h
  have : n * facN n (k - 2) ((k : Int) - 4) % 2 = 0 := by
    have hm : facN n (k - 2) ((k : Int) - 4) % 2 = (n * (k - 2) + k) % 2 := by
      have e2 : ((n * (k - 2) : Nat) : Int) = (n : Int) * ((k - 2 : Nat) : Int) := Int.natCast_mul _ _
      omega
    rcases (show n % 2 = 0 ∨ n % 2 = 1 by omega) with q | q
    · simp [Nat.mul_mod, q]
    · rw [Nat.mul_mod, hm, Nat.add_mod, Nat.mul_mod n, q]
      rcases (show k % 2 = 0 ∨ k % 2 = 1 by omega) with w | w
      · rw [w, show (k - 2) % 2 = 0 by omega]
      · rw [w, show (k - 2) % 2 = 1 by omega]
  omega
theorem ev4 {n k : Nat} (hk : 3 ≤ k) (hn : 0 < n) : shp 4 k n * 6 = n * (n + 1) * facN n (k - 2) ((k : Int) - 5) := by
  rw [shp_k4 (by omega)]
  have h := (facN_ge (c := (k : Int) - 5) hk hn (by omega)).1
  have e := facN_z h
  generalize hF : facN n (k - 2) ((k : Int) - 5) = F at *
  have e2 : ((n * (k - 2) : Nat) : Int) = (n : Int) * ((k - 2 : Nat) : Int) := Int.natCast_mul _ _
  have d2 : n * (n + 1) % 2 = 0 := by have := ev2 n; omega
  have d3 : n * (n + 1) * F % 3 = 0 := by
    have hm : (F + k) % 3 = (n * (k - 2) + 2) % 3 := by omega
    rcases (show n % 3 = 0 ∨ n % 3 = 1 ∨ n % 3 = 2 by omega) with q | q | q
    · simp [Nat.mul_mod, q]
    · have : F % 3 = 0 := by
        have hz : (n * (k - 2)) % 3 = (k - 2) % 3 := by rw [Nat.mul_mod, q, Nat.one_mul, Nat.mod_mod]
        omega
      simp [Nat.mul_mod, this]
    · simp [Nat.mul_mod, Nat.add_mod, q]
  have d6 : n * (n + 1) * F % 6 = 0 := by
    have : n * (n + 1) * F % 2 = 0 := by rw [Nat.mul_mod, d2, Nat.zero_mul]
    omega
  omega
/-- a shape's number is no less than half a square -/
theorem shp_big {kd k n : Nat} (hkd : kd ≤ 4) (hk : 3 ≤ kd → 3 ≤ k) (hn : 3 ≤ n) : n * n ≤ 2 * shp kd k n := by
  rcases (show kd = 0 ∨ kd = 1 ∨ kd = 2 ∨ kd = 3 ∨ kd = 4 by omega) with rfl | rfl | rfl | rfl | rfl
  · rw [shp_k0]; omega
  · rw [shp_k1]; have := ev2 n; rw [Nat.mul_add] at this ⊢; omega
  · rw [shp_k2, Nat.mul_add]; omega
  · have h := (facN_ge (c := (k : Int) - 4) (hk (by omega)) (show 0 < n by omega) (by omega))
    have e := facN_z h.1
    have e3 := ev3 (hk (by omega)) (show 0 < n by omega)
    have : n * n ≤ n * facN n (k - 2) ((k : Int) - 4) := Nat.mul_le_mul_left _ (by omega)
    omega
  · have h := (facN_ge (c := (k : Int) - 5) (hk (by omega)) (show 0 < n by omega) (by omega))
    have e := facN_z h.1
    have e4 := ev4 (hk (by omega)) (show 0 < n by omega)
    have a1 : n * (n + 1) * n ≤ n * (n + 1) * facN n (k - 2) ((k : Int) - 5) := Nat.mul_le_mul_left _ (by omega)
    have a2 : n * (n + 1) * 3 ≤ n * (n + 1) * n := Nat.mul_le_mul_left _ hn
    rw [Nat.mul_add] at a1 a2 e4
    omega
theorem shp_long {kd k n : Nat} (hkd : kd ≤ 4) (hk : 3 ≤ kd → 3 ≤ k) (hn : 13 < nl n) : 24 < nl (shp kd k n) := by
  rw [nl_lt] at hn ⊢
  have h3 : 3 ≤ n := Nat.le_trans (by decide +kernel) hn
  have h1 := shp_big hkd hk h3
  have h2 := Nat.mul_le_mul hn hn
  have h4 : 2 * 1000000000 ^ 24 ≤ 1000000000 ^ 13 * 1000000000 ^ 13 := by decide +kernel
  omega
/-- the number whose root is taken -/
def shb (kd k N : Nat) : Nat := if kd = 1 then N * 2 else if kd = 3 then N * 2 / (k - 2) else if kd = 4 then N * 6 / (k - 2) else N
theorem shp_root2 {k x : Nat} (hk : 3 ≤ k) (hx : 0 < x) : (k - 2) * ((x - 1) * (x - 1)) ≤ shp 3 k x * 2 ∧ shp 3 k x * 2 < (k - 2) * ((x + 1) * (x + 1)) := by
  have h := (facN_ge (c := (k : Int) - 4) hk hx (by omega)).1
  have e := facN_z h
  rw [ev3 hk hx]
  generalize facN x (k - 2) ((k : Int) - 4) = F at *
  obtain ⟨m, rfl⟩ : ∃ m, k = m + 3 := ⟨k - 3, by omega⟩
  obtain ⟨y, rfl⟩ : ∃ y, x = y + 1 := ⟨x - 1, by omega⟩
  rw [show m + 3 - 2 = m + 1 by omega] at *
  have e1 : (F : Int) = ((y * m + y + 2 : Nat) : Int) := by rw [e]; simp only [Int.natCast_add, Int.natCast_mul]; grind
  have e2 : F = y * m + y + 2 := by omega
  rw [e2, show y + 1 - 1 = y by omega]
  have q1 : (m + 1) * (y * y) + (y * m + 3 * y + 2) = (y + 1) * (y * m + y + 2) := by grind
  have q2 : (y + 1) * (y * m + y + 2) + (m * y * 3 + 4 * m + y + 2) = (m + 1) * ((y + 1 + 1) * (y + 1 + 1)) := by grind
  constructor <;> omega
theorem shp_root3 {k x : Nat} (hk : 3 ≤ k) (hx : 0 < x) : (k - 2) * ((x - 1) * (x - 1) * (x - 1)) ≤ shp 4 k x * 6 ∧ shp 4 k x * 6 < (k - 2) * ((x + 1) * (x + 1) * (x + 1)) := by
  have h := (facN_ge (c := (k : Int) - 5) hk hx (by omega)).1
  have e := facN_z h
  rw [ev4 hk hx]
  generalize facN x (k - 2) ((k : Int) - 5) = F at *
  obtain ⟨m, rfl⟩ : ∃ m, k = m + 3 := ⟨k - 3, by omega⟩
  obtain ⟨y, rfl⟩ : ∃ y, x = y + 1 := ⟨x - 1, by omega⟩
  rw [show m + 3 - 2 = m + 1 by omega] at *
  have e1 : (F : Int) = ((y * m + y + 3 : Nat) : Int) := by rw [e]; simp only [Int.natCast_add, Int.natCast_mul]; grind
  have e2 : F = y * m + y + 3 := by omega
  rw [e2, show y + 1 - 1 = y by omega]
  have q1 : (m + 1) * (y * y * y) + (m * (3 * y * y + 2 * y) + 6 * y * y + 11 * y + 6) = (y + 1) * (y + 1 + 1) * (y * m + y + 3) := by grind
  have q2 : (y + 1) * (y + 1 + 1) * (y * m + y + 3) + (m * (3 * y * y + 10 * y + 8) + y + 2) = (m + 1) * ((y + 1 + 1) * (y + 1 + 1) * (y + 1 + 1)) := by grind
  constructor <;> omega
