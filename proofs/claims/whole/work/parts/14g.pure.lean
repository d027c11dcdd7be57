/-! shapes as the reference finds them -/
theorem fac_lo {k N : Nat} (hk : 3 ≤ k) (h5 : k < 5) : facN N (k - 2) ((k : Int) - 5) = (k - 2) * N + (5 - k) := by
  have e : ((N * (k - 2) : Nat) : Int) = (N : Int) * ((k - 2 : Nat) : Int) := Int.natCast_mul _ _
  have e2 : N * (k - 2) = (k - 2) * N := Nat.mul_comm _ _
  unfold facN
  generalize N * (k - 2) = a at *
  omega
theorem fac_hi {k N : Nat} (h5 : 5 ≤ k) (hN : N ≠ 0) : facN N (k - 2) ((k : Int) - 5) = (k - 2) * N - (k - 5) ∧ k - 5 ≤ (k - 2) * N := by
  have e : ((N * (k - 2) : Nat) : Int) = (N : Int) * ((k - 2 : Nat) : Int) := Int.natCast_mul _ _
  have e2 : N * (k - 2) = (k - 2) * N := Nat.mul_comm _ _
  have e3 : 1 * (k - 2) ≤ N * (k - 2) := Nat.mul_le_mul_right _ (by omega)
  unfold facN
  generalize N * (k - 2) = a at *
  omega
theorem shp4_6 {k N : Nat} (hk : 3 ≤ k) (hN : N ≠ 0) : shp 4 k N * 6 = N * (N + 1) * facN N (k - 2) ((k : Int) - 5) := ev4 hk (by omega)
theorem shp4_0 (k : Nat) : shp 4 k 0 * 6 = 0 := by rw [shp_0]
theorem shp3_r {k N : Nat} (hk : 3 ≤ k) : (k - 2) * ((N * N - N) / 2) + 0 + N = shp 3 k N := by
  by_cases h0 : N = 0
  · subst h0; rw [shp_0]; simp
  · have h1 := ev3 hk (show 0 < N by omega)
    have h2 := facN_z (facN_ge (n := N) (c := (k : Int) - 4) hk (by omega) (by omega)).1
    obtain ⟨y, rfl⟩ : ∃ y, N = y + 1 := ⟨N - 1, by omega⟩
    obtain ⟨m, rfl⟩ : ∃ m, k = m + 3 := ⟨k - 3, by omega⟩
    have h3 : (y + 1) * (y + 1) - (y + 1) = y * (y + 1) := by rw [show (y + 1) * (y + 1) = y * (y + 1) + (y + 1) by rw [Nat.add_mul, Nat.one_mul]]; omega
    have h4 := ev2 y
    rw [h3, show m + 3 - 2 = m + 1 by omega]
    rw [show m + 3 - 2 = m + 1 by omega] at h1 h2
    obtain ⟨T, hT⟩ : ∃ T, T = y * (y + 1) / 2 := ⟨_, rfl⟩
    rw [← hT] at h4 ⊢
    have h5 : facN (y + 1) (m + 1) (((m + 3 : Nat) : Int) - 4) = (m + 1) * y + 2 := by
      have e : ((y + 1 : Nat) : Int) * ((m + 1 : Nat) : Int) = (((m + 1) * y + (m + 1) : Nat) : Int) := by rw [← Int.natCast_mul]; congr 1; rw [Nat.add_mul, Nat.one_mul, Nat.mul_comm]
      rw [e] at h2
      generalize (m + 1) * y = a at *
      omega
    rw [h5] at h1
    have h6 : (y + 1) * ((m + 1) * y + 2) = (m + 1) * (y * (y + 1)) + 2 * (y + 1) := by rw [Nat.mul_add, Nat.mul_left_comm, Nat.mul_comm (y + 1) y, Nat.mul_comm (y + 1) 2]
    rw [h6, ← h4] at h1
    have h7 : (m + 1) * (T * 2) = (m + 1) * T * 2 := (Nat.mul_assoc _ _ _).symm
    rw [h7] at h1
    generalize (m + 1) * T = a at *
    omega
/-- a shape of corners by the root of a square -/
theorem wc_1 {k A x : Nat} (hk : 3 ≤ k) (hx : 0 < x) (h : shp 3 k x = A) : ∃ Y : Nat, Y * Y = 8 * (k - 2) * A + (if 4 ≤ k then (k - 4) * (k - 4) else (4 - k) * (4 - k)) ∧ (Y : Int) = 2 * ((k - 2 : Nat) : Int) * (x : Int) - ((k : Int) - 4) := by
  have h1 := ev3 hk hx
  have h2 := facN_z (facN_ge (n := x) (c := (k : Int) - 4) hk hx (by omega)).1
  rw [h] at h1
  obtain ⟨F, hF⟩ : ∃ F, F = facN x (k - 2) ((k : Int) - 4) := ⟨_, rfl⟩
  rw [← hF] at h1 h2
  obtain ⟨m, rfl⟩ : ∃ m, k = m + 3 := ⟨k - 3, by omega⟩
  have hm : ((m + 3 - 2 : Nat) : Int) = (m : Int) + 1 := by omega
  have hA : (A : Int) * 2 = (x : Int) * (F : Int) := by rw [← Int.natCast_mul, ← h1]; omega
  rw [hm] at h2
  have hz : 0 ≤ 2 * ((m : Int) + 1) * (x : Int) - ((m : Int) - 1) := by
    have : ((m : Int) + 1) * 1 ≤ ((m : Int) + 1) * (x : Int) := Int.mul_le_mul_of_nonneg_left (by omega) (by omega)
    rw [Int.mul_assoc]
    omega
  refine ⟨(2 * ((m : Int) + 1) * (x : Int) - ((m : Int) - 1)).toNat, ?_, ?_⟩
  · have hY : (((2 * ((m : Int) + 1) * (x : Int) - ((m : Int) - 1)).toNat : Nat) : Int) = 2 * ((m : Int) + 1) * (x : Int) - ((m : Int) - 1) := Int.toNat_of_nonneg hz
    have hsq : (((if 4 ≤ m + 3 then (m + 3 - 4) * (m + 3 - 4) else (4 - (m + 3)) * (4 - (m + 3)) : Nat)) : Int) = ((m : Int) - 1) * ((m : Int) - 1) := by
      by_cases q : 4 ≤ m + 3
      · rw [if_pos q, Int.natCast_mul, show ((m + 3 - 4 : Nat) : Int) = (m : Int) - 1 by omega]
      · rw [if_neg q, Int.natCast_mul, show ((4 - (m + 3) : Nat) : Int) = -((m : Int) - 1) by omega, Int.neg_mul_neg]
    apply Int.natCast_inj.mp
    rw [Int.natCast_mul, Int.natCast_add, hY, hsq, Int.natCast_mul, Int.natCast_mul, hm]
    have hF2 : (F : Int) = (x : Int) * ((m : Int) + 1) - ((m : Int) - 1) := by omega
    rw [hF2] at hA
    have e8 : ((8 : Nat) : Int) * ((m : Int) + 1) * (A : Int) = 4 * ((m : Int) + 1) * ((A : Int) * 2) := by
      show 8 * ((m : Int) + 1) * (A : Int) = _
      generalize (A : Int) = a
      generalize (m : Int) = b
      grind
    rw [e8, hA]
    generalize (m : Int) = b
    generalize (x : Int) = a
    grind
  · rw [hm]
    refine (Int.toNat_of_nonneg hz).trans ?_
    generalize 2 * ((m : Int) + 1) * (x : Int) = a
    omega
theorem wc_2 {k A X x : Nat} (hk : 3 ≤ k) (hA : A ≠ 0) (h1 : X * X = 8 * (k - 2) * A + (if 4 ≤ k then (k - 4) * (k - 4) else (4 - k) * (4 - k))) (h2 : (X : Int) = 2 * ((k - 2 : Nat) : Int) * (x : Int) - ((k : Int) - 4)) : shp 3 k x = A := by
  obtain ⟨m, rfl⟩ : ∃ m, k = m + 3 := ⟨k - 3, by omega⟩
  have hm : ((m + 3 - 2 : Nat) : Int) = (m : Int) + 1 := by omega
  have hsq : (((if 4 ≤ m + 3 then (m + 3 - 4) * (m + 3 - 4) else (4 - (m + 3)) * (4 - (m + 3)) : Nat)) : Int) = ((m : Int) - 1) * ((m : Int) - 1) := by
    by_cases q : 4 ≤ m + 3
    · rw [if_pos q, Int.natCast_mul, show ((m + 3 - 4 : Nat) : Int) = (m : Int) - 1 by omega]
    · rw [if_neg q, Int.natCast_mul, show ((4 - (m + 3) : Nat) : Int) = -((m : Int) - 1) by omega, Int.neg_mul_neg]
  have h3 : (X : Int) * (X : Int) = 8 * ((m : Int) + 1) * (A : Int) + ((m : Int) - 1) * ((m : Int) - 1) := by
    rw [← Int.natCast_mul, h1, Int.natCast_add, hsq, Int.natCast_mul, Int.natCast_mul, hm]; rfl
  have h2b : (X : Int) = 2 * ((m : Int) + 1) * (x : Int) - ((m : Int) - 1) := by
    rw [hm] at h2
    generalize 2 * ((m : Int) + 1) * (x : Int) = a at *
    omega
  -- 4 (m+1) ((m+1) x x - (m-1) x) = 8 (m+1) A
  have h4 : ((m : Int) + 1) * ((x : Int) * ((x : Int) * ((m : Int) + 1) - ((m : Int) - 1))) = ((m : Int) + 1) * ((A : Int) * 2) := by
    rw [h2b] at h3
    generalize (m : Int) = b at *
    generalize (x : Int) = a at *
    generalize (A : Int) = c at *
    grind
  have h5 : (x : Int) * ((x : Int) * ((m : Int) + 1) - ((m : Int) - 1)) = (A : Int) * 2 := Int.eq_of_mul_eq_mul_left (by omega) h4
  have hx : 0 < x := by
    refine Nat.pos_of_ne_zero fun q => ?_
    subst q
    rw [show ((0 : Nat) : Int) = 0 from rfl, Int.zero_mul] at h5
    omega
  have h6 := ev3 (k := m + 3) (by omega) hx
  have h7 := facN_z (facN_ge (n := x) (c := ((m + 3 : Nat) : Int) - 4) (k := m + 3) (by omega) hx (by omega)).1
  rw [hm] at h7
  obtain ⟨F, hF⟩ : ∃ F, F = facN x (m + 3 - 2) (((m + 3 : Nat) : Int) - 4) := ⟨_, rfl⟩
  rw [← hF] at h6 h7
  have h8 : (F : Int) = (x : Int) * ((m : Int) + 1) - ((m : Int) - 1) := by omega
  rw [← h8, ← Int.natCast_mul, ← h6] at h5
  omega
/-- triangles, oblongs by the root of a square -/
theorem wt_1 {A x : Nat} (h : shp 1 0 x = A) : (2 * x + 1) * (2 * x + 1) = 8 * A + 1 := by
  rw [shp_k1] at h
  have h2 := ev2 x
  rw [h] at h2
  have h3 : (2 * x + 1) * (2 * x + 1) = 4 * (x * (x + 1)) + 1 := by grind
  rw [h3, ← h2]; omega
theorem wt_2 {A X : Nat} (h : X * X = 8 * A + 1) : shp 1 0 (X / 2) = A := by
  have ho : X % 2 = 1 := by
    rcases (show X % 2 = 0 ∨ X % 2 = 1 by omega) with q | q
    · have : X * X % 2 = 0 := by rw [Nat.mul_mod, q]
      omega
    · exact q
  obtain ⟨x, rfl⟩ : ∃ x, X = 2 * x + 1 := ⟨X / 2, by omega⟩
  rw [show (2 * x + 1) / 2 = x by omega, shp_k1]
  have h2 := ev2 x
  have h3 : (2 * x + 1) * (2 * x + 1) = 4 * (x * (x + 1)) + 1 := by grind
  rw [h3] at h
  generalize x * (x + 1) = a at *
  omega
theorem wo_1 {A x : Nat} (h : shp 2 0 x = A) : (2 * x + 1) * (2 * x + 1) = 4 * A + 1 := by
  rw [shp_k2] at h
  have h3 : (2 * x + 1) * (2 * x + 1) = 4 * (x * (x + 1)) + 1 := by grind
  rw [h3, h]
theorem wo_2 {A X : Nat} (h : X * X = 4 * A + 1) : shp 2 0 (X / 2) = A := by
  have ho : X % 2 = 1 := by
    rcases (show X % 2 = 0 ∨ X % 2 = 1 by omega) with q | q
    · have : X * X % 2 = 0 := by rw [Nat.mul_mod, q]
      omega
    · exact q
  obtain ⟨x, rfl⟩ : ∃ x, X = 2 * x + 1 := ⟨X / 2, by omega⟩
  rw [show (2 * x + 1) / 2 = x by omega, shp_k2]
  have h3 : (2 * x + 1) * (2 * x + 1) = 4 * (x * (x + 1)) + 1 := by grind
  rw [h3] at h
  generalize x * (x + 1) = a at *
  omega
theorem rt_ex2 {C X Y : Nat} (h : rtP 2 C X) (hY : Y * Y = C) : X = Y := by
  have h1 := h.1
  have h2 := h.2
  rw [Nat.pow_two] at h1 h2
  rcases Nat.lt_trichotomy X Y with q | q | q
  · have := Nat.mul_le_mul (show X + 1 ≤ Y from q) (show X + 1 ≤ Y from q); omega
  · exact q
  · have := Nat.mul_le_mul (show Y + 1 ≤ X from q) (show Y + 1 ≤ X from q)
    have e : (Y + 1) * (Y + 1) = Y * Y + 2 * Y + 1 := by rw [Nat.add_mul, Nat.mul_add]; omega
    omega
/-- the greatest whose shape is not more -/
theorem gr_ex {f : Nat → Nat} {A b : Nat} (hm : ∀ x y, x < y → f x < f y) (h0 : f 0 ≤ A) (hb : A < f b) : ∃ X, ∀ M, f M ≤ A ↔ M ≤ X := by
  induction b with
  | zero => omega
  | succ b ih =>
    by_cases q : A < f b
    · exact ih q
    · refine ⟨b, fun M => ⟨fun h => ?_, fun h => ?_⟩⟩
      · refine Nat.le_of_lt_succ (Classical.byContradiction fun q2 => ?_)
        rcases Nat.lt_or_ge (b + 1) M with q3 | q3
        · have := hm _ _ q3; omega
        · rw [show M = b + 1 by omega] at h; omega
      · rcases Nat.lt_or_ge M b with q3 | q3
        · have := hm _ _ q3; omega
        · rw [show M = b by omega]; omega
theorem shp4_cube {k x : Nat} (hk : 3 ≤ k) : x * x * x ≤ shp 4 k x * 6 := by
  by_cases h0 : x = 0
  · subst h0; exact Nat.zero_le _
  · rw [shp4_6 hk h0]
    have h1 : x + 1 ≤ facN x (k - 2) ((k : Int) - 5) := by
      have e : ((x * (k - 2) : Nat) : Int) = (x : Int) * ((k - 2 : Nat) : Int) := Int.natCast_mul _ _
      have h2 := (facN_ge (n := x) (c := (k : Int) - 5) hk (by omega) (by omega))
      have h3 := facN_z h2.1
      obtain ⟨m, rfl⟩ : ∃ m, k = m + 3 := ⟨k - 3, by omega⟩
      rw [show m + 3 - 2 = m + 1 by omega] at *
      have h4 : x * (m + 1) = x * m + x := by rw [Nat.mul_add, Nat.mul_one]
      have h5 : 1 * m ≤ x * m := Nat.mul_le_mul_right _ (by omega)
      rw [h4] at e
      skip
      omega
    have h2 : x * x ≤ x * (x + 1) := Nat.mul_le_mul_left _ (by omega)
    exact Nat.mul_le_mul h2 (by omega)
theorem wh_nl {A X s : Nat} (h : X * X * X ≤ A * 6) (hs : nl A ≤ s) : nl X ≤ s / 3 + 2 := by
  refine (nl_le _ _).mpr (Classical.byContradiction fun q => ?_)
  have q1 := Nat.le_of_not_lt q
  have h2 := Nat.mul_le_mul (Nat.mul_le_mul q1 q1) q1
  rw [← Nat.pow_add, ← Nat.pow_add] at h2
  have h3 := (nl_le _ _).mp hs
  have h4 : 1000000000 ^ (s + 1) ≤ 1000000000 ^ (s / 3 + 2 + (s / 3 + 2) + (s / 3 + 2)) := Nat.pow_le_pow_right (by omega) (by omega)
  rw [bP_s] at h4
  generalize 1000000000 ^ (s / 3 + 2 + (s / 3 + 2) + (s / 3 + 2)) = a at *
  generalize 1000000000 ^ s = b at *
  omega
theorem wh_ex {k A : Nat} (hk : 3 ≤ k) : ∃ X, ∀ M, shp 4 k M * 6 ≤ A * 6 ↔ M ≤ X := by
  obtain ⟨X, hX⟩ := gr_ex (f := shp 4 k) (A := A) (b := A * 6 + 1) (fun x y h => shp_lt (by omega) (fun _ => hk) h) (by rw [shp_0]; omega) (by
    have := shp4_cube (k := k) (x := A * 6 + 1) hk
    have h2 : (A * 6 + 1) * 1 ≤ (A * 6 + 1) * (A * 6 + 1) := Nat.mul_le_mul_left _ (by omega)
    have h3 : (A * 6 + 1) * (A * 6 + 1) * 1 ≤ (A * 6 + 1) * (A * 6 + 1) * (A * 6 + 1) := Nat.mul_le_mul_left _ (by omega)
    generalize (A * 6 + 1) * (A * 6 + 1) * (A * 6 + 1) = c at *
    generalize (A * 6 + 1) * (A * 6 + 1) = d at *
    omega)
  exact ⟨X, fun M => by rw [← hX M]; omega⟩
/-- rows by one step from one to the next -/
def row (m t : Nat) : Nat → Nat × Nat
  | 0 => (0, 1)
  | n + 1 => ((row m t n).2, (row m t n).2 * m + t - (row m t n).1)
theorem row_lad (t : Nat) : ∀ n, row 6 t n = lad t n
  | 0 => rfl
  | n + 1 => by show ((row 6 t n).2, (row 6 t n).2 * 6 + t - (row 6 t n).1) = ((lad t n).2, (lad t n).2 * 6 + t - (lad t n).1); rw [row_lad t n]
theorem lad_i : ∀ n, (lad 0 n).1 * (lad 0 n).1 + (lad 0 n).2 * (lad 0 n).2 = 6 * ((lad 0 n).1 * (lad 0 n).2) + 1
  | 0 => rfl
  | n + 1 => by
    have ih := lad_i n
    obtain ⟨h1, -, -⟩ := lad_ok (t := 0) (by omega) n
    show (lad 0 n).2 * (lad 0 n).2 + ((lad 0 n).2 * 6 + 0 - (lad 0 n).1) * ((lad 0 n).2 * 6 + 0 - (lad 0 n).1) = 6 * ((lad 0 n).2 * ((lad 0 n).2 * 6 + 0 - (lad 0 n).1)) + 1
    generalize (lad 0 n).1 = a at *
    generalize (lad 0 n).2 = b at *
    obtain ⟨c, hc⟩ : ∃ c, c + a = b * 6 := ⟨b * 6 - a, by omega⟩
    rw [show b * 6 + 0 - a = c by omega]
    have hz : (c : Int) = 6 * (b : Int) - (a : Int) := by omega
    have ih2 : (a : Int) * a + (b : Int) * b = 6 * ((a : Int) * b) + 1 := by exact_mod_cast ih
    have : (b : Int) * b + (c : Int) * c = 6 * ((b : Int) * c) + 1 := by rw [hz]; grind
    exact_mod_cast this
theorem row_sq : ∀ n, (row 34 2 n).1 = (lad 0 n).1 * (lad 0 n).1 ∧ (row 34 2 n).2 = (lad 0 n).2 * (lad 0 n).2
  | 0 => ⟨rfl, rfl⟩
  | n + 1 => by
    obtain ⟨h1, h2⟩ := row_sq n
    refine ⟨h2, ?_⟩
    have hi := lad_i n
    obtain ⟨h3, -, -⟩ := lad_ok (t := 0) (by omega) n
    show (row 34 2 n).2 * 34 + 2 - (row 34 2 n).1 = ((lad 0 n).2 * 6 + 0 - (lad 0 n).1) * ((lad 0 n).2 * 6 + 0 - (lad 0 n).1)
    rw [h1, h2]
    generalize (lad 0 n).1 = a at *
    generalize (lad 0 n).2 = b at *
    obtain ⟨c, hc⟩ : ∃ c, c + a = b * 6 := ⟨b * 6 - a, by omega⟩
    rw [show b * 6 + 0 - a = c by omega]
    have hz : (c : Int) = 6 * (b : Int) - (a : Int) := by omega
    have hi2 : (a : Int) * a + (b : Int) * b = 6 * ((a : Int) * b) + 1 := by exact_mod_cast hi
    have h5 : (c : Int) * c + (a : Int) * a = (b : Int) * b * 34 + 2 := by rw [hz]; grind
    have h6 : c * c + a * a = b * b * 34 + 2 := by exact_mod_cast h5
    omega
theorem row_ok {m t : Nat} (hm : 2 ≤ m) (hmt : m + t ≤ 36) : ∀ n, (row m t n).1 ≤ (row m t n).2 ∧ 1 ≤ (row m t n).2 ∧ (row m t n).2 ≤ 36 ^ n
  | 0 => ⟨by show 0 ≤ 1; omega, Nat.le_refl _, Nat.le_refl _⟩
  | n + 1 => by
    obtain ⟨a, b, c⟩ := row_ok hm hmt n
    have h1 : (row m t n).2 * 2 ≤ (row m t n).2 * m := Nat.mul_le_mul_left _ hm
    have h2 : (row m t n).2 * (m + t) ≤ (row m t n).2 * 36 := Nat.mul_le_mul_left _ hmt
    have h3 : 1 * t ≤ (row m t n).2 * t := Nat.mul_le_mul_right _ b
    rw [Nat.mul_add] at h2
    refine ⟨?_, ?_, ?_⟩
    · show (row m t n).2 ≤ (row m t n).2 * m + t - (row m t n).1; omega
    · show 1 ≤ (row m t n).2 * m + t - (row m t n).1; omega
    · show (row m t n).2 * m + t - (row m t n).1 ≤ 36 ^ (n + 1)
      rw [Nat.pow_succ]; omega
theorem row_nl {m t n : Nat} (hm : 2 ≤ m) (hmt : m + t ≤ 36) (hn : n ≤ 201) : nl (row m t n).2 ≤ 40 ∧ nl (row m t n).1 ≤ 40 := by
  have h := row_ok hm hmt n
  have p : 36 ^ n ≤ 36 ^ 201 := Nat.pow_le_pow_right (by omega) hn
  have q : 36 ^ 201 < 1000000000 ^ 40 := by decide +kernel
  generalize 36 ^ n = a at *
  generalize 36 ^ 201 = b at *
  generalize hc : 1000000000 ^ 40 = c at *
  exact ⟨(nl_le _ _).mpr (by rw [hc]; omega), (nl_le _ _).mpr (by rw [hc]; omega)⟩
