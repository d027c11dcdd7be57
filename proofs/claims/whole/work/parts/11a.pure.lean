/-! the nearest parts of a root, the fractions near it, the ones -/
def cf (d f : Nat) : Nat → Nat × Nat × Nat
  | 0 => (0, 1, f)
  | n + 1 => ((cf d f n).2.1 * (cf d f n).2.2 - (cf d f n).1, (d - ((cf d f n).2.1 * (cf d f n).2.2 - (cf d f n).1) * ((cf d f n).2.1 * (cf d f n).2.2 - (cf d f n).1)) / (cf d f n).2.1, (f + ((cf d f n).2.1 * (cf d f n).2.2 - (cf d f n).1)) / ((d - ((cf d f n).2.1 * (cf d f n).2.2 - (cf d f n).1) * ((cf d f n).2.1 * (cf d f n).2.2 - (cf d f n).1)) / (cf d f n).2.1))
def cfI (d f m D a : Nat) : Prop := m ≤ f ∧ 1 ≤ D ∧ D ≤ f + m ∧ (∃ e, d - m * m = D * e) ∧ a = (f + m) / D
theorem cf_next {d f m D a : Nat} (h1 : f * f < d) (h2 : d < (f + 1) * (f + 1)) (h : cfI d f m D a) : m ≤ D * a ∧ D * a - m ≤ f ∧ (D * a - m) * (D * a - m) < d ∧ 1 ≤ (d - (D * a - m) * (D * a - m)) / D ∧ cfI d f (D * a - m) ((d - (D * a - m) * (D * a - m)) / D) ((f + (D * a - m)) / ((d - (D * a - m) * (D * a - m)) / D)) ∧ 1 ≤ a ∧ a ≤ f + m := by
  obtain ⟨i1, i2, i3, ⟨e, i4⟩, i5⟩ := h
  have da : D * a ≤ f + m := by rw [i5, Nat.mul_comm]; exact Nat.div_mul_le_self _ _
  have db : f + m < D * a + D := by rw [i5]; have := Nat.lt_div_mul_add i2 (a := f + m); rw [Nat.mul_comm] at this; exact this
  have a1 : 1 ≤ a := by rw [i5]; exact Nat.div_pos i3 i2
  have a2 : a ≤ f + m := by rw [i5]; exact Nat.div_le_self _ _
  have dm : m ≤ D * a := by
    rcases Nat.lt_or_ge f D with q | q
    · have := Nat.mul_le_mul_left D a1
      omega
    · omega
  obtain ⟨m', hm'⟩ : ∃ m', m' = D * a - m := ⟨_, rfl⟩
  rw [← hm']
  have m1 : m' ≤ f := by omega
  have mm : m' * m' ≤ f * f := Nat.mul_le_mul m1 m1
  have mf : m * m ≤ f * f := Nat.mul_le_mul i1 i1
  have hDa : D * a = m' + m := by omega
  have hdv : ∃ e', d - m' * m' = D * e' := by
    have key : (d : Int) - (m' : Int) * (m' : Int) = (D : Int) * ((e : Int) - (a : Int) * ((m' : Int) - (m : Int))) := by
      have k1 : (d : Int) - (m : Int) * (m : Int) = (D : Int) * (e : Int) := by
        have : ((d - m * m : Nat) : Int) = ((D * e : Nat) : Int) := by rw [i4]
        rw [Int.natCast_sub (by omega), Int.natCast_mul, Int.natCast_mul] at this
        exact this
      have k2 : (D : Int) * (a : Int) = (m' : Int) + (m : Int) := by
        have : ((D * a : Nat) : Int) = ((m' + m : Nat) : Int) := by rw [hDa]
        rw [Int.natCast_mul, Int.natCast_add] at this
        exact this
      grind
    have hz : ((d - m' * m' : Nat) : Int) = (d : Int) - (m' : Int) * (m' : Int) := by rw [Int.natCast_sub (by omega), Int.natCast_mul]
    have hd : (D : Int) ∣ ((d - m' * m' : Nat) : Int) := by rw [hz, key]; exact Int.dvd_mul_right _ _
    obtain ⟨e', he'⟩ := Int.natCast_dvd_natCast.mp hd
    exact ⟨e', he'⟩
  obtain ⟨e', he'⟩ := hdv
  have hq : (d - m' * m') / D = e' := by rw [he']; exact Nat.mul_div_cancel_left _ i2
  have e1 : 1 ≤ e' := Nat.pos_of_ne_zero fun q => by rw [q] at he'; omega
  have e2 : e' ≤ f + m' := by
    refine Nat.le_of_lt_succ (Nat.lt_of_mul_lt_mul_left (a := D) ?_)
    have u1 : d - m' * m' < (f + 1) * (f + 1) - m' * m' := by omega
    obtain ⟨w, hw⟩ : ∃ w, f = m' + w := ⟨f - m', by omega⟩
    have u2 : (f + 1) * (f + 1) = m' * m' + (w + 1) * (f + m' + 1) := by rw [hw]; grind
    have u3 : (w + 1) * (f + m' + 1) ≤ D * (f + m' + 1) := Nat.mul_le_mul_right _ (by omega)
    show D * e' < D * (f + m' + 1)
    omega
  rw [hq]
  exact ⟨dm, m1, by omega, e1, ⟨m1, e1, e2, ⟨D, by rw [he', Nat.mul_comm]⟩, rfl⟩, a1, a2⟩
theorem cf_ok {d f : Nat} (h0 : 1 ≤ f) (h1 : f * f < d) (h2 : d < (f + 1) * (f + 1)) : ∀ n, cfI d f (cf d f n).1 (cf d f n).2.1 (cf d f n).2.2
  | 0 => ⟨Nat.zero_le _, Nat.le_refl _, by show 1 ≤ f + 0; omega, ⟨d, by show d - 0 * 0 = 1 * d; omega⟩, by show f = (f + 0) / 1; omega⟩
  | n + 1 => (cf_next h1 h2 (cf_ok h0 h1 h2 n)).2.2.2.2.1
/-- the fractions: above, the one before; below, the one before -/
def cv (d f : Nat) : Nat → (Nat × Nat) × (Nat × Nat)
  | 0 => ((f, 1), (1, 0))
  | n + 1 => (((cv d f n).1.1 * (cf d f (n + 1)).2.2 + (cv d f n).1.2, (cv d f n).1.1), ((cv d f n).2.1 * (cf d f (n + 1)).2.2 + (cv d f n).2.2, (cv d f n).2.1))
def cvp (d f n : Nat) : Nat := (cv d f n).1.1
def cvq (d f n : Nat) : Nat := (cv d f n).2.1
theorem cv_le {d f : Nat} (h0 : 1 ≤ f) (h1 : f * f < d) (h2 : d < (f + 1) * (f + 1)) : ∀ n, (cv d f n).2.1 ≤ (cv d f n).1.1 ∧ (cv d f n).2.2 ≤ (cv d f n).1.2 ∧ 1 ≤ (cv d f n).1.1
  | 0 => ⟨h0, by show 0 ≤ 1; omega, h0⟩
  | n + 1 => by
    obtain ⟨a, b, c⟩ := cv_le h0 h1 h2 n
    have ha := (cf_next h1 h2 (cf_ok h0 h1 h2 (n + 1))).2.2.2.2.2.1
    refine ⟨Nat.add_le_add (Nat.mul_le_mul_right _ a) b, a, ?_⟩
    have := Nat.mul_le_mul c ha
    show 1 ≤ (cv d f n).1.1 * (cf d f (n + 1)).2.2 + (cv d f n).1.2
    omega
theorem cv_up {d f : Nat} (h0 : 1 ≤ f) (h1 : f * f < d) (h2 : d < (f + 1) * (f + 1)) (n : Nat) : cvp d f n ≤ cvp d f (n + 1) := by
  have ha := (cf_next h1 h2 (cf_ok h0 h1 h2 (n + 1))).2.2.2.2.2.1
  have := Nat.mul_le_mul_left (cv d f n).1.1 ha
  show (cv d f n).1.1 ≤ (cv d f n).1.1 * (cf d f (n + 1)).2.2 + (cv d f n).1.2
  omega
theorem cv_mono {d f : Nat} (h0 : 1 ≤ f) (h1 : f * f < d) (h2 : d < (f + 1) * (f + 1)) {m : Nat} : ∀ {n}, m ≤ n → cvp d f m ≤ cvp d f n
  | 0, h => by rw [show m = 0 by omega]; exact Nat.le_refl _
  | n + 1, h => by
    rcases Nat.lt_or_ge n m with q | q
    · rw [show m = n + 1 by omega]; exact Nat.le_refl _
    · exact Nat.le_trans (cv_mono h0 h1 h2 q) (cv_up h0 h1 h2 n)
/-- how long a round is -/
def rnd (d f n : Nat) : Prop := 0 < n ∧ (cf d f n).2.2 = 2 * f ∧ ∀ j, 0 < j → j < n → (cf d f j).2.2 ≠ 2 * f
/-- the ones: from the least -/
def pel (d x y : Nat) : Nat → Nat × Nat
  | 0 => (x, y)
  | n + 1 => ((pel d x y n).2 * y * d + (pel d x y n).1 * x, (pel d x y n).2 * x + (pel d x y n).1 * y)
theorem pel_le {d x y : Nat} (hd : 1 ≤ d) (h : y ≤ x) (h0 : 1 ≤ x) : ∀ n, (pel d x y n).2 ≤ (pel d x y n).1 ∧ 1 ≤ (pel d x y n).1 ∧ (pel d x y n).1 ≤ (pel d x y (n + 1)).1
  | n => by
    have key : ∀ n, (pel d x y n).2 ≤ (pel d x y n).1 ∧ 1 ≤ (pel d x y n).1 := fun n => by
      induction n with
      | zero => exact ⟨h, h0⟩
      | succ n ih =>
        obtain ⟨a, b⟩ := ih
        generalize hX : (pel d x y n).1 = X at *
        generalize hY : (pel d x y n).2 = Y at *
        have e1 : (pel d x y (n + 1)).1 = Y * y * d + X * x := by rw [← hX, ← hY]; rfl
        have e2 : (pel d x y (n + 1)).2 = Y * x + X * y := by rw [← hX, ← hY]; rfl
        rw [e1, e2]
        have m1 : Y * y * 1 ≤ Y * y * d := Nat.mul_le_mul_left _ hd
        have m2 := Nat.mul_le_mul b h0
        obtain ⟨u, rfl⟩ : ∃ u, X = Y + u := ⟨X - Y, by omega⟩
        obtain ⟨w, rfl⟩ : ∃ w, x = y + w := ⟨x - y, by omega⟩
        have m3 : (Y + u) * (y + w) + Y * y = Y * (y + w) + (Y + u) * y + u * w := by grind
        omega
    refine ⟨(key n).1, (key n).2, ?_⟩
    show (pel d x y n).1 ≤ (pel d x y n).2 * y * d + (pel d x y n).1 * x
    have := Nat.mul_le_mul_left (pel d x y n).1 h0
    omega
theorem pel_mono {d x y : Nat} (hd : 1 ≤ d) (h : y ≤ x) (h0 : 1 ≤ x) {m : Nat} : ∀ {n}, m ≤ n → (pel d x y m).1 ≤ (pel d x y n).1
  | 0, hm => by rw [show m = 0 by omega]; exact Nat.le_refl _
  | n + 1, hm => by
    rcases Nat.lt_or_ge n m with q | q
    · rw [show m = n + 1 by omega]; exact Nat.le_refl _
    · exact Nat.le_trans (pel_mono hd h h0 q) (pel_le hd h h0 n).2.2
/-- the ladder: each next is six times the last less the one before and a told number more -/
def lad (t : Nat) : Nat → Nat × Nat
  | 0 => (0, 1)
  | n + 1 => ((lad t n).2, (lad t n).2 * 6 + t - (lad t n).1)
theorem lad_ok {t : Nat} (ht : t ≤ 2) : ∀ n, (lad t n).1 ≤ (lad t n).2 ∧ 1 ≤ (lad t n).2 ∧ (lad t n).2 ≤ 8 ^ n
  | 0 => ⟨by show 0 ≤ 1; omega, Nat.le_refl _, Nat.le_refl _⟩
  | n + 1 => by
    obtain ⟨a, b, c⟩ := lad_ok ht n
    refine ⟨?_, ?_, ?_⟩
    · show (lad t n).2 ≤ (lad t n).2 * 6 + t - (lad t n).1; omega
    · show 1 ≤ (lad t n).2 * 6 + t - (lad t n).1; omega
    · show (lad t n).2 * 6 + t - (lad t n).1 ≤ 8 ^ (n + 1)
      rw [Nat.pow_succ]; omega
theorem lad_nl {t n : Nat} (ht : t ≤ 2) (hn : n ≤ 201) : nl (lad t n).2 ≤ 21 ∧ nl (lad t n).1 ≤ 21 := by
  have h := lad_ok ht n
  have p : 8 ^ n ≤ 8 ^ 201 := Nat.pow_le_pow_right (by omega) hn
  have q : 8 ^ 201 < 1000000000 ^ 21 := by decide +kernel
  exact ⟨(nl_le _ _).mpr (by omega), (nl_le _ _).mpr (by omega)⟩
