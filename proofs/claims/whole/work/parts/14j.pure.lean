/-! the parts come again; the product of a round's parts is short -/
theorem cf_two {d f n : Nat} (h0 : 1 ≤ f) (h1 : f * f < d) (h2 : d < (f + 1) * (f + 1)) (h : (cf d f n).2.2 = 2 * f) : (cf d f n).1 = f ∧ (cf d f n).2.1 = 1 := by
  obtain ⟨i1, i2, i3, -, i5⟩ := cf_ok h0 h1 h2 n
  rw [h] at i5
  generalize (cf d f n).1 = m at *
  generalize (cf d f n).2.1 = D at *
  have h3 : 2 * f * D ≤ f + m := by rw [i5]; exact Nat.div_mul_le_self _ _
  have h4 : 2 * f * 1 ≤ 2 * f * D := Nat.mul_le_mul_left _ i2
  refine ⟨by omega, ?_⟩
  refine Nat.le_antisymm (Nat.le_of_not_lt fun q => ?_) i2
  have := Nat.mul_le_mul_left (2 * f) (show 2 ≤ D from q)
  omega
theorem cf_s (d f n : Nat) : cf d f (n + 1) = ((cf d f n).2.1 * (cf d f n).2.2 - (cf d f n).1, (d - ((cf d f n).2.1 * (cf d f n).2.2 - (cf d f n).1) * ((cf d f n).2.1 * (cf d f n).2.2 - (cf d f n).1)) / (cf d f n).2.1, (f + ((cf d f n).2.1 * (cf d f n).2.2 - (cf d f n).1)) / ((d - ((cf d f n).2.1 * (cf d f n).2.2 - (cf d f n).1) * ((cf d f n).2.1 * (cf d f n).2.2 - (cf d f n).1)) / (cf d f n).2.1)) := rfl
theorem cf_p {d f n : Nat} (h : rl d f) (hn : (cf d f n).2.2 = 2 * f) : ∀ j, cf d f (n + (j + 1)) = cf d f (j + 1)
  | 0 => by
    obtain ⟨e1, e2⟩ := cf_two h.1 h.2.2.1 h.2.2.2.1 hn
    rw [show n + (0 + 1) = n + 1 by omega, cf_s d f n, cf_s d f 0, e1, e2, hn]
    show (1 * (2 * f) - f, _) = (1 * f - 0, _)
    rw [show 1 * (2 * f) - f = f by omega]
    show (f, (d - f * f) / 1, _) = (1 * f - 0, (d - (1 * f - 0) * (1 * f - 0)) / 1, (f + (1 * f - 0)) / ((d - (1 * f - 0) * (1 * f - 0)) / 1))
    rw [show 1 * f - 0 = f by omega]
  | j + 1 => by
    rw [show n + (j + 1 + 1) = (n + (j + 1)) + 1 by omega, cf_s, cf_p h hn j, ← cf_s]
theorem cf_m {d f k : Nat} (h : rl d f) (hk : rnd d f k) : ∀ c j : Nat, cf d f (k * c + (j + 1)) = cf d f (j + 1)
  | 0, j => by rw [Nat.mul_zero, Nat.zero_add]
  | c + 1, j => by rw [show k * (c + 1) + (j + 1) = k + ((k * c + j) + 1) by rw [Nat.mul_add, Nat.mul_one]; omega, cf_p h hk.2.1, show k * c + j + 1 = k * c + (j + 1) by omega, cf_m h hk c j]
theorem cf_per {d f k i : Nat} (h : rl d f) (hk : rnd d f k) (hi : 0 < i) : cf d f i = cf d f ((i - 1) % k + 1) := by
  have e : i = k * ((i - 1) / k) + ((i - 1) % k + 1) := by have := Nat.div_add_mod (i - 1) k; omega
  have := cf_m h hk ((i - 1) / k) ((i - 1) % k)
  rw [← e] at this
  exact this
def prd (d f : Nat) : Nat → Nat
  | 0 => 1
  | n + 1 => prd d f n * ((cf d f (n + 1)).2.2 + 1)
theorem prd_pos (d f : Nat) : ∀ n, 1 ≤ prd d f n
  | 0 => Nat.le_refl _
  | n + 1 => Nat.mul_pos (prd_pos d f n) (by omega)
theorem prd_s (d f n : Nat) : prd d f n ≤ prd d f (n + 1) := Nat.le_mul_of_pos_right _ (by omega)
theorem prd_mono {d f m : Nat} : ∀ {n}, m ≤ n → prd d f m ≤ prd d f n
  | 0, h => by rw [show m = 0 by omega]; exact Nat.le_refl _
  | n + 1, h => by
    rcases Nat.lt_or_ge n m with q | q
    · rw [show m = n + 1 by omega]; exact Nat.le_refl _
    · exact Nat.le_trans (prd_mono q) (prd_s d f n)
theorem prd_add {d f k : Nat} (h : rl d f) (hk : rnd d f k) : ∀ j, prd d f (k + j) = prd d f k * prd d f j
  | 0 => (Nat.mul_one _).symm
  | j + 1 => by
    show prd d f (k + j) * ((cf d f (k + (j + 1))).2.2 + 1) = prd d f k * (prd d f j * ((cf d f (j + 1)).2.2 + 1))
    rw [prd_add h hk j, cf_p h hk.2.1, Nat.mul_assoc]
theorem cv_prd {d f : Nat} (h : rl d f) : ∀ n, cvp d f n ≤ f * prd d f n
  | 0 => by show f ≤ f * 1; omega
  | n + 1 => by
    have ih := cv_prd h n
    have ho := (cv_old h n).1
    show cvp d f n * (cf d f (n + 1)).2.2 + (cv d f n).1.2 ≤ f * (prd d f n * ((cf d f (n + 1)).2.2 + 1))
    rw [← Nat.mul_assoc]
    have := Nat.mul_le_mul_right ((cf d f (n + 1)).2.2 + 1) ih
    rw [Nat.mul_add, Nat.mul_one] at this
    omega
theorem prd_le {d f : Nat} (h : rl d f) : ∀ n, prd d f n ≤ 199 ^ n
  | 0 => Nat.le_refl _
  | n + 1 => by
    rw [Nat.pow_succ]
    exact Nat.mul_le_mul (prd_le h n) (by have := (cf_a h (n + 1)).2; omega)
theorem near_nl {d f n : Nat} (h : rl d f) (hn : n ≤ 200) : nl (cvp d f n) ≤ 79 := by
  have h1 := cv_prd h n
  have h2 := prd_le h n
  have h3 : 199 ^ n ≤ 199 ^ 200 := Nat.pow_le_pow_right (by omega) hn
  have h4 : 99 * 199 ^ 200 < 1000000000 ^ 79 := by decide +kernel
  have h5 := Nat.mul_le_mul h.2.1 (Nat.le_trans h2 h3)
  refine (nl_le _ _).mpr ?_
  generalize 199 ^ 200 = a at *
  generalize 1000000000 ^ 79 = b at *
  omega
theorem rqR_r : ∀ {f n r : Nat}, rqR f n = true → 1 ≤ r → r ≤ n → rdq (f * f + r) f 400 0 1 f 1 = true
  | f, 0, r, _, h1, h2 => by omega
  | f, n + 1, r, h, h1, h2 => by
    rw [rqR, frc_e] at h
    cases hc : rdq (f * f + (n + 1)) f 400 0 1 f 1 with
    | false => rw [hc] at h; exact absurd (show false = true from h) Bool.false_ne_true
    | true =>
      rw [hc] at h
      rcases Nat.lt_or_ge n r with q | q
      · rw [show r = n + 1 by omega]; exact hc
      · exact rqR_r (n := n) h h1 q
theorem rdq_ok {d f k : Nat} (hk : rnd d f k) : ∀ {n j : Nat}, rdq d f n (cf d f j).1 (cf d f j).2.1 (cf d f j).2.2 (prd d f j) = true → j < k → prd d f k ≤ bqB
  | 0, j, h, _ => by rw [rdq] at h; exact absurd h (by decide)
  | n + 1, j, h, hj => by
    rw [rdq, frc_e, frc_e, frc_e, frc_e] at h
    have e : (cf d f (j + 1)).2.2 = (f + ((cf d f j).2.1 * (cf d f j).2.2 - (cf d f j).1)) / ((d - ((cf d f j).2.1 * (cf d f j).2.2 - (cf d f j).1) * ((cf d f j).2.1 * (cf d f j).2.2 - (cf d f j).1)) / (cf d f j).2.1) := rfl
    rw [← e] at h
    cases hc : Nat.beq (cf d f (j + 1)).2.2 (2 * f) with
    | true =>
      rw [hc] at h
      have h2 : Nat.ble (prd d f (j + 1)) bqB = true := h
      have h3 : k = j + 1 := by
        refine Nat.le_antisymm (Nat.le_of_not_lt fun q => hk.2.2 (j + 1) (by omega) q (Nat.eq_of_beq_eq_true hc)) hj
      rw [h3]
      exact Nat.le_of_ble_eq_true h2
    | false =>
      rw [hc] at h
      refine rdq_ok hk (n := n) (j := j + 1) h (Nat.lt_of_le_of_ne hj fun q => ?_)
      have h3 := hk.2.1
      rw [← q] at h3
      have h4 := Nat.ne_of_beq_eq_false hc
      exact h4 h3
theorem prd_k {d f k : Nat} (h : rl d f) (hk : rnd d f k) : prd d f k ≤ bqB := by
  obtain ⟨h1, h2, h3, h4, h5⟩ := h
  have e1 : (f + 1) * (f + 1) = f * f + 2 * f + 1 := by grind
  have a := rqR_r (rqA h1 h2) (r := d - f * f) (by omega) (by omega)
  rw [show f * f + (d - f * f) = d by omega] at a
  exact rdq_ok hk (n := 400) (j := 0) a hk.1
theorem one_nl {d f k n : Nat} (h : rl d f) (hk : rnd d f k) (hn : n ≤ 2 * k) : nl (cvp d f n) ≤ 79 := by
  have h1 := cv_prd h n
  have h2 := prd_mono (d := d) (f := f) hn
  have h3 := prd_add h hk k
  rw [show k + k = 2 * k by omega] at h3
  rw [h3] at h2
  have h4 := Nat.mul_le_mul (prd_k h hk) (prd_k h hk)
  have h5 : 99 * (bqB * bqB) < 1000000000 ^ 79 := by decide +kernel
  have h6 := Nat.mul_le_mul h.2.1 (Nat.le_trans h2 h4)
  refine (nl_le _ _).mpr ?_
  generalize bqB * bqB = a at *
  generalize 1000000000 ^ 79 = b at *
  omega
