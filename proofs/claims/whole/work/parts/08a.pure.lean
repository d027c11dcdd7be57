/-! long division by limbs: the guess, the taking away, the giving back -/
def sh (f : Nat → Nat) (j : Nat) : Nat → Nat := fun k => f (j + k)
theorem bV_add (f : Nat → Nat) (j : Nat) : ∀ k, bV f (j + k) = bV f j + bV (sh f j) k * 1000000000 ^ j
  | 0 => by simp [bV]
  | k + 1 => by
    rw [← Nat.add_assoc, bV_s, bV_add f j k, bV_s]
    show _ + f (j + k) * 1000000000 ^ (j + k) = _ + (_ + f (j + k) * 1000000000 ^ k) * 1000000000 ^ j
    rw [Nat.add_mul, Nat.pow_add, Nat.mul_assoc (f (j + k)), Nat.mul_comm (1000000000 ^ j)]
    omega
theorem kn_guess {W h v D P lo g : Nat} (hP : 0 < P) (hW : W = h * P + lo) (hlo : lo < P) (hv1 : v * P ≤ D) (hv2 : D < (v + 1) * P) (hv : 1000000000 ≤ v * 4) (hD : W < D * 1000000000) (hg : g = min (h / v) 999999999) : W / D ≤ g ∧ g ≤ W / D + 4 := by
  have hD0 : 0 < D := Nat.lt_of_lt_of_le (Nat.mul_pos (by omega) hP) hv1
  have hq : W / D < 1000000000 := by rw [Nat.div_lt_iff_lt_mul hD0, Nat.mul_comm]; exact hD
  have hqW := Nat.div_mul_le_self W D
  have hqW2 := Nat.lt_div_mul_add hD0 (a := W)
  generalize W / D = q at *
  have hh : q ≤ h / v := by
    rw [Nat.le_div_iff_mul_le (by omega)]
    have a1 : q * v * P ≤ q * D := by rw [Nat.mul_assoc]; exact Nat.mul_le_mul_left _ hv1
    have a2 : q * v * P < (h + 1) * P := by rw [Nat.add_mul, Nat.one_mul]; omega
    have a3 := Nat.lt_of_mul_lt_mul_right a2
    omega
  refine ⟨by omega, ?_⟩
  refine Nat.le_of_not_lt fun hlt => ?_
  have hgv : g * v ≤ h := by
    have b1 : g ≤ h / v := by omega
    rwa [Nat.le_div_iff_mul_le (by omega)] at b1
  have c1 : g * D ≤ g * ((v + 1) * P) := Nat.mul_le_mul_left _ (Nat.le_of_lt hv2)
  have c2 : g * v * P ≤ h * P := Nat.mul_le_mul_right _ hgv
  have c3 : g * ((v + 1) * P) = g * v * P + g * P := by rw [← Nat.mul_assoc, Nat.mul_add, Nat.mul_one, Nat.add_mul]
  have c4 : (q + 5) * D ≤ g * D := Nat.mul_le_mul_right _ (by omega)
  have c5 : (q + 5) * D = q * D + 5 * D := Nat.add_mul _ _ _
  have c6 : g * P ≤ 999999999 * P := Nat.mul_le_mul_right _ (by omega)
  have c7 : 1000000000 * P ≤ v * 4 * P := Nat.mul_le_mul_right _ hv
  have c8 : v * 4 * P = 4 * (v * P) := by rw [Nat.mul_comm v 4, Nat.mul_assoc]
  omega
theorem kn_lift {N n : Nat} (hN : N ≠ 0) (hn : n = nl N) : ∃ v lift : Nat, lift = 1000000000 / (dg N (n - 1) + 1) ∧ 0 < lift ∧ lift < 1000000000 ∧ N * lift < 1000000000 ^ n ∧ nl (N * lift) = n ∧ v = dg (N * lift) (n - 1) ∧ v * 1000000000 ^ (n - 1) ≤ N * lift ∧ N * lift < (v + 1) * 1000000000 ^ (n - 1) ∧ 1000000000 ≤ v * 4 := by
  subst hn
  have h0 := nl_pos.mpr hN
  have ht := dg_topv hN
  have htop := dg_top hN
  have hlt := dg_lt N (nl N - 1)
  generalize htt : dg N (nl N - 1) = t at *
  have p := bP_pos (nl N - 1)
  have e1 : t * 1000000000 ^ (nl N - 1) ≤ N := by rw [ht]; exact Nat.div_mul_le_self _ _
  have e2 : N < (t + 1) * 1000000000 ^ (nl N - 1) := by
    have := Nat.lt_div_mul_add p (a := N)
    rw [← ht] at this
    rw [Nat.add_mul, Nat.one_mul]; exact this
  have l1 : 1000000000 / (t + 1) * (t + 1) ≤ 1000000000 := Nat.div_mul_le_self _ _
  have l2 := Nat.lt_div_mul_add (show 0 < t + 1 by omega) (a := 1000000000)
  have l3 : 0 < 1000000000 / (t + 1) := Nat.div_pos (by omega) (by omega)
  have l4 : 1000000000 / (t + 1) < 1000000000 := Nat.div_lt_self (by omega) (by omega)
  generalize 1000000000 / (t + 1) = m at *
  have q1 : N * m < 1000000000 ^ nl N := by
    have a1 : N * m < (t + 1) * 1000000000 ^ (nl N - 1) * m := Nat.mul_lt_mul_of_pos_right e2 l3
    have a2 : (t + 1) * 1000000000 ^ (nl N - 1) * m = (m * (t + 1)) * 1000000000 ^ (nl N - 1) := by rw [Nat.mul_comm _ m, ← Nat.mul_assoc]
    have a3 : (m * (t + 1)) * 1000000000 ^ (nl N - 1) ≤ 1000000000 * 1000000000 ^ (nl N - 1) := Nat.mul_le_mul_right _ l1
    have a4 : 1000000000 ^ nl N = 1000000000 ^ (nl N - 1) * 1000000000 := by rw [← bP_s, show nl N - 1 + 1 = nl N by omega]
    rw [a4, Nat.mul_comm (1000000000 ^ (nl N - 1))]
    omega
  have q2 : nl (N * m) = nl N := by
    have a1 := (nl_le _ _).mpr q1
    have a2 : nl N ≤ nl (N * m) := nl_mono (Nat.le_mul_of_pos_right _ l3)
    omega
  have hM : N * m ≠ 0 := Nat.mul_ne_zero hN (by omega)
  have v1 := dg_topv hM
  rw [q2] at v1
  refine ⟨dg (N * m) (nl N - 1), m, rfl, l3, l4, q1, q2, rfl, by rw [v1]; exact Nat.div_mul_le_self _ _, ?_, ?_⟩
  · have := Nat.lt_div_mul_add p (a := N * m)
    rw [v1, Nat.add_mul, Nat.one_mul]; exact this
  · have w1 : t * m ≤ dg (N * m) (nl N - 1) := by
      rw [v1, Nat.le_div_iff_mul_le p]
      have a1 := Nat.mul_le_mul_right m e1
      rw [Nat.mul_right_comm] at a1
      exact a1
    have w2 : m * (t + 1) = t * m + m := by rw [Nat.mul_add, Nat.mul_one, Nat.mul_comm]
    by_cases c1 : 500000000 ≤ t
    · have := Nat.mul_le_mul_left t l3
      omega
    · have := Nat.mul_le_mul_right m (show 1 ≤ t by omega)
      omega
theorem tk_step {f f' : Nat → Nat} {D i j g w : Nat} {debt debt1 : Int} (hv : (bV (sh f' j) i : Int) + debt * (1000000000 ^ i : Nat) = (bV (sh f j) i : Int) - (g : Int) * ((D % 1000000000 ^ i : Nat) : Int)) (hw : (w : Int) + debt1 * 1000000000 = (f (i + j) : Int) - (g : Int) * (dg D i : Int) + debt) : (bV (sh (nup f' (i + j) w) j) (i + 1) : Int) + debt1 * (1000000000 ^ (i + 1) : Nat) = (bV (sh f j) (i + 1) : Int) - (g : Int) * ((D % 1000000000 ^ (i + 1) : Nat) : Int) := by
  have e1 : bV (sh (nup f' (i + j) w) j) (i + 1) = bV (sh f' j) i + w * 1000000000 ^ i := by
    rw [bV_s]
    have a1 : bV (sh (nup f' (i + j) w) j) i = bV (sh f' j) i := bV_congr (fun k hk => nup_n f' w (by omega))
    have a2 : sh (nup f' (i + j) w) j i = w := by unfold sh; rw [Nat.add_comm j i]; exact nup_s _ _ _
    rw [a1, a2]
  have e2 : bV (sh f j) (i + 1) = bV (sh f j) i + f (i + j) * 1000000000 ^ i := by
    rw [bV_s]; unfold sh; rw [Nat.add_comm j i]
  rw [e1, e2, mod_s, bP_s]
  generalize 1000000000 ^ i = P at *
  generalize D % P = M at *
  generalize dg D i = d at *
  generalize bV (sh f' j) i = A at *
  generalize bV (sh f j) i = C at *
  generalize f (i + j) = y at *
  simp only [Int.natCast_add, Int.natCast_mul]
  have h2 : ((w : Int) + debt1 * 1000000000) * (P : Int) = ((y : Int) - (g : Int) * (d : Int) + debt) * (P : Int) := by rw [hw]
  grind
theorem gb_step {f f' : Nat → Nat} {D i j w c c1 : Nat} (hv : bV (sh f' j) i + c * 1000000000 ^ i = bV (sh f j) i + D % 1000000000 ^ i) (hw : w + c1 * 1000000000 = f (i + j) + dg D i + c) : bV (sh (nup f' (i + j) w) j) (i + 1) + c1 * 1000000000 ^ (i + 1) = bV (sh f j) (i + 1) + D % 1000000000 ^ (i + 1) := by
  have e1 : bV (sh (nup f' (i + j) w) j) (i + 1) = bV (sh f' j) i + w * 1000000000 ^ i := by
    rw [bV_s]
    have a1 : bV (sh (nup f' (i + j) w) j) i = bV (sh f' j) i := bV_congr (fun k hk => nup_n f' w (by omega))
    have a2 : sh (nup f' (i + j) w) j i = w := by unfold sh; rw [Nat.add_comm j i]; exact nup_s _ _ _
    rw [a1, a2]
  have e2 : bV (sh f j) (i + 1) = bV (sh f j) i + f (i + j) * 1000000000 ^ i := by
    rw [bV_s]; unfold sh; rw [Nat.add_comm j i]
  rw [e1, e2, mod_s, bP_s, st_add hw, Nat.add_mul]
  omega
/-- the rounds of giving back: what is left, the debt, how often it has been given back -/
theorem tk_done {W D g t Wt PN : Nat} {debt : Int} (hD : 0 < D) (hDP : D ≤ PN) (hWt : Wt < PN) (hv : (Wt : Int) + debt * (PN : Int) = (W : Int) - ((g : Int) - (t : Int)) * (D : Int)) (hq : W / D ≤ g) (ht : t ≤ g - W / D) : (debt < 0 → t < g - W / D) ∧ (0 ≤ debt → g - t = W / D ∧ Wt = W % D) := by
  have h1 := Nat.div_add_mod W D
  have h2 := Nat.mod_lt W hD
  generalize W / D = q at *
  generalize W % D = m at *
  obtain ⟨x, hx⟩ : ∃ x : Nat, g = q + t + x := ⟨g - q - t, by omega⟩
  have e1 : (W : Int) - ((g : Int) - (t : Int)) * (D : Int) = (m : Int) - (x : Int) * (D : Int) := by
    have : (W : Int) = (D : Int) * (q : Int) + (m : Int) := by rw [← h1]; simp
    rw [this, hx]
    simp only [Int.natCast_add]
    grind
  rw [e1] at hv
  refine ⟨fun hd => ?_, fun hd => ?_⟩
  · refine Nat.lt_of_le_of_ne ht (fun q2 => ?_)
    have hx0 : x = 0 := by omega
    subst hx0
    have := Int.mul_le_mul_of_nonneg_right (show debt ≤ -1 by omega) (show (0 : Int) ≤ (PN : Int) by omega)
    simp at hv
    omega
  · have h5 : 0 ≤ debt * (PN : Int) := Int.mul_nonneg hd (by omega)
    have hx0 : x = 0 := by
      rcases Nat.eq_zero_or_pos x with h | h
      · exact h
      · have := Nat.mul_le_mul_right D h
        have h6 : ((x * D : Nat) : Int) = (x : Int) * (D : Int) := by simp
        omega
    subst hx0
    have h7 : debt * (PN : Int) < 1 * (PN : Int) := by simp at hv; omega
    have h8 := Int.lt_of_mul_lt_mul_right h7 (by omega)
    have hd0 : debt = 0 := by omega
    subst hd0
    simp at hv
    omega
theorem dv_step {U D u : Nat} (hD : 0 < D) {X : Nat} (hX : X = U % (D * 1000000000 ^ (u + 1))) : X / 1000000000 ^ u < D * 1000000000 ∧ X / 1000000000 ^ u / D = dg (U / D) u ∧ X / 1000000000 ^ u % D * 1000000000 ^ u + X % 1000000000 ^ u = U % (D * 1000000000 ^ u) := by
  have p := bP_pos u
  have hXl : X < D * 1000000000 ^ (u + 1) := by rw [hX]; exact Nat.mod_lt _ (Nat.mul_pos hD (bP_pos _))
  rw [bP_s, ← Nat.mul_assoc] at hX hXl
  have a1 : X / 1000000000 ^ u < D * 1000000000 := by
    rw [Nat.div_lt_iff_lt_mul p, Nat.mul_right_comm]; exact hXl
  refine ⟨a1, ?_, ?_⟩
  · unfold dg
    rw [hX, Nat.div_div_eq_div_mul, Nat.mul_comm (1000000000 ^ u) D, Nat.div_div_eq_div_mul, Nat.mod_mul_right_div_self]
  · have h2 : X % (D * 1000000000 ^ u) = U % (D * 1000000000 ^ u) := by rw [hX, Nat.mod_mul_right_mod]
    rw [← h2, Nat.mul_comm D, Nat.mod_mul, Nat.mul_comm (1000000000 ^ u)]
    omega
