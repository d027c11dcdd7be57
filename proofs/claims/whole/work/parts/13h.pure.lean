theorem trf_i {x y : Nat} (h : trf x = trf y) : x = y := by
  have h1 := trf2 x
  have h2 := trf2 y
  rcases Nat.lt_trichotomy x y with q | q | q
  · have := Nat.mul_le_mul (show x + 1 ≤ y by omega) (show x + 1 + 1 ≤ y + 1 by omega)
    have e : (x + 1) * (x + 1 + 1) = x * (x + 1) + 2 * (x + 1) := by grind
    omega
  · exact q
  · have := Nat.mul_le_mul (show y + 1 ≤ x by omega) (show y + 1 + 1 ≤ x + 1 by omega)
    have e : (y + 1) * (y + 1 + 1) = y * (y + 1) + 2 * (y + 1) := by grind
    omega
theorem sq_i {x y : Nat} (h : x * x = y * y) : x = y := by
  rcases Nat.lt_trichotomy x y with q | q | q
  · have := Nat.mul_lt_mul'' q q; omega
  · exact q
  · have := Nat.mul_lt_mul'' q q; omega
theorem r3_u {n : Nat} {i z z' : Int} (h : r3 n i z) (h' : r3 n i z') : z = z' := by
  rcases h with ⟨a, b, g, h1, h2, h3, h4, h5, h6⟩ | ⟨h1, h2⟩
  · rcases h' with ⟨a', b', g', k1, k2, k3, k4, k5, k6⟩ | ⟨k1, k2⟩
    · have ea : a = a' := by
        rcases Nat.lt_trichotomy a a' with q | q | q
        · exact absurd ⟨g, h2, h3⟩ (k4 a q b h1)
        · exact q
        · exact absurd ⟨g', k2, k3⟩ (h4 a' q b' k1)
      subst ea
      have eb : b = b' := by
        rcases Nat.lt_trichotomy b b' with q | q | q
        · exact absurd ⟨g, h2, h3⟩ (k5 b h1 q)
        · exact q
        · exact absurd ⟨g', k2, k3⟩ (h5 b' k1 q)
      subst eb
      have ec : g = g' := trf_i (by omega)
      subst ec
      rw [h6, k6]
    · exact absurd ⟨g, h2, h3⟩ (k1 a b h1)
  · rcases h' with ⟨a', b', g', k1, k2, k3, k4, k5, k6⟩ | ⟨k1, k2⟩
    · exact absurd ⟨g', k2, k3⟩ (h1 a' b' k1)
    · rw [h2, k2]
theorem r4_u {n : Nat} {i z z' : Int} (h : r4 n i z) (h' : r4 n i z') : z = z' := by
  have key : ∀ {a b g u : Nat}, b ≤ g → g ≤ u → s7 (n - a * a) = false → a * a + b * b + (g * g + u * u) = n → q4 n a b := fun {a b g u} x1 x2 x3 x4 => ⟨by omega, x3, g, u, x1, x2, x4⟩
  rcases h with ⟨a, b, g, u, h1, h2, h3, h4, h5, h6, h7, h8, h9⟩ | ⟨h1, h2⟩
  · rcases h' with ⟨a', b', g', u', k1, k2, k3, k4, k5, k6, k7, k8, k9⟩ | ⟨k1, k2⟩
    · have ea : a = a' := by
        rcases Nat.lt_trichotomy a a' with q | q | q
        · exact absurd (key h2 h3 h4 h5) (k6 a q b h1)
        · exact q
        · exact absurd (key k2 k3 k4 k5) (h6 a' q b' k1)
      subst ea
      have eb : b = b' := by
        rcases Nat.lt_trichotomy b b' with q | q | q
        · exact absurd (key h2 h3 h4 h5) (k7 b h1 q)
        · exact q
        · exact absurd (key k2 k3 k4 k5) (h7 b' k1 q)
      subst eb
      have ec : g = g' := by
        rcases Nat.lt_trichotomy g g' with q | q | q
        · exact absurd ⟨u, h3, h5⟩ (k8 g h2 q)
        · exact q
        · exact absurd ⟨u', k3, k5⟩ (h8 g' k2 q)
      subst ec
      have ed : u = u' := sq_i (by omega)
      subst ed
      rw [h9, k9]
    · exact absurd (key h2 h3 h4 h5) (k1 a b h1)
  · rcases h' with ⟨a', b', g', u', k1, k2, k3, k4, k5, k6, k7, k8, k9⟩ | ⟨k1, k2⟩
    · exact absurd (key k2 k3 k4 k5) (h1 a' b' k1)
    · rw [h2, k2]
noncomputable def fn3 (n : Nat) (i : Int) : Int := @dite _ (∃ z, r3 n i z) (Classical.propDecidable _) (fun h => h.choose) (fun _ => 0)
theorem fn3_e {n : Nat} {i z : Int} (h : r3 n i z) : fn3 n i = z := by
  have he : ∃ z, r3 n i z := ⟨z, h⟩
  unfold fn3; rw [dif_pos he]; exact r3_u he.choose_spec h
noncomputable def fn4 (n : Nat) (i : Int) : Int := @dite _ (∃ z, r4 n i z) (Classical.propDecidable _) (fun h => h.choose) (fun _ => 0)
theorem fn4_e {n : Nat} {i z : Int} (h : r4 n i z) : fn4 n i = z := by
  have he : ∃ z, r4 n i z := ⟨z, h⟩
  unfold fn4; rw [dif_pos he]; exact r4_u he.choose_spec h
