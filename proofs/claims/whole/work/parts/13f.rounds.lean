/-! every number below ten thousand that is no square has its round, and a short one -/
def frc {α : Type} (x : Nat) (f : Nat → α) : α := match x with
  | 0 => f 0
  | k + 1 => f (k + 1)
theorem frc_e {α : Type} (x : Nat) (f : Nat → α) : frc x f = f x := by cases x <;> rfl
def rdl (d f : Nat) : Nat → Nat → Nat → Nat → Bool
  | 0, _, _, _ => false
  | n + 1, m, D, a => frc (D * a - m) fun m' => frc ((d - m' * m') / D) fun D' => frc ((f + m') / D') fun a' => cond (Nat.beq a' (2 * f)) true (rdl d f n m' D' a')
def rdR (f : Nat) : Nat → Bool
  | 0 => true
  | r + 1 => cond (frc (f * f + (r + 1)) fun d => rdl d f 400 0 1 f) (rdR f r) false
def rdF : Nat → Bool
  | 0 => true
  | f + 1 => cond (rdR (f + 1) (2 * (f + 1))) (rdF f) false
theorem rdF_all : rdF 99 = true := by decide +kernel
theorem rdF_f : ∀ {n f : Nat}, rdF n = true → 1 ≤ f → f ≤ n → rdR f (2 * f) = true
  | 0, f, _, h1, h2 => by omega
  | n + 1, f, h, h1, h2 => by
    rw [rdF] at h
    cases hc : rdR (n + 1) (2 * (n + 1)) with
    | false => rw [hc] at h; exact absurd (show false = true from h) Bool.false_ne_true
    | true =>
      rw [hc] at h
      rcases Nat.lt_or_ge n f with q | q
      · rw [show f = n + 1 by omega]; exact hc
      · exact rdF_f (n := n) h h1 q
theorem rdR_r : ∀ {f n r : Nat}, rdR f n = true → 1 ≤ r → r ≤ n → rdl (f * f + r) f 400 0 1 f = true
  | f, 0, r, _, h1, h2 => by omega
  | f, n + 1, r, h, h1, h2 => by
    rw [rdR, frc_e] at h
    cases hc : rdl (f * f + (n + 1)) f 400 0 1 f with
    | false => rw [hc] at h; exact absurd (show false = true from h) Bool.false_ne_true
    | true =>
      rw [hc] at h
      rcases Nat.lt_or_ge n r with q | q
      · rw [show r = n + 1 by omega]; exact hc
      · exact rdR_r (n := n) h h1 q
theorem rdl_ok {d f : Nat} : ∀ {n j : Nat}, rdl d f n (cf d f j).1 (cf d f j).2.1 (cf d f j).2.2 = true → ∃ k, j < k ∧ k ≤ j + n ∧ (cf d f k).2.2 = 2 * f
  | 0, j, h => by rw [rdl] at h; exact absurd h (by decide)
  | n + 1, j, h => by
    rw [rdl, frc_e, frc_e, frc_e] at h
    have e : (cf d f (j + 1)).2.2 = (f + ((cf d f j).2.1 * (cf d f j).2.2 - (cf d f j).1)) / ((d - ((cf d f j).2.1 * (cf d f j).2.2 - (cf d f j).1) * ((cf d f j).2.1 * (cf d f j).2.2 - (cf d f j).1)) / (cf d f j).2.1) := rfl
    rw [← e] at h
    cases hc : Nat.beq (cf d f (j + 1)).2.2 (2 * f) with
    | true => exact ⟨j + 1, by omega, by omega, Nat.eq_of_beq_eq_true hc⟩
    | false =>
      rw [hc] at h
      obtain ⟨k, h1, h2, h3⟩ := rdl_ok (n := n) (j := j + 1) h
      exact ⟨k, by omega, by omega, h3⟩
theorem first_ex {P : Nat → Prop} : ∀ n : Nat, 0 < n → P n → ∃ k, 0 < k ∧ k ≤ n ∧ P k ∧ ∀ j, 0 < j → j < k → ¬ P j := fun n => by
  induction n using Nat.strongRecOn with
  | ind n ih =>
    intro h0 hn
    by_cases q : ∃ j, 0 < j ∧ j < n ∧ P j
    · obtain ⟨j, h1, h2, h3⟩ := q
      obtain ⟨k, g1, g2, g3, g4⟩ := ih j h2 h1 h3
      exact ⟨k, g1, by omega, g3, g4⟩
    · exact ⟨n, h0, Nat.le_refl _, hn, fun j h1 h2 h3 => q ⟨j, h1, h2, h3⟩⟩
theorem rn_ex {d f : Nat} (h : rl d f) : ∃ k, k ≤ 400 ∧ rnd d f k := by
  obtain ⟨h1, h2, h3, h4, h5⟩ := h
  have e1 : (f + 1) * (f + 1) = f * f + 2 * f + 1 := by grind
  have a := rdR_r (rdF_f rdF_all h1 h2) (r := d - f * f) (by omega) (by omega)
  rw [show f * f + (d - f * f) = d by omega] at a
  obtain ⟨k, g1, g2, g3⟩ := rdl_ok (d := d) (f := f) (n := 400) (j := 0) a
  obtain ⟨k2, b1, b2, b3, b4⟩ := first_ex (P := fun k => (cf d f k).2.2 = 2 * f) k g1 g3
  exact ⟨k2, by omega, b1, b3, b4⟩
theorem rnd_u {d f a b : Nat} (h1 : rnd d f a) (h2 : rnd d f b) : a = b := by
  rcases Nat.lt_trichotomy a b with q | q | q
  · exact absurd h1.2.1 (h2.2.2 a h1.1 q)
  · exact q
  · exact absurd h2.2.1 (h1.2.2 b h2.1 q)
theorem rl_ex {d : Int} (h1 : 2 ≤ d) (h2 : d ≤ 9999) (h3 : ¬ sq d) : ∃ f, rl d.toNat f := by
  obtain ⟨t, ht1, ht2⟩ := rt_ex (k := 2) (by omega) d.toNat
  rw [Nat.pow_two] at ht1 ht2
  have n1 : t * t ≠ d.toNat := fun q => h3 ⟨t, by rw [← Int.natCast_mul, q]; omega⟩
  have n2 : t ≤ 99 := Nat.le_of_not_lt fun q => by have := Nat.mul_le_mul q q; omega
  have n3 : 1 ≤ t := Nat.pos_of_ne_zero fun q => by subst q; omega
  exact ⟨t, n3, n2, by omega, ht2, by omega⟩
theorem rl_u {d f g : Nat} (h1 : rl d f) (h2 : rl d g) : f = g := rl_rt h2 ⟨by rw [Nat.pow_two]; have := h1.2.2.1; omega, by rw [Nat.pow_two]; exact h1.2.2.2.1⟩
/-- the root of d rounded down, and how long its round is -/
noncomputable def rtL (d : Nat) : Nat := rtF d
theorem rtL_e {d f : Nat} (h : rl d f) : rtL d = f := rtF_u ⟨by rw [Nat.pow_two]; have := h.2.2.1; omega, by rw [Nat.pow_two]; exact h.2.2.2.1⟩
noncomputable def rnL (d : Nat) : Nat := @dite _ (∃ k, rnd d (rtL d) k) (Classical.propDecidable _) (fun h => h.choose) (fun _ => 0)
theorem rnL_p {d f : Nat} (h : rl d f) : rnd d f (rnL d) ∧ rnL d ≤ 400 := by
  obtain ⟨k, h1, h2⟩ := rn_ex h
  have e := rtL_e h
  have he : ∃ k, rnd d (rtL d) k := ⟨k, by rw [e]; exact h2⟩
  have hu : rnL d = he.choose := by unfold rnL; rw [dif_pos he]
  have hc := he.choose_spec
  rw [← hu, e] at hc
  have := rnd_u hc h2
  exact ⟨hc, by omega⟩
