/-! the product of a round's parts, reckoned for every number below ten thousand -/
def bqB : Nat := 10 ^ 350
def rdq (d f : Nat) : Nat → Nat → Nat → Nat → Nat → Bool
  | 0, _, _, _, _ => false
  | n + 1, m, D, a, Q => frc (D * a - m) fun m' => frc ((d - m' * m') / D) fun D' => frc ((f + m') / D') fun a' => frc (Q * (a' + 1)) fun Q' => cond (Nat.beq a' (2 * f)) (Nat.ble Q' bqB) (rdq d f n m' D' a' Q')
def rqR (f : Nat) : Nat → Bool
  | 0 => true
  | r + 1 => cond (frc (f * f + (r + 1)) fun d => rdq d f 400 0 1 f 1) (rqR f r) false
def rqG (lo : Nat) : Nat → Bool
  | 0 => true
  | n + 1 => cond (rqR (lo + (n + 1)) (2 * (lo + (n + 1)))) (rqG lo n) false
theorem rqG_f : ∀ {lo n f : Nat}, rqG lo n = true → lo < f → f ≤ lo + n → rqR f (2 * f) = true
  | lo, 0, f, _, h1, h2 => by omega
  | lo, n + 1, f, h, h1, h2 => by
    rw [rqG] at h
    cases hc : rqR (lo + (n + 1)) (2 * (lo + (n + 1))) with
    | false => rw [hc] at h; exact absurd (show false = true from h) Bool.false_ne_true
    | true =>
      rw [hc] at h
      rcases Nat.lt_or_ge (lo + n) f with q | q
      · rw [show f = lo + (n + 1) by omega]; exact hc
      · exact rqG_f (n := n) h h1 q
theorem rqG_0 : rqG 0 40 = true := by decide +kernel
theorem rqG_40 : rqG 40 20 = true := by decide +kernel
theorem rqG_60 : rqG 60 12 = true := by decide +kernel
theorem rqG_72 : rqG 72 8 = true := by decide +kernel
theorem rqG_80 : rqG 80 7 = true := by decide +kernel
theorem rqG_87 : rqG 87 6 = true := by decide +kernel
theorem rqG_93 : rqG 93 4 = true := by decide +kernel
theorem rqG_97 : rqG 97 2 = true := by decide +kernel
theorem rqA {f : Nat} (h1 : 1 ≤ f) (h2 : f ≤ 99) : rqR f (2 * f) = true := by
  rcases (show f ≤ 40 ∨ (40 < f ∧ f ≤ 60) ∨ (60 < f ∧ f ≤ 72) ∨ (72 < f ∧ f ≤ 80) ∨ (80 < f ∧ f ≤ 87) ∨ (87 < f ∧ f ≤ 93) ∨ (93 < f ∧ f ≤ 97) ∨ (97 < f ∧ f ≤ 99) by omega) with q | q | q | q | q | q | q | q
  · exact rqG_f rqG_0 (by omega) (by omega)
  · exact rqG_f rqG_40 (by omega) (by omega)
  · exact rqG_f rqG_60 (by omega) (by omega)
  · exact rqG_f rqG_72 (by omega) (by omega)
  · exact rqG_f rqG_80 (by omega) (by omega)
  · exact rqG_f rqG_87 (by omega) (by omega)
  · exact rqG_f rqG_93 (by omega) (by omega)
  · exact rqG_f rqG_97 (by omega) (by omega)
