/-! the best part; pairs of squares; triangles; walls -/
abbrev bS : Type := Int × Int × Int
def bstep (a b : Int) (s : bS) (q p : Int) : bS := if s.2.1 = 0 ∨ ((a * q - p * b).natAbs : Int) * s.2.1 < s.2.2 * q then (p, q, ((a * q - p * b).natAbs : Int)) else s
def brow (a b : Int) (s : bS) (q : Int) : bS := bstep a b (bstep a b s q (a * q / b)) q (a * q / b + 1)
def ball (a b : Int) : Nat → bS
  | 0 => (0, 0, 0)
  | n + 1 => brow a b (ball a b n) ((n + 1 : Nat) : Int)
def bin (a b : Int) (n : Nat) (j : Nat) : bS := if j = 0 then ball a b n else if j = 1 then bstep a b (ball a b n) ((n + 1 : Nat) : Int) (a * ((n + 1 : Nat) : Int) / b) else ball a b (n + 1)
theorem bin_0 (a b : Int) (n : Nat) : bin a b n 0 = ball a b n := rfl
theorem bin_1 (a b : Int) (n : Nat) : bin a b n 1 = bstep a b (bin a b n 0) ((n + 1 : Nat) : Int) (a * ((n + 1 : Nat) : Int) / b + ((0 : Nat) : Int)) := by
  unfold bin; simp
theorem bin_2 (a b : Int) (n : Nat) : bin a b n 2 = bstep a b (bin a b n 1) ((n + 1 : Nat) : Int) (a * ((n + 1 : Nat) : Int) / b + ((1 : Nat) : Int)) := rfl
theorem bin_e (a b : Int) (n : Nat) : bin a b n 2 = ball a b (n + 1) := rfl
theorem bin_s (a b : Int) (n j : Nat) (hj : j < 2) : bin a b n (j + 1) = bstep a b (bin a b n j) ((n + 1 : Nat) : Int) (a * ((n + 1 : Nat) : Int) / b + (j : Int)) := by
  rcases (show j = 0 ∨ j = 1 by omega) with rfl | rfl
  · exact bin_1 a b n
  · exact bin_2 a b n
/-- what a state may hold: parts within bounds -/
def bok (s : bS) (n : Int) : Prop := 0 ≤ s.1 ∧ s.1 ≤ 1000000000 ∧ 0 ≤ s.2.1 ∧ s.2.1 ≤ n ∧ 0 ≤ s.2.2 ∧ s.2.2 ≤ 2000000
theorem bst_ok {a b q p n : Int} {s : bS} (ha : 0 ≤ a) (ha2 : a ≤ 999999) (hb : 1 ≤ b) (hb2 : b ≤ 999999) (hq : 1 ≤ q) (hq2 : q ≤ 999) (hp : p = a * q / b ∨ p = a * q / b + 1) (h : bok s n) (hn : q ≤ n) : bok (bstep a b s q p) n := by
  unfold bstep
  have m1 : a * q ≤ 999999 * 999 := Int.mul_le_mul ha2 hq2 (by omega) (by omega)
  have m0 : 0 ≤ a * q := Int.mul_nonneg ha (by omega)
  have d0 : 0 ≤ a * q / b := Int.ediv_nonneg m0 (by omega)
  have d1 : a * q / b ≤ a * q := Int.ediv_le_self _ m0
  have e1 := Int.mul_ediv_add_emod (a * q) b
  have e2 := Int.emod_nonneg (a * q) (show b ≠ 0 by omega)
  have e3 := Int.emod_lt_of_pos (a * q) (show 0 < b by omega)
  have g : (a * q - p * b).natAbs ≤ 2000000 := by
    rcases hp with rfl | rfl
    · rw [Int.mul_comm (a * q / b)]; omega
    · rw [Int.add_mul, Int.mul_comm (a * q / b)]; omega
  split
  · exact ⟨by omega, by omega, by show 0 ≤ q; omega, hn, by show (0 : Int) ≤ ((a * q - p * b).natAbs : Int); omega, by show ((a * q - p * b).natAbs : Int) ≤ 2000000; omega⟩
  · exact h
theorem bin_ok {a b : Int} (ha : 0 ≤ a) (ha2 : a ≤ 999999) (hb : 1 ≤ b) (hb2 : b ≤ 999999) : ∀ n : Nat, n ≤ 999 → bok (ball a b n) (n : Int)
  | 0, _ => ⟨by show (0 : Int) ≤ 0; omega, by show (0 : Int) ≤ _; omega, by show (0 : Int) ≤ 0; omega, by show (0 : Int) ≤ 0; omega, by show (0 : Int) ≤ 0; omega, by show (0 : Int) ≤ _; omega⟩
  | n + 1, hn => by
    have h := bin_ok ha ha2 hb hb2 n (by omega)
    have h2 : bok (ball a b n) ((n + 1 : Nat) : Int) := ⟨h.1, h.2.1, h.2.2.1, by have := h.2.2.2.1; omega, h.2.2.2.2⟩
    exact bst_ok ha ha2 hb hb2 (by omega) (by omega) (Or.inr rfl) (bst_ok ha ha2 hb hb2 (by omega) (by omega) (Or.inl rfl) h2 (Int.le_refl _)) (Int.le_refl _)
theorem bin_okj {a b : Int} (ha : 0 ≤ a) (ha2 : a ≤ 999999) (hb : 1 ≤ b) (hb2 : b ≤ 999999) {n j : Nat} (hn : n + 1 ≤ 999) (hj : j ≤ 2) : bok (bin a b n j) ((n + 1 : Nat) : Int) := by
  have h := bin_ok ha ha2 hb hb2 n (by omega)
  have h2 : bok (ball a b n) ((n + 1 : Nat) : Int) := ⟨h.1, h.2.1, h.2.2.1, by have := h.2.2.2.1; omega, h.2.2.2.2⟩
  rcases (show j = 0 ∨ j = 1 ∨ j = 2 by omega) with rfl | rfl | rfl
  · exact h2
  · exact bst_ok ha ha2 hb hb2 (by omega) (by omega) (Or.inl rfl) h2 (Int.le_refl _)
  · exact bin_ok ha ha2 hb hb2 (n + 1) hn
/-- pairs a, b with f a and f b together n, f rising -/
def up (f : Nat → Nat) : Prop := ∀ x y, x < y → f x < f y
theorem up_le {f : Nat → Nat} (h : up f) {x y : Nat} (hxy : x ≤ y) : f x ≤ f y := by
  rcases Nat.lt_or_ge x y with q | q
  · exact Nat.le_of_lt (h x y q)
  · rw [show x = y by omega]; exact Nat.le_refl _
def sqf (x : Nat) : Nat := x * x
def trf (x : Nat) : Nat := x * (x + 1) / 2
theorem up_sqf : up sqf := fun x y h => by unfold sqf; exact Nat.mul_lt_mul_of_lt_of_le h (Nat.le_of_lt h) (by omega)
theorem up_trf : up trf := fun x y h => by
  unfold trf
  have a := ev2 x
  have b := ev2 y
  have p : x * (x + 1) < y * (y + 1) := Nat.mul_lt_mul_of_lt_of_le h (by omega) (by omega)
  omega
def ps (f : Nat → Nat) (n a b : Nat) : Prop := f a + f b = n
noncomputable def psB (f : Nat → Nat) (n : Nat) (a : Nat) : Bool := bq (∃ b, a ≤ b ∧ ps f n a b)
/-- what two ends coming together keep: no pair from a on has its second above b -/
def pI (f : Nat → Nat) (n a b : Nat) : Prop := ∀ x y, a ≤ x → x ≤ y → ps f n x y → y ≤ b
theorem pI_0 {f : Nat → Nat} (hf : up f) {n t : Nat} (h : n < f (t + 1)) (a : Nat) : pI f n a t := fun x y _ _ hp => by
  rcases Nat.lt_or_ge y (t + 1) with q | q
  · omega
  · have := up_le hf q; unfold ps at hp; omega
theorem pI_dn {f : Nat → Nat} (hf : up f) {n a b : Nat} (h : pI f n a b) (hs : n < f a + f b) : pI f n a (b - 1) := fun x y hx hy hp => by
  have h1 := h x y hx hy hp
  rcases Nat.lt_or_ge y b with q | q
  · omega
  · have hyb : y = b := by omega
    subst hyb
    have := up_le hf hx
    unfold ps at hp; omega
theorem pI_up {f : Nat → Nat} {n a b : Nat} (h : pI f n a b) : pI f n (a + 1) b := fun x y hx hy hp => h x y (by omega) hy hp
theorem pI_no {f : Nat → Nat} (hf : up f) {n a b : Nat} (h : pI f n a b) (hs : f a + f b < n) : ¬ ∃ y, a ≤ y ∧ ps f n a y := by
  rintro ⟨y, hy, hp⟩
  have h1 := h a y (Nat.le_refl _) hy hp
  have := up_le hf h1
  unfold ps at hp; omega
theorem pI_nil {f : Nat → Nat} {n a b : Nat} (h : pI f n a b) (hab : b < a) : ∀ j, a ≤ j → ¬ ∃ y, j ≤ y ∧ ps f n j y := fun j hj => by
  rintro ⟨y, hy, hp⟩
  have h1 := h j y hj hy hp
  omega
theorem pI_end {f : Nat → Nat} {n a b : Nat} (h : pI f n a b) (hab : b < a) : ∀ j, a ≤ j → psB f n j = false := fun j hj => bq_f (pI_nil h hab j hj)
theorem sq_m4 (x : Nat) : x * x % 4 = 0 ∨ x * x % 4 = 1 := by
  rcases (show x % 4 = 0 ∨ x % 4 = 1 ∨ x % 4 = 2 ∨ x % 4 = 3 by omega) with h | h | h | h <;> simp [Nat.mul_mod, h]
theorem ps_m4 {n a b : Nat} (h : ps sqf n a b) : n % 4 ≠ 3 := by
  unfold ps sqf at h
  have := sq_m4 a
  have := sq_m4 b
  omega
/-- the least first of a pair from a least one on, or none -/
def lsr (n l : Nat) (z : Int) : Prop := (∃ c d, l ≤ c ∧ c ≤ d ∧ ps sqf n c d ∧ (∀ x, l ≤ x → x < c → ¬ ∃ y, x ≤ y ∧ ps sqf n x y) ∧ z = (c : Int)) ∨ ((∀ x, l ≤ x → ¬ ∃ y, x ≤ y ∧ ps sqf n x y) ∧ z = -1)
def s7 (n : Nat) : Bool := if h : 0 < n ∧ n % 4 = 0 then s7 (n / 4) else n % 8 == 7
termination_by n
decreasing_by exact Nat.div_lt_self h.1 (by omega)
theorem s7_s {n : Nat} (h : 0 < n ∧ n % 4 = 0) : s7 n = s7 (n / 4) := by rw [s7, dif_pos h]
theorem s7_e {n : Nat} (h : ¬ (0 < n ∧ n % 4 = 0)) : s7 n = (n % 8 == 7) := by rw [s7, dif_neg h]
def cntB (p : Nat → Bool) : Nat → Nat
  | 0 => 0
  | n + 1 => cntB p n + (if p n = true then 1 else 0)
theorem cntB_s (p : Nat → Bool) (n : Nat) : cntB p (n + 1) = cntB p n + (if p n = true then 1 else 0) := rfl
theorem cntB_le (p : Nat → Bool) : ∀ n, cntB p n ≤ n
  | 0 => Nat.le_refl _
  | n + 1 => by rw [cntB_s]; have := cntB_le p n; split <;> omega
def wlB (P : Nat) (u : Nat) : Bool := decide (u * u ≤ P) && (P % u == 0)
theorem wl_end {P u : Nat} (h : P < u * u) : ∀ j, u ≤ j → wlB P j = false := fun j hj => by
  have := Nat.mul_le_mul hj hj
  unfold wlB
  rw [decide_eq_false (by omega)]; rfl
def stB (l : Nat) (a : Nat) : Bool := decide (0 < a) && ((l : Int) * ((l : Int) - 2 * (a : Int)) % (2 * ((l : Int) - (a : Int))) == 0) && decide ((a : Int) < (l : Int) * ((l : Int) - 2 * (a : Int)) / (2 * ((l : Int) - (a : Int))))
