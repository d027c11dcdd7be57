/-! the tape: its bytes, its blanks, its figures; a text as a number; a book of claims -/
def tp (G : mG) (E : mE) (t : Nat) (B : Nat → Int) (L a : Nat) (v kd k n rd : Int) : Prop := E t = some (.inr (6, [.ref (t + 1), .int (zI (L : Int)), .int (zI (a : Int)), .long (zL v), .int (zI kd), .int (zI k), .long (zL n), .long (zL rd)])) ∧ E (t + 1) = some (mm_I G 100 B)
theorem tp.kept {G : mG} {E E1 : mE} {t : Nat} {B : Nat → Int} {L a : Nat} {v kd k n rd : Int} (h : tp G E t B L a v kd k n rd) (h1 : E1 t = E t) (h2 : E1 (t + 1) = E (t + 1)) : tp G E1 t B L a v kd k n rd := ⟨h1.trans h.1, h2.trans h.2⟩
def okB (x : Int) : Prop := 32 ≤ x ∧ x ≤ 126
def okT (B : Nat → Int) (L : Nat) : Prop := L ≤ 100 ∧ ∀ j, j < L → okB (B j)
def tb (B : Nat → Int) (L i : Nat) : Int := if i < L then B i else 0
abbrev fig (x : Int) : Prop := 48 ≤ x ∧ x ≤ 57
def skp (B : Nat → Int) (L a : Nat) : Nat := if h : a < L ∧ B a = 32 then skp B L (a + 1) else a
termination_by L - a
theorem skp_s {B : Nat → Int} {L a : Nat} (h : a < L) (h2 : B a = 32) : skp B L a = skp B L (a + 1) := by rw [skp, dif_pos ⟨h, h2⟩]
theorem skp_e {B : Nat → Int} {L a : Nat} (h : ¬ (a < L ∧ B a = 32)) : skp B L a = a := by rw [skp, dif_neg h]
theorem skp_le {B : Nat → Int} {L : Nat} : ∀ (n a : Nat), L - a ≤ n → a ≤ L → skp B L a ≤ L ∧ a ≤ skp B L a ∧ ¬ (skp B L a < L ∧ B (skp B L a) = 32)
  | 0, a, h1, h2 => by rw [skp_e (by omega)]; omega
  | n + 1, a, h1, h2 => by
    by_cases h : a < L ∧ B a = 32
    · rw [skp_s h.1 h.2]
      have := skp_le (B := B) (L := L) n (a + 1) (by omega) (by omega)
      omega
    · rw [skp_e h]; exact ⟨h2, Nat.le_refl _, h⟩
theorem skp_b {B : Nat → Int} {L a : Nat} (h : a ≤ L) : skp B L a ≤ L ∧ a ≤ skp B L a := ⟨(skp_le _ a (Nat.le_refl _) h).1, (skp_le _ a (Nat.le_refl _) h).2.1⟩
theorem skp_no {B : Nat → Int} {L a : Nat} (h : a ≤ L) : ¬ (skp B L a < L ∧ B (skp B L a) = 32) := (skp_le _ a (Nat.le_refl _) h).2.2
theorem skp_i {B : Nat → Int} {L a : Nat} (h : a ≤ L) : skp B L (skp B L a) = skp B L a := skp_e (skp_no h)
/-- bytes put behind the tape's end: the n last of a long's eight, the highest first -/
def apB (w : Int) : (Nat → Int) → Nat → Nat → (Nat → Int)
  | B, _, 0 => B
  | B, L, n + 1 => apB w (zup B L (bt w n)) (L + 1) n
theorem apB_ok {w : Int} : ∀ {n : Nat} {B : Nat → Int} {L : Nat}, okT B L → L + n ≤ 100 → (∀ i, i < n → okB (bt w i)) → okT (apB w B L n) (L + n)
  | 0, _, _, h, _, _ => h
  | n + 1, B, L, h, h1, h2 => by
    have := apB_ok (w := w) (n := n) (B := zup B L (bt w n)) (L := L + 1) ⟨by omega, fun j hj => by
      by_cases q : j = L
      · rw [q, zup_s]; exact h2 n (by omega)
      · rw [zup_n _ _ q]; exact h.2 j (by omega)⟩ (by omega) (fun i hi => h2 i (by omega))
    rw [show L + (n + 1) = L + 1 + n by omega]
    exact this
/-- the whole tape as a number: the rest of it, where, how many figures so far, their number -/
def rdT (B : Nat → Int) : Nat → Nat → Nat → Nat → Int × Nat
  | 0, i, cnt, N => (if cnt = 0 then -20 - (i : Int) else 0, N)
  | r + 1, i, cnt, N => if B i = 32 then rdT B r (i + 1) cnt N else if ¬ fig (B i) ∨ cnt = 80 then (-20 - (i : Int), N) else rdT B r (i + 1) (cnt + 1) (N * 10 + (B i - 48).toNat)
theorem rdT_0 (B : Nat → Int) (i cnt N : Nat) : rdT B 0 i cnt N = (if cnt = 0 then -20 - (i : Int) else 0, N) := rfl
theorem rdT_b {B : Nat → Int} {q r i cnt N : Nat} (hq : q = r + 1) (h : B i = 32) : rdT B q i cnt N = rdT B r (i + 1) cnt N := by subst hq; rw [rdT, if_pos h]
theorem rdT_x {B : Nat → Int} {q r i cnt N : Nat} (hq : q = r + 1) (h : ¬ B i = 32) (h2 : ¬ fig (B i) ∨ cnt = 80) : rdT B q i cnt N = (-20 - (i : Int), N) := by subst hq; rw [rdT, if_neg h, if_pos h2]
theorem rdT_f {B : Nat → Int} {q r i cnt N : Nat} (hq : q = r + 1) (h : ¬ B i = 32) (h2 : fig (B i)) (h3 : ¬ cnt = 80) : rdT B q i cnt N = rdT B r (i + 1) (cnt + 1) (N * 10 + (B i - 48).toNat) := by subst hq; rw [rdT, if_neg h, if_neg (fun q => q.elim (fun h => h h2) h3)]
theorem rdN {N c : Nat} {x : Int} (h : N < 10 ^ c) (hx : fig x) : N * 10 + (x - 48).toNat < 10 ^ (c + 1) := by unfold fig at hx; rw [Nat.pow_succ]; omega
theorem nl80 {N c : Nat} (h : N < 10 ^ c) (hc : c ≤ 80) : nl N ≤ 9 := (nl_le _ _).mpr (Nat.lt_of_lt_of_le h (Nat.le_trans (Nat.pow_le_pow_right (by omega) hc) (by decide +kernel)))
/-- where the figures from a on end; the number of the first of them, 18 at most -/
def fe (B : Nat → Int) (L a : Nat) : Nat := if h : a < L ∧ fig (B a) then fe B L (a + 1) else a
termination_by L - a
theorem fe_s {B : Nat → Int} {L a : Nat} (h : a < L) (h2 : fig (B a)) : fe B L a = fe B L (a + 1) := by rw [fe, dif_pos ⟨h, h2⟩]
theorem fe_e {B : Nat → Int} {L a : Nat} (h : ¬ (a < L ∧ fig (B a))) : fe B L a = a := by rw [fe, dif_neg h]
theorem fe_le {B : Nat → Int} {L : Nat} : ∀ (n a : Nat), L - a ≤ n → a ≤ L → fe B L a ≤ L ∧ a ≤ fe B L a
  | 0, a, h1, h2 => by rw [fe_e (by omega)]; omega
  | n + 1, a, h1, h2 => by
    by_cases h : a < L ∧ fig (B a)
    · rw [fe_s h.1 h.2]
      have := fe_le (B := B) (L := L) n (a + 1) (by omega) (by omega)
      omega
    · rw [fe_e h]; exact ⟨h2, Nat.le_refl _⟩
def rv (B : Nat → Int) (s_ : Nat) : Nat → Int
  | 0 => 0
  | j + 1 => if j < 18 then 10 * rv B s_ j + B (s_ + j) - 48 else rv B s_ j
theorem rv_s {B : Nat → Int} {s_ j : Nat} (h : j < 18) : rv B s_ (j + 1) = 10 * rv B s_ j + B (s_ + j) - 48 := if_pos h
theorem rv_e {B : Nat → Int} {s_ j : Nat} (h : ¬ j < 18) : rv B s_ (j + 1) = rv B s_ j := if_neg h
theorem rv_18 {B : Nat → Int} {s_ : Nat} : ∀ j, (∀ i, i < j → fig (B (s_ + i))) → 0 ≤ rv B s_ j ∧ rv B s_ j < 10 ^ (min j 18)
  | 0, _ => ⟨Int.le_refl _, by show (0 : Int) < 10 ^ 0; decide⟩
  | j + 1, h => by
    have ih := rv_18 (B := B) (s_ := s_) j (fun i hi => h i (by omega))
    have hf := h j (by omega)
    unfold fig at hf
    by_cases q : j < 18
    · rw [rv_s q, show min (j + 1) 18 = j + 1 by omega, Int.pow_succ]
      rw [show min j 18 = j by omega] at ih
      omega
    · rw [rv_e q, show min (j + 1) 18 = min j 18 by omega]; exact ih
theorem rv_b {B : Nat → Int} {s_ j : Nat} (h : ∀ i, i < j → fig (B (s_ + i))) : 0 ≤ rv B s_ j ∧ rv B s_ j < 1000000000000000000 := by
  have h1 := rv_18 j h
  refine ⟨h1.1, Int.lt_of_lt_of_le h1.2 ?_⟩
  have : (10 : Nat) ^ (min j 18) ≤ 10 ^ 18 := Nat.pow_le_pow_right (by omega) (by omega)
  have h2 : ((10 ^ (min j 18) : Nat) : Int) ≤ ((10 ^ 18 : Nat) : Int) := by omega
  rw [Int.natCast_pow, Int.natCast_pow] at h2
  exact h2
/-- a number of the book: is it good, where the reading stands then (where not good: where the fault is), the number -/
def rnE (B : Nat → Int) (L a : Nat) : Nat := fe B L (skp B L a)
def rnV (B : Nat → Int) (L a : Nat) : Int := rv B (skp B L a) (rnE B L a - skp B L a)
abbrev rnX (B : Nat → Int) (L a : Nat) (lo hi : Int) : Prop := rnE B L a = skp B L a ∨ 18 < rnE B L a - skp B L a ∨ rnV B L a < lo ∨ hi < rnV B L a
def rnZ (B : Nat → Int) (L a : Nat) (lo hi : Int) : Int := if rnX B L a lo hi then -20 - (skp B L a : Int) else 0
theorem rnZ_x {B : Nat → Int} {L a : Nat} {lo hi : Int} (h : rnX B L a lo hi) : rnZ B L a lo hi = -20 - (skp B L a : Int) := if_pos h
theorem rnZ_0 {B : Nat → Int} {L a : Nat} {lo hi : Int} (h : ¬ rnX B L a lo hi) : rnZ B L a lo hi = 0 := if_neg h
