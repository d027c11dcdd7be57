/-! the reference: one object, thirteen arrays; its sixteen registers of eighty limbs each -/
def ro (G : mG) (E : mE) (h : Nat) (x1 x2 x3 x4 x5 x6 x7 x8 : Int) : Prop := E h = some (.inr (9, [.ref (h + 1), .ref (h + 2), .ref (h + 3), .ref (h + 4), .int (zI x1), .int (zI x2), .long (zL x3), .ref (h + 5), .ref (h + 6), .ref (h + 7), .ref (h + 8), .int (zI x4), .int (zI x5), .int (zI x6), .int (zI x7), .int (zI x8), .ref (h + 9), .ref (h + 10), .ref (h + 11), .ref (h + 12)]))
theorem ro.kept {G : mG} {E E1 : mE} {h : Nat} {x1 x2 x3 x4 x5 x6 x7 x8 : Int} (a : ro G E h x1 x2 x3 x4 x5 x6 x7 x8) (h1 : E1 h = E h) : ro G E1 h x1 x2 x3 x4 x5 x6 x7 x8 := h1.trans a
def rgB (R : Nat → Nat) : Prop := ∀ r, r < 16 → nl (R r) ≤ 80
def rgA (g : Nat → Int) (R : Nat → Nat) : Prop := ∀ r, r < 16 → ∀ j, j < 80 → g (80 * r + j) = (dg (R r) j : Int)
def rg (G : mG) (E : mE) (h : Nat) (R : Nat → Nat) : Prop := rgB R ∧ ∃ g, E (h + 1) = some (mm_I G 1280 g) ∧ rgA g R
def fP (g : Nat → Int) (R : Nat → Nat) (t : Nat) (f : Nat → Nat) : Prop := ∀ r, r < 16 → ∀ j, j < 80 → g (80 * r + j) = (((if r = t then f j else dg (R r) j) : Nat) : Int)
def rgF (G : mG) (E : mE) (h : Nat) (R : Nat → Nat) (t : Nat) (f : Nat → Nat) : Prop := rgB R ∧ ∃ g, E (h + 1) = some (mm_I G 1280 g) ∧ fP g R t f
theorem rg.kept {G : mG} {E E1 : mE} {h : Nat} {R : Nat → Nat} (a : rg G E h R) (h1 : E1 (h + 1) = E (h + 1)) : rg G E1 h R := by
  obtain ⟨b, g, c, d⟩ := a
  exact ⟨b, g, h1.trans c, d⟩
theorem rgF.kept {G : mG} {E E1 : mE} {h : Nat} {R : Nat → Nat} {t : Nat} {f : Nat → Nat} (a : rgF G E h R t f) (h1 : E1 (h + 1) = E (h + 1)) : rgF G E1 h R t f := by
  obtain ⟨b, g, c, d⟩ := a
  exact ⟨b, g, h1.trans c, d⟩
theorem rg.F {G : mG} {E : mE} {h : Nat} {R : Nat → Nat} (a : rg G E h R) (t : Nat) : rgF G E h R t (dg (R t)) := by
  obtain ⟨b, g, c, d⟩ := a
  refine ⟨b, g, c, fun r hr j hj => ?_⟩
  by_cases q : r = t
  · subst q; rw [if_pos rfl]; exact d r hr j hj
  · rw [if_neg q]; exact d r hr j hj
theorem rgF.done {G : mG} {E : mE} {h : Nat} {R : Nat → Nat} {t X : Nat} {f : Nat → Nat} (a : rgF G E h R t f) (hX : nl X ≤ 80) (hf : ∀ j, j < 80 → f j = dg X j) : ∃ R1, rg G E h R1 ∧ R1 t = X ∧ ∀ r, r ≠ t → R1 r = R r := by
  obtain ⟨b, g, c, d⟩ := a
  refine ⟨nup R t X, ⟨fun r hr => ?_, g, c, fun r hr j hj => ?_⟩, nup_s _ _ _, fun r hr => nup_n _ _ hr⟩
  · by_cases q : r = t
    · subst q; rw [nup_s]; exact hX
    · rw [nup_n _ _ q]; exact b r hr
  · rw [d r hr j hj]
    by_cases q : r = t
    · subst q; rw [if_pos rfl, nup_s, hf j hj]
    · rw [if_neg q, nup_n _ _ q]
theorem fP.st {g : Nat → Int} {R : Nat → Nat} {t k x : Nat} {f : Nat → Nat} (a : fP g R t f) (hk : k < 80) : fP (zup g (80 * t + k) (x : Int)) R t (nup f k x) := fun r hr j hj => by
  by_cases q : r = t
  · subst q
    rw [if_pos rfl]
    by_cases q2 : j = k
    · subst q2; rw [zup_s, nup_s]
    · rw [zup_n _ _ (by omega), nup_n _ _ q2]
      have := a r hr j hj
      rw [if_pos rfl] at this
      exact this
  · rw [if_neg q, zup_n _ _ (by omega)]
    have := a r hr j hj
    rw [if_neg q] at this
    exact this
theorem fP.rd {g : Nat → Int} {R : Nat → Nat} {t A r k : Nat} {f : Nat → Nat} (a : fP g R t f) (hr : r < 16) (hk : k < 80) (hA : R r = A) (hf : f k = dg (R t) k) : g (80 * r + k) = (dg A k : Int) := by
  rw [a r hr k hk]
  by_cases q : r = t
  · subst q; rw [if_pos rfl, hf, hA]
  · rw [if_neg q, hA]
theorem fP.rt {g : Nat → Int} {R : Nat → Nat} {t k : Nat} {f : Nat → Nat} (a : fP g R t f) (hr : t < 16) (hk : k < 80) : g (80 * t + k) = (f k : Int) := by
  rw [a t hr k hk, if_pos rfl]
theorem fP.ro {g : Nat → Int} {R : Nat → Nat} {t A r k : Nat} {f : Nat → Nat} (a : fP g R t f) (hr : r < 16) (hk : k < 80) (hA : R r = A) (hf : r ≠ t) : g (80 * r + k) = (dg A k : Int) := by
  rw [a r hr k hk, if_neg hf, hA]
/-- quotients by powers: what is left of a number behind its first limbs -/
def qt (N k : Nat) : Nat := N / 1000000000 ^ k
theorem qt_0 (N : Nat) : qt N 0 = N := by unfold qt; rw [Nat.pow_zero, Nat.div_one]
theorem qt_s (N k : Nat) : qt N (k + 1) = qt N k / 1000000000 := by unfold qt; rw [bP_s, ← Nat.div_div_eq_div_mul]
theorem dg_qt (N k : Nat) : dg N k = qt N k % 1000000000 := rfl
theorem qt_z {N k : Nat} (h : nl N ≤ k) : qt N k = 0 := Nat.div_eq_of_lt ((nl_le k N).mp h)
theorem qt_e (N k : Nat) : qt N k = 1000000000 * qt N (k + 1) + dg N k := by rw [qt_s, dg_qt]; omega
theorem qt_dg {N M k j : Nat} (h : qt N k = qt M k) (hj : k ≤ j) : dg N j = dg M j := by
  obtain ⟨i, rfl⟩ := Nat.le.dest hj
  have e : ∀ X : Nat, X / 1000000000 ^ (k + i) = qt X k / 1000000000 ^ i := fun X => by unfold qt; rw [Nat.pow_add, Nat.div_div_eq_div_mul]
  unfold dg
  rw [e N, e M, h]
theorem qt_mul {m A k c : Nat} : (m * qt A k + c) / 1000000000 = m * qt A (k + 1) + (m * dg A k + c) / 1000000000 ∧ (m * qt A k + c) % 1000000000 = (m * dg A k + c) % 1000000000 := by
  have h : m * qt A k + c = (m * dg A k + c) + 1000000000 * (m * qt A (k + 1)) := by rw [qt_e A k, Nat.mul_add m, Nat.mul_left_comm m]; omega
  rw [h, Nat.add_mul_div_left _ _ (by omega), Nat.add_mul_mod_self_left]
  omega
theorem dg_mulB {N m : Nat} (hm : m < 1000000000) : dg (N * 1000000000 + m) 0 = m ∧ ∀ j, dg (N * 1000000000 + m) (j + 1) = dg N j := by
  refine ⟨by unfold dg; rw [Nat.pow_zero, Nat.div_one]; omega, fun j => ?_⟩
  unfold dg
  rw [bP_s, Nat.mul_comm (1000000000 ^ j), ← Nat.div_div_eq_div_mul, show (N * 1000000000 + m) / 1000000000 = N by omega]
theorem nl_mulB {N m n : Nat} (hN : nl N ≤ n) (hm : m < 1000000000) : nl (N * 1000000000 + m) ≤ n + 1 := (nl_le _ _).mpr (by have h1 := (nl_le _ _).mp hN; rw [bP_s]; generalize 1000000000 ^ n = P at *; omega)
theorem nl_addn {a b n : Nat} (ha : nl a ≤ n) (hb : nl b ≤ n) : nl (a + b) ≤ n + 1 := (nl_le _ _).mpr (by have h1 := (nl_le _ _).mp ha; have h2 := (nl_le _ _).mp hb; rw [bP_s]; generalize 1000000000 ^ n = P at *; omega)
/-- division by a small number, from the top -/
theorem qt_div {A d k r : Nat} (hd : 0 < d) (hr : r = qt A (k + 1) % d) : (r * 1000000000 + dg A k) / d = dg (A / d) k ∧ (r * 1000000000 + dg A k) % d = qt A k % d := by
  have h1 : dg (A / d) k = qt A k / d % 1000000000 := by unfold dg qt; rw [Nat.div_div_eq_div_mul, Nat.div_div_eq_div_mul, Nat.mul_comm]
  have h2 := qt_e A k
  have h3 := Nat.div_add_mod (qt A (k + 1)) d
  have e : 1000000000 * qt A (k + 1) = qt A (k + 1) % d * 1000000000 + d * (1000000000 * (qt A (k + 1) / d)) := by
    rw [Nat.mul_left_comm d, Nat.mul_comm (qt A (k + 1) % d) 1000000000, ← Nat.mul_add, Nat.add_comm (qt A (k + 1) % d), h3]
  have h4 : qt A k = (r * 1000000000 + dg A k) + d * (1000000000 * (qt A (k + 1) / d)) := by rw [h2, hr, e]; exact Nat.add_right_comm _ _ _
  have h5 : r < d := by rw [hr]; exact Nat.mod_lt _ hd
  have h6 := dg_lt A k
  have h7 : (r * 1000000000 + dg A k) / d < 1000000000 := by
    rw [Nat.div_lt_iff_lt_mul hd]
    have : (r + 1) * 1000000000 ≤ d * 1000000000 := Nat.mul_le_mul_right _ h5
    rw [Nat.mul_comm 1000000000]
    omega
  constructor
  · rw [h1, h4, Nat.add_mul_div_left _ _ hd, Nat.add_mul_mod_self_left, Nat.mod_eq_of_lt h7]
  · rw [h4, Nat.add_mul_mod_self_left]
theorem dg_lo {N M i y : Nat} (h : N % 1000000000 ^ i = M % 1000000000 ^ i) (hy : y < i) : dg N y = dg M y := by
  have h1 := bV_mod N i
  have h2 := bV_mod M i
  exact bV_inj (n := i) (fun j _ => dg_lt N j) (fun j _ => dg_lt M j) (by rw [h1, h2, h]) y hy
theorem qt_mul2 {T B x c k j : Nat} : (qt T k + x * qt B j + c) / 1000000000 = qt T (k + 1) + x * qt B (j + 1) + (dg T k + x * dg B j + c) / 1000000000 ∧ (qt T k + x * qt B j + c) % 1000000000 = (dg T k + x * dg B j + c) % 1000000000 := by
  have h : qt T k + x * qt B j + c = (dg T k + x * dg B j + c) + 1000000000 * (qt T (k + 1) + x * qt B (j + 1)) := by rw [qt_e T k, qt_e B j, Nat.mul_add x, Nat.mul_left_comm x]; omega
  rw [h, Nat.add_mul_div_left _ _ (by omega), Nat.add_mul_mod_self_left]
  omega
theorem ml_0 {A B i : Nat} : A % 1000000000 ^ (i + 1) * B = A % 1000000000 ^ i * B + dg A i * B * 1000000000 ^ i := by
  rw [mod_s, Nat.add_mul, Nat.mul_right_comm]
theorem ml_q {T V i : Nat} : qt (T + V * 1000000000 ^ i) i = qt T i + V := by unfold qt; rw [Nat.add_mul_div_right _ _ (bP_pos i)]
theorem ml_m {T V i : Nat} : (T + V * 1000000000 ^ i) % 1000000000 ^ i = T % 1000000000 ^ i := Nat.add_mul_mod_self_right _ _ _
/-- the limbs of a number from u on -/
def hiP (X u : Nat) : Nat := X / 1000000000 ^ u * 1000000000 ^ u
theorem hiP_0 (X : Nat) : hiP X 0 = X := by unfold hiP; rw [Nat.pow_zero, Nat.div_one, Nat.mul_one]
theorem hiP_z {X u : Nat} (h : nl X ≤ u) : hiP X u = 0 := by unfold hiP; rw [Nat.div_eq_of_lt ((nl_le u X).mp h), Nat.zero_mul]
theorem hiP_le (X u : Nat) : hiP X u ≤ X := Nat.div_mul_le_self _ _
theorem hiP_s (X u : Nat) : hiP X u = hiP X (u + 1) + dg X u * 1000000000 ^ u := by
  have h : X / 1000000000 ^ u = X / 1000000000 ^ (u + 1) * 1000000000 + dg X u := by rw [Nat.mul_comm]; exact qt_e X u
  unfold hiP
  rw [h, Nat.add_mul]
  generalize X / 1000000000 ^ (u + 1) = Y
  rw [bP_s, Nat.mul_assoc, Nat.mul_comm 1000000000 (1000000000 ^ u)]
theorem dg_pt {Y v u j : Nat} (hv : v < 1000000000) : dg (Y * 1000000000 ^ (u + 1) + v * 1000000000 ^ u) j = if j < u then 0 else if j = u then v else dg (Y * 1000000000 ^ (u + 1)) j := by
  by_cases h : j < u
  · rw [if_pos h]
    have e : Y * 1000000000 ^ (u + 1) + v * 1000000000 ^ u = 0 + (Y * 1000000000 + v) * 1000000000 ^ u := by rw [bP_s, Nat.zero_add, Nat.add_mul, Nat.mul_assoc, Nat.mul_comm 1000000000 (1000000000 ^ u)]
    rw [e, dg_lo (M := 0) (i := u) ml_m h]
    unfold dg; simp
  · rw [if_neg h]
    have e : Y * 1000000000 ^ (u + 1) + v * 1000000000 ^ u = 0 + (Y * 1000000000 + v) * 1000000000 ^ u := by rw [bP_s, Nat.zero_add, Nat.add_mul, Nat.mul_assoc, Nat.mul_comm 1000000000 (1000000000 ^ u)]
    have e2 : Y * 1000000000 ^ (u + 1) = 0 + (Y * 1000000000) * 1000000000 ^ u := by rw [bP_s, Nat.zero_add, Nat.mul_assoc, Nat.mul_comm 1000000000 (1000000000 ^ u)]
    have q1 : qt (Y * 1000000000 ^ (u + 1) + v * 1000000000 ^ u) u = Y * 1000000000 + v := by rw [e, ml_q]; unfold qt; simp
    have q2 : qt (Y * 1000000000 ^ (u + 1)) u = Y * 1000000000 := by rw [e2, ml_q]; unfold qt; simp
    by_cases h2 : j = u
    · subst h2; rw [if_pos rfl, dg_qt, q1]; omega
    · rw [if_neg h2]
      refine qt_dg (k := u + 1) ?_ (by omega)
      rw [qt_s, qt_s, q1, q2]; omega
/-- the number whose limbs from u + 1 on are those of X, whose limb u is v -/
def hiV (X u v : Nat) : Nat := hiP X (u + 1) + v * 1000000000 ^ u
theorem hiV_dg {X u v w : Nat} (hv : v < 1000000000) (hw : w < 1000000000) : ∀ j, nup (dg (hiV X u v)) u w j = dg (hiV X u w) j := fun j => by
  unfold hiV hiP
  by_cases q : j = u
  · subst q; rw [nup_s, dg_pt hw, if_neg (by omega), if_pos rfl]
  · rw [nup_n _ _ q, dg_pt hv, dg_pt hw, if_neg q, if_neg q]
theorem hiV_0 (X u : Nat) : hiV X u 0 = hiP X (u + 1) := by unfold hiV; rw [Nat.zero_mul, Nat.add_zero]
theorem hiV_d (X u : Nat) : hiV X u (dg X u) = hiP X u := (hiP_s X u).symm
theorem hiV_le {X u v : Nat} : hiV X u v ≤ X ↔ v ≤ dg X u := by
  have h1 := hiP_s X u
  have h2 : X = hiP X u + X % 1000000000 ^ u := by unfold hiP; rw [Nat.mul_comm]; exact (Nat.div_add_mod _ _).symm
  have h3 := Nat.mod_lt X (bP_pos u)
  unfold hiV
  have p := bP_pos u
  generalize hA : hiP X (u + 1) = a at *
  generalize hB : hiP X u = b at *
  generalize hC : X % 1000000000 ^ u = c at *
  generalize hD : dg X u = d at *
  generalize hP : 1000000000 ^ u = P at *
  constructor
  · intro q
    refine Classical.byContradiction fun q2 => ?_
    have : (d + 1) * P ≤ v * P := Nat.mul_le_mul_right _ (by omega)
    rw [Nat.add_mul, Nat.one_mul] at this
    omega
  · intro q
    have : v * P ≤ d * P := Nat.mul_le_mul_right _ q
    omega
theorem hiV_nl {X u v n : Nat} (hX : nl X ≤ n) (hu : u < n) (hv : v < 1000000000) : nl (hiV X u v) ≤ n := by
  refine (nl_le _ _).mpr ?_
  have h1 := (nl_le _ _).mp hX
  unfold hiV hiP
  have h2 : X / 1000000000 ^ (u + 1) < 1000000000 ^ (n - (u + 1)) := by
    rw [Nat.div_lt_iff_lt_mul (bP_pos _), ← Nat.pow_add, show n - (u + 1) + (u + 1) = n by omega]; exact h1
  have h3 : (X / 1000000000 ^ (u + 1) + 1) * 1000000000 ^ (u + 1) ≤ 1000000000 ^ n := by
    have := Nat.mul_le_mul_right (1000000000 ^ (u + 1)) h2
    rw [← Nat.pow_add, show n - (u + 1) + (u + 1) = n by omega] at this
    exact this
  have h4 : (v + 1) * 1000000000 ^ u ≤ 1000000000 ^ (u + 1) := by rw [bP_s, Nat.mul_comm (1000000000 ^ u)]; exact Nat.mul_le_mul_right _ hv
  have p := bP_pos u
  rw [Nat.add_mul, Nat.one_mul] at h3 h4
  generalize X / 1000000000 ^ (u + 1) * 1000000000 ^ (u + 1) = a at *
  generalize 1000000000 ^ (u + 1) = b at *
  generalize 1000000000 ^ n = c at *
  generalize hvP : v * 1000000000 ^ u = d at *
  generalize 1000000000 ^ u = e at *
  omega
theorem rt_half {A X : Nat} (h : rtP 2 A X) : nl X ≤ (nl A + 1) / 2 := by
  refine (nl_le _ _).mpr (Classical.byContradiction fun q => ?_)
  have h1 := h.1
  rw [Nat.pow_two] at h1
  have h2 := Nat.mul_le_mul (Nat.le_of_not_lt q) (Nat.le_of_not_lt q)
  rw [← Nat.pow_add] at h2
  have h3 := nl_self A
  have h4 : 1000000000 ^ nl A ≤ 1000000000 ^ ((nl A + 1) / 2 + (nl A + 1) / 2) := Nat.pow_le_pow_right (by omega) (by omega)
  generalize 1000000000 ^ nl A = a at *
  generalize 1000000000 ^ ((nl A + 1) / 2 + (nl A + 1) / 2) = b at *
  omega
theorem rt_sq {A X M : Nat} (h : rtP 2 A X) : M * M ≤ A ↔ M ≤ X := by
  have h1 := h.1
  have h2 := h.2
  rw [Nat.pow_two] at h1 h2
  constructor
  · intro q
    refine Classical.byContradiction fun q2 => ?_
    have := Nat.mul_le_mul (show X + 1 ≤ M by omega) (show X + 1 ≤ M by omega)
    omega
  · intro q
    have := Nat.mul_le_mul q q
    omega
theorem cmpZ_le {a b : Nat} : cmpZ a b ≤ 0 ↔ a ≤ b := by unfold cmpZ; split <;> (try split) <;> omega
theorem cmpZ_0 {a b : Nat} : cmpZ a b = 0 ↔ a = b := by unfold cmpZ; split <;> (try split) <;> omega
theorem cmpZ_b (a b : Nat) : -1 ≤ cmpZ a b ∧ cmpZ a b ≤ 1 := by unfold cmpZ; split <;> (try split) <;> omega
