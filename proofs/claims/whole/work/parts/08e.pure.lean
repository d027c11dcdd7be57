/-! the long division's rounds; roots by steps from above -/
theorem dv_win {f : Nat → Nat} {m j n X : Nat} (hX : bV f (m + 1) = X) (hf : ∀ k, k < m + 1 → f k < 1000000000) (hjn : j + n ≤ m) (hlt : X / 1000000000 ^ j < 1000000000 ^ (n + 1)) : bV (sh f j) (n + 1) = X / 1000000000 ^ j ∧ bV f j = X % 1000000000 ^ j ∧ bV (sh f (j + (n + 1))) (m - j - n) = 0 := by
  have e1 := bV_add f j (m + 1 - j)
  rw [show j + (m + 1 - j) = m + 1 by omega, hX] at e1
  have l1 := bV_lt (f := f) (n := j) (fun k hk => hf k (by omega))
  have p := bP_pos j
  have d1 : X / 1000000000 ^ j = bV (sh f j) (m + 1 - j) := by rw [e1, Nat.add_mul_div_right _ _ p, Nat.div_eq_of_lt l1, Nat.zero_add]
  have d2 : X % 1000000000 ^ j = bV f j := by rw [e1, Nat.add_mul_mod_self_right, Nat.mod_eq_of_lt l1]
  have e2 := bV_add (sh f j) (n + 1) (m - j - n)
  rw [show n + 1 + (m - j - n) = m + 1 - j by omega, ← d1] at e2
  have hs : sh (sh f j) (n + 1) = sh f (j + (n + 1)) := by funext k; unfold sh; rw [Nat.add_assoc j]
  rw [hs] at e2
  have p2 := bP_pos (n + 1)
  have z : bV (sh f (j + (n + 1))) (m - j - n) = 0 := by
    rcases Nat.eq_zero_or_pos (bV (sh f (j + (n + 1))) (m - j - n)) with h | h
    · exact h
    · have := Nat.mul_le_mul_right (1000000000 ^ (n + 1)) h
      omega
  rw [z] at e2
  exact ⟨by omega, d2.symm, z⟩
theorem dv_put {f f1 : Nat → Nat} {m j n V : Nat} (hs : ∀ k, (k < j ∨ j + n < k) → f1 k = f k) (hV : bV (sh f1 j) (n + 1) = V) (hjn : j + n ≤ m) (hz : bV (sh f (j + (n + 1))) (m - j - n) = 0) : bV f1 (m + 1) = V * 1000000000 ^ j + bV f j := by
  have e1 := bV_add f1 j (m + 1 - j)
  rw [show j + (m + 1 - j) = m + 1 by omega] at e1
  have e2 := bV_add (sh f1 j) (n + 1) (m - j - n)
  rw [show n + 1 + (m - j - n) = m + 1 - j by omega, hV] at e2
  have hsh : sh (sh f1 j) (n + 1) = sh f1 (j + (n + 1)) := by funext k; unfold sh; rw [Nat.add_assoc j]
  have h3 : bV (sh f1 (j + (n + 1))) (m - j - n) = bV (sh f (j + (n + 1))) (m - j - n) := bV_congr (fun k hk => hs _ (by omega))
  rw [hsh, h3, hz, Nat.zero_mul, Nat.add_zero] at e2
  rw [e1, e2, bV_congr (g := f) (n := j) (fun k hk => hs k (by omega))]
  exact Nat.add_comm _ _
theorem dv_head {f : Nat → Nat} {j n : Nat} (hn : 0 < n) : bV (sh f j) (n + 1) = (f (j + n) * 1000000000 + f (j + n - 1)) * 1000000000 ^ (n - 1) + bV (sh f j) (n - 1) := by
  obtain ⟨k, rfl⟩ : ∃ k, n = k + 1 := ⟨n - 1, by omega⟩
  rw [bV_s, bV_s, bP_s]
  unfold sh
  rw [show j + (k + 1) - 1 = j + k by omega, show k + 1 - 1 = k by omega, Nat.add_mul, Nat.mul_assoc, Nat.mul_comm 1000000000]
  omega
/-- the rounds of a long division: what is left of U by D when the places from u on are told -/
def dvI (f : Nat → Nat) (m U D u : Nat) : Prop := bV f (m + 1) = U % (D * 1000000000 ^ u)
theorem dv_round {f : Nat → Nat} {m U D u n g : Nat} (hv : dvI f m U D (u + 1)) (hf : ∀ k, k < m + 1 → f k < 1000000000) (hn : n = nl D) (hn0 : 0 < n) (hun : u + n ≤ m) (hv4 : 1000000000 ≤ dg D (n - 1) * 4) (hg : g = min ((f (u + n) * 1000000000 + f (u + n - 1)) / dg D (n - 1)) 999999999) : bV (sh f u) (n + 1) / D ≤ g ∧ g ≤ bV (sh f u) (n + 1) / D + 4 ∧ bV (sh f u) (n + 1) / D = dg (U / D) u ∧ ∀ f1 : Nat → Nat, (∀ k, (k < u ∨ u + n < k) → f1 k = f k) → bV (sh f1 u) (n + 1) = bV (sh f u) (n + 1) % D → dvI f1 m U D u := by
  have hD : D ≠ 0 := nl_pos.mp (by omega)
  have hD0 : 0 < D := Nat.pos_of_ne_zero hD
  unfold dvI at hv
  obtain ⟨s1, s2, s3⟩ := dv_step (U := U) (u := u) hD0 hv
  have hDn : D < 1000000000 ^ n := by rw [hn]; exact nl_self D
  have hlt : bV f (m + 1) / 1000000000 ^ u < 1000000000 ^ (n + 1) := Nat.lt_of_lt_of_le s1 (by rw [bP_s]; exact Nat.mul_le_mul_right _ (Nat.le_of_lt hDn))
  obtain ⟨w1, w2, w3⟩ := dv_win rfl hf hun hlt
  have hv1 : dg D (n - 1) * 1000000000 ^ (n - 1) ≤ D := by rw [hn, dg_topv hD]; exact Nat.div_mul_le_self _ _
  have hv2 : D < (dg D (n - 1) + 1) * 1000000000 ^ (n - 1) := by
    rw [hn, dg_topv hD, Nat.add_mul, Nat.one_mul]; exact Nat.lt_div_mul_add (bP_pos _)
  have hlo : bV (sh f u) (n - 1) < 1000000000 ^ (n - 1) := bV_lt (fun k hk => hf (u + k) (by omega))
  have kg := kn_guess (bP_pos (n - 1)) (dv_head (f := f) (j := u) hn0) hlo hv1 hv2 hv4 (by rw [w1]; exact s1) hg
  refine ⟨kg.1, kg.2, by rw [w1]; exact s2, fun f1 h1 h2 => ?_⟩
  unfold dvI
  rw [dv_put h1 h2 hun w3, w1, w2]
  exact s3
theorem dv_0 {f : Nat → Nat} {m U D : Nat} (h : bV f (m + 1) = U) (hU : ∀ u, u = m - nl D + 1 → U < D * 1000000000 ^ u) : dvI f m U D (m - nl D + 1) := by
  unfold dvI
  rw [h, Nat.mod_eq_of_lt (hU _ rfl)]
theorem dv_U {U D m : Nat} (hD : D ≠ 0) (hm : m = nl U) (hnm : nl D ≤ m) : U < D * 1000000000 ^ (m - nl D + 1) ∧ U / D < 1000000000 ^ (m - nl D + 1) := by
  have h1 := nl_self U
  have h2 : 1000000000 ^ (nl D - 1) ≤ D := (nl_lt _ _).mp (by have := nl_pos.mpr hD; omega)
  have h3 : U < D * 1000000000 ^ (m - nl D + 1) := by
    have e : 1000000000 ^ nl U = 1000000000 ^ (nl D - 1) * 1000000000 ^ (m - nl D + 1) := by
      rw [← Nat.pow_add]; congr 1; have := nl_pos.mpr hD; omega
    have := Nat.mul_le_mul_right (1000000000 ^ (m - nl D + 1)) h2
    omega
  exact ⟨h3, by rw [Nat.div_lt_iff_lt_mul (Nat.pos_of_ne_zero hD), Nat.mul_comm]; exact h3⟩
theorem nl_mul1 {N a : Nat} (ha : a < 1000000000) : nl (N * a) ≤ nl N + 1 := by
  rw [nl_le]
  have := scale_lt (b := 0) (nl_self N) ha (by omega)
  omega
def rtP (k N x : Nat) : Prop := x ^ k ≤ N ∧ N < (x + 1) ^ k
theorem rt_ex {k : Nat} (hk : k ≠ 0) : ∀ N : Nat, ∃ x, rtP k N x
  | 0 => ⟨0, by rw [Nat.zero_pow (Nat.pos_of_ne_zero hk)]; exact Nat.le_refl _, Nat.pow_pos (by omega)⟩
  | N + 1 => by
    obtain ⟨x, h1, h2⟩ := rt_ex hk N
    by_cases h : (x + 1) ^ k ≤ N + 1
    · refine ⟨x + 1, h, ?_⟩
      have := Nat.pow_lt_pow_left (show x + 1 < x + 1 + 1 by omega) hk
      omega
    · exact ⟨x, by omega, by omega⟩
theorem rt_uniq {k N x y : Nat} (hk : k ≠ 0) (h1 : rtP k N x) (h2 : rtP k N y) : x = y := by
  have a : x < y + 1 := (Nat.pow_lt_pow_iff_left hk).mp (Nat.lt_of_le_of_lt h1.1 h2.2)
  have b : y < x + 1 := (Nat.pow_lt_pow_iff_left hk).mp (Nat.lt_of_le_of_lt h2.1 h1.2)
  omega
theorem nw_2 {N x t : Nat} (h : rtP 2 N t) (hx : t ≤ x) (h0 : 0 < x) : t ≤ (x * 1 + N / x) / 2 ∧ (t < x → N / x ≤ t) := by
  obtain ⟨h1, h2⟩ := h
  rw [Nat.pow_two] at h1 h2
  refine ⟨?_, fun hlt => ?_⟩
  · rw [Nat.le_div_iff_mul_le (by omega)]
    refine Nat.le_of_not_lt fun hc => ?_
    have h3 : N / x < 2 * t - x := by omega
    have h4 : x < 2 * t := by have := Nat.lt_of_le_of_lt (Nat.zero_le _) h3; omega
    rw [Nat.div_lt_iff_lt_mul h0] at h3
    obtain ⟨y, rfl⟩ : ∃ y, x = t + y := ⟨x - t, by omega⟩
    obtain ⟨w, rfl⟩ : ∃ w, t = y + w := ⟨t - y, by omega⟩
    rw [show 2 * (y + w) - (y + w + y) = w by omega] at h3
    have : w * (y + w + y) + y * y = (y + w) * (y + w) := by grind
    have := Nat.zero_le (y * y)
    omega
  · have h3 : N < (t + 1) * x := Nat.lt_of_lt_of_le h2 (Nat.mul_le_mul_left _ hlt)
    have := (Nat.div_lt_iff_lt_mul h0).mpr h3
    omega
theorem nw_3 {N x t : Nat} (h : rtP 3 N t) (hx : t ≤ x) (h0 : 0 < x) : t ≤ (x * 2 + N / (x * x)) / 3 ∧ (t < x → N / (x * x) ≤ t) := by
  obtain ⟨h1, h2⟩ := h
  have hxx : 0 < x * x := Nat.mul_pos h0 h0
  refine ⟨?_, fun hlt => ?_⟩
  · rw [Nat.le_div_iff_mul_le (by omega)]
    refine Nat.le_of_not_lt fun hc => ?_
    have h3 : N / (x * x) < 3 * t - 2 * x := by omega
    have h4 : 2 * x < 3 * t := by have := Nat.lt_of_le_of_lt (Nat.zero_le _) h3; omega
    rw [Nat.div_lt_iff_lt_mul hxx] at h3
    obtain ⟨y, rfl⟩ : ∃ y, x = t + y := ⟨x - t, by omega⟩
    obtain ⟨w, rfl⟩ : ∃ w, t = 2 * y + w := ⟨t - 2 * y, by omega⟩
    rw [show 3 * (2 * y + w) - 2 * (2 * y + w + y) = w by omega] at h3
    have e : w * ((2 * y + w + y) * (2 * y + w + y)) + y * y * (8 * y + 3 * w) = (2 * y + w) ^ 3 := by grind
    have := Nat.zero_le (y * y * (8 * y + 3 * w))
    omega
  · have h3 : N < (t + 1) * (x * x) := by
      refine Nat.lt_of_lt_of_le h2 ?_
      rw [show (t + 1) ^ 3 = (t + 1) * ((t + 1) * (t + 1)) by rw [Nat.pow_succ, Nat.pow_two, Nat.mul_assoc]]
      exact Nat.mul_le_mul_left _ (Nat.mul_le_mul hlt hlt)
    have := (Nat.div_lt_iff_lt_mul hxx).mpr h3
    omega
/-- how far a step's x may stand above the root -/
def nwI (x t s B : Nat) : Prop := (x - t) * 3 ^ s ≤ B * 2 ^ s
theorem nw_err {x y t s B : Nat} (h : nwI x t s B) (hy : 3 * (y - t) ≤ 2 * (x - t)) : nwI y t (s + 1) B := by
  unfold nwI at *
  rw [Nat.pow_succ, Nat.pow_succ]
  have a := Nat.mul_le_mul_right (3 ^ s) hy
  have b := Nat.mul_le_mul_right 2 h
  have c : (y - t) * (3 ^ s * 3) = 3 * (y - t) * 3 ^ s := by grind
  have d : (x - t) * 3 ^ s * 2 = 2 * (x - t) * 3 ^ s := by grind
  rw [c, ← Nat.mul_assoc]
  omega
theorem nw_end {x t B : Nat} (h : nwI x t 2000 B) (hB : B ≤ 10 ^ 130) (hx : t ≤ x) : x = t := by
  unfold nwI at h
  rcases Nat.lt_or_ge t x with q | q
  · exfalso
    have a := Nat.mul_le_mul_right (3 ^ 2000) (show 1 ≤ x - t by omega)
    have b := Nat.mul_le_mul_right (2 ^ 2000) hB
    have c : 10 ^ 130 * 2 ^ 2000 < 1 * 3 ^ 2000 := by decide +kernel
    exact absurd (Nat.lt_of_lt_of_le (Nat.lt_of_le_of_lt (Nat.le_trans h b) c) a) (Nat.lt_irrefl _)
  · omega
theorem nw_start {k N E t : Nat} (hk : k = 2 ∨ k = 3) (hE : E = (fgs N + k - 1) / k) (h : rtP k N t) : t ≤ 10 ^ E := by
  have h1 := fgs_lt N
  have hk0 : k ≠ 0 := by omega
  refine Nat.le_of_lt ((Nat.pow_lt_pow_iff_left hk0).mp (Nat.lt_of_le_of_lt h.1 (Nat.lt_of_lt_of_le h1 ?_)))
  rw [← Nat.pow_mul]
  refine Nat.pow_le_pow_right (by omega) ?_
  rcases hk with rfl | rfl <;> omega
theorem c_X8_setLongV (l : Launch) (G : mG) (E0 : mE) {t N : Nat} {v : Int} (hV : isV G E0 t) (hv : v = (N : Int)) (hN : N < 9223372036854775808) : mm_Cv l yX8_setLong (.code yX8_setLong cX8_setLong 3 none :: wsG) rX8_setLong G [.ref t, .long (zL v)] E0 (fun E => isW G E t N ∧ ∀ q : Nat, (q < t ∨ t + 2 ≤ q) → E q = E0 q) := by
  obtain ⟨n, f, h⟩ := hV
  exact c_X8_setLong l G E0 h hv hN
theorem isV.obj {G : mG} {E : mE} {t : Nat} (h : isV G E t) : ∃ n : Nat, E t = some (.inr (7, [.ref (t + 1), .int (zI (n : Int))])) := by
  obtain ⟨n, f, h⟩ := h
  exact ⟨n, h.1⟩
/-- a fact that the rows shall not look into -/
def hid (p : Prop) : Prop := p
