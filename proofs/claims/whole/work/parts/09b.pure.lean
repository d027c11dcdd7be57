theorem facN_le {x y tm : Nat} {ls : Int} (h : x ≤ y) : facN x tm ls ≤ facN y tm ls := by
  unfold facN
  have : (x : Int) * (tm : Int) ≤ (y : Int) * (tm : Int) := Int.mul_le_mul_of_nonneg_right (by omega) (by omega)
  omega
theorem shp_lt {kd k x y : Nat} (hkd : kd ≤ 4) (hk : 3 ≤ kd → 3 ≤ k) (h : x < y) : shp kd k x < shp kd k y := by
  have p1 : x * (x + 1) < y * (y + 1) := Nat.mul_lt_mul_of_lt_of_le h (by omega) (by omega)
  have hpos : ∀ kd, kd = 3 ∨ kd = 4 → 3 ≤ k → 0 < shp kd k y := fun kd hkd hk => by
    rcases hkd with rfl | rfl
    · have a := ev3 hk (show 0 < y by omega)
      have g := facN_ge (c := (k : Int) - 4) hk (show 0 < y by omega) (by omega)
      have e := facN_z g.1
      have : 0 < y * facN y (k - 2) ((k : Int) - 4) := Nat.mul_pos (by omega) (by omega)
      omega
    · have a := ev4 hk (show 0 < y by omega)
      have g := facN_ge (c := (k : Int) - 5) hk (show 0 < y by omega) (by omega)
      have e := facN_z g.1
      have : 0 < y * (y + 1) * facN y (k - 2) ((k : Int) - 5) := Nat.mul_pos (Nat.mul_pos (by omega) (by omega)) (by omega)
      omega
  rcases (show kd = 0 ∨ kd = 1 ∨ kd = 2 ∨ kd = 3 ∨ kd = 4 by omega) with rfl | rfl | rfl | rfl | rfl
  · rw [shp_k0, shp_k0]; exact Nat.mul_lt_mul_of_lt_of_le h (by omega) (by omega)
  · rw [shp_k1, shp_k1]; have := ev2 x; have := ev2 y; omega
  · rw [shp_k2, shp_k2]; exact p1
  · by_cases hx : x = 0
    · subst hx; rw [shp_0]; exact hpos 3 (Or.inl rfl) (hk (by omega))
    · have a := ev3 (hk (by omega)) (show 0 < x by omega)
      have b := ev3 (hk (by omega)) (show 0 < y by omega)
      have g := facN_ge (c := (k : Int) - 4) (hk (by omega)) (show 0 < y by omega) (by omega)
      have e := facN_z g.1
      have : x * facN x (k - 2) ((k : Int) - 4) < y * facN y (k - 2) ((k : Int) - 4) := Nat.mul_lt_mul_of_lt_of_le h (facN_le (by omega)) (by omega)
      omega
  · by_cases hx : x = 0
    · subst hx; rw [shp_0]; exact hpos 4 (Or.inr rfl) (hk (by omega))
    · have a := ev4 (hk (by omega)) (show 0 < x by omega)
      have b := ev4 (hk (by omega)) (show 0 < y by omega)
      have g := facN_ge (c := (k : Int) - 5) (hk (by omega)) (show 0 < y by omega) (by omega)
      have e := facN_z g.1
      have : x * (x + 1) * facN x (k - 2) ((k : Int) - 5) < y * (y + 1) * facN y (k - 2) ((k : Int) - 5) := Nat.mul_lt_mul_of_lt_of_le p1 (facN_le (by omega)) (by omega)
      omega
theorem shp_inj {kd k x y : Nat} (hkd : kd ≤ 4) (hk : 3 ≤ kd → 3 ≤ k) (h : shp kd k x = shp kd k y) : x = y := by
  rcases Nat.lt_trichotomy x y with q | q | q
  · have := shp_lt hkd hk q; omega
  · exact q
  · have := shp_lt hkd hk q; omega
theorem rt_two {b x t : Nat} (ht : rtP 2 b t) (h1 : (x - 1) * (x - 1) ≤ b) (h2 : b < (x + 1) * (x + 1)) (hx : 0 < x) : x = t ∨ x = t + 1 := by
  obtain ⟨a1, a2⟩ := ht
  rw [Nat.pow_two] at a1 a2
  have b1 : t < x + 1 := Nat.lt_of_not_le fun q => by have := Nat.mul_le_mul q q; omega
  have b2 : x - 1 < t + 1 := Nat.lt_of_not_le fun q => by have := Nat.mul_le_mul q q; omega
  omega
theorem rt_three {b x t : Nat} (ht : rtP 3 b t) (h1 : (x - 1) * (x - 1) * (x - 1) ≤ b) (h2 : b < (x + 1) * (x + 1) * (x + 1)) (hx : 0 < x) : x = t ∨ x = t + 1 := by
  obtain ⟨a1, a2⟩ := ht
  have e : ∀ z : Nat, z ^ 3 = z * z * z := fun z => by rw [Nat.pow_succ, Nat.pow_two]
  rw [e] at a1 a2
  have b1 : t < x + 1 := Nat.lt_of_not_le fun q => by have := Nat.mul_le_mul (Nat.mul_le_mul q q) q; omega
  have b2 : x - 1 < t + 1 := Nat.lt_of_not_le fun q => by have := Nat.mul_le_mul (Nat.mul_le_mul q q) q; omega
  omega
theorem shp_which {kd k x N t : Nat} (hkd : kd ≤ 4) (hk : 3 ≤ kd → 3 ≤ k) (h : shp kd k x = N) (ht : rtP (if kd = 4 then 3 else 2) (shb kd k N) t) : x = t ∨ x = t + 1 := by
  by_cases hx : x = 0
  · subst hx
    rw [shp_0] at h
    subst h
    have hb : shb kd k 0 = 0 := by unfold shb; simp
    rw [hb] at ht
    have h1 := ht.1
    left
    rcases Nat.eq_zero_or_pos t with q | q
    · exact q.symm
    · have := Nat.pow_pos (n := if kd = 4 then 3 else 2) q
      omega
  · have hx0 : 0 < x := by omega
    have m1 : (x - 1) * (x - 1) ≤ x * x := Nat.mul_le_mul (by omega) (by omega)
    have m2 : (x + 1) * (x + 1) = x * x + 2 * x + 1 := by grind
    rcases (show kd = 0 ∨ kd = 1 ∨ kd = 2 ∨ kd = 3 ∨ kd = 4 by omega) with rfl | rfl | rfl | rfl | rfl
    · rw [shp_k0] at h
      exact rt_two (b := N) ht (by omega) (by omega) hx0
    · rw [shp_k1] at h
      have e := ev2 x
      rw [Nat.mul_add] at e h
      exact rt_two (b := N * 2) ht (by omega) (by omega) hx0
    · rw [shp_k2, Nat.mul_add] at h
      exact rt_two (b := N) ht (by omega) (by omega) hx0
    · have r := shp_root2 (hk (by omega)) hx0
      have hk3 := hk (by omega)
      rw [h] at r
      refine rt_two (b := N * 2 / (k - 2)) ht ?_ ?_ hx0
      · rw [Nat.le_div_iff_mul_le (by omega), Nat.mul_comm]; exact r.1
      · have r2 := r.2; rw [Nat.mul_comm (k - 2)] at r2; exact (Nat.div_lt_iff_lt_mul (by omega)).mpr r2
    · have r := shp_root3 (hk (by omega)) hx0
      have hk3 := hk (by omega)
      rw [h] at r
      refine rt_three (b := N * 6 / (k - 2)) ht ?_ ?_ hx0
      · rw [Nat.le_div_iff_mul_le (by omega), Nat.mul_comm]; exact r.1
      · have r2 := r.2; rw [Nat.mul_comm (k - 2)] at r2; exact (Nat.div_lt_iff_lt_mul (by omega)).mpr r2
theorem shb_nl {kd k N : Nat} (hN : nl N ≤ 24) : nl (shb kd k N) ≤ 25 := by
  have a := nl_mul1 (N := N) (a := 2) (by omega)
  have b := nl_mul1 (N := N) (a := 6) (by omega)
  unfold shb
  split
  · omega
  · split
    · exact Nat.le_trans (nl_mono (Nat.div_le_self _ _)) (by omega)
    · split
      · exact Nat.le_trans (nl_mono (Nat.div_le_self _ _)) (by omega)
      · omega
theorem rt_nl {e b t : Nat} (he : e = 2 ∨ e = 3) (h : rtP e b t) (hb : nl b ≤ 25) : nl t ≤ 13 := by
  rw [nl_le] at hb ⊢
  refine Nat.lt_of_not_le fun q => ?_
  have a := Nat.pow_le_pow_left q e
  have b1 := h.1
  have c : 1000000000 ^ 26 ≤ (1000000000 ^ 13) ^ e := by
    rw [← Nat.pow_mul]; exact Nat.pow_le_pow_right (by omega) (by omega)
  have d : 1000000000 ^ 25 ≤ 1000000000 ^ 26 := Nat.pow_le_pow_right (by omega) (by omega)
  omega
theorem nl_prod {a b m n : Nat} (ha : nl a ≤ m) (hb : nl b ≤ n) : nl (a * b) ≤ m + n := by
  rw [nl_le] at *
  rw [Nat.pow_add]
  exact Nat.mul_lt_mul_of_lt_of_le ha (Nat.le_of_lt hb) (bP_pos _)
theorem nl_fac {n tm : Nat} {ls : Int} (hn : nl n ≤ 50) (htm : tm < 1000000000) (hls : -10 ≤ ls) (hls2 : ls ≤ 100) : nl (facN n tm ls) ≤ nl n + 2 := by
  have a := nl_mul1 (N := n) htm
  rw [nl_le] at a ⊢
  have e2 : ((n * tm : Nat) : Int) = (n : Int) * (tm : Int) := Int.natCast_mul _ _
  have h : facN n tm ls ≤ n * tm + 10 := by unfold facN; omega
  have p := bP_pos (nl n + 1)
  rw [bP_s]
  omega
