/-! the reference's state: the same things as the class's, in arrays -/
def rfA (G : mG) (E : mE) (h : Nat) (P : mPl) : Prop := ∃ fh fc : Nat → Int, E (h + 2) = some (mm_I G 8 fh) ∧ E (h + 3) = some (mm_I G 8 fc) ∧ ∀ i, i < 8 → fh i = (P.1 i : Int) ∧ fc i = (P.2.1 i : Int)
def rfC (G : mG) (E : mE) (h : Nat) : Prop := ∃ c1 c2 c3 c4 : Nat → Int, E (h + 5) = some (mm_J G 8 c1) ∧ E (h + 6) = some (mm_I G 8 c2) ∧ E (h + 7) = some (mm_I G 8 c3) ∧ E (h + 8) = some (mm_I G 8 c4)
def rfK (G : mG) (E : mE) (h : Nat) (K : mPl) : Prop := ∃ gk : Nat → Int, E (h + 9) = some (mm_I G 656 gk) ∧ ∀ i, i < 8 → (∀ j, j < 80 → gk (80 * i + j) = (dg (K.2.2 i) j : Int)) ∧ gk (640 + i) = (K.1 i : Int) ∧ gk (648 + i) = (K.2.1 i : Int)
abbrev mSh : Type := (Nat → Nat → Int) × (Nat → Int) × (Nat → Int)
def shR (T : mSh) (fl fz fi : Nat → Int) : Prop := ∀ i, i < 4 → (T.2.2 i < 0 → fl i = -1) ∧ (0 ≤ T.2.2 i → fl i = T.2.1 i ∧ fz i = T.2.2 i ∧ ∀ j, j < 24 → fi (24 * i + j) = T.1 i j)
def rfS (G : mG) (E : mE) (h : Nat) (T : mSh) : Prop := ∃ fl fz fi : Nat → Int, E (h + 10) = some (mm_I G 4 fl) ∧ E (h + 11) = some (mm_I G 4 fz) ∧ E (h + 12) = some (mm_J G 96 fi) ∧ shR T fl fz fi
def rfx (G : mG) (E : mE) (h : Nat) (S : mST) (R : Nat → Nat) (x2 x3 x4 x5 x6 x7 : Int) : Prop := ro G E h (S.1.2.2 : Int) x2 x3 x4 x5 x6 x7 S.1.1 ∧ rg G E h R ∧ (∀ i, i < 8 → R i = S.2.1.2.2 i) ∧ rfA G E h S.2.1 ∧ E (h + 4) = some (mm_I G 100 S.1.2.1) ∧ rfC G E h ∧ rfK G E h S.2.2.1 ∧ rfS G E h S.2.2.2 ∧ (S.1.1 = 0 ∨ S.1.1 = 1)
def rf (G : mG) (E : mE) (h : Nat) (S : mST) : Prop := ∃ (R : Nat → Nat) (x2 x3 x4 x5 x6 x7 : Int), rfx G E h S R x2 x3 x4 x5 x6 x7
def okR (S : mST) : Prop := okT S.1.2.1 S.1.2.2 ∧ okP S.2.1 ∧ okP S.2.2.1 ∧ okS S.2.2.2
theorem rfx.rf {G : mG} {E : mE} {h : Nat} {S : mST} {R : Nat → Nat} {x2 x3 x4 x5 x6 x7 : Int} (a : rfx G E h S R x2 x3 x4 x5 x6 x7) : rf G E h S := ⟨R, x2, x3, x4, x5, x6, x7, a⟩
theorem st.okR {G : mG} {E : mE} {h : Nat} {S : mST} (a : st G E h S) : okR S := ⟨a.1.2.2.1.2, a.1.2.2.2.1.2, a.1.2.2.2.2.1.2, a.1.2.2.2.2.2.2⟩
theorem rfA.kept {G : mG} {E E1 : mE} {h : Nat} {P : mPl} (a : rfA G E h P) (h1 : E1 (h + 2) = E (h + 2)) (h2 : E1 (h + 3) = E (h + 3)) : rfA G E1 h P := by
  obtain ⟨f, g, a1, a2, a3⟩ := a
  exact ⟨f, g, h1.trans a1, h2.trans a2, a3⟩
theorem rfC.kept {G : mG} {E E1 : mE} {h : Nat} (a : rfC G E h) (fr : ∀ q, h + 5 ≤ q ∧ q ≤ h + 8 → E1 q = E q) : rfC G E1 h := by
  obtain ⟨c1, c2, c3, c4, a1, a2, a3, a4⟩ := a
  exact ⟨c1, c2, c3, c4, (fr _ (by omega)).trans a1, (fr _ (by omega)).trans a2, (fr _ (by omega)).trans a3, (fr _ (by omega)).trans a4⟩
theorem rfK.kept {G : mG} {E E1 : mE} {h : Nat} {K : mPl} (a : rfK G E h K) (h1 : E1 (h + 9) = E (h + 9)) : rfK G E1 h K := by
  obtain ⟨g, a1, a2⟩ := a
  exact ⟨g, h1.trans a1, a2⟩
theorem rfS.kept {G : mG} {E E1 : mE} {h : Nat} {T : mSh} (a : rfS G E h T) (fr : ∀ q, h + 10 ≤ q ∧ q ≤ h + 12 → E1 q = E q) : rfS G E1 h T := by
  obtain ⟨c1, c2, c3, a1, a2, a3, a4⟩ := a
  exact ⟨c1, c2, c3, (fr _ (by omega)).trans a1, (fr _ (by omega)).trans a2, (fr _ (by omega)).trans a3, a4⟩
theorem rfx.w {G : mG} {E E1 : mE} {h : Nat} {S : mST} {R R1 : Nat → Nat} {x2 x3 x4 x5 x6 x7 : Int} (a : rfx G E h S R x2 x3 x4 x5 x6 x7) (hR : rg G E1 h R1) (hp : ∀ r, r < 8 → R1 r = R r) (fr : ∀ q, q ≠ h + 1 → E1 q = E q) : rfx G E1 h S R1 x2 x3 x4 x5 x6 x7 := by
  obtain ⟨a1, a2, a3, a4, a5, a6, a7, a8, a9⟩ := a
  exact ⟨a1.kept (fr _ (by omega)), hR, fun i hi => (hp i hi).trans (a3 i hi), a4.kept (fr _ (by omega)) (fr _ (by omega)), (fr _ (by omega)).trans a5, a6.kept (fun q hq => fr q (by omega)), a7.kept (fr _ (by omega)), a8.kept (fun q hq => fr q (by omega)), a9⟩
theorem rfx.o {G : mG} {E E1 : mE} {h : Nat} {S : mST} {R : Nat → Nat} {x2 x3 x4 x5 x6 x7 y2 y3 y4 y5 y6 y7 : Int} (a : rfx G E h S R x2 x3 x4 x5 x6 x7) (hO : ro G E1 h (S.1.2.2 : Int) y2 y3 y4 y5 y6 y7 S.1.1) (fr : ∀ q, q ≠ h → E1 q = E q) : rfx G E1 h S R y2 y3 y4 y5 y6 y7 := by
  obtain ⟨a1, a2, a3, a4, a5, a6, a7, a8, a9⟩ := a
  exact ⟨hO, a2.kept (fr _ (by omega)), a3, a4.kept (fr _ (by omega)) (fr _ (by omega)), (fr _ (by omega)).trans a5, a6.kept (fun q hq => fr q (by omega)), a7.kept (fr _ (by omega)), a8.kept (fun q hq => fr q (by omega)), a9⟩
theorem rfx.put {G : mG} {E E1 : mE} {h : Nat} {S : mST} {R R1 : Nat → Nat} {x2 x3 x4 x5 x6 x7 : Int} {t w k n : Nat} {fh fc : Nat → Int} (a : rfx G E h S R x2 x3 x4 x5 x6 x7) (ht : t < 8) (hR : rg G E1 h R1) (hRt : R1 t = n) (hRk : ∀ r, r ≠ t → R1 r = R r) (hH : E1 (h + 2) = some (mm_I G 8 fh)) (hH1 : ∀ i, i < 8 → fh i = (upN S.2.1.1 t w i : Nat)) (hC : E1 (h + 3) = some (mm_I G 8 fc)) (hC1 : ∀ i, i < 8 → fc i = (upN S.2.1.2.1 t k i : Nat)) (fr : ∀ q, (q ≠ h + 1 ∧ q ≠ h + 2 ∧ q ≠ h + 3) → E1 q = E q) : rfx G E1 h (sPut S t w k n) R1 x2 x3 x4 x5 x6 x7 := by
  obtain ⟨a1, a2, a3, a4, a5, a6, a7, a8, a9⟩ := a
  refine ⟨a1.kept (fr _ (by omega)), hR, fun i hi => ?_, ⟨fh, fc, hH, hC, fun i hi => ⟨hH1 i hi, hC1 i hi⟩⟩, (fr _ (by omega)).trans a5, a6.kept (fun q hq => fr q (by omega)), a7.kept (fr _ (by omega)), a8.kept (fun q hq => fr q (by omega)), a9⟩
  show R1 i = upN S.2.1.2.2 t n i
  by_cases q : i = t
  · subst q; rw [upN_s, hRt]
  · rw [upN_n _ _ q, hRk i q, a3 i hi]
theorem zupN {f : Nat → Int} {g : Nat → Nat} {t w : Nat} {x : Int} (hx : x = (w : Int)) (h : ∀ i, i < 8 → f i = (g i : Int)) : ∀ i, i < 8 → zup f t x i = ((upN g t w i : Nat) : Int) := fun i hi => by
  by_cases q : i = t
  · subst q; rw [zup_s, upN_s, hx]
  · rw [zup_n _ _ q, upN_n _ _ q, h i hi]
theorem upN_id {f : Nat → Int} {g : Nat → Nat} {t : Nat} (h : ∀ i, i < 8 → f i = (g i : Int)) : ∀ i, i < 8 → f i = ((upN g t (g t) i : Nat) : Int) := fun i hi => by
  rw [h i hi]
  by_cases q : i = t
  · subst q; rw [upN_s]
  · rw [upN_n _ _ q]
theorem fau_m {P : Prop} [Decidable P] {a b : Int} : (if P then a else b) = (if P then a else b) := rfl
theorem c_X10_comeS (l : Launch) (G : mG) (E0 : mE) {h : Nat} {S : mST} {R : Nat → Nat} {x2 x3 x4 x5 x6 x7 : Int} (hF : rfx G E0 h S R x2 x3 x4 x5 x6 x7) {i : Int} {t : Nat} (hi : i = (t : Int)) (ht : t < 8) {j : Int} {a A : Nat} (hj : j = (a : Int)) (ha : a < 16) (hA : R a = A) : mm_Ci l yX10_come (.code yX10_come cX10_come 3 (some .int) :: wsG) rX10_come G [.ref (h), .int (zI (i)), .int (zI (j))] E0 (fun z E => z = lanZ A ∧ (∃ R1, rfx G E h (lanS S t A) R1 x2 x3 x4 x5 x6 x7 ∧ ∀ r, r ≠ t → R1 r = R r) ∧ ∀ q : Nat, (q ≠ h + 1 ∧ q ≠ h + 2) → E q = E0 q) := by
  have hF0 := hF
  obtain ⟨hO, hR, hRp, ⟨fh, fc, hH, hC, hPa⟩, -⟩ := hF
  refine (c_X10_come l G E0 hO hR hH hi ht hj ha hA).mono fun z E1 hq => ?_
  obtain ⟨h1, h2⟩ := hq
  rcases h2 with ⟨h2, h3⟩ | ⟨h2, ⟨R1, h3, h4, h5⟩, h6, h7⟩
  · subst h3
    refine ⟨h1, ⟨R, ?_, fun _ _ => rfl⟩, fun _ _ => rfl⟩
    unfold lanS; rw [if_pos h2]; exact hF0
  · refine ⟨h1, ⟨R1, ?_, h5⟩, h7⟩
    unfold lanS; rw [if_neg (by omega)]
    exact hF0.put ht h3 h4 h5 h6 (zupN rfl (fun i hi => (hPa i hi).1)) ((h7 _ (by omega)).trans hC) (upN_id (fun i hi => (hPa i hi).2)) (fun q hq => h7 q (by omega))
