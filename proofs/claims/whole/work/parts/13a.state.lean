/-! the whole object: its places, its tape, its sheets, its image, what it reckons with -/
abbrev mPl : Type := (Nat → Nat) × (Nat → Nat) × (Nat → Nat)
abbrev mST : Type := (Int × (Nat → Int) × Nat) × mPl × mPl × ((Nat → Nat → Int) × (Nat → Int) × (Nat → Int))
def hO (G : mG) (E : mE) (h : Nat) (im : Int) : Prop := E h = some (.inr (8, [.ref (h + 1), .ref (h + 2), .ref (h + 3), .ref (h + 4), .ref (h + 6), .ref (h + 17), .ref (h + 30), .ref (h + 31), .ref (h + 46), .ref (h + 48), .int (zI im)]))
def hA_ (G : mG) (E : mE) (h : Nat) : Prop := ∃ f1 f2 f3 : Nat → Option Nat, E (h + 1) = some (mm_Q G 2 8 f1) ∧ E (h + 2) = some (mm_Q G 2 8 f2) ∧ E (h + 3) = some (mm_Q G 3 4 f3) ∧ (∀ i, i < 8 → f1 i = some (h + 50 + 6 * i)) ∧ (∀ i, i < 8 → f2 i = some (h + 53 + 6 * i)) ∧ (∀ i, i < 4 → f3 i = some (h + 98 + 2 * i))
def plS (G : mG) (E : mE) (b : Nat) (P : mPl) : Prop := ∀ i, i < 8 → pl G E (b + 6 * i) (P.1 i : Int) (P.2.1 i : Int) ∧ isW G E (b + 6 * i + 1) (P.2.2 i)
def okP (P : mPl) : Prop := ∀ i, i < 8 → P.1 i ≤ 6 ∧ P.2.1 i ≤ 99 ∧ (5 ≤ P.1 i → 3 ≤ P.2.1 i) ∧ nl (P.2.2 i) ≤ 24
def shS (G : mG) (E : mE) (h : Nat) (S : (Nat → Nat → Int) × (Nat → Int) × (Nat → Int)) : Prop := ∀ i, i < 4 → ∃ g : Nat → Int, sh_ G E (h + 98 + 2 * i) g (S.2.1 i) (S.2.2 i) ∧ ∀ j, j < 24 → g j = S.1 i j
def okS (S : (Nat → Nat → Int) × (Nat → Int) × (Nat → Int)) : Prop := ∀ i, i < 4 → (0 ≤ S.2.1 i ∧ S.2.1 i ≤ 2) ∧ (-1 ≤ S.2.2 i ∧ S.2.2 i ≤ 24) ∧ ∀ j, j < 24 → rL (S.1 i j)
def tpS (G : mG) (E : mE) (h : Nat) (B : Nat → Int) (L : Nat) : Prop := ∃ (a : Nat) (v kd k n rd : Int), tp G E (h + 4) B L a v kd k n rd ∧ 0 ≤ k ∧ k ≤ 99
def scA (G : mG) (E : mE) (h : Nat) : Prop := rk G E (h + 6) ∧ isV G E (h + 6 + 1) ∧ isV G E (h + 6 + 3) ∧ isV G E (h + 6 + 5) ∧ isV G E (h + 6 + 7) ∧ isV G E (h + 6 + 9)
def scB (G : mG) (E : mE) (h : Nat) : Prop := sk G E (h + 17) (h + 6) ∧ isV G E (h + 17 + 1) ∧ isV G E (h + 17 + 3) ∧ isV G E (h + 17 + 5) ∧ isV G E (h + 17 + 7) ∧ isV G E (h + 17 + 9) ∧ isV G E (h + 17 + 11)
def scC (G : mG) (E : mE) (h : Nat) : Prop := ∃ d f m D a : Int, pt G E (h + 30) d f m D a
def scD (G : mG) (E : mE) (h : Nat) : Prop := fx G E (h + 31) (h + 30) ∧ isV G E (h + 31 + 1) ∧ isV G E (h + 31 + 3) ∧ isV G E (h + 31 + 5) ∧ isV G E (h + 31 + 7) ∧ isV G E (h + 31 + 9) ∧ isV G E (h + 31 + 11) ∧ isV G E (h + 31 + 13)
def scR (G : mG) (E : mE) (h : Nat) : Prop := isV G E (h + 46) ∧ isV G E (h + 48)
def scr (G : mG) (E : mE) (h : Nat) : Prop := scA G E h ∧ scB G E h ∧ scC G E h ∧ scD G E h ∧ scR G E h
def stO (G : mG) (E : mE) (h : Nat) (S : mST) : Prop := hO G E h S.1.1 ∧ hA_ G E h ∧ (tpS G E h S.1.2.1 S.1.2.2 ∧ okT S.1.2.1 S.1.2.2) ∧ (plS G E (h + 50) S.2.1 ∧ okP S.2.1) ∧ (plS G E (h + 53) S.2.2.1 ∧ okP S.2.2.1) ∧ (shS G E h S.2.2.2 ∧ okS S.2.2.2)
def st (G : mG) (E : mE) (h : Nat) (S : mST) : Prop := stO G E h S ∧ scr G E h
theorem hO.kept {G : mG} {E E1 : mE} {h : Nat} {im : Int} (a : hO G E h im) (h1 : E1 h = E h) : hO G E1 h im := h1.trans a
theorem hA_.kept {G : mG} {E E1 : mE} {h : Nat} (a : hA_ G E h) (h1 : E1 (h + 1) = E (h + 1)) (h2 : E1 (h + 2) = E (h + 2)) (h3 : E1 (h + 3) = E (h + 3)) : hA_ G E1 h := by
  obtain ⟨f1, f2, f3, a1, a2, a3, a4⟩ := a
  exact ⟨f1, f2, f3, h1.trans a1, h2.trans a2, h3.trans a3, a4⟩
theorem plS.kept {G : mG} {E E1 : mE} {b : Nat} {P : mPl} (a : plS G E b P) (fr : ∀ q, (∃ i, i < 8 ∧ b + 6 * i ≤ q ∧ q < b + 6 * i + 3) → E1 q = E q) : plS G E1 b P := fun i hi => ⟨(a i hi).1.kept (fr _ ⟨i, hi, by omega⟩), (a i hi).2.kept (fr _ ⟨i, hi, by omega⟩) (fr _ ⟨i, hi, by omega⟩)⟩
theorem shS.kept {G : mG} {E E1 : mE} {h : Nat} {S : (Nat → Nat → Int) × (Nat → Int) × (Nat → Int)} (a : shS G E h S) (fr : ∀ q, (h + 98 ≤ q ∧ q < h + 106) → E1 q = E q) : shS G E1 h S := fun i hi => by
  obtain ⟨g, h1, h2⟩ := a i hi
  exact ⟨g, h1.kept (fr _ (by omega)) (fr _ (by omega)), h2⟩
theorem tpS.kept {G : mG} {E E1 : mE} {h : Nat} {B : Nat → Int} {L : Nat} (a : tpS G E h B L) (h1 : E1 (h + 4) = E (h + 4)) (h2 : E1 (h + 5) = E (h + 5)) : tpS G E1 h B L := by
  obtain ⟨a9, v, kd, k, n, rd, x, y⟩ := a
  exact ⟨a9, v, kd, k, n, rd, x.kept h1 h2, y⟩
/-- what it reckons with is anything: all else stays -/
theorem stO.kept {G : mG} {E E1 : mE} {h : Nat} {S : mST} (a : stO G E h S) (fr : ∀ q, (h ≤ q ∧ q < h + 6 ∨ h + 50 ≤ q ∧ q < h + 106) → E1 q = E q) : stO G E1 h S := by
  obtain ⟨a1, a2, ⟨a3, b3⟩, ⟨a4, b4⟩, ⟨a5, b5⟩, ⟨a6, b6⟩⟩ := a
  exact ⟨a1.kept (fr _ (by omega)), a2.kept (fr _ (by omega)) (fr _ (by omega)) (fr _ (by omega)), ⟨a3.kept (fr _ (by omega)) (fr _ (by omega)), b3⟩, ⟨a4.kept (fun q hq => fr _ (by obtain ⟨i, h1, h2, h3⟩ := hq; omega)), b4⟩, ⟨a5.kept (fun q hq => fr _ (by obtain ⟨i, h1, h2, h3⟩ := hq; omega)), b5⟩, ⟨a6.kept (fun q hq => fr _ (by omega)), b6⟩⟩
theorem scA.kept {G : mG} {E E1 : mE} {h : Nat} (a : scA G E h) (fr : ∀ q, (h + 6 ≤ q ∧ q < h + 17) → E1 q = E q) : scA G E1 h := by
  obtain ⟨a0, a1, a2, a3, a4, a5⟩ := a
  exact ⟨a0.kept (fr _ (by omega)), a1.kept (fr _ (by omega)) (fr _ (by omega)), a2.kept (fr _ (by omega)) (fr _ (by omega)), a3.kept (fr _ (by omega)) (fr _ (by omega)), a4.kept (fr _ (by omega)) (fr _ (by omega)), a5.kept (fr _ (by omega)) (fr _ (by omega))⟩
theorem scB.kept {G : mG} {E E1 : mE} {h : Nat} (a : scB G E h) (fr : ∀ q, (h + 17 ≤ q ∧ q < h + 30) → E1 q = E q) : scB G E1 h := by
  obtain ⟨a0, a1, a2, a3, a4, a5, a6⟩ := a
  exact ⟨a0.kept (fr _ (by omega)), a1.kept (fr _ (by omega)) (fr _ (by omega)), a2.kept (fr _ (by omega)) (fr _ (by omega)), a3.kept (fr _ (by omega)) (fr _ (by omega)), a4.kept (fr _ (by omega)) (fr _ (by omega)), a5.kept (fr _ (by omega)) (fr _ (by omega)), a6.kept (fr _ (by omega)) (fr _ (by omega))⟩
theorem scC.kept {G : mG} {E E1 : mE} {h : Nat} (a : scC G E h) (h1 : E1 (h + 30) = E (h + 30)) : scC G E1 h := by
  obtain ⟨d, f, m, D, x, y⟩ := a
  exact ⟨d, f, m, D, x, y.kept h1⟩
theorem scD.kept {G : mG} {E E1 : mE} {h : Nat} (a : scD G E h) (fr : ∀ q, (h + 31 ≤ q ∧ q < h + 46) → E1 q = E q) : scD G E1 h := by
  obtain ⟨a0, a1, a2, a3, a4, a5, a6, a7⟩ := a
  exact ⟨a0.kept (fr _ (by omega)), a1.kept (fr _ (by omega)) (fr _ (by omega)), a2.kept (fr _ (by omega)) (fr _ (by omega)), a3.kept (fr _ (by omega)) (fr _ (by omega)), a4.kept (fr _ (by omega)) (fr _ (by omega)), a5.kept (fr _ (by omega)) (fr _ (by omega)), a6.kept (fr _ (by omega)) (fr _ (by omega)), a7.kept (fr _ (by omega)) (fr _ (by omega))⟩
theorem scR.kept {G : mG} {E E1 : mE} {h : Nat} (a : scR G E h) (fr : ∀ q, (h + 46 ≤ q ∧ q < h + 50) → E1 q = E q) : scR G E1 h := ⟨a.1.kept (fr _ (by omega)) (fr _ (by omega)), a.2.kept (fr _ (by omega)) (fr _ (by omega))⟩
theorem scr.kept {G : mG} {E E1 : mE} {h : Nat} (a : scr G E h) (fr : ∀ q, (h + 6 ≤ q ∧ q < h + 50) → E1 q = E q) : scr G E1 h := ⟨a.1.kept (fun q h => fr q (by omega)), a.2.1.kept (fun q h => fr q (by omega)), a.2.2.1.kept (fr _ (by omega)), a.2.2.2.1.kept (fun q h => fr q (by omega)), a.2.2.2.2.kept (fun q h => fr q (by omega))⟩
theorem st.kept {G : mG} {E E1 : mE} {h : Nat} {S : mST} (a : st G E h S) (fr : ∀ q, (h ≤ q ∧ q < h + 106) → E1 q = E q) : st G E1 h S := ⟨a.1.kept (fun q h => fr q (by omega)), a.2.kept (fun q h => fr q (by omega))⟩
def upN (f : Nat → Nat) (i x : Nat) : Nat → Nat := fun j => if j = i then x else f j
theorem upN_s (f : Nat → Nat) (i x : Nat) : upN f i x i = x := if_pos rfl
theorem upN_n (f : Nat → Nat) {i j : Nat} (x : Nat) (h : j ≠ i) : upN f i x j = f j := if_neg h
/-- a place that holds another thing -/
def pPut (P : mPl) (i w k n : Nat) : mPl := (upN P.1 i w, upN P.2.1 i k, upN P.2.2 i n)
def sPut (S : mST) (i w k n : Nat) : mST := (S.1, pPut S.2.1 i w k n, S.2.2)
def okC (w k n : Nat) : Prop := w ≤ 6 ∧ k ≤ 99 ∧ (5 ≤ w → 3 ≤ k) ∧ nl n ≤ 24
theorem okP.put {P : mPl} {i w k n : Nat} (h : okP P) (hc : okC w k n) : okP (pPut P i w k n) := fun j hj => by
  unfold pPut
  by_cases q : j = i
  · subst q; simp only [upN_s]; exact hc
  · simp only [upN_n _ _ q]; exact h j hj
theorem plS.put {G : mG} {E E1 : mE} {b i w k n : Nat} {P : mPl} (a : plS G E b P) (hi : i < 8) (h1 : pl G E1 (b + 6 * i) (w : Int) (k : Int)) (h2 : isW G E1 (b + 6 * i + 1) n) (fr : ∀ q, (∃ j, j < 8 ∧ j ≠ i ∧ b + 6 * j ≤ q ∧ q < b + 6 * j + 3) → E1 q = E q) : plS G E1 b (pPut P i w k n) := fun j hj => by
  unfold pPut
  by_cases q : j = i
  · subst q; simp only [upN_s]; exact ⟨h1, h2⟩
  · simp only [upN_n _ _ q]
    exact ⟨(a j hj).1.kept (fr _ ⟨j, hj, q, by omega⟩), (a j hj).2.kept (fr _ ⟨j, hj, q, by omega⟩) (fr _ ⟨j, hj, q, by omega⟩)⟩
theorem st.put {G : mG} {E E1 : mE} {h i w k n : Nat} {S : mST} (a : st G E h S) (hi : i < 8) (h1 : pl G E1 (h + 50 + 6 * i) (w : Int) (k : Int)) (h2 : isW G E1 (h + 50 + 6 * i + 1) n) (hc : okC w k n) (fr : ∀ q, (q < h + 50 + 6 * i ∨ h + 50 + 6 * i + 3 ≤ q) → E1 q = E q) : st G E1 h (sPut S i w k n) := by
  obtain ⟨⟨a1, a2, ⟨a3, b3⟩, ⟨a4, b4⟩, ⟨a5, b5⟩, ⟨a6, b6⟩⟩, a7⟩ := a
  exact ⟨⟨a1.kept (fr _ (by omega)), a2.kept (fr _ (by omega)) (fr _ (by omega)) (fr _ (by omega)), ⟨a3.kept (fr _ (by omega)) (fr _ (by omega)), b3⟩, ⟨a4.put hi h1 h2 (fun q hq => fr _ (by obtain ⟨j, g1, g2, g3, g4⟩ := hq; omega)), b4.put hc⟩, ⟨a5.kept (fun q hq => fr _ (by obtain ⟨j, g2, g3, g4⟩ := hq; omega)), b5⟩, ⟨a6.kept (fun q hq => fr _ (by omega)), b6⟩⟩, a7.kept (fun q hq => fr _ (by omega))⟩
def nFau (w : Nat) : Int := if w = 0 then -11 else if w = 1 then 0 else -12
def sFau (w : Nat) : Int := if w = 0 then -11 else if w = 1 then -12 else 0
def fau2 (a b : Int) : Int := if a = 0 then b else a
def lanZ (n : Nat) : Int := if 24 < nl n then -3 else (fgs n : Int)
noncomputable def lanS (S : mST) (i n : Nat) : mST := if 24 < nl n then S else sPut S i 1 (S.2.1.2.1 i) n
