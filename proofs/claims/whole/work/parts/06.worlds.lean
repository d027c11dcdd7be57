/-! the words of Math, as the kit calls them; a Whole in the memory -/
theorem tms_max : Cond.static Lib.Math.max.name ∈ wsG := wsG_in 346 (by decide +kernel) (by decide +kernel)
theorem tmc_max : Cond.code Lib.Math.max.name Lib.Math.max.code 2 (some .int) ∈ wsG := wsG_in 347 (by decide +kernel) (by decide +kernel)
theorem tml_tw_293 : Cond.methodLink "OrangeHeaps$Whole" 23 Lib.Math.max.name ∈ wsG := wsG_in 345 (by decide +kernel) (by decide +kernel)
theorem tml_tw_783 : Cond.methodLink "java/lang/StringLatin1" 92 Lib.Math.max.name ∈ wsG := wsG_in 835 (by decide +kernel) (by decide +kernel)
theorem tml_tw_791 : Cond.methodLink "java/lang/StringUTF16" 224 Lib.Math.max.name ∈ wsG := wsG_in 843 (by decide +kernel) (by decide +kernel)
theorem tml_tw_909 : Cond.methodLink "OrangeHeaps" 270 Lib.Math.max.name ∈ wsG := wsG_in 961 (by decide +kernel) (by decide +kernel)
theorem tms_min : Cond.static Lib.Math.min.name ∈ wsG := wsG_in 343 (by decide +kernel) (by decide +kernel)
theorem tmc_min : Cond.code Lib.Math.min.name Lib.Math.min.code 2 (some .int) ∈ wsG := wsG_in 344 (by decide +kernel) (by decide +kernel)
theorem tml_tw_290 : Cond.methodLink "OrangeHeaps$Whole" 17 Lib.Math.min.name ∈ wsG := wsG_in 342 (by decide +kernel) (by decide +kernel)
theorem tml_tw_784 : Cond.methodLink "java/lang/StringLatin1" 38 Lib.Math.min.name ∈ wsG := wsG_in 836 (by decide +kernel) (by decide +kernel)
theorem tml_tw_792 : Cond.methodLink "java/lang/StringUTF16" 183 Lib.Math.min.name ∈ wsG := wsG_in 844 (by decide +kernel) (by decide +kernel)
theorem tms_min_long : Cond.static Lib.MathLoose.min_long.x ∈ wsG := wsG_in 494 (by decide +kernel) (by decide +kernel)
theorem tmc_min_long : Cond.code Lib.MathLoose.min_long.x Lib.MathLoose.min_long.code 4 (some .long) ∈ wsG := wsG_in 495 (by decide +kernel) (by decide +kernel)
theorem tml_tw_441 : Cond.methodLink "OrangeHeaps$Reckoner" 78 Lib.MathLoose.min_long.x ∈ wsG := wsG_in 493 (by decide +kernel) (by decide +kernel)
theorem tms_abs : Cond.static Lib.Math.abs.name ∈ wsG := wsG_in 568 (by decide +kernel) (by decide +kernel)
theorem tmc_abs : Cond.code Lib.Math.abs.name Lib.Math.abs.code 1 (some .int) ∈ wsG := wsG_in 569 (by decide +kernel) (by decide +kernel)
theorem tml_tw_515 : Cond.methodLink "OrangeHeaps$Shapes" 69 Lib.Math.abs.name ∈ wsG := wsG_in 567 (by decide +kernel) (by decide +kernel)
theorem tms_abs_long : Cond.static Lib.MathLoose.abs_long.x ∈ wsG := wsG_in 695 (by decide +kernel) (by decide +kernel)
theorem tmc_abs_long : Cond.code Lib.MathLoose.abs_long.x Lib.MathLoose.abs_long.code 2 (some .long) ∈ wsG := wsG_in 696 (by decide +kernel) (by decide +kernel)
theorem tml_tw_642 : Cond.methodLink "OrangeHeaps$Counts" 31 Lib.MathLoose.abs_long.x ∈ wsG := wsG_in 694 (by decide +kernel) (by decide +kernel)
theorem tmi : Cond.initialized "java/lang/Math" ∈ wsG := tw_11
def wR (G : mG) (E : mE) (t n : Nat) (f : Nat → Nat) : Prop := E t = some (.inr (7, [.ref (t + 1), .int (zI (n : Int))])) ∧ E (t + 1) = some (mm_J G 56 (fun j => (f j : Int))) ∧ n ≤ 56 ∧ ∀ j, j < 56 → f j < 1000000000
def isW (G : mG) (E : mE) (t N : Nat) : Prop := ∃ f, wR G E t (nl N) f ∧ ∀ j, j < nl N → f j = dg N j
theorem wR.kept {G : mG} {E E1 : mE} {t n : Nat} {f : Nat → Nat} (h : wR G E t n f) (h1 : E1 t = E t) (h2 : E1 (t + 1) = E (t + 1)) : wR G E1 t n f := ⟨h1.trans h.1, h2.trans h.2.1, h.2.2⟩
theorem isW.kept {G : mG} {E E1 : mE} {t N : Nat} (h : isW G E t N) (h1 : E1 t = E t) (h2 : E1 (t + 1) = E (t + 1)) : isW G E1 t N := by
  obtain ⟨f, h, h3⟩ := h
  exact ⟨f, h.kept h1 h2, h3⟩
theorem isW.obj {G : mG} {E : mE} {t N : Nat} (h : isW G E t N) : E t = some (.inr (7, [.ref (t + 1), .int (zI ((nl N : Nat) : Int))])) := by
  obtain ⟨f, h, h3⟩ := h
  exact h.1
theorem isW.le {G : mG} {E : mE} {t N : Nat} (h : isW G E t N) : nl N ≤ 56 := by
  obtain ⟨f, h, h3⟩ := h
  exact h.2.2.1
theorem isW.lt {G : mG} {E : mE} {t N : Nat} (h : isW G E t N) : N < 1000000000 ^ 56 := (nl_le _ _).mp h.le
theorem isW.of {G : mG} {E : mE} {t n N : Nat} {f : Nat → Nat} (h : wR G E t n f) (hn : n = nl N) (hf : ∀ j, j < n → f j = dg N j) : isW G E t N := by
  subst hn
  exact ⟨f, h, hf⟩
theorem wR.inj {G : mG} {E : mE} {t n m : Nat} {f g : Nat → Nat} (h : wR G E t n f) (h2 : wR G E t m g) : (zI (n : Int)) = zI (m : Int) := by
  have h3 := h.1.symm.trans h2.1
  simp only [Option.some.injEq, Sum.inr.injEq, Prod.mk.injEq, List.cons.injEq, Value.int.injEq] at h3
  exact h3.2.2.1
