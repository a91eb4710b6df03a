/-! ===== tryUnit: what it starts from, what it leaves ===== -/
def tuC (hi : Hi) (i v : Int) : Int := hi 9 (hi 17 0 i) (hi 15 0 v)
/-- the plan's rows are in order: U units, S boxes that are over -/
def tuA (hi : Hi) (U S : Int) : Prop := hi 5 0 8 = U ∧ hi 5 0 9 = S ∧ (0 ≤ U ∧ U ≤ 5) ∧ (0 ≤ S ∧ S ≤ 40) ∧ (∀ i, 0 ≤ i → i < S → 0 ≤ hi 17 0 i ∧ hi 17 0 i < 6) ∧ (∀ v, 0 ≤ v → v < U → 0 ≤ hi 15 0 v ∧ hi 15 0 v < 6) ∧
  (∀ a b, 0 ≤ a → a < 6 → 0 ≤ b → b < 6 → 0 ≤ hi 9 a b ∧ hi 9 a b ≤ 9999) ∧ (∀ j, 0 ≤ j → j ≤ U → hi 21 0 j = hsI (cpI hi) j U)
/-- a state of the search: u units have been tried, wo may still go without -/
def tuS (hi : Hi) (U S u sp wo : Int) : Prop := (0 ≤ u ∧ u ≤ U) ∧ (0 ≤ sp ∧ sp ≤ 9999 * u) ∧ 0 ≤ wo ∧ (∀ i, 0 ≤ i → i < S → hi 18 0 i = 0 ∨ hi 18 0 i = 1) ∧ sI (hi 18 0) S = u + wo - (if U < S then 0 else U - S) ∧ (0 ≤ hi 5 0 10 ∧ hi 5 0 10 ≤ 49996 ∧ wo ≤ (if U < S then 0 else U - S))
/-- what stays of the heap: all but the boxes tried from u on, the best ones, the least cost -/
def tuF (hi hi' : Hi) (u : Int) : Prop := ∀ (k : Nat) (i j : Int), (k = 19 ∧ (i ≠ 0 ∨ j < u)) ∨ (k ≠ 19 ∧ k ≠ 20 ∧ ¬ (k = 5 ∧ i = 0 ∧ j = 10)) → hi' k i j = hi k i j
/-- among the plans for which P holds the best is known: it is as it was, or new -/
def tuR (hi hi' : Hi) (U S u sp wo : Int) (P : (Int → Int) → Prop) : Prop := (0 ≤ hi' 5 0 10 ∧ hi' 5 0 10 ≤ hi 5 0 10) ∧ (∀ a, Fea U S (hi 18 0) u wo a → P a → hi' 5 0 10 ≤ sp + cstI (tuC hi) a u U) ∧
  ((hi' 5 0 10 = hi 5 0 10 ∧ ∀ v, hi' 20 0 v = hi 20 0 v) ∨ ∃ a, Fea U S (hi 18 0) u wo a ∧ P a ∧ hi' 5 0 10 = sp + cstI (tuC hi) a u U ∧ hi' 5 0 10 < hi 5 0 10 ∧ (∀ v, 0 ≤ v → v < u → hi' 20 0 v = hi 19 0 v) ∧ (∀ v, u ≤ v → v < U → hi' 20 0 v = if a v = -1 then -1 else hi 16 0 (a v)) ∧
    ∀ b, Fea U S (hi 18 0) u wo b → P b → sp + cstI (tuC hi) b u U = hi' 5 0 10 → Lex S a b u U)
theorem tuF.refl {hi : Hi} {u : Int} : tuF hi hi u := fun _ _ _ _ => rfl
theorem tuR.same {hi hi' : Hi} {U S u sp wo : Int} {P : (Int → Int) → Prop} (h0 : 0 ≤ hi 5 0 10) (h1 : hi' 5 0 10 = hi 5 0 10) (h2 : ∀ v, hi' 20 0 v = hi 20 0 v) (h3 : ∀ a, Fea U S (hi 18 0) u wo a → P a → hi 5 0 10 ≤ sp + cstI (tuC hi) a u U) : tuR hi hi' U S u sp wo P :=
  ⟨by omega, fun a ha hp => by rw [h1]; exact h3 a ha hp, Or.inl ⟨h1, h2⟩⟩
/-- at the end of the units: the boxes tried are the best -/
theorem tuR.full {hi hi' : Hi} {U S sp wo : Int} {P : (Int → Int) → Prop} {a : Int → Int} (hF : Fea U S (hi 18 0) U wo a) (hP : P a) (h0 : 0 ≤ sp) (h1 : hi' 5 0 10 = sp) (h2 : sp < hi 5 0 10) (h3 : ∀ v, 0 ≤ v → v < U → hi' 20 0 v = hi 19 0 v) : tuR hi hi' U S U sp wo P := by
  refine ⟨by omega, fun b _ _ => by rw [cstI_0]; omega, Or.inr ⟨a, hF, hP, by rw [cstI_0]; omega, by omega, h3, fun v v0 v1 => by omega, fun b _ _ _ v v0 v1 _ => by omega⟩⟩
/-- one box after another: those with P were gone through, now those with P' -/
theorem tuR.step {hi h1 h2 : Hi} {U S u sp wo : Int} {P P' : (Int → Int) → Prop} (r1 : tuR hi h1 U S u sp wo P) (hle : 0 ≤ h2 5 0 10 ∧ h2 5 0 10 ≤ h1 5 0 10)
    (hB : ∀ a, Fea U S (hi 18 0) u wo a → P' a → h2 5 0 10 ≤ sp + cstI (tuC hi) a u U)
    (hC : (h2 5 0 10 = h1 5 0 10 ∧ ∀ v, h2 20 0 v = h1 20 0 v) ∨ ∃ a, Fea U S (hi 18 0) u wo a ∧ P' a ∧ h2 5 0 10 = sp + cstI (tuC hi) a u U ∧ h2 5 0 10 < h1 5 0 10 ∧ (∀ v, 0 ≤ v → v < u → h2 20 0 v = hi 19 0 v) ∧ (∀ v, u ≤ v → v < U → h2 20 0 v = if a v = -1 then -1 else hi 16 0 (a v)) ∧
      ∀ b, Fea U S (hi 18 0) u wo b → P' b → sp + cstI (tuC hi) b u U = h2 5 0 10 → Lex S a b u U)
    (hlex : ∀ a b, P a → P' b → Fea U S (hi 18 0) u wo a → Fea U S (hi 18 0) u wo b → Lex S a b u U) : tuR hi h2 U S u sp wo (fun a => P a ∨ P' a) := by
  obtain ⟨a1, a2, a3⟩ := r1
  refine ⟨by omega, fun a ha hp => ?_, ?_⟩
  · rcases hp with hp | hp
    · have := a2 a ha hp; omega
    · exact hB a ha hp
  · rcases hC with ⟨e1, e2⟩ | ⟨a, f1, f2, f3, f4, f5, f6, f7⟩
    · rcases a3 with ⟨e3, e4⟩ | ⟨a, f1, f2, f3, f4, f5, f6, f7⟩
      · exact Or.inl ⟨by omega, fun v => by rw [e2, e4]⟩
      · refine Or.inr ⟨a, f1, Or.inl f2, by omega, by omega, fun v v0 v1 => by rw [e2, f5 v v0 v1], fun v v0 v1 => by rw [e2, f6 v v0 v1], fun b hb hp he => ?_⟩
        rcases hp with hp | hp
        · exact f7 b hb hp (by omega)
        · exact hlex a b f2 hp f1 hb
    · refine Or.inr ⟨a, f1, Or.inr f2, f3, by omega, f5, f6, fun b hb hp he => ?_⟩
      rcases hp with hp | hp
      · have := a2 b hb hp
        exfalso
        omega
      · exact f7 b hb hp he
