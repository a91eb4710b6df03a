/-! ===== tryUnit: one box after another ===== -/
theorem tuR.cP {hi hi' : Hi} {U S u sp wo : Int} {P P' : (Int → Int) → Prop} (r : tuR hi hi' U S u sp wo P) (h : ∀ a, P a ↔ P' a) : tuR hi hi' U S u sp wo P' := by
  have : P = P' := funext fun a => propext (h a)
  rw [← this]
  exact r
theorem tuR.next {hi hj h2 : Hi} {U S u sp wo i : Int} (hu : u < U) (i0 : 0 ≤ i) (iS : i < S) (r : tuR hi hj U S u sp wo (fun a => 0 ≤ a u ∧ a u < i)) (hle : 0 ≤ h2 5 0 10 ∧ h2 5 0 10 ≤ hj 5 0 10) (hB : ∀ a, Fea U S (hi 18 0) u wo a → a u = i → h2 5 0 10 ≤ sp + cstI (tuC hi) a u U)
    (hC : (h2 5 0 10 = hj 5 0 10 ∧ ∀ v, h2 20 0 v = hj 20 0 v) ∨ ∃ a, Fea U S (hi 18 0) u wo a ∧ a u = i ∧ h2 5 0 10 = sp + cstI (tuC hi) a u U ∧ h2 5 0 10 < hj 5 0 10 ∧ (∀ v, 0 ≤ v → v < u → h2 20 0 v = hi 19 0 v) ∧ (∀ v, u ≤ v → v < U → h2 20 0 v = if a v = -1 then -1 else hi 16 0 (a v)) ∧
      ∀ b, Fea U S (hi 18 0) u wo b → b u = i → sp + cstI (tuC hi) b u U = h2 5 0 10 → Lex S a b u U) : tuR hi h2 U S u sp wo (fun a => 0 ≤ a u ∧ a u < i + 1) := by
  refine (r.step (P' := fun a => a u = i) hle hB hC (fun a b ha hb _ _ v v0 v1 hw => ?_)).cP (fun a => by constructor <;> (intro z; omega))
  by_cases q : v = u
  · rw [q, hb]
    unfold keyI
    rw [if_neg (by omega), if_neg (by omega)]
    omega
  · have := hw u (Int.le_refl _) (by omega)
    omega
theorem tuR.taken {hi hj : Hi} {U S u sp wo i : Int} (hu : u < U) (i0 : 0 ≤ i) (iS : i < S) (r : tuR hi hj U S u sp wo (fun a => 0 ≤ a u ∧ a u < i)) (ht : hi 18 0 i ≠ 0) : tuR hi hj U S u sp wo (fun a => 0 ≤ a u ∧ a u < i + 1) := by
  refine r.next hu i0 iS ⟨r.1.1, Int.le_refl _⟩ (fun a ha hai => ?_) (Or.inl ⟨rfl, fun _ => rfl⟩)
  rcases ha.1 u (Int.le_refl _) hu with z | z
  · omega
  · rw [hai] at z
    exact absurd z.2.2 ht
theorem tuR.tried {hi hj : Hi} {U S u sp wo i x : Int} (hu : u < U) (i0 : 0 ≤ i) (iS : i < S) (r : tuR hi hj U S u sp wo (fun a => 0 ≤ a u ∧ a u < i)) (x0 : 0 ≤ x) (x1 : x < i) (hx : hi 18 0 x = 0) (hp : hi 17 0 x = hi 17 0 i) : tuR hi hj U S u sp wo (fun a => 0 ≤ a u ∧ a u < i + 1) := by
  refine r.next hu i0 iS ⟨r.1.1, Int.le_refl _⟩ (fun a ha hai => ?_) (Or.inl ⟨rfl, fun _ => rfl⟩)
  have hT : hi 18 0 i = 0 := by
    rcases ha.1 u (Int.le_refl _) hu with z | z
    · omega
    · rw [hai] at z
      exact z.2.2
  have f := ha.swap i0 iS x0 (by omega) hT hx
  have e : swI2 a i x u = x := swI2_at hai
  have := r.2.1 _ f ⟨by omega, by omega⟩
  rw [cst_swap i0 x0 (fun v _ _ => by unfold tuC; rw [hp])] at this
  exact this
/-- all boxes gone through, then none: that is all plans -/
theorem tuR.last {hi hj h2 : Hi} {U S u sp wo : Int} (hu : u < U) (r : tuR hi hj U S u sp wo (fun a => 0 ≤ a u ∧ a u < S)) (hle : 0 ≤ h2 5 0 10 ∧ h2 5 0 10 ≤ hj 5 0 10) (hB : ∀ a, Fea U S (hi 18 0) u wo a → a u = -1 → h2 5 0 10 ≤ sp + cstI (tuC hi) a u U)
    (hC : (h2 5 0 10 = hj 5 0 10 ∧ ∀ v, h2 20 0 v = hj 20 0 v) ∨ ∃ a, Fea U S (hi 18 0) u wo a ∧ a u = -1 ∧ h2 5 0 10 = sp + cstI (tuC hi) a u U ∧ h2 5 0 10 < hj 5 0 10 ∧ (∀ v, 0 ≤ v → v < u → h2 20 0 v = hi 19 0 v) ∧ (∀ v, u ≤ v → v < U → h2 20 0 v = if a v = -1 then -1 else hi 16 0 (a v)) ∧
      ∀ b, Fea U S (hi 18 0) u wo b → b u = -1 → sp + cstI (tuC hi) b u U = h2 5 0 10 → Lex S a b u U) : tuR hi h2 U S u sp wo (fun _ => True) := by
  have q := r.step (P' := fun a => a u = -1) hle hB hC (fun a b ha hb _ _ v v0 v1 hw => by
    by_cases q : v = u
    · rw [q, hb]
      unfold keyI
      rw [if_neg (by omega), if_pos rfl]
      omega
    · have := hw u (Int.le_refl _) (by omega)
      omega)
  obtain ⟨q1, q2, q3⟩ := q
  have all : ∀ a, Fea U S (hi 18 0) u wo a → (0 ≤ a u ∧ a u < S) ∨ a u = -1 := fun a ha => by
    rcases ha.1 u (Int.le_refl _) hu with z | z
    · exact Or.inr z
    · exact Or.inl ⟨z.1, z.2.1⟩
  refine ⟨⟨q1.1, q1.2⟩, fun a ha _ => q2 a ha (all a ha), ?_⟩
  rcases q3 with z | ⟨a, f1, f2, f3, f4, f5, f6, f7⟩
  · exact Or.inl z
  · exact Or.inr ⟨a, f1, trivial, f3, f4, f5, f6, fun b hb _ he => f7 b hb (all b hb) he⟩
/-- where none may go without any more -/
theorem tuR.done {hi hj : Hi} {U S u sp : Int} (hu : u < U) (r : tuR hi hj U S u sp 0 (fun a => 0 ≤ a u ∧ a u < S)) : tuR hi hj U S u sp 0 (fun _ => True) :=
  r.last hu ⟨r.1.1, Int.le_refl _⟩ (fun a ha hai => absurd hai (ha.all u (Int.le_refl _) hu)) (Or.inl ⟨rfl, fun _ => rfl⟩)
