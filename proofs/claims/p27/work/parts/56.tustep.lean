/-! ===== tryUnit: what a call for the next unit tells of this one ===== -/
theorem tuR.child {hi h1 h2 : Hi} {U S u sp wo i : Int} (hu : u < U) (i0 : 0 ≤ i) (i1 : i < S) (hT : hi 18 0 i = 0) (e18 : ∀ j, 0 ≤ j → j < S → h1 18 0 j = se1 (hi 18 0) i 1 j) (eC : ∀ x v, 0 ≤ x → x < S → u ≤ v → v < U → tuC h1 x v = tuC hi x v) (e19 : ∀ v, 0 ≤ v → v < u → h1 19 0 v = hi 19 0 v) (e19u : h1 19 0 u = hi 16 0 i) (e16 : h1 16 = hi 16) (u0 : 0 ≤ u)
    (r : tuR h1 h2 U S (u + 1) (sp + tuC hi i u) wo (fun _ => True)) :
    (∀ a, Fea U S (hi 18 0) u wo a → a u = i → h2 5 0 10 ≤ sp + cstI (tuC hi) a u U) ∧
    ((h2 5 0 10 = h1 5 0 10 ∧ ∀ v, h2 20 0 v = h1 20 0 v) ∨ ∃ a, Fea U S (hi 18 0) u wo a ∧ a u = i ∧ h2 5 0 10 = sp + cstI (tuC hi) a u U ∧ h2 5 0 10 < h1 5 0 10 ∧ (∀ v, 0 ≤ v → v < u → h2 20 0 v = hi 19 0 v) ∧ (∀ v, u ≤ v → v < U → h2 20 0 v = if a v = -1 then -1 else hi 16 0 (a v)) ∧
      ∀ b, Fea U S (hi 18 0) u wo b → b u = i → sp + cstI (tuC hi) b u U = h2 5 0 10 → Lex S a b u U) := by
  have down : ∀ a, Fea U S (hi 18 0) u wo a → a u = i → Fea U S (h1 18 0) (u + 1) wo a ∧ cstI (tuC h1) a (u + 1) U + tuC hi i u = cstI (tuC hi) a u U := fun a ha hai => by
    have f := ha.some hu (by omega)
    rw [hai] at f
    refine ⟨f.c (fun _ _ _ => rfl) (fun j j0 j1 => (e18 j j0 j1).symm), ?_⟩
    rw [cstI_s hu, if_neg (by omega), hai]
    congr 1
    refine cstI_c (fun _ _ _ => rfl) (fun v v0 v1 hv => ?_)
    rcases ha.1 v (by omega) v1 with z | z
    · exact absurd z hv
    · exact eC _ v z.1 z.2.1 (by omega) v1
  obtain ⟨r1, r2, r3⟩ := r
  refine ⟨fun a ha hai => ?_, ?_⟩
  · obtain ⟨f, g⟩ := down a ha hai
    have := r2 a f trivial
    omega
  · rcases r3 with z | ⟨a, f1, -, f3, f4, f5, f6, f7⟩
    · exact Or.inl z
    · right
      have fc : Fea U S (hi 18 0) u wo (se1 a u i) := Fea.consS (f1.c (fun _ _ _ => rfl) e18) hu i0 i1 hT
      obtain ⟨g1, g2⟩ := down _ fc se1_s
      have ec : cstI (tuC h1) (se1 a u i) (u + 1) U = cstI (tuC h1) a (u + 1) U := cstI_c (fun v v0 v1 => se1_n (by omega)) (fun _ _ _ _ => rfl)
      refine ⟨se1 a u i, fc, se1_s, by omega, f4, fun v v0 v1 => by rw [f5 v v0 (by omega), e19 v v0 v1], fun v v0 v1 => ?_, fun b hb hbi he => ?_⟩
      · by_cases q : v = u
        · rw [q, se1_s, if_neg (by omega), f5 u u0 (by omega), e19u]
        · rw [se1_n q, f6 v (by omega) v1, e16]
      · obtain ⟨k1, k2⟩ := down b hb hbi
        have lx := f7 b k1 trivial (by omega)
        intro v v0 v1 hw
        by_cases q : v = u
        · rw [q, se1_s, hbi]; exact Int.le_refl _
        · rw [se1_n q]
          exact lx v (by omega) v1 (fun w w0 w1 => by have := hw w (by omega) w1; rw [se1_n (by omega)] at this; exact this)
theorem tuR.childN {hi h1 h2 : Hi} {U S u sp wo : Int} (hu : u < U) (e18 : ∀ j, 0 ≤ j → j < S → h1 18 0 j = hi 18 0 j) (eC : ∀ x v, 0 ≤ x → x < S → u ≤ v → v < U → tuC h1 x v = tuC hi x v) (e19 : ∀ v, 0 ≤ v → v < u → h1 19 0 v = hi 19 0 v) (e19u : h1 19 0 u = -1) (e16 : h1 16 = hi 16) (u0 : 0 ≤ u)
    (r : tuR h1 h2 U S (u + 1) sp (wo - 1) (fun _ => True)) :
    (∀ a, Fea U S (hi 18 0) u wo a → a u = -1 → h2 5 0 10 ≤ sp + cstI (tuC hi) a u U) ∧
    ((h2 5 0 10 = h1 5 0 10 ∧ ∀ v, h2 20 0 v = h1 20 0 v) ∨ ∃ a, Fea U S (hi 18 0) u wo a ∧ a u = -1 ∧ h2 5 0 10 = sp + cstI (tuC hi) a u U ∧ h2 5 0 10 < h1 5 0 10 ∧ (∀ v, 0 ≤ v → v < u → h2 20 0 v = hi 19 0 v) ∧ (∀ v, u ≤ v → v < U → h2 20 0 v = if a v = -1 then -1 else hi 16 0 (a v)) ∧
      ∀ b, Fea U S (hi 18 0) u wo b → b u = -1 → sp + cstI (tuC hi) b u U = h2 5 0 10 → Lex S a b u U) := by
  have down : ∀ a, Fea U S (hi 18 0) u wo a → a u = -1 → Fea U S (h1 18 0) (u + 1) (wo - 1) a ∧ cstI (tuC h1) a (u + 1) U = cstI (tuC hi) a u U := fun a ha hai => by
    have f := ha.none hu hai
    refine ⟨f.c (fun _ _ _ => rfl) (fun j j0 j1 => (e18 j j0 j1).symm), ?_⟩
    rw [cstI_s hu, if_pos hai, Int.add_zero]
    refine cstI_c (fun _ _ _ => rfl) (fun v v0 v1 hv => ?_)
    rcases ha.1 v (by omega) v1 with z | z
    · exact absurd z hv
    · exact eC _ v z.1 z.2.1 (by omega) v1
  obtain ⟨r1, r2, r3⟩ := r
  refine ⟨fun a ha hai => ?_, ?_⟩
  · obtain ⟨f, g⟩ := down a ha hai
    have := r2 a f trivial
    omega
  · rcases r3 with z | ⟨a, f1, -, f3, f4, f5, f6, f7⟩
    · exact Or.inl z
    · right
      have fc : Fea U S (hi 18 0) u wo (se1 a u (-1)) := Fea.consN (f1.c (fun _ _ _ => rfl) e18) hu
      obtain ⟨g1, g2⟩ := down _ fc se1_s
      have ec : cstI (tuC h1) (se1 a u (-1)) (u + 1) U = cstI (tuC h1) a (u + 1) U := cstI_c (fun v v0 v1 => se1_n (by omega)) (fun _ _ _ _ => rfl)
      refine ⟨se1 a u (-1), fc, se1_s, by omega, f4, fun v v0 v1 => by rw [f5 v v0 (by omega), e19 v v0 v1], fun v v0 v1 => ?_, fun b hb hbi he => ?_⟩
      · by_cases q : v = u
        · rw [q, se1_s, if_pos rfl, f5 u u0 (by omega), e19u]
        · rw [se1_n q, f6 v (by omega) v1, e16]
      · obtain ⟨k1, k2⟩ := down b hb hbi
        have lx := f7 b k1 trivial (by omega)
        intro v v0 v1 hw
        by_cases q : v = u
        · rw [q, se1_s, hbi]; exact Int.le_refl _
        · rw [se1_n q]
          exact lx v (by omega) v1 (fun w w0 w1 => by have := hw w (by omega) w1; rw [se1_n (by omega)] at this; exact this)
