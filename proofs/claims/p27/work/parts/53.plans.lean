/-! ===== plans: for each unit a box that is over, or none ===== -/
/-- a tells for the units from u up to U which box they have (-1: none): untaken ones, each once, wo units without -/
def Fea (U S : Int) (T : Int → Int) (u wo : Int) (a : Int → Int) : Prop :=
  (∀ v, u ≤ v → v < U → a v = -1 ∨ (0 ≤ a v ∧ a v < S ∧ T (a v) = 0)) ∧ (∀ v w, u ≤ v → v < w → w < U → a v ≠ -1 → a v ≠ a w) ∧ hsI (fun v => if a v = -1 then 1 else 0) u U = wo
def cstI (c : Int → Int → Int) (a : Int → Int) (u U : Int) : Int := hsI (fun v => if a v = -1 then 0 else c (a v) v) u U
def keyI (S i : Int) : Int := if i = -1 then S else i
/-- where a and b first differ, a has the lower box; none is last -/
def Lex (S : Int) (a b : Int → Int) (u U : Int) : Prop := ∀ v, u ≤ v → v < U → (∀ w, u ≤ w → w < v → a w = b w) → keyI S (a v) ≤ keyI S (b v)
theorem hsI_c {f g : Int → Int} {u U : Int} (h : ∀ v, u ≤ v → v < U → f v = g v) : hsI f u U = hsI g u U := by
  unfold hsI
  exact sI_c (fun i i0 i1 => h _ (by omega) (by omega))
theorem Fea.c {U S u wo : Int} {T T' a b : Int → Int} (h : Fea U S T u wo a) (hab : ∀ v, u ≤ v → v < U → a v = b v) (hT : ∀ i, 0 ≤ i → i < S → T i = T' i) : Fea U S T' u wo b := by
  obtain ⟨h1, h2, h3⟩ := h
  refine ⟨fun v v0 v1 => ?_, fun v w v0 vw w1 => ?_, ?_⟩
  · rw [← hab v v0 v1]
    rcases h1 v v0 v1 with q | q
    · exact Or.inl q
    · exact Or.inr ⟨q.1, q.2.1, by rw [← hT _ q.1 q.2.1]; exact q.2.2⟩
  · rw [← hab v v0 (by omega), ← hab w (by omega) w1]
    exact h2 v w v0 vw w1
  · rw [← h3]
    exact hsI_c (fun v v0 v1 => by rw [hab v v0 v1])
theorem cstI_c {c c' : Int → Int → Int} {a b : Int → Int} {u U : Int} (hab : ∀ v, u ≤ v → v < U → a v = b v) (hc : ∀ v, u ≤ v → v < U → a v ≠ -1 → c (a v) v = c' (a v) v) : cstI c a u U = cstI c' b u U := by
  unfold cstI
  refine hsI_c (fun v v0 v1 => ?_)
  rw [← hab v v0 v1]
  by_cases q : a v = -1
  · rw [if_pos q, if_pos q]
  · rw [if_neg q, if_neg q, hc v v0 v1 q]
theorem cstI_s {c : Int → Int → Int} {a : Int → Int} {u U : Int} (h : u < U) : cstI c a u U = cstI c a (u + 1) U + (if a u = -1 then 0 else c (a u) u) := hsI_s h
theorem cstI_0 {c : Int → Int → Int} {a : Int → Int} {U : Int} : cstI c a U U = 0 := hsI_0
theorem Fea.none {U S u wo : Int} {T a : Int → Int} (h : Fea U S T u wo a) (hu : u < U) (ha : a u = -1) : Fea U S T (u + 1) (wo - 1) a := by
  obtain ⟨h1, h2, h3⟩ := h
  refine ⟨fun v v0 v1 => h1 v (by omega) v1, fun v w v0 vw w1 => h2 v w (by omega) vw w1, ?_⟩
  rw [hsI_s hu, if_pos ha] at h3
  omega
/-- one place set anew -/
def se1 (a : Int → Int) (u i : Int) : Int → Int := fun v => if v = u then i else a v
theorem se1_s {a : Int → Int} {u i : Int} : se1 a u i u = i := if_pos rfl
theorem se1_n {a : Int → Int} {u i v : Int} (h : v ≠ u) : se1 a u i v = a v := if_neg h
theorem Fea.some {U S u wo : Int} {T a : Int → Int} (h : Fea U S T u wo a) (hu : u < U) (ha : a u ≠ -1) : Fea U S (se1 T (a u) 1) (u + 1) wo a := by
  obtain ⟨h1, h2, h3⟩ := h
  refine ⟨fun v v0 v1 => ?_, fun v w v0 vw w1 => h2 v w (by omega) vw w1, ?_⟩
  · rcases h1 v (by omega) v1 with q | q
    · exact Or.inl q
    · exact Or.inr ⟨q.1, q.2.1, by rw [se1_n (fun z => h2 u v (by omega) (by omega) v1 ha z.symm)]; exact q.2.2⟩
  · rw [hsI_s hu, if_neg ha] at h3
    omega
theorem Fea.consN {U S u wo : Int} {T a : Int → Int} (h : Fea U S T (u + 1) (wo - 1) a) (hu : u < U) : Fea U S T u wo (se1 a u (-1)) := by
  obtain ⟨h1, h2, h3⟩ := h
  refine ⟨fun v v0 v1 => ?_, fun v w v0 vw w1 hv => ?_, ?_⟩
  · by_cases q : v = u
    · left; rw [q, se1_s]
    · rw [se1_n q]; exact h1 v (by omega) v1
  · by_cases q : v = u
    · rw [q, se1_s] at hv; exact absurd rfl hv
    · rw [se1_n q] at hv ⊢
      rw [se1_n (by omega)]
      exact h2 v w (by omega) vw w1 hv
  · rw [hsI_s hu, hsI_c (g := fun v => if a v = -1 then 1 else 0) (fun v v0 v1 => by rw [se1_n (show v ≠ u by omega)]), h3, se1_s, if_pos rfl]
    omega
theorem Fea.consS {U S u wo i : Int} {T a : Int → Int} (h : Fea U S (se1 T i 1) (u + 1) wo a) (hu : u < U) (i0 : 0 ≤ i) (i1 : i < S) (hT : T i = 0) : Fea U S T u wo (se1 a u i) := by
  obtain ⟨h1, h2, h3⟩ := h
  refine ⟨fun v v0 v1 => ?_, fun v w v0 vw w1 hv => ?_, ?_⟩
  · by_cases q : v = u
    · right; rw [q, se1_s]; exact ⟨i0, i1, hT⟩
    · rw [se1_n q]
      rcases h1 v (by omega) v1 with z | z
      · exact Or.inl z
      · refine Or.inr ⟨z.1, z.2.1, ?_⟩
        have z3 := z.2.2
        by_cases y : a v = i
        · rw [y, se1_s] at z3; omega
        · rw [se1_n y] at z3; exact z3
  · rw [se1_n (show w ≠ u by omega)]
    by_cases q : v = u
    · rw [q, se1_s]
      intro z
      rcases h1 w (by omega) w1 with y | y
      · omega
      · have y3 := y.2.2
        rw [← z, se1_s] at y3
        omega
    · rw [se1_n q] at hv ⊢
      exact h2 v w (by omega) vw w1 hv
  · rw [hsI_s hu, hsI_c (g := fun v => if a v = -1 then 1 else 0) (fun v v0 v1 => by rw [se1_n (show v ≠ u by omega)]), h3, se1_s, if_neg (by omega)]
    omega
theorem cst_se1 {c : Int → Int → Int} {a : Int → Int} {u U i : Int} (hu : u < U) : cstI c (se1 a u i) u U = cstI c a (u + 1) U + (if i = -1 then 0 else c i u) := by
  rw [cstI_s hu, se1_s, cstI_c (c' := c) (b := a) (fun v v0 v1 => se1_n (by omega)) (fun _ _ _ _ => rfl)]
theorem Lex.eq {S u U : Int} {a b : Int → Int} (hU : u ≤ U) (ha : ∀ v, u ≤ v → v < U → a v = -1 ∨ (0 ≤ a v ∧ a v < S)) (hb : ∀ v, u ≤ v → v < U → b v = -1 ∨ (0 ≤ b v ∧ b v < S)) (h1 : Lex S a b u U) (h2 : Lex S b a u U) : ∀ v, u ≤ v → v < U → a v = b v := by
  have : ∀ n : Nat, ∀ v, u ≤ v → v < U → v < u + n → a v = b v := by
    intro n
    induction n with
    | zero => intro v v0 v1 v2; omega
    | succ n ih =>
      intro v v0 v1 v2
      have e1 := h1 v v0 v1 (fun w w0 w1 => ih w w0 (by omega) (by omega))
      have e2 := h2 v v0 v1 (fun w w0 w1 => (ih w w0 (by omega) (by omega)).symm)
      have a1 := ha v v0 v1
      have b1 := hb v v0 v1
      unfold keyI at e1 e2
      by_cases q : a v = -1
      · by_cases z : b v = -1
        · rw [q, z]
        · rw [if_pos q, if_neg z] at e1; omega
      · by_cases z : b v = -1
        · rw [if_neg q, if_pos z] at e2; omega
        · rw [if_neg q, if_neg z] at e1 e2; omega
  intro v v0 v1
  exact this (U - u).toNat v v0 v1 (by omega)
