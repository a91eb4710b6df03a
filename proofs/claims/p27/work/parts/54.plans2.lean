/-! ===== plans: what they cost at the least; boxes at one port stand for one another ===== -/
theorem hsI_le {f g : Int → Int} {u U : Int} (h : u ≤ U) (hf : ∀ v, u ≤ v → v < U → f v ≤ g v) : hsI f u U ≤ hsI g u U := by
  obtain ⟨n, hn⟩ := Int.eq_ofNat_of_zero_le (show 0 ≤ U - u by omega)
  induction n generalizing u with
  | zero => rw [show u = U by omega, hsI_0, hsI_0]; exact Int.le_refl _
  | succ n ih =>
    rw [hsI_s (show u < U by omega), hsI_s (show u < U by omega)]
    have := ih (u := u + 1) (by omega) (fun v v0 v1 => hf v (by omega) v1) (by omega)
    have := hf u (by omega) (by omega)
    omega
theorem hsI_at {f : Int → Int} {u U v : Int} (hf : ∀ v, u ≤ v → v < U → 0 ≤ f v) (v0 : u ≤ v) (v1 : v < U) : f v ≤ hsI f u U := by
  obtain ⟨n, hn⟩ := Int.eq_ofNat_of_zero_le (show 0 ≤ U - u by omega)
  induction n generalizing u with
  | zero => omega
  | succ n ih =>
    rw [hsI_s (show u < U by omega)]
    have a := hsI_r (f := f) (u := u + 1) (U := U) (a := 0) (b := 0)
    by_cases q : v = u
    · have h0 : 0 ≤ hsI f (u + 1) U := by
        have := hsI_le (f := fun _ => 0) (g := f) (u := u + 1) (U := U) (by omega) (fun w w0 w1 => hf w (by omega) w1)
        have e := hsI_r (f := fun _ => 0) (u := u + 1) (U := U) (a := 0) (b := 0) (by omega) (fun _ _ _ => ⟨Int.le_refl _, Int.le_refl _⟩)
        omega
      rw [q]
      omega
    · have := ih (u := u + 1) (fun w w0 w1 => hf w (by omega) w1) (by omega) (by omega)
      have := hf u (by omega) (by omega)
      omega
theorem Fea.all {U S u : Int} {T a : Int → Int} (h : Fea U S T u 0 a) : ∀ v, u ≤ v → v < U → a v ≠ -1 := by
  intro v v0 v1 z
  have := hsI_at (f := fun v => if a v = -1 then 1 else 0) (u := u) (U := U) (v := v) (fun w _ _ => by by_cases q : a w = -1 <;> simp [q]) v0 v1
  rw [h.2.2] at this
  simp only [z, if_true] at this
  omega
theorem cst_low {U S u wo : Int} {T a : Int → Int} {c : Int → Int → Int} {cp : Int → Int} (h : Fea U S T u wo a) (hU : u ≤ U) (hc : ∀ i v, 0 ≤ i → i < S → u ≤ v → v < U → cp v ≤ c i v) (hz : wo = 0 ∨ ∀ v, u ≤ v → v < U → cp v ≤ 0) : hsI cp u U ≤ cstI c a u U := by
  unfold cstI
  refine hsI_le hU (fun v v0 v1 => ?_)
  by_cases q : a v = -1
  · rw [if_pos q]
    rcases hz with z | z
    · subst z
      exact absurd q (h.all v v0 v1)
    · exact z v v0 v1
  · rw [if_neg q]
    rcases h.1 v v0 v1 with z | z
    · exact absurd z q
    · exact hc _ v z.1 z.2.1 v0 v1
/-- i and j changed for one another -/
def swI2 (a : Int → Int) (i j : Int) : Int → Int := fun v => if a v = i then j else if a v = j then i else a v
theorem Fea.swap {U S u wo i j : Int} {T a : Int → Int} (h : Fea U S T u wo a) (i0 : 0 ≤ i) (i1 : i < S) (j0 : 0 ≤ j) (j1 : j < S) (hi : T i = 0) (hj : T j = 0) : Fea U S T u wo (swI2 a i j) := by
  obtain ⟨h1, h2, h3⟩ := h
  have ne : ∀ v, swI2 a i j v = -1 ↔ a v = -1 := fun v => by
    unfold swI2
    split
    · omega
    · split <;> omega
  refine ⟨fun v v0 v1 => ?_, fun v w v0 vw w1 hv => ?_, ?_⟩
  · by_cases q : a v = -1
    · exact Or.inl ((ne v).mpr q)
    · right
      rcases h1 v v0 v1 with z | z
      · exact absurd z q
      · unfold swI2
        by_cases q1 : a v = i
        · rw [if_pos q1]; exact ⟨j0, j1, hj⟩
        · rw [if_neg q1]
          by_cases q2 : a v = j
          · rw [if_pos q2]; exact ⟨i0, i1, hi⟩
          · rw [if_neg q2]; exact z
  · have hv2 : a v ≠ -1 := fun z => hv ((ne v).mpr z)
    have := h2 v w v0 vw w1 hv2
    unfold swI2
    (repeat' split) <;> omega
  · rw [← h3]
    refine hsI_c (fun v v0 v1 => ?_)
    by_cases q : a v = -1
    · rw [if_pos q, if_pos ((ne v).mpr q)]
    · rw [if_neg q, if_neg (fun z => q ((ne v).mp z))]
theorem cst_swap {U u i j : Int} {a : Int → Int} {c : Int → Int → Int} (i0 : 0 ≤ i) (j0 : 0 ≤ j) (hc : ∀ v, u ≤ v → v < U → c i v = c j v) : cstI c (swI2 a i j) u U = cstI c a u U := by
  unfold cstI
  refine hsI_c (fun v v0 v1 => ?_)
  have e := hc v v0 v1
  unfold swI2
  by_cases q1 : a v = i
  · rw [if_pos q1, if_neg (by omega), if_neg (by omega), q1, e]
  · rw [if_neg q1]
    by_cases q2 : a v = j
    · rw [if_pos q2, if_neg (by omega), if_neg (by omega), q2, e]
    · rw [if_neg q2]
theorem swI2_at {a : Int → Int} {i j u : Int} (h : a u = i) : swI2 a i j u = j := if_pos h
