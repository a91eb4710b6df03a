/-! ===== tryUnit: the plan's rows stay in order ===== -/
/-- all but what is taken, tried, best -/
def tuG (hi hi' : Hi) : Prop := ∀ (k : Nat) (i j : Int), k ≠ 18 → k ≠ 19 → k ≠ 20 → ¬ (k = 5 ∧ i = 0 ∧ j = 10) → hi' k i j = hi k i j
theorem tuG.k {hi hi' : Hi} (h : tuG hi hi') {k : Nat} (h1 : k ≠ 18) (h2 : k ≠ 19) (h3 : k ≠ 20) (h4 : k ≠ 5) : hi' k = hi k := by
  funext i j
  exact h k i j h1 h2 h3 (fun z => h4 z.1)
theorem tuG.C {hi hi' : Hi} (h : tuG hi hi') : tuC hi' = tuC hi := by
  funext i v
  unfold tuC
  rw [h.k (k := 9) (by decide) (by decide) (by decide) (by decide), h.k (k := 17) (by decide) (by decide) (by decide) (by decide), h.k (k := 15) (by decide) (by decide) (by decide) (by decide)]
theorem tuG.A {hi hi' : Hi} {U S : Int} (h : tuG hi hi') (hA : tuA hi U S) : tuA hi' U S := by
  have e8 : hi' 5 0 8 = hi 5 0 8 := h 5 0 8 (by decide) (by decide) (by decide) (by decide)
  have e9 : hi' 5 0 9 = hi 5 0 9 := h 5 0 9 (by decide) (by decide) (by decide) (by decide)
  have k9 := h.k (k := 9) (by decide) (by decide) (by decide) (by decide)
  have k17 := h.k (k := 17) (by decide) (by decide) (by decide) (by decide)
  have k15 := h.k (k := 15) (by decide) (by decide) (by decide) (by decide)
  have k21 := h.k (k := 21) (by decide) (by decide) (by decide) (by decide)
  have ecp : cpI hi' = cpI hi := by
    funext u
    unfold cpI
    rw [e8, e9, k9, k17, k15]
  unfold tuA
  rw [e8, e9, k9, k17, k15, k21, ecp]
  exact hA
theorem sI_se1 {T : Int → Int} {i S : Int} (i0 : 0 ≤ i) (i1 : i < S) (hT : T i = 0) : sI (se1 T i 1) S = sI T S + 1 := by
  obtain ⟨m, rfl⟩ := Int.eq_ofNat_of_zero_le (show 0 ≤ S by omega)
  have key : ∀ n : Nat, sI (se1 T i 1) (n : Int) = sI T n + (if i < (n : Int) then 1 else 0) := by
    intro n
    induction n with
    | zero => rw [if_neg (by omega)]; rfl
    | succ n ih =>
      have e : ((n + 1 : Nat) : Int) = (n : Int) + 1 := by omega
      rw [e, sI_s (by omega), sI_s (by omega), ih]
      by_cases q : (n : Int) = i
      · rw [q, se1_s, hT, if_neg (by omega), if_pos (by omega)]
      · rw [se1_n q]
        by_cases z : i < (n : Int)
        · rw [if_pos z, if_pos (by omega)]; omega
        · rw [if_neg z, if_neg (by omega)]; omega
  rw [key m, if_pos i1]
