/-! ===== the start: Inv holds, and the counts are those between calls ===== -/
def hi0 : Hi := bpF 5 500 6 0 3 0 5
theorem Inv_0 : Inv hi0 0 0 := by
  refine ⟨⟨by decide, by decide, by decide, by decide, rfl, rfl, rfl, rfl⟩, ?_, fun a b a0 a1 b0 b1 => ?_, fun a b a0 a1 b0 b1 => ?_, fun c c0 c1 => ?_, fun b b0 b1 => by omega, fun b b0 b1 => by omega, fun b b0 b1 => by omega, fun b b0 b1 => by omega, fun b b0 b1 => by omega, fun k k0 k1 => by omega⟩
  · have e2 : hi0 6 0 8 = 0 := rfl
    have e4 : hi0 6 0 9 = 5 := rfl
    have e6 : hi0 6 0 10 = 500 := rfl
    unfold vDay
    rw [e2, e4, e6]
    decide
  · have e2 : hi0 9 a b = if a = b then 0 else 100 := by
      show bpF 5 500 6 0 3 0 5 9 a b = _
      unfold bpF
      rw [if_neg (c := (9 : Nat) = 6 ∧ a = 0 ∧ b = 9) (by omega), if_neg (c := (9 : Nat) = 6 ∧ a = 0 ∧ b = 10) (by omega), if_pos (c := (9 : Nat) = 9 ∧ _) (by omega)]
    rw [e2]
    by_cases q : a = b
    · rw [if_pos q]; decide
    · rw [if_neg q]; decide
  · have e2 : hi0 11 a b = 2 := by
      show bpF 5 500 6 0 3 0 5 11 a b = _
      unfold bpF
      rw [if_neg (by omega), if_neg (by omega), if_neg (by omega), if_pos (by omega)]
    rw [e2]
    decide
  · have e2 : hi0 12 0 c = 3 := by
      show bpF 5 500 6 0 3 0 5 12 0 c = _
      unfold bpF
      rw [if_neg (by omega), if_neg (by omega), if_neg (by omega), if_neg (by omega), if_pos (by omega)]
    rw [e2]
    decide
theorem CN_k {k : Nat} (h : 61 < k) : CN 0 0 0 k = 1 := by
  unfold CN
  split <;> first | rfl | omega
theorem CN_0 : nS n6 60 = CN 0 0 0 := by
  funext k
  by_cases q : k ≤ 61
  · have : ∀ j : Fin 62, nS n6 60 j = CN 0 0 0 j := by decide +kernel
    exact this ⟨k, by omega⟩
  · rw [CN_k (by omega)]
    have e : ∀ (n : Nat → Int) (j : Nat), j ≤ 60 → nS n j k = n k := fun n j hj => if_neg (by omega)
    have e2 : ∀ (n : Nat → Int) (a b : Nat) (N : Int), a ≤ 60 → b ≤ 60 → nM n a b N k = n k := fun n a b N ha hb => by
      unfold nM
      rw [if_neg (by omega), if_neg (by omega)]
    have ez : nZ k = 1 := by
      unfold nZ
      rw [if_neg (by omega), if_neg (by omega)]
    have e5 : ∀ n : Nat → Int, cN5 n k = n k := fun n => by
      unfold cN5
      repeat (rw [e _ _ (by decide)])
    rw [e _ _ (by decide)]
    unfold n6
    rw [e5]
    repeat (first | rw [e _ _ (by decide)] | rw [e2 _ _ _ _ (by decide) (by decide)])
    exact ez
