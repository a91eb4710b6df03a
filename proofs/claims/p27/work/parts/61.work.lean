/-! ===== the plan: work (walk printed by wip/p27/tools/g61.py) ===== -/
theorem K_X5_work {hi : Hi} {nb nk : Int} {U S : Int} (hU : hi 5 0 8 = U) (hS : hi 5 0 9 = S) (hu : 0 ≤ hi 5 0 8 ∧ hi 5 0 8 ≤ 5) (hc : ∀ a b, 0 ≤ a → a < 6 → 0 ≤ b → b < 6 → 0 ≤ hi 9 a b ∧ hi 9 a b ≤ 9999) (ho : 0 ≤ hi 5 0 9 ∧ hi 5 0 9 ≤ 40) (hop : ∀ i, 0 ≤ i → i < hi 5 0 9 → 0 ≤ hi 17 0 i ∧ hi 17 0 i < 6) (hup : ∀ u, 0 ≤ u → u < hi 5 0 8 → 0 ≤ hi 15 0 u ∧ hi 15 0 u < 6) (hT : ∀ i, 0 ≤ i → i < S → hi 18 0 i = 0) : Con I_X5_work [aR 5 0, aR 8 0] (hp hi nb nk) (fun r h => r = none ∧ ∃ hk : Hi, h = hp hk nb nk ∧ (∀ (k : Nat) (i j : Int), k ≠ 19 → k ≠ 20 → k ≠ 21 → ¬ (k = 5 ∧ i = 0 ∧ j = 10) → hk k i j = hi k i j) ∧ ∃ a, Bst U S (tuC hi) (hk 5 0 10) a ∧ ∀ v, 0 ≤ v → v < U → hk 20 0 v = if a v = -1 then -1 else hi 16 0 (a v)) (fun _ _ => False) := by
  refine st_r (xs := [some (aR 5 0), some (aR 8 0)]) pn_X5 rfl rfl (Nat.le_of_ble_eq_true rfl) rfl rfl (fun Q X hQ hX => ?_)
  refine r_aload_n (pc := 0) dX5_work_0 rfl ?_
  refine q_getI (pc := 1) (jI := 8) (n9 := 1) (v := hi 5 0 8) fl_X5_38 rfl dX5_work_1 rfl rfl (by decide) (by decide) rfl ?_
  refine r_aload_n (pc := 4) dX5_work_4 rfl ?_
  refine p_getQ (pc := 5) (jI := 0) (n9 := 1) (r := some (15, 0)) fl_X5_9 rfl dX5_work_5 rfl rfl (by decide) (by decide) rfl ?_
  refine p_alen (pc := 8) (kk := 15) (n9 := 1) (nI := 5) rfl ⟨(by decide), (by decide), (by decide)⟩ (by decide) dX5_work_8 rfl (by decide) (by decide) rfl ?_
  refine r_icmp_le (pc := 9) (tgt := 13) dX5_work_9 rfl (fun c9 => ?_) (fun c9 => by omega)
  refine r_aload_n (pc := 13) dX5_work_13 rfl ?_
  refine r_aload_n (pc := 14) dX5_work_14 rfl ?_
  refine d0_V (pc := 15) (t := 5) (i := 0) (rest := []) (cs' := 0) (sl' := 0) mv_X5_51 (K_X5_findLeastFrom hu hc ho hop hup) rfl ⟨(Nat.le_of_ble_eq_true rfl), (Nat.le_of_ble_eq_true rfl)⟩ (Nat.le_of_ble_eq_true rfl) dX5_work_15 (show (0 : Int) ≤ 0 by omega) (show 0 < 1 by omega) ⟨rfl, (Nat.le_of_ble_eq_true rfl)⟩ ⟨rfl, (Nat.le_of_ble_eq_true rfl)⟩ rfl ?_
  refine r_aload_n (pc := 18) dX5_work_18 rfl ?_
  refine r_ldc (pc := 19) (n := 49996) dX5_work_19 lc_X5_55 rfl (by decide) ?_
  refine p_putI (pc := 21) (jI := 10) (n9 := 1) fl_X5_44 (Or.inl rfl) (Or.inl rfl) dX5_work_21 rfl rfl (by decide) (by decide) ?_
  have hA1 : tuA (up1 (lffH hi 0) 5 0 10 49996) U S := by
    have ecp : cpI (up1 (lffH hi 0) 5 0 10 49996) = cpI hi := by
      funext u
      rfl
    refine ⟨by rw [up1_n (by decide), lffH_r (by decide)]; exact hU, by rw [up1_n (by decide), lffH_r (by decide)]; exact hS, by omega, by omega, fun i i0 i1 => ?_, fun v v0 v1 => ?_, fun a b a0 a1 b0 b1 => ?_, fun j j0 j1 => ?_⟩
    · rw [up1_n (by omega), lffH_r (by decide)]; exact hop i i0 (by omega)
    · rw [up1_n (by omega), lffH_r (by decide)]; exact hup v v0 (by omega)
    · rw [up1_n (by omega), lffH_r (by decide)]; exact hc a b a0 a1 b0 b1
    · rw [ecp, up1_n (by omega), lffH_at (by omega), hU]
  refine r_aload_n (pc := 24) dX5_work_24 rfl ?_
  refine r_aload_n (pc := 25) dX5_work_25 rfl ?_
  refine r_iconst (pc := 26) (n := 0) dX5_work_26 (by decide) ?_
  refine r_iconst (pc := 27) (n := 0) dX5_work_27 (by decide) ?_
  refine r_iconst (pc := 28) (n := 0) dX5_work_28 (by decide) ?_
  refine r_aload_n (pc := 29) dX5_work_29 rfl ?_
  refine q_getI (pc := 30) (jI := 8) (n9 := 1) (v := U) fl_X5_38 rfl dX5_work_30 rfl rfl (by decide) (by decide) (by simp only [up1]; simp; rw [lffH_r (by decide)]; exact hU) ?_
  refine r_aload_n (pc := 33) dX5_work_33 rfl ?_
  refine q_getI (pc := 34) (jI := 9) (n9 := 1) (v := S) fl_X5_41 rfl dX5_work_34 rfl rfl (by decide) (by decide) (by simp only [up1]; simp; rw [lffH_r (by decide)]; exact hS) ?_
  refine r_isub (pc := 37) dX5_work_37 (by omega) ?_
  refine r_max (pc := 38) (x := 0) (y := U - S) mw_X5_56 ⟨(by decide), (Nat.le_of_ble_eq_true rfl)⟩ (by decide) (by decide) dX5_work_38 ?_
  obtain ⟨W, hW⟩ : ∃ W, W = (if 0 < U - S then U - S else 0) := ⟨_, rfl⟩
  rw [← hW]
  have hW2 : W = woI U S := by
    rw [hW]; unfold woI
    (repeat' split) <;> omega
  have hW3 : W = (if U < S then 0 else U - S) := hW2
  have hS1 : tuS (up1 (lffH hi 0) 5 0 10 49996) U S 0 0 W := by
    refine ⟨by omega, by omega, by rw [hW3]; split <;> omega, fun i i0 i1 => Or.inl (by rw [up1_n (by omega), lffH_r (by decide)]; exact hT i i0 i1), ?_, ⟨by rw [up1_s]; omega, by rw [up1_s]; omega, by rw [hW3]; exact Int.le_refl _⟩⟩
    have e : sI ((up1 (lffH hi 0) 5 0 10 49996) 18 0) S = sI (fun _ => 0) S := sI_c (fun i i0 i1 => by rw [up1_n (by omega), lffH_r (by decide)]; exact hT i i0 i1)
    have e2 := sI_r (f := fun _ => 0) (n := S) (a := 0) (b := 0) (fun _ _ _ => ⟨Int.le_refl _, Int.le_refl _⟩) (by omega)
    rw [e, ← hW3]
    omega
  refine r_callS (pc := 41) (rest := []) (cs' := 0) (sl' := 0) (ms_X5_62 _) rfl (K_X5_tryUnit 10 (up1 (lffH hi 0) 5 0 10 49996) 0 0 W hA1 hS1 (by omega)) rfl ⟨(Nat.le_of_ble_eq_true rfl), (Nat.le_of_ble_eq_true rfl)⟩ (Nat.le_of_ble_eq_true rfl) dX5_work_41 ⟨rfl, (Nat.le_of_ble_eq_true rfl)⟩ ⟨rfl, (Nat.le_of_ble_eq_true rfl)⟩ rfl (fun r9 h9 hq9 => ?_) (fun E9 h9 hx9 => hx9.elim)
  obtain ⟨rfl, hk, rfl, hkF, hkR⟩ := hq9
  show Run _ 44 _ [] (hp hk nb nk) _ _ _ _
  refine r_vret (pc := 44) dX5_work_44 rfl (Nat.le_of_ble_eq_true rfl) (Nat.le_of_ble_eq_true rfl) ?_
  have fr : ∀ (k : Nat) (i j : Int), k ≠ 19 → k ≠ 20 → k ≠ 21 → ¬ (k = 5 ∧ i = 0 ∧ j = 10) → hk k i j = hi k i j := fun k i j q1 q2 q3 q4 => by rw [hkF k i j (by omega), up1_n (by omega), lffH_r q3]
  have hC9 : tuC (up1 (lffH hi 0) 5 0 10 49996) = tuC hi := by
    funext i v
    rfl
  have b9 := tuR.bst hA1 rfl (fun i i0 i1 => by rw [up1_n (by omega), lffH_r (by decide)]; exact hT i i0 i1) (by rw [← hW2]; exact hkR)
  rw [hC9] at b9
  obtain ⟨a, b1, b2⟩ := b9
  exact hQ _ _ ⟨rfl, hk, rfl, fr, a, b1, fun v v0 v1 => by rw [b2 v v0 v1, up1_n (by omega), lffH_r (by decide)]⟩
