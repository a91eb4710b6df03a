/-! ===== tryUnit (walk printed by wip/p27/tools/g58.py) ===== -/
theorem K_X5_tryUnit {nb nk U S : Int} : ∀ (d : Nat) (hi : Hi) (u sp wo : Int), tuA hi U S → tuS hi U S u sp wo → U - u < (d : Int) → Con (I_X5_tryUnit d) [aR 5 0, aR 8 0, aI u, aI sp, aI wo] (hp hi nb nk) (fun r h => r = none ∧ ∃ hk : Hi, h = hp hk nb nk ∧ tuF hi hk u ∧ tuR hi hk U S u sp wo (fun _ => True)) (fun _ _ => False) := by
  intro d
  induction d with
  | zero => intro hi u sp wo hA hS hd; exfalso; have := hS.1; omega
  | succ n ih =>
    intro hi u sp wo hA hS hd
    obtain ⟨s1, s2, s3, s4, s5, s6, s7, s8⟩ := id hS
    obtain ⟨a1, a2, a3, a4, a5, a6, a7, a8⟩ := id hA
    have cnt := sI_r (f := hi 18 0) (n := S) (a := 0) (b := 1) (fun i i0 i1 => by have := s4 i i0 i1; omega) a4.1
    have hz : wo = 0 ∨ ∀ v, u ≤ v → v < U → cpI hi v ≤ 0 := by
      by_cases q : S < U
      · right; intro v _ _; unfold cpI; rw [a1, a2, if_pos q]; exact Int.le_refl _
      · left; split at s8 <;> omega
    have hlow : ∀ i v, 0 ≤ i → i < S → u ≤ v → v < U → cpI hi v ≤ tuC hi i v := fun i v i0 i1 v0 v1 => by
      have q := a6 v (by omega) v1
      unfold cpI
      split
      · exact (a7 _ _ (a5 i i0 i1).1 (a5 i i0 i1).2 q.1 q.2).1
      · exact (mnI_r (f := fun i => hi 9 (hi 17 0 i) (hi 15 0 v)) (n := hi 5 0 9) (by omega) (fun x x0 x1 => (a7 _ _ (a5 x x0 (by omega)).1 (a5 x x0 (by omega)).2 q.1 q.2).1)).2.2 i i0 (by omega)
    have hsr : 0 ≤ hi 21 0 u ∧ hi 21 0 u ≤ 50000 := by
      rw [a8 u s1.1 s1.2]
      have := hsI_r (f := cpI hi) (u := u) (U := U) (a := 0) (b := 9999) s1.2 (fun v v0 v1 => by
        have q := a6 v (by omega) v1
        have := mnI_r (f := fun i => hi 9 (hi 17 0 i) (hi 15 0 v)) (n := hi 5 0 9) (by omega) (fun x x0 x1 => (a7 _ _ (a5 x x0 (by omega)).1 (a5 x x0 (by omega)).2 q.1 q.2).1)
        unfold cpI
        split <;> omega)
      omega
    have hwW : (U < S ∧ wo = 0) ∨ (S ≤ U ∧ wo ≤ U - S ∧ sI (hi 18 0) S = u + wo - (U - S)) ∨ wo = 0 := by
      by_cases q : U < S
      · rw [if_pos q] at s8; left; omega
      · rw [if_neg q] at s5 s8; right; left; omega
    refine st_r (xs := [some (aR 5 0), some (aR 8 0), some (aI u), some (aI sp), some (aI wo), none, none, none, none]) pn_X5 rfl rfl (Nat.le_of_ble_eq_true rfl) rfl rfl (fun Q X hQ hX => ?_)
    refine r_iload_n (pc := 0) dX5_tryUnit_0 rfl ?_
    refine r_aload_n (pc := 1) dX5_tryUnit_1 rfl ?_
    refine q_getI (pc := 2) (jI := 8) (n9 := 1) (v := U) fl_X5_38 rfl dX5_tryUnit_2 rfl rfl (by decide) (by decide) (by exact hA.1) ?_
    refine r_icmp_gt (pc := 5) (tgt := 28) dX5_tryUnit_5 rfl (fun c5 => absurd c5 (by omega)) (fun c5 => ?_)
    refine r_iload_n (pc := 8) dX5_tryUnit_8 rfl ?_
    refine r_iconst (pc := 9) (n := 5) dX5_tryUnit_9 (by decide) ?_
    refine r_icmp_gt (pc := 10) (tgt := 28) dX5_tryUnit_10 rfl (fun c10 => absurd c10 (by omega)) (fun c10 => ?_)
    refine r_iload_n (pc := 13) dX5_tryUnit_13 rfl ?_
    refine r_aload_n (pc := 14) dX5_tryUnit_14 rfl ?_
    refine p_getQ (pc := 15) (jI := 6) (n9 := 1) (r := some (21, 0)) fl_X5_31 rfl dX5_tryUnit_15 rfl rfl (by decide) (by decide) rfl ?_
    refine r_iload_n (pc := 18) dX5_tryUnit_18 rfl ?_
    refine q_iald (pc := 19) (n9 := 1) (nI := 6) (v := hi 21 0 u) rfl dX5_tryUnit_19 rfl (by decide) (by decide) rfl (by omega) (by omega) rfl ?_
    refine r_iadd (pc := 20) dX5_tryUnit_20 (by have := hsr; omega) ?_
    refine r_aload_n (pc := 21) dX5_tryUnit_21 rfl ?_
    refine q_getI (pc := 22) (jI := 10) (n9 := 1) (v := hi 5 0 10) fl_X5_44 rfl dX5_tryUnit_22 rfl rfl (by decide) (by decide) rfl ?_
    refine r_icmp_lt (pc := 25) (tgt := 29) dX5_tryUnit_25 rfl (fun c25 => ?_) (fun c25 => ?_)
    · refine r_iload_n (pc := 29) dX5_tryUnit_29 rfl ?_
      refine r_aload_n (pc := 30) dX5_tryUnit_30 rfl ?_
      refine q_getI (pc := 31) (jI := 8) (n9 := 1) (v := U) fl_X5_38 rfl dX5_tryUnit_31 rfl rfl (by decide) (by decide) (by exact hA.1) ?_
      refine r_icmp_ne (pc := 34) (tgt := 57) dX5_tryUnit_34 rfl (fun c34 => ?_) (fun c34 => ?_)
      · refine r_iconst (pc := 57) (n := 0) dX5_tryUnit_57 (by decide) ?_
        refine r_istore (pc := 58) (xs' := [some (aR 5 0), some (aR 8 0), some (aI u), some (aI sp), some (aI wo), some (aI 0), none, none, none]) dX5_tryUnit_58 (Nat.le_of_ble_eq_true rfl) rfl ?_
        refine r_iconst (pc := 60) (n := 0) dX5_tryUnit_60 (by decide) ?_
        refine r_istore (pc := 61) (xs' := [some (aR 5 0), some (aR 8 0), some (aI u), some (aI sp), some (aI wo), some (aI 0), some (aI 0), none, none]) dX5_tryUnit_61 (Nat.le_of_ble_eq_true rfl) rfl ?_
        have loop : ∀ (n9 : Nat) (i m : Int) (hj : Hi), (0 ≤ i ∧ i ≤ S) → (0 ≤ m ∧ m < 64) → (tuF hi hj u) → (tuR hi hj U S u sp wo (fun a => 0 ≤ a u ∧ a u < i)) → (∀ p, 0 ≤ p → p < 6 → bitI m p ≠ 0 → ∃ x, 0 ≤ x ∧ x < i ∧ hi 18 0 x = 0 ∧ hi 17 0 x = p) → S - i < (n9 : Int) → Run (I_X5_tryUnit (n + 1)) 63 [some (aR 5 0), some (aR 8 0), some (aI u), some (aI sp), some (aI wo), some (aI m), some (aI i), none, none] [] (hp hj nb nk) 0 0 Q X := by
          intro n9
          induction n9 with
          | zero => intro i m hj h0 hm hF hR hK hf9; exfalso; omega
          | succ n9 ih_loop =>
            intro i m hj h0 hm hF hR hK hf9
            refine r_iload (pc := 63) dX5_tryUnit_63 rfl ?_
            refine r_aload_n (pc := 65) dX5_tryUnit_65 rfl ?_
            refine q_getI (pc := 66) (jI := 9) (n9 := 1) (v := S) fl_X5_41 rfl dX5_tryUnit_66 rfl rfl (by decide) (by decide) (by rw [hF 5 0 9 (by omega)]; exact hA.2.1) ?_
            refine r_icmp_ge (pc := 69) (tgt := 170) dX5_tryUnit_69 rfl (fun c69 => ?_) (fun c69 => ?_)
            · refine r_iload (pc := 170) dX5_tryUnit_170 rfl ?_
              refine r_if_le (pc := 172) (tgt := 195) dX5_tryUnit_172 rfl (fun c172 => ?_) (fun c172 => ?_)
              · refine r_vret (pc := 195) dX5_tryUnit_195 rfl (Nat.le_of_ble_eq_true rfl) (Nat.le_of_ble_eq_true rfl) ?_
                have hRS : tuR hi hj U S u sp wo (fun a => 0 ≤ a u ∧ a u < S) := hR.cP (fun a => by constructor <;> (intro z; omega))
                have hw : wo = 0 := by omega
                exact hQ _ _ ⟨rfl, hj, rfl, hF, by rw [hw] at hRS ⊢; exact hRS.done (by omega)⟩
              · refine r_aload_n (pc := 175) dX5_tryUnit_175 rfl ?_
                refine p_getQ (pc := 176) (jI := 4) (n9 := 1) (r := some (19, 0)) fl_X5_25 rfl dX5_tryUnit_176 rfl rfl (by decide) (by decide) rfl ?_
                refine r_iload_n (pc := 179) dX5_tryUnit_179 rfl ?_
                refine r_iconst (pc := 180) (n := (-1)) dX5_tryUnit_180 (by decide) ?_
                refine p_iast (pc := 181) (n9 := 1) (nI := 5) rfl dX5_tryUnit_181 rfl (by decide) (by decide) rfl (by omega) (by omega) ?_
                refine r_aload_n (pc := 182) dX5_tryUnit_182 rfl ?_
                refine r_aload_n (pc := 183) dX5_tryUnit_183 rfl ?_
                refine r_iload_n (pc := 184) dX5_tryUnit_184 rfl ?_
                refine r_iconst (pc := 185) (n := 1) dX5_tryUnit_185 (by decide) ?_
                refine r_iadd (pc := 186) dX5_tryUnit_186 (by omega) ?_
                refine r_iload_n (pc := 187) dX5_tryUnit_187 rfl ?_
                refine r_iload (pc := 188) dX5_tryUnit_188 rfl ?_
                refine r_iconst (pc := 190) (n := 1) dX5_tryUnit_190 (by decide) ?_
                refine r_isub (pc := 191) dX5_tryUnit_191 (by omega) ?_
                have hG1 : tuG hi (up1 hj 19 0 u (-1)) := fun k a b q1 q2 q3 q4 => by rw [up1_n (by omega)]; exact hF k a b (Or.inr ⟨q2, q3, q4⟩)
                have hA1 := hG1.A hA
                have hT1 : ∀ j, (up1 hj 19 0 u (-1)) 18 0 j = hi 18 0 j := fun j => by rw [up1_n (by omega)]; exact hF 18 0 j (by omega)
                have hL1 : (up1 hj 19 0 u (-1)) 5 0 10 = hj 5 0 10 := rfl
                have hr9 := hR.1
                have hS1 : tuS (up1 hj 19 0 u (-1)) U S (u + 1) sp (wo - 1) := by
                  refine ⟨by omega, by omega, by omega, fun j j0 j1 => by rw [hT1]; exact hS.2.2.2.1 j j0 j1, ?_, by omega, by omega, by have := hS.2.2.2.2.2.2.2; omega⟩
                  rw [show (up1 hj 19 0 u (-1)) 18 0 = hi 18 0 from funext hT1]
                  have := hS.2.2.2.2.1
                  omega
                refine r_callS (pc := 192) (rest := []) (cs' := 0) (sl' := 0) (ms_X5_62 _) rfl (ih (up1 hj 19 0 u (-1)) (u + 1) sp (wo - 1) hA1 hS1 (by omega)) rfl (by unfold ax_rm; constructor <;> (simp only [I_X5_tryUnit, mRm, mL]; omega)) (Nat.le_of_ble_eq_true rfl) dX5_tryUnit_192 ⟨rfl, (Nat.le_of_ble_eq_true rfl)⟩ ⟨rfl, (Nat.le_of_ble_eq_true rfl)⟩ rfl (fun r9 h9 hq9 => ?_) (fun E9 h9 hx9 => hx9.elim)
                obtain ⟨rfl, hk, rfl, hkF, hkR⟩ := hq9
                show Run _ 195 _ [] (hp hk nb nk) _ _ _ _
                refine r_vret (pc := 195) dX5_tryUnit_195 rfl (Nat.le_of_ble_eq_true rfl) (Nat.le_of_ble_eq_true rfl) ?_
                have hRS : tuR hi hj U S u sp wo (fun a => 0 ≤ a u ∧ a u < S) := hR.cP (fun a => by constructor <;> (intro z; omega))
                have ch := tuR.childN (hi := hi) (h1 := (up1 hj 19 0 u (-1))) (h2 := hk) (u := u) (U := U) (S := S) (sp := sp) (wo := wo) (by omega) (fun j _ _ => hT1 j) (fun x v _ _ _ _ => by rw [hG1.C]) (fun v v0 v1 => by rw [up1_n (by omega)]; exact hF 19 0 v (by omega)) up1_s (hG1.k (k := 16) (by decide) (by decide) (by decide) (by decide)) (by omega) hkR
                have hF8 : tuF hi hk u := fun k a b q => by rw [hkF k a b (by omega), up1_n (by omega)]; exact hF k a b q
                exact hQ _ _ ⟨rfl, hk, rfl, hF8, hRS.last (by omega) ⟨hkR.1.1, by have := hkR.1.2; rw [hL1] at this; exact this⟩ ch.1 ch.2⟩
            · have hp9 := hA.2.2.2.2.1 i h0.1 (by omega)
              have hu9 := hA.2.2.2.2.2.1 u (by omega) (by omega)
              have hc9 := hA.2.2.2.2.2.2.1 _ _ hp9.1 hp9.2 hu9.1 hu9.2
              have hr9 := hR.1
              refine r_aload_n (pc := 72) dX5_tryUnit_72 rfl ?_
              refine p_getQ (pc := 73) (jI := 2) (n9 := 1) (r := some (17, 0)) fl_X5_18 rfl dX5_tryUnit_73 rfl rfl (by decide) (by decide) rfl ?_
              refine r_iload (pc := 76) dX5_tryUnit_76 rfl ?_
              refine q_iald (pc := 78) (n9 := 1) (nI := 40) (v := hi 17 0 i) rfl dX5_tryUnit_78 rfl (by decide) (by decide) rfl (by omega) (by omega) (by exact hF _ _ _ (by omega)) ?_
              refine r_istore (pc := 79) (xs' := [some (aR 5 0), some (aR 8 0), some (aI u), some (aI sp), some (aI wo), some (aI m), some (aI i), some (aI (hi 17 0 i)), none]) dX5_tryUnit_79 (Nat.le_of_ble_eq_true rfl) rfl ?_
              refine r_iconst (pc := 81) (n := 1) dX5_tryUnit_81 (by decide) ?_
              refine r_iload (pc := 82) dX5_tryUnit_82 rfl ?_
              refine r_ishl (pc := 84) (z := p2 (hi 17 0 i)) dX5_tryUnit_84 (bt_shl hp9) (by have := p2_r (p := hi 17 0 i); omega) ?_
              refine r_istore (pc := 85) (xs' := [some (aR 5 0), some (aR 8 0), some (aI u), some (aI sp), some (aI wo), some (aI m), some (aI i), some (aI (hi 17 0 i)), some (aI (p2 (hi 17 0 i)))]) dX5_tryUnit_85 (Nat.le_of_ble_eq_true rfl) rfl ?_
              refine r_aload_n (pc := 87) dX5_tryUnit_87 rfl ?_
              refine p_getQ (pc := 88) (jI := 3) (n9 := 1) (r := some (18, 0)) fl_X5_21 rfl dX5_tryUnit_88 rfl rfl (by decide) (by decide) rfl ?_
              refine r_iload (pc := 91) dX5_tryUnit_91 rfl ?_
              refine q_zald (pc := 93) (n9 := 1) (nI := 40) (v := hi 18 0 i) rfl dX5_tryUnit_93 rfl (by decide) (by decide) rfl (by omega) (by omega) (by exact hF _ _ _ (by omega)) ?_
              refine r_if_ne (pc := 94) (tgt := 164) dX5_tryUnit_94 rfl (fun c94 => ?_) (fun c94 => ?_)
              · have hm9 := hm
                have hF9 := hF
                have hS9 := hR.taken (by omega) h0.1 (by omega) c94
                have hK9 : ∀ p, 0 ≤ p → p < 6 → bitI m p ≠ 0 → ∃ x, 0 ≤ x ∧ x < i + 1 ∧ hi 18 0 x = 0 ∧ hi 17 0 x = p := fun p p0 p1 z => by obtain ⟨x, q1, q2, q3⟩ := hK p p0 p1 z; exact ⟨x, q1, by omega, q3⟩
                refine r_iinc (pc := 164) (xs' := [some (aR 5 0), some (aR 8 0), some (aI u), some (aI sp), some (aI wo), some (aI m), some (aI (i + 1)), some (aI (hi 17 0 i)), some (aI (p2 (hi 17 0 i)))]) dX5_tryUnit_164 rfl (Nat.le_of_ble_eq_true rfl) (by omega) rfl ?_
                refine r_goto (pc := 167) (tgt := 63) dX5_tryUnit_167 rfl ?_
                refine r_drop (xs' := [some (aR 5 0), some (aR 8 0), some (aI u), some (aI sp), some (aI wo), some (aI m), some (aI (i + 1)), none, some (aI (p2 (hi 17 0 i)))]) 7 rfl ?_
                refine r_drop (xs' := [some (aR 5 0), some (aR 8 0), some (aI u), some (aI sp), some (aI wo), some (aI m), some (aI (i + 1)), none, none]) 8 rfl ?_
                refine r_hp (hi' := hj) (by rfl) ?_
                exact ih_loop (i + 1) m hj (by omega) hm9 hF9 hS9 hK9 (by omega)
              · refine r_iload (pc := 97) dX5_tryUnit_97 rfl ?_
                refine r_iload (pc := 99) dX5_tryUnit_99 rfl ?_
                refine r_iand (pc := 101) (z := bitI m (hi 17 0 i) * p2 (hi 17 0 i)) dX5_tryUnit_101 (bt_and hm hp9).1 (by have := bt_and hm hp9; omega) ?_
                refine r_if_ne (pc := 102) (tgt := 164) dX5_tryUnit_102 rfl (fun c102 => ?_) (fun c102 => ?_)
                · obtain ⟨x, x0, x1, x2, x3⟩ := hK (hi 17 0 i) hp9.1 hp9.2 (by have := bt_and hm hp9; omega)
                  have hm9 := hm
                  have hF9 := hF
                  have hS9 := hR.tried (by omega) h0.1 (by omega) x0 x1 x2 x3
                  have hK9 : ∀ p, 0 ≤ p → p < 6 → bitI m p ≠ 0 → ∃ x, 0 ≤ x ∧ x < i + 1 ∧ hi 18 0 x = 0 ∧ hi 17 0 x = p := fun p p0 p1 z => by obtain ⟨x, q1, q2, q3⟩ := hK p p0 p1 z; exact ⟨x, q1, by omega, q3⟩
                  refine r_iinc (pc := 164) (xs' := [some (aR 5 0), some (aR 8 0), some (aI u), some (aI sp), some (aI wo), some (aI m), some (aI (i + 1)), some (aI (hi 17 0 i)), some (aI (p2 (hi 17 0 i)))]) dX5_tryUnit_164 rfl (Nat.le_of_ble_eq_true rfl) (by omega) rfl ?_
                  refine r_goto (pc := 167) (tgt := 63) dX5_tryUnit_167 rfl ?_
                  refine r_drop (xs' := [some (aR 5 0), some (aR 8 0), some (aI u), some (aI sp), some (aI wo), some (aI m), some (aI (i + 1)), none, some (aI (p2 (hi 17 0 i)))]) 7 rfl ?_
                  refine r_drop (xs' := [some (aR 5 0), some (aR 8 0), some (aI u), some (aI sp), some (aI wo), some (aI m), some (aI (i + 1)), none, none]) 8 rfl ?_
                  refine r_hp (hi' := hj) (by rfl) ?_
                  exact ih_loop (i + 1) m hj (by omega) hm9 hF9 hS9 hK9 (by omega)
                · refine r_iload (pc := 105) dX5_tryUnit_105 rfl ?_
                  refine r_iload (pc := 107) dX5_tryUnit_107 rfl ?_
                  refine r_ior (pc := 109) (z := orI m (hi 17 0 i)) dX5_tryUnit_109 (bt_or hm hp9).1 (by have := bt_or hm hp9; omega) ?_
                  refine r_istore (pc := 110) (xs' := [some (aR 5 0), some (aR 8 0), some (aI u), some (aI sp), some (aI wo), some (aI (orI m (hi 17 0 i))), some (aI i), some (aI (hi 17 0 i)), some (aI (p2 (hi 17 0 i)))]) dX5_tryUnit_110 (Nat.le_of_ble_eq_true rfl) rfl ?_
                  refine r_aload_n (pc := 112) dX5_tryUnit_112 rfl ?_
                  refine p_getQ (pc := 113) (jI := 3) (n9 := 1) (r := some (18, 0)) fl_X5_21 rfl dX5_tryUnit_113 rfl rfl (by decide) (by decide) rfl ?_
                  refine r_iload (pc := 116) dX5_tryUnit_116 rfl ?_
                  refine r_iconst (pc := 118) (n := 1) dX5_tryUnit_118 (by decide) ?_
                  refine p_zast (pc := 119) (n9 := 1) (nI := 40) rfl (by decide) dX5_tryUnit_119 rfl (by decide) (by decide) rfl (by omega) (by omega) ?_
                  refine r_aload_n (pc := 120) dX5_tryUnit_120 rfl ?_
                  refine p_getQ (pc := 121) (jI := 4) (n9 := 1) (r := some (19, 0)) fl_X5_25 rfl dX5_tryUnit_121 rfl rfl (by decide) (by decide) rfl ?_
                  refine r_iload_n (pc := 124) dX5_tryUnit_124 rfl ?_
                  refine r_aload_n (pc := 125) dX5_tryUnit_125 rfl ?_
                  refine p_getQ (pc := 126) (jI := 1) (n9 := 1) (r := some (16, 0)) fl_X5_15 rfl dX5_tryUnit_126 rfl rfl (by decide) (by decide) rfl ?_
                  refine r_iload (pc := 129) dX5_tryUnit_129 rfl ?_
                  refine q_iald (pc := 131) (n9 := 1) (nI := 40) (v := hi 16 0 i) rfl dX5_tryUnit_131 rfl (by decide) (by decide) rfl (by omega) (by omega) (by simp only [up1]; simp; exact hF _ _ _ (by omega)) ?_
                  refine p_iast (pc := 132) (n9 := 1) (nI := 5) rfl dX5_tryUnit_132 rfl (by decide) (by decide) rfl (by omega) (by omega) ?_
                  refine r_aload_n (pc := 133) dX5_tryUnit_133 rfl ?_
                  refine r_aload_n (pc := 134) dX5_tryUnit_134 rfl ?_
                  refine r_iload_n (pc := 135) dX5_tryUnit_135 rfl ?_
                  refine r_iconst (pc := 136) (n := 1) dX5_tryUnit_136 (by decide) ?_
                  refine r_iadd (pc := 137) dX5_tryUnit_137 (by omega) ?_
                  refine r_iload_n (pc := 138) dX5_tryUnit_138 rfl ?_
                  refine r_aload_n (pc := 139) dX5_tryUnit_139 rfl ?_
                  refine r_iload (pc := 140) dX5_tryUnit_140 rfl ?_
                  refine p_aald (pc := 142) (n9 := 1) (nI := 6) (r := some (9, hi 17 0 i)) rfl ⟨(by decide), (by decide)⟩ dX5_tryUnit_142 rfl (by decide) (by decide) rfl (by omega) (by omega) (hr_8 (by omega) (by omega)) ?_
                  refine r_aload_n (pc := 143) dX5_tryUnit_143 rfl ?_
                  refine p_getQ (pc := 144) (jI := 0) (n9 := 1) (r := some (15, 0)) fl_X5_9 rfl dX5_tryUnit_144 rfl rfl (by decide) (by decide) rfl ?_
                  refine r_iload_n (pc := 147) dX5_tryUnit_147 rfl ?_
                  refine q_iald (pc := 148) (n9 := 1) (nI := 5) (v := hi 15 0 u) rfl dX5_tryUnit_148 rfl (by decide) (by decide) rfl (by omega) (by omega) (by simp only [up1]; simp; exact hF _ _ _ (by omega)) ?_
                  refine q_iald (pc := 149) (n9 := 6) (nI := 6) (v := hi 9 (hi 17 0 i) (hi 15 0 u)) rfl dX5_tryUnit_149 rfl (by omega) (by omega) rfl (by omega) (by omega) (by simp only [up1]; simp; exact hF _ _ _ (by omega)) ?_
                  refine r_iadd (pc := 150) dX5_tryUnit_150 (by omega) ?_
                  refine r_iload (pc := 151) dX5_tryUnit_151 rfl ?_
                  have hG1 : tuG hi (up1 (up1 hj 18 0 i 1) 19 0 u (hi 16 0 i)) := fun k a b q1 q2 q3 q4 => by rw [up1_n (by omega), up1_n (by omega)]; exact hF k a b (Or.inr ⟨q2, q3, q4⟩)
                  have hA1 := hG1.A hA
                  have hT1 : ∀ j, (up1 (up1 hj 18 0 i 1) 19 0 u (hi 16 0 i)) 18 0 j = se1 (hi 18 0) i 1 j := fun j => by
                    rw [up1_n (by omega)]
                    by_cases q : j = i
                    · rw [q, up1_s, se1_s]
                    · rw [up1_n (by omega), se1_n q]; exact hF 18 0 j (by omega)
                  have hL1 : (up1 (up1 hj 18 0 i 1) 19 0 u (hi 16 0 i)) 5 0 10 = hj 5 0 10 := rfl
                  have hS1 : tuS (up1 (up1 hj 18 0 i 1) 19 0 u (hi 16 0 i)) U S (u + 1) (sp + hi 9 (hi 17 0 i) (hi 15 0 u)) wo := by
                    refine ⟨by omega, by omega, by omega, fun j j0 j1 => ?_, ?_, by omega, by omega, hS.2.2.2.2.2.2.2⟩
                    · rw [hT1]
                      by_cases q : j = i
                      · rw [q, se1_s]; exact Or.inr rfl
                      · rw [se1_n q]; exact hS.2.2.2.1 j j0 j1
                    · rw [show (up1 (up1 hj 18 0 i 1) 19 0 u (hi 16 0 i)) 18 0 = se1 (hi 18 0) i 1 from funext hT1, sI_se1 h0.1 (by omega) c94]
                      have := hS.2.2.2.2.1
                      omega
                  refine r_callS (pc := 153) (rest := []) (cs' := 0) (sl' := 0) (ms_X5_62 _) rfl (ih (up1 (up1 hj 18 0 i 1) 19 0 u (hi 16 0 i)) (u + 1) (sp + (hi 9 (hi 17 0 i) (hi 15 0 u))) wo hA1 hS1 (by omega)) rfl (by unfold ax_rm; constructor <;> (simp only [I_X5_tryUnit, mRm, mL]; omega)) (Nat.le_of_ble_eq_true rfl) dX5_tryUnit_153 ⟨rfl, (Nat.le_of_ble_eq_true rfl)⟩ ⟨rfl, (Nat.le_of_ble_eq_true rfl)⟩ rfl (fun r9 h9 hq9 => ?_) (fun E9 h9 hx9 => hx9.elim)
                  obtain ⟨rfl, hk, rfl, hkF, hkR⟩ := hq9
                  show Run _ 156 _ [] (hp hk nb nk) _ _ _ _
                  refine r_aload_n (pc := 156) dX5_tryUnit_156 rfl ?_
                  refine p_getQ (pc := 157) (jI := 3) (n9 := 1) (r := some (18, 0)) fl_X5_21 rfl dX5_tryUnit_157 rfl rfl (by decide) (by decide) rfl ?_
                  refine r_iload (pc := 160) dX5_tryUnit_160 rfl ?_
                  refine r_iconst (pc := 162) (n := 0) dX5_tryUnit_162 (by decide) ?_
                  refine p_zast (pc := 163) (n9 := 1) (nI := 40) rfl (by decide) dX5_tryUnit_163 rfl (by decide) (by decide) rfl (by omega) (by omega) ?_
                  have hm9 := (bt_or hm hp9).2
                  have ch := tuR.child (hi := hi) (h1 := (up1 (up1 hj 18 0 i 1) 19 0 u (hi 16 0 i))) (h2 := hk) (u := u) (U := U) (S := S) (sp := sp) (wo := wo) (i := i) (by omega) h0.1 (by omega) c94 (fun j _ _ => hT1 j) (fun x v _ _ _ _ => by rw [hG1.C]) (fun v v0 v1 => by rw [up1_n (by omega), up1_n (by omega)]; exact hF 19 0 v (by omega)) up1_s (hG1.k (k := 16) (by decide) (by decide) (by decide) (by decide)) (by omega) hkR
                  have hS9 : tuR hi (up1 hk 18 0 i 0) U S u sp wo (fun a => 0 ≤ a u ∧ a u < i + 1) := hR.next (by omega) h0.1 (by omega) ⟨hkR.1.1, by have := hkR.1.2; rw [hL1] at this; exact this⟩ ch.1 ch.2
                  have hF9 : tuF hi (up1 hk 18 0 i 0) u := fun k a b q => by
                    by_cases e : k = 18 ∧ a = 0 ∧ b = i
                    · obtain ⟨rfl, rfl, rfl⟩ := e; rw [up1_s, c94]
                    · rw [up1_n e, hkF k a b (by omega), up1_n (by omega), up1_n e]; exact hF k a b q
                  have hK9 : ∀ p, 0 ≤ p → p < 6 → bitI (orI m (hi 17 0 i)) p ≠ 0 → ∃ x, 0 ≤ x ∧ x < i + 1 ∧ hi 18 0 x = 0 ∧ hi 17 0 x = p := fun p p0 p1 z => by
                    rw [bit_or hm hp9 ⟨p0, p1⟩] at z
                    by_cases e : p = hi 17 0 i
                    · exact ⟨i, h0.1, by omega, c94, e.symm⟩
                    · rw [if_neg e] at z; obtain ⟨x, q1, q2, q3⟩ := hK p p0 p1 z; exact ⟨x, q1, by omega, q3⟩
                  refine r_iinc (pc := 164) (xs' := [some (aR 5 0), some (aR 8 0), some (aI u), some (aI sp), some (aI wo), some (aI (orI m (hi 17 0 i))), some (aI (i + 1)), some (aI (hi 17 0 i)), some (aI (p2 (hi 17 0 i)))]) dX5_tryUnit_164 rfl (Nat.le_of_ble_eq_true rfl) (by omega) rfl ?_
                  refine r_goto (pc := 167) (tgt := 63) dX5_tryUnit_167 rfl ?_
                  refine r_drop (xs' := [some (aR 5 0), some (aR 8 0), some (aI u), some (aI sp), some (aI wo), some (aI (orI m (hi 17 0 i))), some (aI (i + 1)), none, some (aI (p2 (hi 17 0 i)))]) 7 rfl ?_
                  refine r_drop (xs' := [some (aR 5 0), some (aR 8 0), some (aI u), some (aI sp), some (aI wo), some (aI (orI m (hi 17 0 i))), some (aI (i + 1)), none, none]) 8 rfl ?_
                  refine r_hp (hi' := (up1 hk 18 0 i 0)) (by rfl) ?_
                  exact ih_loop (i + 1) (orI m (hi 17 0 i)) (up1 hk 18 0 i 0) (by omega) hm9 hF9 hS9 hK9 (by omega)
        refine r_hp (hi' := hi) (by rfl) ?_
        exact loop 41 0 0 hi (by omega) (by decide) tuF.refl (tuR.same (by omega) rfl (fun _ => rfl) (fun a _ z => by omega)) (fun p p0 p1 z => absurd (by unfold bitI; rw [Int.zero_ediv]; rfl) z) (by omega)
      · refine r_aload_n (pc := 37) dX5_tryUnit_37 rfl ?_
        refine r_iload_n (pc := 38) dX5_tryUnit_38 rfl ?_
        refine p_putI (pc := 39) (jI := 10) (n9 := 1) fl_X5_44 (Or.inl rfl) (Or.inl rfl) dX5_tryUnit_39 rfl rfl (by decide) (by decide) ?_
        refine r_aload_n (pc := 42) dX5_tryUnit_42 rfl ?_
        refine p_getQ (pc := 43) (jI := 4) (n9 := 1) (r := some (19, 0)) fl_X5_25 rfl dX5_tryUnit_43 rfl rfl (by decide) (by decide) rfl ?_
        refine r_iconst (pc := 46) (n := 0) dX5_tryUnit_46 (by decide) ?_
        refine r_aload_n (pc := 47) dX5_tryUnit_47 rfl ?_
        refine p_getQ (pc := 48) (jI := 5) (n9 := 1) (r := some (20, 0)) fl_X5_28 rfl dX5_tryUnit_48 rfl rfl (by decide) (by decide) rfl ?_
        refine r_iconst (pc := 51) (n := 0) dX5_tryUnit_51 (by decide) ?_
        refine r_iload_n (pc := 52) dX5_tryUnit_52 rfl ?_
        refine p_copy (pc := 53) (n1 := 1) (n2 := 1) (m1 := 5) (m2 := 5) rfl rfl ac_X5_73 (by decide) rfl rfl (by omega) (by omega) (by omega) rfl rfl (by decide) (by decide) (by decide) (by decide) ⟨by simp only [I_X5_tryUnit, mRm]; omega, by simp only [I_X5_tryUnit, mRm, List.map_nil, List.sum_nil]; omega⟩ dX5_tryUnit_53 ?_
        refine r_vret (pc := 56) dX5_tryUnit_56 rfl (Nat.le_of_ble_eq_true rfl) (Nat.le_of_ble_eq_true rfl) ?_
        have hw : wo = 0 := by omega
        have hz0 : hi 21 0 U = 0 := by rw [hA.2.2.2.2.2.2.2 U (by omega) (Int.le_refl _), hsI_0]
        have hFe : tuF hi (cp1 (up1 hi 5 0 10 sp) 19 0 20 0 u) u := fun k a b q => by
          unfold cp1
          rw [if_neg (by omega), up1_n (by omega)]
        have hRe : tuR hi (cp1 (up1 hi 5 0 10 sp) 19 0 20 0 u) U S u sp wo (fun _ => True) := by
          rw [c34] at *
          rw [hw]
          exact tuR.full (a := fun _ => 0) ⟨fun v v0 v1 => by omega, fun v w v0 v1 w1 => by omega, hsI_0⟩ trivial (by omega) (by simp [cp1, up1]) (by omega) (fun v v0 v1 => by simp [cp1, up1]; omega)
        exact hQ _ _ ⟨rfl, _, rfl, hFe, hRe⟩
    · refine r_vret (pc := 28) dX5_tryUnit_28 rfl (Nat.le_of_ble_eq_true rfl) (Nat.le_of_ble_eq_true rfl) ?_
      exact hQ _ _ ⟨rfl, hi, rfl, tuF.refl, tuR.same (by omega) rfl (fun _ => rfl) (fun a ha _ => by have := cst_low (c := tuC hi) (cp := cpI hi) ha (by omega) hlow hz; rw [← hA.2.2.2.2.2.2.2 u (by omega) (by omega)] at this; omega)⟩
