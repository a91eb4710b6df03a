/-! ===== the reference's plan: plans, broughtFor, bring, brings (walks printed by wip/whole/tools/g68.py) ===== -/
theorem LfA.c {U S f x : Int} {c c' : Int → Int → Int} {ch ch' : Int → Int} (h : LfA U S c f ch x) (hc : c = c') (e : ∀ v, 0 ≤ v → v < f → ch v = ch' v) : LfA U S c' f ch' x := by
  subst hc
  refine ⟨fun a ha => h.1 a ⟨ha.1, fun v v0 v1 => by rw [e v v0 v1]; exact ha.2 v v0 v1⟩, ?_⟩
  rcases h.2 with z | ⟨a, z, w⟩
  · exact Or.inl z
  · exact Or.inr ⟨a, ⟨z.1, fun v v0 v1 => by rw [← e v v0 v1]; exact z.2 v v0 v1⟩, w⟩
theorem chO.add {S u k : Int} {ch ch' : Int → Int} (h : chO S u ch) (u0 : 0 ≤ u) (hk : 0 ≤ k ∧ k < S) (hn : ¬ ∃ v, 0 ≤ v ∧ v < u ∧ ch' v = k) (e : ∀ v, 0 ≤ v → v < u + 1 → ch' v = se1 ch u k v) : chO S (u + 1) ch' := by
  have e1 : ∀ v, 0 ≤ v → v < u → ch' v = ch v := fun v v0 v1 => by rw [e v v0 (by omega), se1_n (by omega)]
  have e2 : ch' u = k := by rw [e u u0 (by omega), se1_s]
  refine ⟨fun v v0 v1 => ?_, fun v w v0 vw w1 hv => ?_⟩
  · by_cases q : v = u
    · rw [q, e2]; exact Or.inr hk
    · rw [e1 v v0 (by omega)]; exact h.1 v v0 (by omega)
  · by_cases q : w = u
    · rw [q, e2]; exact fun z => hn ⟨v, v0, by omega, z⟩
    · rw [e1 w (by omega) (by omega)]
      rw [e1 v v0 (by omega)] at hv ⊢
      exact h.2 v w v0 vw (by omega) hv
/-- what plans leaves -/
def PlnM (hi : Hi) (nb nk kd C : Int) (g : Hi) : Prop := LayM hi nb nk kd g ∧ Bst (sI (laaM hi nb nk kd) 6) (ovI (ovM hi nb nk kd) nb) (brM (mix hi g)) C (g 58 0) ∧ 0 ≤ C
theorem K_X7_plans {hi : Hi} {nb nk : Int} (hM : MV hi nb nk) {kd : Int} (hl : ∀ p, 0 ≤ laaM hi nb nk kd p) (ht : sI (laaM hi nb nk kd) 6 ≤ 5) : Con I_X7_plans [aR 7 0, aI kd] (hp hi nb nk) (fun r h => ∃ (g : Hi) (C : Int), r = some (aI C) ∧ h = hp (mix hi g) nb nk ∧ PlnM hi nb nk kd C g) (fun _ _ => False) := by
  have hN := hM.num
  unfold mNum at hN
  refine st_r (xs := [some (aR 7 0), some (aI kd), none, none, none]) pn_X7 rfl rfl (Nat.le_of_ble_eq_true rfl) rfl rfl (fun Q X hQ hX => ?_)
  refine r_aload_n (pc := 0) dX7_plans_0 rfl ?_
  refine r_iload_n (pc := 1) dX7_plans_1 rfl ?_
  refine r_callV (pc := 2) (t := 7) (i := 0) (rest := []) (cs' := 0) (sl' := 0) mv_X7_223 (K_X7_laysOut hM hl ht) rfl ⟨(Nat.le_of_ble_eq_true rfl), (Nat.le_of_ble_eq_true rfl)⟩ (Nat.le_of_ble_eq_true rfl) dX7_plans_2 (show (0 : Int) ≤ 0 by omega) (show 0 < 1 by omega) ⟨rfl, (Nat.le_of_ble_eq_true rfl)⟩ ⟨rfl, (Nat.le_of_ble_eq_true rfl)⟩ rfl (fun r9 h9 hq9 => ?_) (fun E9 h9 hx9 => hx9.elim)
  obtain ⟨rfl, g, rfl, hLay⟩ := hq9
  obtain ⟨U, hU9⟩ : ∃ U, U = sI (laaM hi nb nk kd) 6 := ⟨_, rfl⟩
  obtain ⟨S, hS9⟩ : ∃ S, S = ovI (ovM hi nb nk kd) nb := ⟨_, rfl⟩
  have hU : g 7 0 32 = U := by rw [hU9]; exact hLay.2.1
  have hS : g 7 0 35 = S := by rw [hS9]; exact hLay.2.2
  have hU0 : 0 ≤ U ∧ U ≤ 5 := by
    have := sI_mono (f := laaM hi nb nk kd) (a := 0) (b := 6) (by omega) (by omega) (fun i _ _ => hl i)
    rw [sI_0] at this
    omega
  have hS0 : 0 ≤ S ∧ S ≤ 40 := by
    have := ovI_r (P := ovM hi nb nk kd) (n := nb) (by omega)
    omega
  have hpu : ∀ u, 0 ≤ u → u < U → 0 ≤ g 55 0 u ∧ g 55 0 u < 6 := fun u u0 u1 => hLay.1.unit u u0 (by omega)
  have hpw : ∀ i, 0 ≤ i → i < S → 0 ≤ g 57 0 i ∧ g 57 0 i < 6 := fun i i0 i1 => hLay.1.over (by omega) (fun b hb => hb.2.1.1) i i0 (by omega)
  have hcb : ∀ i v, 0 ≤ i → i < S → 0 ≤ v → v < U → 0 ≤ (brM (mix hi g)) i v ∧ (brM (mix hi g)) i v ≤ 9999 := fun i v i0 i1 v0 v1 => by
    have a := hpw i i0 i1
    have b := hpu v v0 v1
    show 0 ≤ hi 30 0 (6 * g 57 0 i + g 55 0 v) ∧ hi 30 0 (6 * g 57 0 i + g 55 0 v) ≤ 9999
    exact hM.cst _ (by omega) (by omega)
  show Run _ 5 _ [] (hp (mix hi g) nb nk) _ _ _ _
  refine r_aload_n (pc := 5) dX7_plans_5 rfl ?_
  refine r_iconst (pc := 6) (n := 0) dX7_plans_6 (by decide) ?_
  refine r_callV (pc := 7) (t := 7) (i := 0) (rest := []) (cs' := 0) (sl' := 0) mv_X7_227 (K_X7_leastFrom (hi := mix hi g) (U := U) (S := S) (f := 0) hM.cst ⟨hU, hU0⟩ ⟨hS, hS0⟩ ⟨Int.le_refl _, hU0.1⟩ ⟨fun v v0 v1 => by omega, fun v w v0 v1 w1 => by omega⟩ hpw hpu) rfl ⟨(Nat.le_of_ble_eq_true rfl), (Nat.le_of_ble_eq_true rfl)⟩ (Nat.le_of_ble_eq_true rfl) dX7_plans_7 (show (0 : Int) ≤ 0 by omega) (show 0 < 1 by omega) ⟨rfl, (Nat.le_of_ble_eq_true rfl)⟩ ⟨rfl, (Nat.le_of_ble_eq_true rfl)⟩ rfl (fun r9 h9 hq9 => ?_) (fun E9 h9 hx9 => hx9.elim)
  obtain ⟨C, L, rfl, rfl, hLf, hC0, hC1⟩ := hq9
  obtain ⟨hP0, hC2⟩ := PlI.zero hU0.1 hS0.1 hU0.2 hcb hLf
  show Run _ 10 _ [aI C] (hp (lsH (mix hi g) L) nb nk) _ _ _ _
  refine r_istore_n (pc := 10) (xs' := [some (aR 7 0), some (aI kd), some (aI C), none, none]) dX7_plans_10 (by decide) rfl ?_
  refine r_iconst (pc := 11) (n := 0) dX7_plans_11 (by decide) ?_
  refine r_istore_n (pc := 12) (xs' := [some (aR 7 0), some (aI kd), some (aI C), some (aI 0), none]) dX7_plans_12 (by decide) rfl ?_
  have loopU : ∀ (n9 : Nat) (u : Int) (g2 : Hi), (0 ≤ u ∧ u ≤ U) → (∀ (kk : Nat) (i j : Int), kk ≠ 58 → kk ≠ 59 → g2 kk i j = mix hi g kk i j) → (PlI U S (brM (mix hi g)) C (g2 58 0) u) → U - u < (n9 : Int) → Run I_X7_plans 13 [some (aR 7 0), some (aI kd), some (aI C), some (aI u), none] [] (hp (mix hi g2) nb nk) 0 0 Q X := by
    intro n9
    induction n9 with
    | zero => intro u g2 hu hG hP hf9; exfalso; omega
    | succ n9 ih_loopU =>
      intro u g2 hu hG hP hf9
      refine r_iload_n (pc := 13) dX7_plans_13 rfl ?_
      refine r_aload_n (pc := 14) dX7_plans_14 rfl ?_
      refine q_getI (pc := 15) (jI := 32) (n9 := 1) (v := U) fl_X7_207 rfl dX7_plans_15 rfl rfl (by decide) (by decide) (by show g2 7 0 32 = U; rw [hG 7 0 32 (by decide) (by decide)]; exact hU) ?_
      refine r_icmp_ge (pc := 18) (tgt := 102) dX7_plans_18 rfl (fun c18 => ?_) (fun c18 => ?_)
      · refine r_iload_n (pc := 102) dX7_plans_102 rfl ?_
        refine r_iret (pc := 103) dX7_plans_103 (Or.inl rfl) (Nat.le_of_ble_eq_true rfl) (Nat.le_of_ble_eq_true rfl) ?_
        have hP9 := hP
        rw [show u = U by omega] at hP9
        have hb9 := hP9.bst
        have hbr9 : brM (mix hi g2) = (brM (mix hi g)) := by
          funext i v
          show hi 30 0 (6 * g2 57 0 i + g2 55 0 v) = hi 30 0 (6 * g 57 0 i + g 55 0 v)
          rw [hG 57 0 i (by decide) (by decide), hG 55 0 v (by decide) (by decide)]
          rfl
        have e55 : g2 55 0 = g 55 0 := funext fun j => hG 55 0 j (by decide) (by decide)
        have e56 : g2 56 0 = g 56 0 := funext fun j => hG 56 0 j (by decide) (by decide)
        have e57 : g2 57 0 = g 57 0 := funext fun j => hG 57 0 j (by decide) (by decide)
        exact hQ _ _ ⟨g2, C, rfl, rfl, ⟨⟨by rw [e55, e56, e57]; exact hLay.1, by rw [hG 7 0 32 (by decide) (by decide)]; exact hLay.2.1, by rw [hG 7 0 35 (by decide) (by decide)]; exact hLay.2.2⟩, by rw [hbr9, ← hU9, ← hS9]; exact hb9, hC0⟩⟩
      · refine r_iconst (pc := 21) (n := 0) dX7_plans_21 (by decide) ?_
        refine r_istore (pc := 22) (xs' := [some (aR 7 0), some (aI kd), some (aI C), some (aI u), some (aI 0)]) dX7_plans_22 (by decide) rfl ?_
        refine r_aload_n (pc := 24) dX7_plans_24 rfl ?_
        refine p_getQ (pc := 25) (jI := 36) (n9 := 1) (r := some (58, 0)) fl_X7_102 rfl dX7_plans_25 rfl rfl (by decide) (by decide) rfl ?_
        refine r_iload_n (pc := 28) dX7_plans_28 rfl ?_
        refine r_iconst (pc := 29) (n := 0) dX7_plans_29 (by decide) ?_
        refine p_iast (pc := 30) (n9 := 1) (nI := 5) rfl dX7_plans_30 rfl (by decide) (by decide) rfl (by omega) (by omega) ?_
        have hGm : ∀ (k : Nat) (i j : Int), k ≠ 58 → k ≠ 59 → mix hi g2 k i j = mix hi g k i j := fun k i j h8 h9 => by
          have := hG k i j h8 h9
          unfold mix at this ⊢
          by_cases q : plK k = true
          · rw [if_pos q] at this ⊢; rw [if_pos q]; exact this
          · rw [if_neg q] at this ⊢; rw [if_neg q]
            by_cases z : k = 7 ∧ i = 0 ∧ (j = 32 ∨ j = 35)
            · rw [if_pos z] at this ⊢; rw [if_pos z]; exact this
            · rw [if_neg z, if_neg z]
        have loopK : ∀ (n9 : Nat) (k : Int) (g3 : Hi), (0 ≤ k ∧ k ≤ S) → (∀ (kk : Nat) (i j : Int), kk ≠ 58 → kk ≠ 59 → g3 kk i j = mix hi g kk i j) → (∀ v, 0 ≤ v → v < u + 1 → g3 58 0 v = se1 (g2 58 0) u k v) → (PlK U S (brM (mix hi g)) C (g2 58 0) u k) → S - k < (n9 : Int) → Run I_X7_plans 31 [some (aR 7 0), some (aI kd), some (aI C), some (aI u), some (aI k)] [] (hp (mix hi g3) nb nk) 0 0 Q X := by
          intro n9
          induction n9 with
          | zero => intro k g3 hk hG3 hc3 hK hf9; exfalso; omega
          | succ n9 ih_loopK =>
            intro k g3 hk hG3 hc3 hK hf9
            refine r_iload (pc := 31) dX7_plans_31 rfl ?_
            refine r_aload_n (pc := 33) dX7_plans_33 rfl ?_
            refine q_getI (pc := 34) (jI := 35) (n9 := 1) (v := S) fl_X7_210 rfl dX7_plans_34 rfl rfl (by decide) (by decide) (by show g3 7 0 35 = S; rw [hG3 7 0 35 (by decide) (by decide)]; exact hS) ?_
            refine r_icmp_ge (pc := 37) (tgt := 75) dX7_plans_37 rfl (fun c37 => ?_) (fun c37 => ?_)
            · refine r_aload_n (pc := 75) dX7_plans_75 rfl ?_
              refine p_getQ (pc := 76) (jI := 36) (n9 := 1) (r := some (58, 0)) fl_X7_102 rfl dX7_plans_76 rfl rfl (by decide) (by decide) rfl ?_
              refine r_iload_n (pc := 79) dX7_plans_79 rfl ?_
              refine r_iload (pc := 80) dX7_plans_80 rfl ?_
              refine r_aload_n (pc := 82) dX7_plans_82 rfl ?_
              refine q_getI (pc := 83) (jI := 35) (n9 := 1) (v := S) fl_X7_210 rfl dX7_plans_83 rfl rfl (by decide) (by decide) (by show g3 7 0 35 = S; rw [hG3 7 0 35 (by decide) (by decide)]; exact hS) ?_
              refine r_icmp_ge (pc := 86) (tgt := 94) dX7_plans_86 rfl (fun c86 => ?_) (fun c86 => absurd c86 (by omega))
              refine r_iconst (pc := 94) (n := (-1)) dX7_plans_94 (by decide) ?_
              refine p_iast (pc := 95) (n9 := 1) (nI := 5) rfl dX7_plans_95 rfl (by decide) (by decide) rfl (by omega) (by omega) ?_
              have hG3m : ∀ (kk : Nat) (i j : Int), kk ≠ 58 → kk ≠ 59 → mix hi g3 kk i j = mix hi g kk i j := fun kk i j h8 h9 => by
                have := hG3 kk i j h8 h9
                unfold mix at this ⊢
                by_cases q : plK kk = true
                · rw [if_pos q] at this ⊢; rw [if_pos q]; exact this
                · rw [if_neg q] at this ⊢; rw [if_neg q]
                  by_cases z : kk = 7 ∧ i = 0 ∧ (j = 32 ∨ j = 35)
                  · rw [if_pos z] at this ⊢; rw [if_pos z]; exact this
                  · rw [if_neg z, if_neg z]
              have hG9 : ∀ (kk : Nat) (i j : Int), kk ≠ 58 → kk ≠ 59 → (up1 (mix hi g3) 58 0 u (-1)) kk i j = mix hi g kk i j := fun kk i j h8 h9 => by
                rw [up1_n (fun z => h8 z.1)]
                exact hG3m kk i j h8 h9
              have he9 : ∀ v, 0 ≤ v → v < u + 1 → (up1 (mix hi g3) 58 0 u (-1)) 58 0 v = se1 (g2 58 0) u (-1) v := fun v v0 v1 => by
                by_cases z : v = u
                · rw [z, up1_s, se1_s]
                · rw [up1_n (by omega), se1_n z]
                  have := hc3 v v0 v1
                  rw [se1_n z] at this
                  exact this
              have hKS : PlK U S (brM (mix hi g)) C (g2 58 0) u S := by
                have e : k = S := by omega
                rw [e] at hK
                exact hK
              have hP9 : PlI U S (brM (mix hi g)) C ((up1 (mix hi g3) 58 0 u (-1)) 58 0) (u + 1) := PlI.non (by omega) hP hKS he9
              refine r_iinc (pc := 96) (xs' := [some (aR 7 0), some (aI kd), some (aI C), some (aI (u + 1)), some (aI k)]) dX7_plans_96 rfl (by decide) (by omega) rfl ?_
              refine r_goto (pc := 99) (tgt := 13) dX7_plans_99 rfl ?_
              refine r_drop (xs' := [some (aR 7 0), some (aI kd), some (aI C), some (aI (u + 1)), none]) 4 rfl ?_
              refine r_hp (hi' := (mix hi (up1 (mix hi g3) 58 0 u (-1)))) (by exact mix_of (fun k i j h h7 => by rw [up1_n (fun z => by rw [z.1] at h; exact absurd h (by decide)), mix_n h h7])) ?_
              exact ih_loopU (u + 1) (up1 (mix hi g3) 58 0 u (-1)) (by omega) hG9 hP9 (by omega)
            · refine r_aload_n (pc := 40) dX7_plans_40 rfl ?_
              refine r_iload (pc := 41) dX7_plans_41 rfl ?_
              refine r_iload_n (pc := 43) dX7_plans_43 rfl ?_
              refine d1_V (pc := 44) (t := 7) (i := 0) (rest := []) (cs' := 0) (sl' := 0) mv_X7_217 (show Det I_X7_isChosen [aR 7 0, aI k, aI u] (hp (mix hi g3) nb nk) (some (aI (bI (∃ v, 0 ≤ v ∧ v < u ∧ g3 58 0 v = k)))) (hp (mix hi g3) nb nk) from K_X7_isChosen (hi := mix hi g3) (by omega)) rfl ⟨(Nat.le_of_ble_eq_true rfl), (Nat.le_of_ble_eq_true rfl)⟩ (Nat.le_of_ble_eq_true rfl) dX7_plans_44 (show (0 : Int) ≤ 0 by omega) (show 0 < 1 by omega) ⟨rfl, (Nat.le_of_ble_eq_true rfl)⟩ ⟨rfl, (Nat.le_of_ble_eq_true rfl)⟩ rfl ?_
              refine q_ifneB (pc := 47) (tgt := 61) dX7_plans_47 rfl (fun c47 => ?_) (fun c47 => ?_)
              · refine r_iinc (pc := 61) (xs' := [some (aR 7 0), some (aI kd), some (aI C), some (aI u), some (aI (k + 1))]) dX7_plans_61 rfl (by decide) (by omega) rfl ?_
                refine r_aload_n (pc := 64) dX7_plans_64 rfl ?_
                refine p_getQ (pc := 65) (jI := 36) (n9 := 1) (r := some (58, 0)) fl_X7_102 rfl dX7_plans_65 rfl rfl (by decide) (by decide) rfl ?_
                refine r_iload_n (pc := 68) dX7_plans_68 rfl ?_
                refine r_iload (pc := 69) dX7_plans_69 rfl ?_
                refine p_iast (pc := 71) (n9 := 1) (nI := 5) rfl dX7_plans_71 rfl (by decide) (by decide) rfl (by omega) (by omega) ?_
                have hG3m : ∀ (kk : Nat) (i j : Int), kk ≠ 58 → kk ≠ 59 → mix hi g3 kk i j = mix hi g kk i j := fun kk i j h8 h9 => by
                  have := hG3 kk i j h8 h9
                  unfold mix at this ⊢
                  by_cases q : plK kk = true
                  · rw [if_pos q] at this ⊢; rw [if_pos q]; exact this
                  · rw [if_neg q] at this ⊢; rw [if_neg q]
                    by_cases z : kk = 7 ∧ i = 0 ∧ (j = 32 ∨ j = 35)
                    · rw [if_pos z] at this ⊢; rw [if_pos z]; exact this
                    · rw [if_neg z, if_neg z]
                have hG9 : ∀ (kk : Nat) (i j : Int), kk ≠ 58 → kk ≠ 59 → (up1 (mix hi g3) 58 0 u (k + 1)) kk i j = mix hi g kk i j := fun kk i j h8 h9 => by
                  rw [up1_n (fun z => h8 z.1)]
                  exact hG3m kk i j h8 h9
                have hc9 : ∀ v, 0 ≤ v → v < u + 1 → (up1 (mix hi g3) 58 0 u (k + 1)) 58 0 v = se1 (g2 58 0) u (k + 1) v := fun v v0 v1 => by
                  by_cases z : v = u
                  · rw [z, up1_s, se1_s]
                  · rw [up1_n (by omega), se1_n z]
                    have := hc3 v v0 v1
                    rw [se1_n z] at this
                    exact this
                have hK9 := hK.chosen (k := k) (by omega) (by obtain ⟨v, v0, v1, v2⟩ := c47; exact ⟨v, v0, v1, by have := hc3 v v0 (by omega); rw [se1_n (by omega)] at this; omega⟩) hk.1
                refine r_goto (pc := 72) (tgt := 31) dX7_plans_72 rfl ?_
                refine r_hp (hi' := (mix hi (up1 (mix hi g3) 58 0 u (k + 1)))) (by exact mix_of (fun k i j h h7 => by rw [up1_n (fun z => by rw [z.1] at h; exact absurd h (by decide)), mix_n h h7])) ?_
                exact ih_loopK (k + 1) (up1 (mix hi g3) 58 0 u (k + 1)) (by omega) hG9 hc9 hK9 (by omega)
              · have hok9 : chO S (u + 1) (mix hi g3 58 0) := (hP.ok hu.2).add hu.1 (by omega) c47 hc3
                have hbr9 : brM (mix hi g3) = (brM (mix hi g)) := by
                  funext i v
                  show hi 30 0 (6 * g3 57 0 i + g3 55 0 v) = hi 30 0 (6 * g 57 0 i + g 55 0 v)
                  rw [hG3 57 0 i (by decide) (by decide), hG3 55 0 v (by decide) (by decide)]
                  rfl
                refine r_aload_n (pc := 50) dX7_plans_50 rfl ?_
                refine r_iload_n (pc := 51) dX7_plans_51 rfl ?_
                refine r_iconst (pc := 52) (n := 1) dX7_plans_52 (by decide) ?_
                refine r_iadd (pc := 53) dX7_plans_53 (by omega) ?_
                refine r_callV (pc := 54) (t := 7) (i := 0) (rest := []) (cs' := 0) (sl' := 0) mv_X7_227 (K_X7_leastFrom (hi := mix hi g3) (U := U) (S := S) (f := u + 1) hM.cst ⟨(show g3 7 0 32 = U by rw [hG3 7 0 32 (by decide) (by decide)]; exact hU), hU0⟩ ⟨(show g3 7 0 35 = S by rw [hG3 7 0 35 (by decide) (by decide)]; exact hS), hS0⟩ ⟨by omega, by omega⟩ hok9 (fun i i0 i1 => by rw [show mix hi g3 57 0 i = g 57 0 i from hG3 57 0 i (by decide) (by decide)]; exact hpw i i0 i1) (fun v v0 v1 => by rw [show mix hi g3 55 0 v = g 55 0 v from hG3 55 0 v (by decide) (by decide)]; exact hpu v v0 v1)) rfl ⟨(Nat.le_of_ble_eq_true rfl), (Nat.le_of_ble_eq_true rfl)⟩ (Nat.le_of_ble_eq_true rfl) dX7_plans_54 (show (0 : Int) ≤ 0 by omega) (show 0 < 1 by omega) ⟨rfl, (Nat.le_of_ble_eq_true rfl)⟩ ⟨rfl, (Nat.le_of_ble_eq_true rfl)⟩ rfl (fun r9 h9 hq9 => ?_) (fun E9 h9 hx9 => hx9.elim)
                obtain ⟨x, L, rfl, rfl, hLf, hx0, hx1⟩ := hq9
                have hLf9 := hLf.c hbr9 hc3
                show Run _ 57 _ [aI x] (hp (lsH (mix hi g3) L) nb nk) _ _ _ _
                refine r_iload_n (pc := 57) dX7_plans_57 rfl ?_
                refine r_icmp_eq (pc := 58) (tgt := 75) dX7_plans_58 rfl (fun c58 => ?_) (fun c58 => ?_)
                · refine r_aload_n (pc := 75) dX7_plans_75 rfl ?_
                  refine p_getQ (pc := 76) (jI := 36) (n9 := 1) (r := some (58, 0)) fl_X7_102 rfl dX7_plans_76 rfl rfl (by decide) (by decide) rfl ?_
                  refine r_iload_n (pc := 79) dX7_plans_79 rfl ?_
                  refine r_iload (pc := 80) dX7_plans_80 rfl ?_
                  refine r_aload_n (pc := 82) dX7_plans_82 rfl ?_
                  refine q_getI (pc := 83) (jI := 35) (n9 := 1) (v := S) fl_X7_210 rfl dX7_plans_83 rfl rfl (by decide) (by decide) (by show g3 7 0 35 = S; rw [hG3 7 0 35 (by decide) (by decide)]; exact hS) ?_
                  refine r_icmp_ge (pc := 86) (tgt := 94) dX7_plans_86 rfl (fun c86 => absurd c86 (by omega)) (fun c86 => ?_)
                  refine r_iload (pc := 89) dX7_plans_89 rfl ?_
                  refine r_goto (pc := 91) (tgt := 95) dX7_plans_91 rfl ?_
                  refine p_iast (pc := 95) (n9 := 1) (nI := 5) rfl dX7_plans_95 rfl (by decide) (by decide) rfl (by omega) (by omega) ?_
                  have hG3m : ∀ (kk : Nat) (i j : Int), kk ≠ 58 → kk ≠ 59 → mix hi g3 kk i j = mix hi g kk i j := fun kk i j h8 h9 => by
                    have := hG3 kk i j h8 h9
                    unfold mix at this ⊢
                    by_cases q : plK kk = true
                    · rw [if_pos q] at this ⊢; rw [if_pos q]; exact this
                    · rw [if_neg q] at this ⊢; rw [if_neg q]
                      by_cases z : kk = 7 ∧ i = 0 ∧ (j = 32 ∨ j = 35)
                      · rw [if_pos z] at this ⊢; rw [if_pos z]; exact this
                      · rw [if_neg z, if_neg z]
                  have hG9 : ∀ (kk : Nat) (i j : Int), kk ≠ 58 → kk ≠ 59 → (up1 (lsH (mix hi g3) L) 58 0 u k) kk i j = mix hi g kk i j := fun kk i j h8 h9 => by
                    rw [up1_n (fun z => h8 z.1), lsH_k h9]
                    exact hG3m kk i j h8 h9
                  have he9 : ∀ v, 0 ≤ v → v < u + 1 → (up1 (lsH (mix hi g3) L) 58 0 u k) 58 0 v = se1 (g2 58 0) u k v := fun v v0 v1 => by
                    by_cases z : v = u
                    · rw [z, up1_s, se1_s]
                    · rw [up1_n (by omega), se1_n z]
                      have := hc3 v v0 v1
                      rw [se1_n z] at this
                      exact this
                  have hP9 : PlI U S (brM (mix hi g)) C ((up1 (lsH (mix hi g3) L) 58 0 u k) 58 0) (u + 1) := PlI.ext (by omega) hP hK (by omega) (by rw [c58] at hLf9; exact hLf9) hC2 he9
                  refine r_iinc (pc := 96) (xs' := [some (aR 7 0), some (aI kd), some (aI C), some (aI (u + 1)), some (aI k)]) dX7_plans_96 rfl (by decide) (by omega) rfl ?_
                  refine r_goto (pc := 99) (tgt := 13) dX7_plans_99 rfl ?_
                  refine r_drop (xs' := [some (aR 7 0), some (aI kd), some (aI C), some (aI (u + 1)), none]) 4 rfl ?_
                  refine r_hp (hi' := (mix hi (up1 (lsH (mix hi g3) L) 58 0 u k))) (by exact mix_of (fun k i j h h7 => by rw [up1_n (fun z => by rw [z.1] at h; exact absurd h (by decide)), lsH_k (fun z => by rw [z] at h; exact absurd h (by decide)), mix_n h h7])) ?_
                  exact ih_loopU (u + 1) (up1 (lsH (mix hi g3) L) 58 0 u k) (by omega) hG9 hP9 (by omega)
                · refine r_iinc (pc := 61) (xs' := [some (aR 7 0), some (aI kd), some (aI C), some (aI u), some (aI (k + 1))]) dX7_plans_61 rfl (by decide) (by omega) rfl ?_
                  refine r_aload_n (pc := 64) dX7_plans_64 rfl ?_
                  refine p_getQ (pc := 65) (jI := 36) (n9 := 1) (r := some (58, 0)) fl_X7_102 rfl dX7_plans_65 rfl rfl (by decide) (by decide) rfl ?_
                  refine r_iload_n (pc := 68) dX7_plans_68 rfl ?_
                  refine r_iload (pc := 69) dX7_plans_69 rfl ?_
                  refine p_iast (pc := 71) (n9 := 1) (nI := 5) rfl dX7_plans_71 rfl (by decide) (by decide) rfl (by omega) (by omega) ?_
                  have hG3m : ∀ (kk : Nat) (i j : Int), kk ≠ 58 → kk ≠ 59 → mix hi g3 kk i j = mix hi g kk i j := fun kk i j h8 h9 => by
                    have := hG3 kk i j h8 h9
                    unfold mix at this ⊢
                    by_cases q : plK kk = true
                    · rw [if_pos q] at this ⊢; rw [if_pos q]; exact this
                    · rw [if_neg q] at this ⊢; rw [if_neg q]
                      by_cases z : kk = 7 ∧ i = 0 ∧ (j = 32 ∨ j = 35)
                      · rw [if_pos z] at this ⊢; rw [if_pos z]; exact this
                      · rw [if_neg z, if_neg z]
                  have hG9 : ∀ (kk : Nat) (i j : Int), kk ≠ 58 → kk ≠ 59 → (up1 (lsH (mix hi g3) L) 58 0 u (k + 1)) kk i j = mix hi g kk i j := fun kk i j h8 h9 => by
                    rw [up1_n (fun z => h8 z.1), lsH_k h9]
                    exact hG3m kk i j h8 h9
                  have hc9 : ∀ v, 0 ≤ v → v < u + 1 → (up1 (lsH (mix hi g3) L) 58 0 u (k + 1)) 58 0 v = se1 (g2 58 0) u (k + 1) v := fun v v0 v1 => by
                    by_cases z : v = u
                    · rw [z, up1_s, se1_s]
                    · rw [up1_n (by omega), se1_n z]
                      have := hc3 v v0 v1
                      rw [se1_n z] at this
                      exact this
                  have hK9 := hK.other hP hLf9 (by omega) hC2
                  refine r_goto (pc := 72) (tgt := 31) dX7_plans_72 rfl ?_
                  refine r_hp (hi' := (mix hi (up1 (lsH (mix hi g3) L) 58 0 u (k + 1)))) (by exact mix_of (fun k i j h h7 => by rw [up1_n (fun z => by rw [z.1] at h; exact absurd h (by decide)), lsH_k (fun z => by rw [z] at h; exact absurd h (by decide)), mix_n h h7])) ?_
                  exact ih_loopK (k + 1) (up1 (lsH (mix hi g3) L) 58 0 u (k + 1)) (by omega) hG9 hc9 hK9 (by omega)
        refine r_hp (hi' := (mix hi (up1 (mix hi g2) 58 0 u 0))) (by exact mix_of (fun k i j h h7 => by rw [up1_n (fun z => by rw [z.1] at h; exact absurd h (by decide)), mix_n h h7])) ?_
        exact loopK 41 0 (up1 (mix hi g2) 58 0 u 0) (by omega) (fun k i j h8 h9 => by rw [up1_n (fun z => h8 z.1)]; exact hGm k i j h8 h9) (fun v v0 v1 => by by_cases z : v = u; (rw [z, up1_s, se1_s]); (rw [up1_n (by omega), se1_n z]; rfl)) (fun b _ _ z => by omega) (by omega)
  refine r_hp (hi' := (mix hi (lsH (mix hi g) L))) (by exact mix_of (fun k i j h h7 => by rw [lsH_k (fun z => by rw [z] at h; exact absurd h (by decide)), mix_n h h7])) ?_
  exact loopU 6 0 (lsH (mix hi g) L) (by omega) (fun k i j h8 h9 => by rw [lsH_k h9]) hP0 (by omega)
