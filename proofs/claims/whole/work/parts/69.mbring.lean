/-! ===== the reference: broughtFor, bring, brings; the law's bring, brings (walks printed by wip/whole/tools/g69.py) ===== -/
theorem K_X7_broughtFor {hi : Hi} {nb nk : Int} (hM : MV hi nb nk) {kd u : Int} (hl : ∀ p, 0 ≤ laaM hi nb nk kd p) (ht : sI (laaM hi nb nk kd) 6 ≤ 5) (hu : 0 ≤ u) : Con I_X7_broughtFor [aR 7 0, aI kd, aI u] (hp hi nb nk) (fun r h => ∃ (g : Hi) (C : Int), r = some (aI (if sI (laaM hi nb nk kd) 6 ≤ u then -1 else if g 58 0 u = -1 then -1 else g 56 0 (g 58 0 u))) ∧ h = hp (mix hi g) nb nk ∧ PlnM hi nb nk kd C g) (fun _ _ => False) := by
  have hN := hM.num
  unfold mNum at hN
  refine st_r (xs := [some (aR 7 0), some (aI kd), some (aI u), none]) pn_X7 rfl rfl (Nat.le_of_ble_eq_true rfl) rfl rfl (fun Q X hQ hX => ?_)
  refine r_aload_n (pc := 0) dX7_broughtFor_0 rfl ?_
  refine r_iload_n (pc := 1) dX7_broughtFor_1 rfl ?_
  refine r_callV (pc := 2) (t := 7) (i := 0) (rest := []) (cs' := 0) (sl' := 0) mv_X7_233 (K_X7_plans (hi := hi) hM hl (by omega)) rfl ⟨(Nat.le_of_ble_eq_true rfl), (Nat.le_of_ble_eq_true rfl)⟩ (Nat.le_of_ble_eq_true rfl) dX7_broughtFor_2 (show (0 : Int) ≤ 0 by omega) (show 0 < 1 by omega) ⟨rfl, (Nat.le_of_ble_eq_true rfl)⟩ ⟨rfl, (Nat.le_of_ble_eq_true rfl)⟩ rfl (fun r9 h9 hq9 => ?_) (fun E9 h9 hx9 => hx9.elim)
  obtain ⟨g, C, rfl, rfl, hP⟩ := hq9
  show Run _ 5 _ [aI C] (hp (mix hi g) nb nk) _ _ _ _
  refine r_istore_n (pc := 5) (xs' := [some (aR 7 0), some (aI kd), some (aI u), some (aI C)]) dX7_broughtFor_5 (by decide) rfl ?_
  refine r_iload_n (pc := 6) dX7_broughtFor_6 rfl ?_
  refine r_if_lt (pc := 7) (tgt := 28) dX7_broughtFor_7 rfl (fun c7 => absurd hP.2.2 (by omega)) (fun c7 => ?_)
  have hT9 : g 7 0 32 = sI (laaM hi nb nk kd) 6 := hP.1.2.1
  have hr9 := fun (z : u < sI (laaM hi nb nk kd) 6) => hP.2.1.1.rng u hu z
  have hov := ovI_r (P := ovM hi nb nk kd) (n := nb) (by omega)
  refine r_iload_n (pc := 10) dX7_broughtFor_10 rfl ?_
  refine r_aload_n (pc := 11) dX7_broughtFor_11 rfl ?_
  refine q_getI (pc := 12) (jI := 32) (n9 := 1) (v := g 7 0 32) fl_X7_207 rfl dX7_broughtFor_12 rfl rfl (by decide) (by decide) (by rfl) ?_
  refine r_icmp_ge (pc := 15) (tgt := 28) dX7_broughtFor_15 rfl (fun c15 => ?_) (fun c15 => ?_)
  · refine r_iconst (pc := 28) (n := (-1)) dX7_broughtFor_28 (by decide) ?_
    refine r_goto (pc := 29) (tgt := 43) dX7_broughtFor_29 rfl ?_
    refine r_iret (pc := 43) dX7_broughtFor_43 (Or.inl rfl) (Nat.le_of_ble_eq_true rfl) (Nat.le_of_ble_eq_true rfl) ?_
    have e9 : (if sI (laaM hi nb nk kd) 6 ≤ u then -1 else if g 58 0 u = -1 then -1 else g 56 0 (g 58 0 u)) = (-1) := by rw [if_pos (by omega)]
    exact hQ _ _ ⟨g, C, by rw [e9], rfl, hP⟩
  · refine r_aload_n (pc := 18) dX7_broughtFor_18 rfl ?_
    refine p_getQ (pc := 19) (jI := 36) (n9 := 1) (r := some (58, 0)) fl_X7_102 rfl dX7_broughtFor_19 rfl rfl (by decide) (by decide) rfl ?_
    refine r_iload_n (pc := 22) dX7_broughtFor_22 rfl ?_
    refine q_iald (pc := 23) (n9 := 1) (nI := 5) (v := g 58 0 u) rfl dX7_broughtFor_23 rfl (by decide) (by decide) rfl (by omega) (by omega) (by rfl) ?_
    refine r_iconst (pc := 24) (n := (-1)) dX7_broughtFor_24 (by decide) ?_
    refine r_icmp_ne (pc := 25) (tgt := 32) dX7_broughtFor_25 rfl (fun c25 => ?_) (fun c25 => ?_)
    · refine r_aload_n (pc := 32) dX7_broughtFor_32 rfl ?_
      refine p_getQ (pc := 33) (jI := 33) (n9 := 1) (r := some (56, 0)) fl_X7_96 rfl dX7_broughtFor_33 rfl rfl (by decide) (by decide) rfl ?_
      refine r_aload_n (pc := 36) dX7_broughtFor_36 rfl ?_
      refine p_getQ (pc := 37) (jI := 36) (n9 := 1) (r := some (58, 0)) fl_X7_102 rfl dX7_broughtFor_37 rfl rfl (by decide) (by decide) rfl ?_
      refine r_iload_n (pc := 40) dX7_broughtFor_40 rfl ?_
      refine q_iald (pc := 41) (n9 := 1) (nI := 5) (v := g 58 0 u) rfl dX7_broughtFor_41 rfl (by decide) (by decide) rfl (by omega) (by omega) (by rfl) ?_
      refine q_iald (pc := 42) (n9 := 1) (nI := 40) (v := g 56 0 (g 58 0 u)) rfl dX7_broughtFor_42 rfl (by decide) (by decide) rfl (by omega) (by omega) (by rfl) ?_
      refine r_iret (pc := 43) dX7_broughtFor_43 (Or.inl rfl) (Nat.le_of_ble_eq_true rfl) (Nat.le_of_ble_eq_true rfl) ?_
      have e9 : (if sI (laaM hi nb nk kd) 6 ≤ u then -1 else if g 58 0 u = -1 then -1 else g 56 0 (g 58 0 u)) = g 56 0 (g 58 0 u) := by rw [if_neg (by omega), if_neg c25]
      exact hQ _ _ ⟨g, C, by rw [e9], rfl, hP⟩
    · refine r_iconst (pc := 28) (n := (-1)) dX7_broughtFor_28 (by decide) ?_
      refine r_goto (pc := 29) (tgt := 43) dX7_broughtFor_29 rfl ?_
      refine r_iret (pc := 43) dX7_broughtFor_43 (Or.inl rfl) (Nat.le_of_ble_eq_true rfl) (Nat.le_of_ble_eq_true rfl) ?_
      have e9 : (if sI (laaM hi nb nk kd) 6 ≤ u then -1 else if g 58 0 u = -1 then -1 else g 56 0 (g 58 0 u)) = (-1) := by rw [if_neg (by omega), if_pos c25]
      exact hQ _ _ ⟨g, C, by rw [e9], rfl, hP⟩

noncomputable def mdB (hi : Hi) (nb nk kd : Int) : Int := if ¬ (0 ≤ kd ∧ kd < 3) then 1 else if 5 < laoM hi nb nk kd then 2 else 0
noncomputable def mdS (hi : Hi) (nb nk kd u : Int) : Int := if ¬ (0 ≤ kd ∧ kd < 3) then 1 else if u < 0 then 2 else if 5 < laoM hi nb nk kd then 3 else 0
theorem laoM_e {hi : Hi} {nb nk kd : Int} : laoM hi nb nk kd = sI (laaM hi nb nk kd) 6 := rfl
theorem K_X7_bring {hi : Hi} {nb nk : Int} (hM : MV hi nb nk) {kd : Int} (hl : ∀ p, 0 ≤ laaM hi nb nk kd p) : Con I_X7_bring [aR 7 0, aI kd] (hp hi nb nk) (fun r h => (mdB hi nb nk kd = 0 ∧ ∃ (g : Hi) (C : Int), r = some (aI C) ∧ h = hp (mix (thr hi) g) nb nk ∧ PlnM (thr hi) nb nk kd C g) ∨ (mdB hi nb nk kd ≠ 0 ∧ r = some (aI 0) ∧ h = hp (up1 hi 7 0 0 (mdB hi nb nk kd)) nb nk)) (fun _ _ => False) := by
  have hN := hM.num
  unfold mNum at hN
  have hT := hM.thrV
  have hlo := laoM_e (hi := hi) (nb := nb) (nk := nk) (kd := kd)
  refine st_r (xs := [some (aR 7 0), some (aI kd), none]) pn_X7 rfl rfl (Nat.le_of_ble_eq_true rfl) rfl rfl (fun Q X hQ hX => ?_)
  refine r_iload_n (pc := 0) dX7_bring_0 rfl ?_
  refine d1_S (pc := 1) (rest := []) (cs' := 0) (sl' := 0) ms_X7_128 rfl (K_X7_isKind (p := kd)) rfl ⟨(Nat.le_of_ble_eq_true rfl), (Nat.le_of_ble_eq_true rfl)⟩ (Nat.le_of_ble_eq_true rfl) dX7_bring_1 ⟨rfl, (Nat.le_of_ble_eq_true rfl)⟩ ⟨rfl, (Nat.le_of_ble_eq_true rfl)⟩ rfl ?_
  refine r_istore_n (pc := 4) (xs' := [some (aR 7 0), some (aI kd), some (aI (bI (0 ≤ kd ∧ kd < 3)))]) dX7_bring_4 (by decide) rfl ?_
  refine r_aload_n (pc := 5) dX7_bring_5 rfl ?_
  refine r_iload_n (pc := 6) dX7_bring_6 rfl ?_
  refine q_ifneB (pc := 7) (tgt := 14) dX7_bring_7 rfl (fun c7 => ?_) (fun c7 => ?_)
  · refine r_aload_n (pc := 14) dX7_bring_14 rfl ?_
    refine r_iload_n (pc := 15) dX7_bring_15 rfl ?_
    refine d1_V (pc := 16) (t := 7) (i := 0) (rest := [aR 7 0]) (cs' := 0) (sl' := 0) mv_X7_230 (K_X7_lacksOf hM (kd := kd)) rfl ⟨(Nat.le_of_ble_eq_true rfl), (Nat.le_of_ble_eq_true rfl)⟩ (Nat.le_of_ble_eq_true rfl) dX7_bring_16 (show (0 : Int) ≤ 0 by omega) (show 0 < 1 by omega) ⟨rfl, (Nat.le_of_ble_eq_true rfl)⟩ ⟨rfl, (Nat.le_of_ble_eq_true rfl)⟩ rfl ?_
    refine r_iconst (pc := 19) (n := 5) dX7_bring_19 (by decide) ?_
    refine r_icmp_le (pc := 20) (tgt := 27) dX7_bring_20 rfl (fun c20 => ?_) (fun c20 => ?_)
    · refine r_iconst (pc := 27) (n := 0) dX7_bring_27 (by decide) ?_
      refine d1_V (pc := 28) (t := 7) (i := 0) (rest := []) (cs' := 0) (sl' := 0) mv_X7_125 (K_X7_holds (hi := hi) (e := 0) (v := 1) (by decide)) rfl ⟨(Nat.le_of_ble_eq_true rfl), (Nat.le_of_ble_eq_true rfl)⟩ (Nat.le_of_ble_eq_true rfl) dX7_bring_28 (show (0 : Int) ≤ 0 by omega) (show 0 < 1 by omega) ⟨rfl, (Nat.le_of_ble_eq_true rfl)⟩ ⟨rfl, (Nat.le_of_ble_eq_true rfl)⟩ rfl ?_
      refine r_hp (hi' := thr hi) rfl ?_
      refine r_if_eq (pc := 31) (tgt := 42) dX7_bring_31 rfl (fun z => absurd z (by decide)) (fun _ => ?_)
      refine r_aload_n (pc := 34) dX7_bring_34 rfl ?_
      refine r_iload_n (pc := 35) dX7_bring_35 rfl ?_
      refine r_callV (pc := 36) (t := 7) (i := 0) (rest := []) (cs' := 0) (sl' := 0) mv_X7_233 (K_X7_plans (hi := thr hi) hT hl (show sI (laaM hi nb nk kd) 6 ≤ 5 by omega)) rfl ⟨(Nat.le_of_ble_eq_true rfl), (Nat.le_of_ble_eq_true rfl)⟩ (Nat.le_of_ble_eq_true rfl) dX7_bring_36 (show (0 : Int) ≤ 0 by omega) (show 0 < 1 by omega) ⟨rfl, (Nat.le_of_ble_eq_true rfl)⟩ ⟨rfl, (Nat.le_of_ble_eq_true rfl)⟩ rfl (fun r9 h9 hq9 => ?_) (fun E9 h9 hx9 => hx9.elim)
      obtain ⟨g, C, rfl, rfl, hP⟩ := hq9
      show Run _ 39 _ [aI C] (hp (mix (thr hi) g) nb nk) _ _ _ _
      refine r_goto (pc := 39) (tgt := 43) dX7_bring_39 rfl ?_
      refine r_iret (pc := 43) dX7_bring_43 (Or.inl rfl) (Nat.le_of_ble_eq_true rfl) (Nat.le_of_ble_eq_true rfl) ?_
      have e9 : mdB hi nb nk kd = 0 := by unfold mdB; (repeat' split) <;> omega
      exact hQ _ _ (Or.inl ⟨e9, g, C, rfl, rfl, hP⟩)
    · refine r_iconst (pc := 23) (n := 2) dX7_bring_23 (by decide) ?_
      refine r_goto (pc := 24) (tgt := 28) dX7_bring_24 rfl ?_
      refine d1_V (pc := 28) (t := 7) (i := 0) (rest := []) (cs' := 0) (sl' := 0) mv_X7_125 (K_X7_holds (hi := hi) (e := 2) (v := 0) (by decide)) rfl ⟨(Nat.le_of_ble_eq_true rfl), (Nat.le_of_ble_eq_true rfl)⟩ (Nat.le_of_ble_eq_true rfl) dX7_bring_28 (show (0 : Int) ≤ 0 by omega) (show 0 < 1 by omega) ⟨rfl, (Nat.le_of_ble_eq_true rfl)⟩ ⟨rfl, (Nat.le_of_ble_eq_true rfl)⟩ rfl ?_
      refine r_if_eq (pc := 31) (tgt := 42) dX7_bring_31 rfl (fun _ => ?_) (fun z => absurd z (by decide))
      refine r_iconst (pc := 42) (n := 0) dX7_bring_42 (by decide) ?_
      refine r_iret (pc := 43) dX7_bring_43 (Or.inl rfl) (Nat.le_of_ble_eq_true rfl) (Nat.le_of_ble_eq_true rfl) ?_
      have e9 : mdB hi nb nk kd = 2 := by unfold mdB; (repeat' split) <;> omega
      exact hQ _ _ (Or.inr ⟨by rw [e9]; decide, rfl, by rw [e9]⟩)
  · refine r_iconst (pc := 10) (n := 1) dX7_bring_10 (by decide) ?_
    refine r_goto (pc := 11) (tgt := 28) dX7_bring_11 rfl ?_
    refine d1_V (pc := 28) (t := 7) (i := 0) (rest := []) (cs' := 0) (sl' := 0) mv_X7_125 (K_X7_holds (hi := hi) (e := 1) (v := 0) (by decide)) rfl ⟨(Nat.le_of_ble_eq_true rfl), (Nat.le_of_ble_eq_true rfl)⟩ (Nat.le_of_ble_eq_true rfl) dX7_bring_28 (show (0 : Int) ≤ 0 by omega) (show 0 < 1 by omega) ⟨rfl, (Nat.le_of_ble_eq_true rfl)⟩ ⟨rfl, (Nat.le_of_ble_eq_true rfl)⟩ rfl ?_
    refine r_if_eq (pc := 31) (tgt := 42) dX7_bring_31 rfl (fun _ => ?_) (fun z => absurd z (by decide))
    refine r_iconst (pc := 42) (n := 0) dX7_bring_42 (by decide) ?_
    refine r_iret (pc := 43) dX7_bring_43 (Or.inl rfl) (Nat.le_of_ble_eq_true rfl) (Nat.le_of_ble_eq_true rfl) ?_
    have e9 : mdB hi nb nk kd = 1 := by unfold mdB; (repeat' split) <;> omega
    exact hQ _ _ (Or.inr ⟨by rw [e9]; decide, rfl, by rw [e9]⟩)

theorem K_X7_brings {hi : Hi} {nb nk : Int} (hM : MV hi nb nk) {kd u : Int} (hl : ∀ p, 0 ≤ laaM hi nb nk kd p) : Con I_X7_brings [aR 7 0, aI kd, aI u] (hp hi nb nk) (fun r h => (mdS hi nb nk kd u = 0 ∧ ∃ (g : Hi) (C : Int), r = some (aI (if sI (laaM (thr hi) nb nk kd) 6 ≤ u then -1 else if g 58 0 u = -1 then -1 else g 56 0 (g 58 0 u))) ∧ h = hp (mix (thr hi) g) nb nk ∧ PlnM (thr hi) nb nk kd C g) ∨ (mdS hi nb nk kd u ≠ 0 ∧ r = some (aI 0) ∧ h = hp (up1 hi 7 0 0 (mdS hi nb nk kd u)) nb nk)) (fun _ _ => False) := by
  have hN := hM.num
  unfold mNum at hN
  have hT := hM.thrV
  have hlo := laoM_e (hi := hi) (nb := nb) (nk := nk) (kd := kd)
  refine st_r (xs := [some (aR 7 0), some (aI kd), some (aI u), none]) pn_X7 rfl rfl (Nat.le_of_ble_eq_true rfl) rfl rfl (fun Q X hQ hX => ?_)
  refine r_iload_n (pc := 0) dX7_brings_0 rfl ?_
  refine d1_S (pc := 1) (rest := []) (cs' := 0) (sl' := 0) ms_X7_128 rfl (K_X7_isKind (p := kd)) rfl ⟨(Nat.le_of_ble_eq_true rfl), (Nat.le_of_ble_eq_true rfl)⟩ (Nat.le_of_ble_eq_true rfl) dX7_brings_1 ⟨rfl, (Nat.le_of_ble_eq_true rfl)⟩ ⟨rfl, (Nat.le_of_ble_eq_true rfl)⟩ rfl ?_
  refine r_istore_n (pc := 4) (xs' := [some (aR 7 0), some (aI kd), some (aI u), some (aI (bI (0 ≤ kd ∧ kd < 3)))]) dX7_brings_4 (by decide) rfl ?_
  refine r_aload_n (pc := 5) dX7_brings_5 rfl ?_
  refine r_iload_n (pc := 6) dX7_brings_6 rfl ?_
  refine q_ifneB (pc := 7) (tgt := 14) dX7_brings_7 rfl (fun c7 => ?_) (fun c7 => ?_)
  · refine r_iload_n (pc := 14) dX7_brings_14 rfl ?_
    refine r_if_ge (pc := 15) (tgt := 22) dX7_brings_15 rfl (fun c15 => ?_) (fun c15 => ?_)
    · refine r_aload_n (pc := 22) dX7_brings_22 rfl ?_
      refine r_iload_n (pc := 23) dX7_brings_23 rfl ?_
      refine d1_V (pc := 24) (t := 7) (i := 0) (rest := [aR 7 0]) (cs' := 0) (sl' := 0) mv_X7_230 (K_X7_lacksOf hM (kd := kd)) rfl ⟨(Nat.le_of_ble_eq_true rfl), (Nat.le_of_ble_eq_true rfl)⟩ (Nat.le_of_ble_eq_true rfl) dX7_brings_24 (show (0 : Int) ≤ 0 by omega) (show 0 < 1 by omega) ⟨rfl, (Nat.le_of_ble_eq_true rfl)⟩ ⟨rfl, (Nat.le_of_ble_eq_true rfl)⟩ rfl ?_
      refine r_iconst (pc := 27) (n := 5) dX7_brings_27 (by decide) ?_
      refine r_icmp_le (pc := 28) (tgt := 35) dX7_brings_28 rfl (fun c28 => ?_) (fun c28 => ?_)
      · refine r_iconst (pc := 35) (n := 0) dX7_brings_35 (by decide) ?_
        refine d1_V (pc := 36) (t := 7) (i := 0) (rest := []) (cs' := 0) (sl' := 0) mv_X7_125 (K_X7_holds (hi := hi) (e := 0) (v := 1) (by decide)) rfl ⟨(Nat.le_of_ble_eq_true rfl), (Nat.le_of_ble_eq_true rfl)⟩ (Nat.le_of_ble_eq_true rfl) dX7_brings_36 (show (0 : Int) ≤ 0 by omega) (show 0 < 1 by omega) ⟨rfl, (Nat.le_of_ble_eq_true rfl)⟩ ⟨rfl, (Nat.le_of_ble_eq_true rfl)⟩ rfl ?_
        refine r_hp (hi' := thr hi) rfl ?_
        refine r_if_eq (pc := 39) (tgt := 51) dX7_brings_39 rfl (fun z => absurd z (by decide)) (fun _ => ?_)
        refine r_aload_n (pc := 42) dX7_brings_42 rfl ?_
        refine r_iload_n (pc := 43) dX7_brings_43 rfl ?_
        refine r_iload_n (pc := 44) dX7_brings_44 rfl ?_
        refine r_callV (pc := 45) (t := 7) (i := 0) (rest := []) (cs' := 0) (sl' := 0) mv_X7_236 (K_X7_broughtFor (hi := thr hi) hT hl (show sI (laaM hi nb nk kd) 6 ≤ 5 by omega) (by omega)) rfl ⟨(Nat.le_of_ble_eq_true rfl), (Nat.le_of_ble_eq_true rfl)⟩ (Nat.le_of_ble_eq_true rfl) dX7_brings_45 (show (0 : Int) ≤ 0 by omega) (show 0 < 1 by omega) ⟨rfl, (Nat.le_of_ble_eq_true rfl)⟩ ⟨rfl, (Nat.le_of_ble_eq_true rfl)⟩ rfl (fun r9 h9 hq9 => ?_) (fun E9 h9 hx9 => hx9.elim)
        obtain ⟨g, C, rfl, rfl, hP⟩ := hq9
        show Run _ 48 _ [aI (if sI (laaM (thr hi) nb nk kd) 6 ≤ u then -1 else if g 58 0 u = -1 then -1 else g 56 0 (g 58 0 u))] (hp (mix (thr hi) g) nb nk) _ _ _ _
        refine r_goto (pc := 48) (tgt := 52) dX7_brings_48 rfl ?_
        refine r_iret (pc := 52) dX7_brings_52 (Or.inl rfl) (Nat.le_of_ble_eq_true rfl) (Nat.le_of_ble_eq_true rfl) ?_
        have e9 : mdS hi nb nk kd u = 0 := by unfold mdS; (repeat' split) <;> omega
        exact hQ _ _ (Or.inl ⟨e9, g, C, rfl, rfl, hP⟩)
      · refine r_iconst (pc := 31) (n := 3) dX7_brings_31 (by decide) ?_
        refine r_goto (pc := 32) (tgt := 36) dX7_brings_32 rfl ?_
        refine d1_V (pc := 36) (t := 7) (i := 0) (rest := []) (cs' := 0) (sl' := 0) mv_X7_125 (K_X7_holds (hi := hi) (e := 3) (v := 0) (by decide)) rfl ⟨(Nat.le_of_ble_eq_true rfl), (Nat.le_of_ble_eq_true rfl)⟩ (Nat.le_of_ble_eq_true rfl) dX7_brings_36 (show (0 : Int) ≤ 0 by omega) (show 0 < 1 by omega) ⟨rfl, (Nat.le_of_ble_eq_true rfl)⟩ ⟨rfl, (Nat.le_of_ble_eq_true rfl)⟩ rfl ?_
        refine r_if_eq (pc := 39) (tgt := 51) dX7_brings_39 rfl (fun _ => ?_) (fun z => absurd z (by decide))
        refine r_iconst (pc := 51) (n := 0) dX7_brings_51 (by decide) ?_
        refine r_iret (pc := 52) dX7_brings_52 (Or.inl rfl) (Nat.le_of_ble_eq_true rfl) (Nat.le_of_ble_eq_true rfl) ?_
        have e9 : mdS hi nb nk kd u = 3 := by unfold mdS; (repeat' split) <;> omega
        exact hQ _ _ (Or.inr ⟨by rw [e9]; decide, rfl, by rw [e9]⟩)
    · refine r_iconst (pc := 18) (n := 2) dX7_brings_18 (by decide) ?_
      refine r_goto (pc := 19) (tgt := 36) dX7_brings_19 rfl ?_
      refine d1_V (pc := 36) (t := 7) (i := 0) (rest := []) (cs' := 0) (sl' := 0) mv_X7_125 (K_X7_holds (hi := hi) (e := 2) (v := 0) (by decide)) rfl ⟨(Nat.le_of_ble_eq_true rfl), (Nat.le_of_ble_eq_true rfl)⟩ (Nat.le_of_ble_eq_true rfl) dX7_brings_36 (show (0 : Int) ≤ 0 by omega) (show 0 < 1 by omega) ⟨rfl, (Nat.le_of_ble_eq_true rfl)⟩ ⟨rfl, (Nat.le_of_ble_eq_true rfl)⟩ rfl ?_
      refine r_if_eq (pc := 39) (tgt := 51) dX7_brings_39 rfl (fun _ => ?_) (fun z => absurd z (by decide))
      refine r_iconst (pc := 51) (n := 0) dX7_brings_51 (by decide) ?_
      refine r_iret (pc := 52) dX7_brings_52 (Or.inl rfl) (Nat.le_of_ble_eq_true rfl) (Nat.le_of_ble_eq_true rfl) ?_
      have e9 : mdS hi nb nk kd u = 2 := by unfold mdS; (repeat' split) <;> omega
      exact hQ _ _ (Or.inr ⟨by rw [e9]; decide, rfl, by rw [e9]⟩)
  · refine r_iconst (pc := 10) (n := 1) dX7_brings_10 (by decide) ?_
    refine r_goto (pc := 11) (tgt := 36) dX7_brings_11 rfl ?_
    refine d1_V (pc := 36) (t := 7) (i := 0) (rest := []) (cs' := 0) (sl' := 0) mv_X7_125 (K_X7_holds (hi := hi) (e := 1) (v := 0) (by decide)) rfl ⟨(Nat.le_of_ble_eq_true rfl), (Nat.le_of_ble_eq_true rfl)⟩ (Nat.le_of_ble_eq_true rfl) dX7_brings_36 (show (0 : Int) ≤ 0 by omega) (show 0 < 1 by omega) ⟨rfl, (Nat.le_of_ble_eq_true rfl)⟩ ⟨rfl, (Nat.le_of_ble_eq_true rfl)⟩ rfl ?_
    refine r_if_eq (pc := 39) (tgt := 51) dX7_brings_39 rfl (fun _ => ?_) (fun z => absurd z (by decide))
    refine r_iconst (pc := 51) (n := 0) dX7_brings_51 (by decide) ?_
    refine r_iret (pc := 52) dX7_brings_52 (Or.inl rfl) (Nat.le_of_ble_eq_true rfl) (Nat.le_of_ble_eq_true rfl) ?_
    have e9 : mdS hi nb nk kd u = 1 := by unfold mdS; (repeat' split) <;> omega
    exact hQ _ _ (Or.inr ⟨by rw [e9]; decide, rfl, by rw [e9]⟩)

theorem W_bring {hi : Hi} {nb nk : Int} (hI : Inv hi nb nk) {kd : Int} : Con I_L_bring [aR 6 0, aI kd, aR 60 0] (hp hi nb nk) (fun r h => ∃ g : Hi, (cdB hi nk kd = 0 ∧ r = some (aI 0) ∧ h = hp (up1 (mix hi g) 60 0 0 (g 5 0 10)) nb nk ∧ PlnC hi nb nk kd g) ∨ (cdB hi nk kd ≠ 0 ∧ r = some (aI (cdB hi nk kd)) ∧ h = hp (mix hi g) nb nk)) (fun _ _ => False) := by
  refine st_r (xs := [some (aR 6 0), some (aI kd), some (aR 60 0), none]) pn_L rfl rfl (Nat.le_of_ble_eq_true rfl) rfl rfl (fun Q X hQ hX => ?_)
  refine r_aload_n (pc := 0) dL_bring_0 rfl ?_
  refine r_iconst (pc := 1) (n := 0) dL_bring_1 (by decide) ?_
  refine r_aload_n (pc := 2) dL_bring_2 rfl ?_
  refine r_iload_n (pc := 3) dL_bring_3 rfl ?_
  refine r_callV (pc := 4) (t := 6) (i := 0) (rest := [aI 0, aR 60 0]) (cs' := 2) (sl' := 12) mv_L_75 (K_X6_bring hI) rfl ⟨(Nat.le_of_ble_eq_true rfl), (Nat.le_of_ble_eq_true rfl)⟩ (Nat.le_of_ble_eq_true rfl) dL_bring_4 (show (0 : Int) ≤ 0 by decide) (show (0 : Int) < 1 by decide) ⟨rfl, (Nat.le_of_ble_eq_true rfl)⟩ ⟨rfl, (Nat.le_of_ble_eq_true rfl)⟩ rfl (fun r9 h9 hq9 => ?_) (fun E9 h9 hx9 => ?_)
  · obtain ⟨hc9, g, rfl, rfl, hP⟩ := hq9
    show Run _ 7 _ [aI (g 5 0 10), aI 0, aR 60 0] (hp (mix hi g) nb nk) _ _ _ _
    refine r_i2l (pc := 7) dL_bring_7 ?_
    refine p_last (pc := 8) (n9 := 1) (nI := 1) rfl dL_bring_8 rfl (by decide) (by decide) rfl (by omega) (by omega) ?_
    refine r_goto (pc := 9) (tgt := 18) dL_bring_9 rfl ?_
    refine r_iconst (pc := 18) (n := 0) dL_bring_18 (by decide) ?_
    refine r_iret (pc := 19) dL_bring_19 (Or.inl rfl) (Nat.le_of_ble_eq_true rfl) (Nat.le_of_ble_eq_true rfl) ?_
    exact hQ _ _ ⟨g, Or.inl ⟨hc9, rfl, rfl, hP⟩⟩
  · obtain ⟨g, rfl, hx9⟩ := hx9
    rcases hx9 with ⟨rfl, hx9⟩ | ⟨rfl, hx9⟩
    · refine rx_catch (pre := []) (suf := [(0, 9, 15, 20)]) (x := (0, 9, 12, 15)) (i := 3) (ln := 1) (xs' := [some (aR 6 0), some (aI kd), some (aR 60 0), none]) rfl ⟨by decide, by decide⟩ (by decide) hl_15 cs_IA (fun z hz => by cases hz) (Or.inr ⟨3, dL_bring_12, rfl, rfl⟩) (by decide) rfl ?_
      show Run _ 13 _ _ _ _ _ _ _
      refine r_iconst (pc := 13) (n := 1) dL_bring_13 (by decide) ?_
      refine r_iret (pc := 14) dL_bring_14 (Or.inl rfl) (Nat.le_of_ble_eq_true rfl) (Nat.le_of_ble_eq_true rfl) ?_
      exact hQ _ _ ⟨g, Or.inr ⟨by rw [hx9]; decide, by rw [hx9], rfl⟩⟩
    · refine rx_catch (pre := [(0, 9, 12, 15)]) (suf := []) (x := (0, 9, 15, 20)) (i := 3) (ln := 1) (xs' := [some (aR 6 0), some (aI kd), some (aR 60 0), none]) rfl ⟨by decide, by decide⟩ (by decide) hl_20 cs_IS (fun z hz => by rcases List.mem_singleton.mp hz with rfl; exact ⟨by decide, _, hl_15, by simp⟩) (Or.inr ⟨3, dL_bring_15, rfl, rfl⟩) (by decide) rfl ?_
      show Run _ 16 _ _ _ _ _ _ _
      refine r_iconst (pc := 16) (n := 2) dL_bring_16 (by decide) ?_
      refine r_iret (pc := 17) dL_bring_17 (Or.inl rfl) (Nat.le_of_ble_eq_true rfl) (Nat.le_of_ble_eq_true rfl) ?_
      exact hQ _ _ ⟨g, Or.inr ⟨by rw [hx9]; decide, by rw [hx9], rfl⟩⟩

theorem W_brings {hi : Hi} {nb nk : Int} (hI : Inv hi nb nk) {kd u : Int} : Con I_L_brings [aR 6 0, aI kd, aI u, aR 60 0] (hp hi nb nk) (fun r h => ∃ g : Hi, (cdS hi nk kd u = 0 ∧ r = some (aI 0) ∧ h = hp (up1 (mix hi g) 60 0 0 (if 0 ≤ u ∧ u < g 5 0 8 ∧ u < 5 then g 20 0 u else -1)) nb nk ∧ PlnC hi nb nk kd g) ∨ (cdS hi nk kd u ≠ 0 ∧ r = some (aI (cdS hi nk kd u)) ∧ h = hp (mix hi g) nb nk)) (fun _ _ => False) := by
  refine st_r (xs := [some (aR 6 0), some (aI kd), some (aI u), some (aR 60 0), none]) pn_L rfl rfl (Nat.le_of_ble_eq_true rfl) rfl rfl (fun Q X hQ hX => ?_)
  refine r_aload_n (pc := 0) dL_brings_0 rfl ?_
  refine r_iconst (pc := 1) (n := 0) dL_brings_1 (by decide) ?_
  refine r_aload_n (pc := 2) dL_brings_2 rfl ?_
  refine r_iload_n (pc := 3) dL_brings_3 rfl ?_
  refine r_iload_n (pc := 4) dL_brings_4 rfl ?_
  refine r_callV (pc := 5) (t := 6) (i := 0) (rest := [aI 0, aR 60 0]) (cs' := 3) (sl' := 18) mv_L_78 (K_X6_brings hI) rfl ⟨(Nat.le_of_ble_eq_true rfl), (Nat.le_of_ble_eq_true rfl)⟩ (Nat.le_of_ble_eq_true rfl) dL_brings_5 (show (0 : Int) ≤ 0 by decide) (show (0 : Int) < 1 by decide) ⟨rfl, (Nat.le_of_ble_eq_true rfl)⟩ ⟨rfl, (Nat.le_of_ble_eq_true rfl)⟩ rfl (fun r9 h9 hq9 => ?_) (fun E9 h9 hx9 => ?_)
  · obtain ⟨hc9, g, rfl, rfl, hP⟩ := hq9
    show Run _ 8 _ [aI (if 0 ≤ u ∧ u < g 5 0 8 ∧ u < 5 then g 20 0 u else -1), aI 0, aR 60 0] (hp (mix hi g) nb nk) _ _ _ _
    refine r_i2l (pc := 8) dL_brings_8 ?_
    refine p_last (pc := 9) (n9 := 1) (nI := 1) rfl dL_brings_9 rfl (by decide) (by decide) rfl (by omega) (by omega) ?_
    refine r_goto (pc := 10) (tgt := 25) dL_brings_10 rfl ?_
    refine r_iconst (pc := 25) (n := 0) dL_brings_25 (by decide) ?_
    refine r_iret (pc := 26) dL_brings_26 (Or.inl rfl) (Nat.le_of_ble_eq_true rfl) (Nat.le_of_ble_eq_true rfl) ?_
    exact hQ _ _ ⟨g, Or.inl ⟨hc9, rfl, rfl, hP⟩⟩
  · obtain ⟨g, rfl, hx9⟩ := hx9
    rcases hx9 with ⟨rfl, hx9⟩ | ⟨rfl, hx9⟩ | ⟨rfl, hx9⟩
    · refine rx_catch (pre := []) (suf := [(0, 10, 17, 13), (0, 10, 21, 20)]) (x := (0, 10, 13, 15)) (i := 4) (ln := 2) (xs' := [some (aR 6 0), some (aI kd), some (aI u), some (aR 60 0), none]) rfl ⟨by decide, by decide⟩ (by decide) hl_15 cs_IA (fun z hz => by cases hz) (Or.inl ⟨dL_brings_13, rfl⟩) (by decide) rfl ?_
      show Run _ 15 _ _ _ _ _ _ _
      refine r_iconst (pc := 15) (n := 1) dL_brings_15 (by decide) ?_
      refine r_iret (pc := 16) dL_brings_16 (Or.inl rfl) (Nat.le_of_ble_eq_true rfl) (Nat.le_of_ble_eq_true rfl) ?_
      exact hQ _ _ ⟨g, Or.inr ⟨by rw [hx9]; decide, by rw [hx9], rfl⟩⟩
    · refine rx_catch (pre := [(0, 10, 13, 15)]) (suf := [(0, 10, 21, 20)]) (x := (0, 10, 17, 13)) (i := 4) (ln := 2) (xs' := [some (aR 6 0), some (aI kd), some (aI u), some (aR 60 0), none]) rfl ⟨by decide, by decide⟩ (by decide) hl_13 cs_IO (fun z hz => by rcases List.mem_singleton.mp hz with rfl; exact ⟨by decide, _, hl_15, by simp⟩) (Or.inl ⟨dL_brings_17, rfl⟩) (by decide) rfl ?_
      show Run _ 19 _ _ _ _ _ _ _
      refine r_iconst (pc := 19) (n := 2) dL_brings_19 (by decide) ?_
      refine r_iret (pc := 20) dL_brings_20 (Or.inl rfl) (Nat.le_of_ble_eq_true rfl) (Nat.le_of_ble_eq_true rfl) ?_
      exact hQ _ _ ⟨g, Or.inr ⟨by rw [hx9]; decide, by rw [hx9], rfl⟩⟩
    · refine rx_catch (pre := [(0, 10, 13, 15), (0, 10, 17, 13)]) (suf := []) (x := (0, 10, 21, 20)) (i := 4) (ln := 2) (xs' := [some (aR 6 0), some (aI kd), some (aI u), some (aR 60 0), none]) rfl ⟨by decide, by decide⟩ (by decide) hl_20 cs_IS (fun z hz => by rcases List.mem_cons.mp hz with rfl | hz; (exact ⟨by decide, _, hl_15, by simp⟩); (rcases List.mem_singleton.mp hz with rfl; exact ⟨by decide, _, hl_13, by simp⟩)) (Or.inl ⟨dL_brings_21, rfl⟩) (by decide) rfl ?_
      show Run _ 23 _ _ _ _ _ _ _
      refine r_iconst (pc := 23) (n := 3) dL_brings_23 (by decide) ?_
      refine r_iret (pc := 24) dL_brings_24 (Or.inl rfl) (Nat.le_of_ble_eq_true rfl) (Nat.le_of_ble_eq_true rfl) ?_
      exact hQ _ _ ⟨g, Or.inr ⟨by rw [hx9]; decide, by rw [hx9], rfl⟩⟩
