/-! ===== the small methods that write (walks printed by wip/p27/tools/g27.py) ===== -/
theorem K_X4_liveAgain {hi : Hi} {nb nk : Int} {b : Int} (hb0 : 0 ≤ b) (hb1 : b < nb) (ht : 0 ≤ hi 4 b 4 ∧ hi 4 b 4 ≤ 30) : Det I_X4_liveAgain [aR 4 b] (hp hi nb nk) none (hp (livH hi b (hi 4 b 4)) nb nk) := by
  refine st_d (xs := [some (aR 4 b), none, none]) pn_X4 rfl rfl (Nat.le_of_ble_eq_true rfl) rfl rfl (fun Q X hQ => ?_)
  refine r_bipush (pc := 0) (n := 10) dX4_liveAgain_0 rfl (by decide) ?_
  refine r_istore_n (pc := 2) (xs' := [some (aR 4 b), some (aI 10), none]) dX4_liveAgain_2 (by decide) rfl ?_
  refine r_aload_n (pc := 3) dX4_liveAgain_3 rfl ?_
  refine r_iconst (pc := 4) (n := 0) dX4_liveAgain_4 (by decide) ?_
  refine p_putI (pc := 5) (jI := 5) (n9 := nb) fl_X4_28 (Or.inl rfl) (Or.inl rfl) dX4_liveAgain_5 rfl rfl (by omega) (by omega) ?_
  refine r_iconst (pc := 8) (n := 0) dX4_liveAgain_8 (by decide) ?_
  refine r_istore_n (pc := 9) (xs' := [some (aR 4 b), some (aI 10), some (aI 0)]) dX4_liveAgain_9 (by decide) rfl ?_
  have loop : ∀ (n9 : Nat) (i p : Int), (0 ≤ i ∧ i ≤ hi 4 b 4) → (p = livI (hi 23 b) (hi 24 b) i) → hi 4 b 4 - i < (n9 : Int) → Run I_X4_liveAgain 10 [some (aR 4 b), some (aI p), some (aI i)] [] (hp (livH hi b i) nb nk) 0 0 Q X := by
    intro n9
    induction n9 with
    | zero => intro i p h0 h2 hf9; exfalso; omega
    | succ n9 ih_loop =>
      intro i p h0 h2 hf9
      have hd9 := dbtI_r (ev := hi 23 b) (po := hi 24 b) h0.1
      refine r_iload_n (pc := 10) dX4_liveAgain_10 rfl ?_
      refine r_aload_n (pc := 11) dX4_liveAgain_11 rfl ?_
      refine q_getI (pc := 12) (jI := 4) (n9 := nb) (v := hi 4 b 4) fl_X4_24 rfl dX4_liveAgain_12 rfl rfl (by omega) (by omega) (by unfold livH; simp) ?_
      refine r_icmp_ge (pc := 15) (tgt := 79) dX4_liveAgain_15 rfl (fun c15 => ?_) (fun c15 => ?_)
      · refine r_vret (pc := 79) dX4_liveAgain_79 rfl (Nat.le_of_ble_eq_true rfl) (Nat.le_of_ble_eq_true rfl) ?_
        exact qN hQ (by rw [show i = hi 4 b 4 by omega])
      · refine r_iload_n (pc := 18) dX4_liveAgain_18 rfl ?_
        refine r_aload_n (pc := 19) dX4_liveAgain_19 rfl ?_
        refine p_getQ (pc := 20) (jI := 1) (n9 := nb) (r := some (23, b)) fl_X4_15 rfl dX4_liveAgain_20 rfl rfl (by omega) (by omega) rfl ?_
        refine r_iload_n (pc := 23) dX4_liveAgain_23 rfl ?_
        refine q_iald (pc := 24) (n9 := nb) (nI := 30) (v := hi 23 b i) rfl dX4_liveAgain_24 rfl (by omega) (by omega) rfl (by omega) (by omega) (by unfold livH; simp) ?_
        refine r_aload_n (pc := 25) dX4_liveAgain_25 rfl ?_
        refine p_getQ (pc := 26) (jI := 2) (n9 := nb) (r := some (24, b)) fl_X4_18 rfl dX4_liveAgain_26 rfl rfl (by omega) (by omega) rfl ?_
        refine r_iload_n (pc := 29) dX4_liveAgain_29 rfl ?_
        refine q_iald (pc := 30) (n9 := nb) (nI := 30) (v := hi 24 b i) rfl dX4_liveAgain_30 rfl (by omega) (by omega) rfl (by omega) (by omega) (by unfold livH; simp) ?_
        refine d1_S (pc := 31) (rest := []) (cs' := 0) (sl' := 0) ms_X4_38 rfl (K_X4_fits (its := p) (ev := hi 23 b i) (po := hi 24 b i)) rfl ⟨(Nat.le_of_ble_eq_true rfl), (Nat.le_of_ble_eq_true rfl)⟩ (Nat.le_of_ble_eq_true rfl) dX4_liveAgain_31 ⟨rfl, (Nat.le_of_ble_eq_true rfl)⟩ ⟨rfl, (Nat.le_of_ble_eq_true rfl)⟩ rfl ?_
        refine q_ifeqB (pc := 34) (tgt := 56) dX4_liveAgain_34 rfl (fun c34 => ?_) (fun c34 => ?_)
        · refine r_aload_n (pc := 56) dX4_liveAgain_56 rfl ?_
          refine r_dup (pc := 57) dX4_liveAgain_57 (fun _ => rfl) ?_
          refine q_getI (pc := 58) (jI := 5) (n9 := nb) (v := dbtI (hi 23 b) (hi 24 b) i) fl_X4_28 rfl dX4_liveAgain_58 rfl rfl (by omega) (by omega) (by unfold livH; simp) ?_
          refine r_iconst (pc := 61) (n := 1) dX4_liveAgain_61 (by decide) ?_
          refine r_iadd (pc := 62) dX4_liveAgain_62 (by omega) ?_
          refine p_putI (pc := 63) (jI := 5) (n9 := nb) fl_X4_28 (Or.inl rfl) (Or.inl rfl) dX4_liveAgain_63 rfl rfl (by omega) (by omega) ?_
          refine r_aload_n (pc := 66) dX4_liveAgain_66 rfl ?_
          refine p_getQ (pc := 67) (jI := 3) (n9 := nb) (r := some (25, b)) fl_X4_21 rfl dX4_liveAgain_67 rfl rfl (by omega) (by omega) rfl ?_
          refine r_iload_n (pc := 70) dX4_liveAgain_70 rfl ?_
          refine r_iload_n (pc := 71) dX4_liveAgain_71 rfl ?_
          refine p_iast (pc := 72) (n9 := nb) (nI := 30) rfl dX4_liveAgain_72 rfl (by omega) (by omega) rfl (by omega) (by omega) ?_
          refine r_iinc (pc := 73) (xs' := [some (aR 4 b), some (aI p), some (aI (i + 1))]) dX4_liveAgain_73 rfl (by decide) (by omega) rfl ?_
          refine r_goto (pc := 76) (tgt := 10) dX4_liveAgain_76 rfl ?_
          refine r_hp (hi' := (livH hi b (i + 1))) (by subst h2; exact livH_s2 h0.1 c34) ?_
          exact ih_loop (i + 1) p (by omega) (by subst h2; rw [livI_s (by omega)]; unfold stpI; rw [if_neg c34]) (by omega)
        · refine r_aload_n (pc := 37) dX4_liveAgain_37 rfl ?_
          refine p_getQ (pc := 38) (jI := 1) (n9 := nb) (r := some (23, b)) fl_X4_15 rfl dX4_liveAgain_38 rfl rfl (by omega) (by omega) rfl ?_
          refine r_iload_n (pc := 41) dX4_liveAgain_41 rfl ?_
          refine q_iald (pc := 42) (n9 := nb) (nI := 30) (v := hi 23 b i) rfl dX4_liveAgain_42 rfl (by omega) (by omega) rfl (by omega) (by omega) (by unfold livH; simp) ?_
          refine r_aload_n (pc := 43) dX4_liveAgain_43 rfl ?_
          refine p_getQ (pc := 44) (jI := 2) (n9 := nb) (r := some (24, b)) fl_X4_18 rfl dX4_liveAgain_44 rfl rfl (by omega) (by omega) rfl ?_
          refine r_iload_n (pc := 47) dX4_liveAgain_47 rfl ?_
          refine q_iald (pc := 48) (n9 := nb) (nI := 30) (v := hi 24 b i) rfl dX4_liveAgain_48 rfl (by omega) (by omega) rfl (by omega) (by omega) (by unfold livH; simp) ?_
          refine d1_S (pc := 49) (rest := []) (cs' := 0) (sl' := 0) ms_X4_42 rfl (K_X4_placeAfter (ev := hi 23 b i) (po := hi 24 b i)) rfl ⟨(Nat.le_of_ble_eq_true rfl), (Nat.le_of_ble_eq_true rfl)⟩ (Nat.le_of_ble_eq_true rfl) dX4_liveAgain_49 ⟨rfl, (Nat.le_of_ble_eq_true rfl)⟩ ⟨rfl, (Nat.le_of_ble_eq_true rfl)⟩ rfl ?_
          refine r_istore_n (pc := 52) (xs' := [some (aR 4 b), some (aI (behI (hi 23 b i) (hi 24 b i))), some (aI i)]) dX4_liveAgain_52 (by decide) rfl ?_
          refine r_goto (pc := 53) (tgt := 66) dX4_liveAgain_53 rfl ?_
          refine r_aload_n (pc := 66) dX4_liveAgain_66 rfl ?_
          refine p_getQ (pc := 67) (jI := 3) (n9 := nb) (r := some (25, b)) fl_X4_21 rfl dX4_liveAgain_67 rfl rfl (by omega) (by omega) rfl ?_
          refine r_iload_n (pc := 70) dX4_liveAgain_70 rfl ?_
          refine r_iload_n (pc := 71) dX4_liveAgain_71 rfl ?_
          refine p_iast (pc := 72) (n9 := nb) (nI := 30) rfl dX4_liveAgain_72 rfl (by omega) (by omega) rfl (by omega) (by omega) ?_
          refine r_iinc (pc := 73) (xs' := [some (aR 4 b), some (aI (behI (hi 23 b i) (hi 24 b i))), some (aI (i + 1))]) dX4_liveAgain_73 rfl (by decide) (by omega) rfl ?_
          refine r_goto (pc := 76) (tgt := 10) dX4_liveAgain_76 rfl ?_
          refine r_hp (hi' := (livH hi b (i + 1))) (by subst h2; exact livH_s1 h0.1 c34) ?_
          exact ih_loop (i + 1) (behI (hi 23 b i) (hi 24 b i)) (by omega) (by subst h2; rw [livI_s (by omega)]; unfold stpI; rw [if_pos c34]) (by omega)
  refine r_hp (hi' := (livH hi b 0)) (by exact livH_0) ?_
  exact loop 31 0 10 (by omega) rfl (by omega)

theorem K_X4_tell {hi : Hi} {nb nk : Int} {b : Int} (hb0 : 0 ≤ b) (hb1 : b < nb) {day ev po : Int} (ht : 0 ≤ hi 4 b 4 ∧ hi 4 b 4 < 30) : Det I_X4_tell [aR 4 b, aI day, aI ev, aI po] (hp hi nb nk) none (hp (telH hi b day ev po) nb nk) := by
  refine st_d (xs := [some (aR 4 b), some (aI day), some (aI ev), some (aI po), none]) pn_X4 rfl rfl (Nat.le_of_ble_eq_true rfl) rfl rfl (fun Q X hQ => ?_)
  refine r_aload_n (pc := 0) dX4_tell_0 rfl ?_
  refine d1_V (pc := 1) (t := 4) (i := b) (rest := []) (cs' := 0) (sl' := 0) mv_X4_31 (K_X4_isFull (b := b) (by omega) (by omega)) rfl ⟨(Nat.le_of_ble_eq_true rfl), (Nat.le_of_ble_eq_true rfl)⟩ (Nat.le_of_ble_eq_true rfl) dX4_tell_1 (show (0 : Int) ≤ b by omega) (show b < nb by omega) ⟨rfl, (Nat.le_of_ble_eq_true rfl)⟩ ⟨rfl, (Nat.le_of_ble_eq_true rfl)⟩ rfl ?_
  refine q_ifeqB (pc := 4) (tgt := 8) dX4_tell_4 rfl (fun c4 => ?_) (fun c4 => absurd c4 (by omega))
  refine r_aload_n (pc := 8) dX4_tell_8 rfl ?_
  refine q_getI (pc := 9) (jI := 4) (n9 := nb) (v := hi 4 b 4) fl_X4_24 rfl dX4_tell_9 rfl rfl (by omega) (by omega) rfl ?_
  refine r_istore (pc := 12) (xs' := [some (aR 4 b), some (aI day), some (aI ev), some (aI po), some (aI (hi 4 b 4))]) dX4_tell_12 (by decide) rfl ?_
  have loop : ∀ (n9 : Nat) (a : Int), (0 ≤ a ∧ a ≤ hi 4 b 4) → (posI (hi 22 b) day (hi 4 b 4) = posI (hi 22 b) day a) → a < (n9 : Int) → Run I_X4_tell 14 [some (aR 4 b), some (aI day), some (aI ev), some (aI po), some (aI a)] [] (hp (shH hi b a (hi 4 b 4)) nb nk) 0 0 Q X := by
    intro n9
    induction n9 with
    | zero => intro a h0 h1 hf9; exfalso; omega
    | succ n9 ih_loop =>
      intro a h0 h1 hf9
      refine r_iload (pc := 14) dX4_tell_14 rfl ?_
      refine r_if_le (pc := 16) (tgt := 86) dX4_tell_16 rfl (fun c16 => ?_) (fun c16 => ?_)
      · have e9 : posI (hi 22 b) day (hi 4 b 4) = a := by rw [h1, show a = 0 by omega]; rfl
        refine r_aload_n (pc := 86) dX4_tell_86 rfl ?_
        refine p_getQ (pc := 87) (jI := 0) (n9 := nb) (r := some (22, b)) fl_X4_9 rfl dX4_tell_87 rfl rfl (by omega) (by omega) rfl ?_
        refine r_iload (pc := 90) dX4_tell_90 rfl ?_
        refine r_iload_n (pc := 92) dX4_tell_92 rfl ?_
        refine p_iast (pc := 93) (n9 := nb) (nI := 30) rfl dX4_tell_93 rfl (by omega) (by omega) rfl (by omega) (by omega) ?_
        refine r_aload_n (pc := 94) dX4_tell_94 rfl ?_
        refine p_getQ (pc := 95) (jI := 1) (n9 := nb) (r := some (23, b)) fl_X4_15 rfl dX4_tell_95 rfl rfl (by omega) (by omega) rfl ?_
        refine r_iload (pc := 98) dX4_tell_98 rfl ?_
        refine r_iload_n (pc := 100) dX4_tell_100 rfl ?_
        refine p_iast (pc := 101) (n9 := nb) (nI := 30) rfl dX4_tell_101 rfl (by omega) (by omega) rfl (by omega) (by omega) ?_
        refine r_aload_n (pc := 102) dX4_tell_102 rfl ?_
        refine p_getQ (pc := 103) (jI := 2) (n9 := nb) (r := some (24, b)) fl_X4_18 rfl dX4_tell_103 rfl rfl (by omega) (by omega) rfl ?_
        refine r_iload (pc := 106) dX4_tell_106 rfl ?_
        refine r_iload_n (pc := 108) dX4_tell_108 rfl ?_
        refine p_iast (pc := 109) (n9 := nb) (nI := 30) rfl dX4_tell_109 rfl (by omega) (by omega) rfl (by omega) (by omega) ?_
        refine r_aload_n (pc := 110) dX4_tell_110 rfl ?_
        refine r_dup (pc := 111) dX4_tell_111 (fun _ => rfl) ?_
        refine q_getI (pc := 112) (jI := 4) (n9 := nb) (v := hi 4 b 4) fl_X4_24 rfl dX4_tell_112 rfl rfl (by omega) (by omega) (by simp only [up1]; simp; exact shH_r (by omega)) ?_
        refine r_iconst (pc := 115) (n := 1) dX4_tell_115 (by decide) ?_
        refine r_iadd (pc := 116) dX4_tell_116 (by omega) ?_
        refine p_putI (pc := 117) (jI := 4) (n9 := nb) fl_X4_24 (Or.inl rfl) (Or.inl rfl) dX4_tell_117 rfl rfl (by omega) (by omega) ?_
        refine r_aload_n (pc := 120) dX4_tell_120 rfl ?_
        refine d0_V (pc := 121) (t := 4) (i := b) (rest := []) (cs' := 0) (sl' := 0) mv_X4_35 (by have := K_X4_liveAgain (hi := (up1 (up1 (up1 (up1 (shH hi b a (hi 4 b 4)) 22 b a day) 23 b a ev) 24 b a po) 4 b 4 ((hi 4 b 4) + 1))) (nb := nb) (nk := nk) hb0 hb1 (by simp [up1]; omega); simpa [up1] using this) rfl ⟨(Nat.le_of_ble_eq_true rfl), (Nat.le_of_ble_eq_true rfl)⟩ (Nat.le_of_ble_eq_true rfl) dX4_tell_121 (show (0 : Int) ≤ b by omega) (show b < nb by omega) ⟨rfl, (Nat.le_of_ble_eq_true rfl)⟩ ⟨rfl, (Nat.le_of_ble_eq_true rfl)⟩ rfl ?_
        refine r_vret (pc := 124) dX4_tell_124 rfl (Nat.le_of_ble_eq_true rfl) (Nat.le_of_ble_eq_true rfl) ?_
        exact qN hQ (hp_c (by unfold telH insH; rw [e9]))
      · refine r_aload_n (pc := 19) dX4_tell_19 rfl ?_
        refine p_getQ (pc := 20) (jI := 0) (n9 := nb) (r := some (22, b)) fl_X4_9 rfl dX4_tell_20 rfl rfl (by omega) (by omega) rfl ?_
        refine r_iload (pc := 23) dX4_tell_23 rfl ?_
        refine r_iconst (pc := 25) (n := 1) dX4_tell_25 (by decide) ?_
        refine r_isub (pc := 26) dX4_tell_26 (by omega) ?_
        refine q_iald (pc := 27) (n9 := nb) (nI := 30) (v := hi 22 b (a - 1)) rfl dX4_tell_27 rfl (by omega) (by omega) rfl (by omega) (by omega) (by exact shH_r (by omega)) ?_
        refine r_iload_n (pc := 28) dX4_tell_28 rfl ?_
        refine r_icmp_le (pc := 29) (tgt := 86) dX4_tell_29 rfl (fun c29 => ?_) (fun c29 => ?_)
        · have e9 : posI (hi 22 b) day (hi 4 b 4) = a := by rw [h1, posI_s (by omega), if_neg (by omega)]
          refine r_aload_n (pc := 86) dX4_tell_86 rfl ?_
          refine p_getQ (pc := 87) (jI := 0) (n9 := nb) (r := some (22, b)) fl_X4_9 rfl dX4_tell_87 rfl rfl (by omega) (by omega) rfl ?_
          refine r_iload (pc := 90) dX4_tell_90 rfl ?_
          refine r_iload_n (pc := 92) dX4_tell_92 rfl ?_
          refine p_iast (pc := 93) (n9 := nb) (nI := 30) rfl dX4_tell_93 rfl (by omega) (by omega) rfl (by omega) (by omega) ?_
          refine r_aload_n (pc := 94) dX4_tell_94 rfl ?_
          refine p_getQ (pc := 95) (jI := 1) (n9 := nb) (r := some (23, b)) fl_X4_15 rfl dX4_tell_95 rfl rfl (by omega) (by omega) rfl ?_
          refine r_iload (pc := 98) dX4_tell_98 rfl ?_
          refine r_iload_n (pc := 100) dX4_tell_100 rfl ?_
          refine p_iast (pc := 101) (n9 := nb) (nI := 30) rfl dX4_tell_101 rfl (by omega) (by omega) rfl (by omega) (by omega) ?_
          refine r_aload_n (pc := 102) dX4_tell_102 rfl ?_
          refine p_getQ (pc := 103) (jI := 2) (n9 := nb) (r := some (24, b)) fl_X4_18 rfl dX4_tell_103 rfl rfl (by omega) (by omega) rfl ?_
          refine r_iload (pc := 106) dX4_tell_106 rfl ?_
          refine r_iload_n (pc := 108) dX4_tell_108 rfl ?_
          refine p_iast (pc := 109) (n9 := nb) (nI := 30) rfl dX4_tell_109 rfl (by omega) (by omega) rfl (by omega) (by omega) ?_
          refine r_aload_n (pc := 110) dX4_tell_110 rfl ?_
          refine r_dup (pc := 111) dX4_tell_111 (fun _ => rfl) ?_
          refine q_getI (pc := 112) (jI := 4) (n9 := nb) (v := hi 4 b 4) fl_X4_24 rfl dX4_tell_112 rfl rfl (by omega) (by omega) (by simp only [up1]; simp; exact shH_r (by omega)) ?_
          refine r_iconst (pc := 115) (n := 1) dX4_tell_115 (by decide) ?_
          refine r_iadd (pc := 116) dX4_tell_116 (by omega) ?_
          refine p_putI (pc := 117) (jI := 4) (n9 := nb) fl_X4_24 (Or.inl rfl) (Or.inl rfl) dX4_tell_117 rfl rfl (by omega) (by omega) ?_
          refine r_aload_n (pc := 120) dX4_tell_120 rfl ?_
          refine d0_V (pc := 121) (t := 4) (i := b) (rest := []) (cs' := 0) (sl' := 0) mv_X4_35 (by have := K_X4_liveAgain (hi := (up1 (up1 (up1 (up1 (shH hi b a (hi 4 b 4)) 22 b a day) 23 b a ev) 24 b a po) 4 b 4 ((hi 4 b 4) + 1))) (nb := nb) (nk := nk) hb0 hb1 (by simp [up1]; omega); simpa [up1] using this) rfl ⟨(Nat.le_of_ble_eq_true rfl), (Nat.le_of_ble_eq_true rfl)⟩ (Nat.le_of_ble_eq_true rfl) dX4_tell_121 (show (0 : Int) ≤ b by omega) (show b < nb by omega) ⟨rfl, (Nat.le_of_ble_eq_true rfl)⟩ ⟨rfl, (Nat.le_of_ble_eq_true rfl)⟩ rfl ?_
          refine r_vret (pc := 124) dX4_tell_124 rfl (Nat.le_of_ble_eq_true rfl) (Nat.le_of_ble_eq_true rfl) ?_
          exact qN hQ (hp_c (by unfold telH insH; rw [e9]))
        · refine r_aload_n (pc := 32) dX4_tell_32 rfl ?_
          refine p_getQ (pc := 33) (jI := 0) (n9 := nb) (r := some (22, b)) fl_X4_9 rfl dX4_tell_33 rfl rfl (by omega) (by omega) rfl ?_
          refine r_iload (pc := 36) dX4_tell_36 rfl ?_
          refine r_aload_n (pc := 38) dX4_tell_38 rfl ?_
          refine p_getQ (pc := 39) (jI := 0) (n9 := nb) (r := some (22, b)) fl_X4_9 rfl dX4_tell_39 rfl rfl (by omega) (by omega) rfl ?_
          refine r_iload (pc := 42) dX4_tell_42 rfl ?_
          refine r_iconst (pc := 44) (n := 1) dX4_tell_44 (by decide) ?_
          refine r_isub (pc := 45) dX4_tell_45 (by omega) ?_
          refine q_iald (pc := 46) (n9 := nb) (nI := 30) (v := hi 22 b (a - 1)) rfl dX4_tell_46 rfl (by omega) (by omega) rfl (by omega) (by omega) (by exact shH_r (by omega)) ?_
          refine p_iast (pc := 47) (n9 := nb) (nI := 30) rfl dX4_tell_47 rfl (by omega) (by omega) rfl (by omega) (by omega) ?_
          refine r_aload_n (pc := 48) dX4_tell_48 rfl ?_
          refine p_getQ (pc := 49) (jI := 1) (n9 := nb) (r := some (23, b)) fl_X4_15 rfl dX4_tell_49 rfl rfl (by omega) (by omega) rfl ?_
          refine r_iload (pc := 52) dX4_tell_52 rfl ?_
          refine r_aload_n (pc := 54) dX4_tell_54 rfl ?_
          refine p_getQ (pc := 55) (jI := 1) (n9 := nb) (r := some (23, b)) fl_X4_15 rfl dX4_tell_55 rfl rfl (by omega) (by omega) rfl ?_
          refine r_iload (pc := 58) dX4_tell_58 rfl ?_
          refine r_iconst (pc := 60) (n := 1) dX4_tell_60 (by decide) ?_
          refine r_isub (pc := 61) dX4_tell_61 (by omega) ?_
          refine q_iald (pc := 62) (n9 := nb) (nI := 30) (v := hi 23 b (a - 1)) rfl dX4_tell_62 rfl (by omega) (by omega) rfl (by omega) (by omega) (by simp only [up1]; simp; exact shH_r (by omega)) ?_
          refine p_iast (pc := 63) (n9 := nb) (nI := 30) rfl dX4_tell_63 rfl (by omega) (by omega) rfl (by omega) (by omega) ?_
          refine r_aload_n (pc := 64) dX4_tell_64 rfl ?_
          refine p_getQ (pc := 65) (jI := 2) (n9 := nb) (r := some (24, b)) fl_X4_18 rfl dX4_tell_65 rfl rfl (by omega) (by omega) rfl ?_
          refine r_iload (pc := 68) dX4_tell_68 rfl ?_
          refine r_aload_n (pc := 70) dX4_tell_70 rfl ?_
          refine p_getQ (pc := 71) (jI := 2) (n9 := nb) (r := some (24, b)) fl_X4_18 rfl dX4_tell_71 rfl rfl (by omega) (by omega) rfl ?_
          refine r_iload (pc := 74) dX4_tell_74 rfl ?_
          refine r_iconst (pc := 76) (n := 1) dX4_tell_76 (by decide) ?_
          refine r_isub (pc := 77) dX4_tell_77 (by omega) ?_
          refine q_iald (pc := 78) (n9 := nb) (nI := 30) (v := hi 24 b (a - 1)) rfl dX4_tell_78 rfl (by omega) (by omega) rfl (by omega) (by omega) (by simp only [up1]; simp; exact shH_r (by omega)) ?_
          refine p_iast (pc := 79) (n9 := nb) (nI := 30) rfl dX4_tell_79 rfl (by omega) (by omega) rfl (by omega) (by omega) ?_
          refine r_iinc (pc := 80) (xs' := [some (aR 4 b), some (aI day), some (aI ev), some (aI po), some (aI (a + (-1)))]) dX4_tell_80 rfl (by decide) (by omega) rfl ?_
          refine r_goto (pc := 83) (tgt := 14) dX4_tell_83 rfl ?_
          refine r_hp (hi' := (shH hi b (a - 1) (hi 4 b 4))) (by exact shH_s h0.2) ?_
          exact ih_loop (a - 1) (by omega) (by rw [h1, posI_s (by omega), if_pos (by omega)]) (by omega)
  refine r_hp (hi' := (shH hi b (hi 4 b 4) (hi 4 b 4))) (by exact shH_0) ?_
  exact loop 31 (hi 4 b 4) (by omega) rfl (by omega)

theorem K_X3_tell {hi : Hi} {nb nk : Int} {b : Int} (hb0 : 0 ≤ b) (hb1 : b < nb) {fr to : Int} (ht : 0 ≤ hi 3 b 2 ∧ hi 3 b 2 < 10) : Det I_X3_tell [aR 3 b, aI fr, aI to] (hp hi nb nk) none (hp (up1 (up1 (up1 hi 26 b (hi 3 b 2) fr) 27 b (hi 3 b 2) to) 3 b 2 (hi 3 b 2 + 1)) nb nk) := by
  refine st_d (xs := [some (aR 3 b), some (aI fr), some (aI to)]) pn_X3 rfl rfl (Nat.le_of_ble_eq_true rfl) rfl rfl (fun Q X hQ => ?_)
  refine r_aload_n (pc := 0) dX3_tell_0 rfl ?_
  refine d1_V (pc := 1) (t := 3) (i := b) (rest := []) (cs' := 0) (sl' := 0) mv_X3_22 (K_X3_isFull (b := b) (by omega) (by omega)) rfl ⟨(Nat.le_of_ble_eq_true rfl), (Nat.le_of_ble_eq_true rfl)⟩ (Nat.le_of_ble_eq_true rfl) dX3_tell_1 (show (0 : Int) ≤ b by omega) (show b < nb by omega) ⟨rfl, (Nat.le_of_ble_eq_true rfl)⟩ ⟨rfl, (Nat.le_of_ble_eq_true rfl)⟩ rfl ?_
  refine q_ifeqB (pc := 4) (tgt := 8) dX3_tell_4 rfl (fun c4 => ?_) (fun c4 => absurd c4 (by omega))
  refine r_aload_n (pc := 8) dX3_tell_8 rfl ?_
  refine p_getQ (pc := 9) (jI := 0) (n9 := nb) (r := some (26, b)) fl_X3_9 rfl dX3_tell_9 rfl rfl (by omega) (by omega) rfl ?_
  refine r_aload_n (pc := 12) dX3_tell_12 rfl ?_
  refine q_getI (pc := 13) (jI := 2) (n9 := nb) (v := hi 3 b 2) fl_X3_18 rfl dX3_tell_13 rfl rfl (by omega) (by omega) rfl ?_
  refine r_iload_n (pc := 16) dX3_tell_16 rfl ?_
  refine p_iast (pc := 17) (n9 := nb) (nI := 10) rfl dX3_tell_17 rfl (by omega) (by omega) rfl (by omega) (by omega) ?_
  refine r_aload_n (pc := 18) dX3_tell_18 rfl ?_
  refine p_getQ (pc := 19) (jI := 1) (n9 := nb) (r := some (27, b)) fl_X3_15 rfl dX3_tell_19 rfl rfl (by omega) (by omega) rfl ?_
  refine r_aload_n (pc := 22) dX3_tell_22 rfl ?_
  refine q_getI (pc := 23) (jI := 2) (n9 := nb) (v := hi 3 b 2) fl_X3_18 rfl dX3_tell_23 rfl rfl (by omega) (by omega) (by simp [up1]) ?_
  refine r_iload_n (pc := 26) dX3_tell_26 rfl ?_
  refine p_iast (pc := 27) (n9 := nb) (nI := 10) rfl dX3_tell_27 rfl (by omega) (by omega) rfl (by omega) (by omega) ?_
  refine r_aload_n (pc := 28) dX3_tell_28 rfl ?_
  refine r_dup (pc := 29) dX3_tell_29 (fun _ => rfl) ?_
  refine q_getI (pc := 30) (jI := 2) (n9 := nb) (v := hi 3 b 2) fl_X3_18 rfl dX3_tell_30 rfl rfl (by omega) (by omega) (by simp [up1]) ?_
  refine r_iconst (pc := 33) (n := 1) dX3_tell_33 (by decide) ?_
  refine r_iadd (pc := 34) dX3_tell_34 (by omega) ?_
  refine p_putI (pc := 35) (jI := 2) (n9 := nb) fl_X3_18 (Or.inl rfl) (Or.inl rfl) dX3_tell_35 rfl rfl (by omega) (by omega) ?_
  refine r_vret (pc := 38) dX3_tell_38 rfl (Nat.le_of_ble_eq_true rfl) (Nat.le_of_ble_eq_true rfl) ?_
  exact qN hQ (rfl)

theorem K_X2_tell {hi : Hi} {nb nk : Int} {b : Int} (hb0 : 0 ≤ b) (hb1 : b < nb) {co si : Int} (ht : 0 ≤ hi 2 b 2 ∧ hi 2 b 2 < 12) : Det I_X2_tell [aR 2 b, aI co, aI si] (hp hi nb nk) none (hp (up1 (up1 (up1 hi 28 b (hi 2 b 2) co) 29 b (hi 2 b 2) si) 2 b 2 (hi 2 b 2 + 1)) nb nk) := by
  refine st_d (xs := [some (aR 2 b), some (aI co), some (aI si)]) pn_X2 rfl rfl (Nat.le_of_ble_eq_true rfl) rfl rfl (fun Q X hQ => ?_)
  refine r_aload_n (pc := 0) dX2_tell_0 rfl ?_
  refine d1_V (pc := 1) (t := 2) (i := b) (rest := []) (cs' := 0) (sl' := 0) mv_X2_22 (K_X2_isFull (b := b) (by omega) (by omega)) rfl ⟨(Nat.le_of_ble_eq_true rfl), (Nat.le_of_ble_eq_true rfl)⟩ (Nat.le_of_ble_eq_true rfl) dX2_tell_1 (show (0 : Int) ≤ b by omega) (show b < nb by omega) ⟨rfl, (Nat.le_of_ble_eq_true rfl)⟩ ⟨rfl, (Nat.le_of_ble_eq_true rfl)⟩ rfl ?_
  refine q_ifeqB (pc := 4) (tgt := 8) dX2_tell_4 rfl (fun c4 => ?_) (fun c4 => absurd c4 (by omega))
  refine r_aload_n (pc := 8) dX2_tell_8 rfl ?_
  refine p_getQ (pc := 9) (jI := 0) (n9 := nb) (r := some (28, b)) fl_X2_9 rfl dX2_tell_9 rfl rfl (by omega) (by omega) rfl ?_
  refine r_aload_n (pc := 12) dX2_tell_12 rfl ?_
  refine q_getI (pc := 13) (jI := 2) (n9 := nb) (v := hi 2 b 2) fl_X2_18 rfl dX2_tell_13 rfl rfl (by omega) (by omega) rfl ?_
  refine r_iload_n (pc := 16) dX2_tell_16 rfl ?_
  refine p_iast (pc := 17) (n9 := nb) (nI := 12) rfl dX2_tell_17 rfl (by omega) (by omega) rfl (by omega) (by omega) ?_
  refine r_aload_n (pc := 18) dX2_tell_18 rfl ?_
  refine p_getQ (pc := 19) (jI := 1) (n9 := nb) (r := some (29, b)) fl_X2_15 rfl dX2_tell_19 rfl rfl (by omega) (by omega) rfl ?_
  refine r_aload_n (pc := 22) dX2_tell_22 rfl ?_
  refine q_getI (pc := 23) (jI := 2) (n9 := nb) (v := hi 2 b 2) fl_X2_18 rfl dX2_tell_23 rfl rfl (by omega) (by omega) (by simp [up1]) ?_
  refine r_iload_n (pc := 26) dX2_tell_26 rfl ?_
  refine p_iast (pc := 27) (n9 := nb) (nI := 12) rfl dX2_tell_27 rfl (by omega) (by omega) rfl (by omega) (by omega) ?_
  refine r_aload_n (pc := 28) dX2_tell_28 rfl ?_
  refine r_dup (pc := 29) dX2_tell_29 (fun _ => rfl) ?_
  refine q_getI (pc := 30) (jI := 2) (n9 := nb) (v := hi 2 b 2) fl_X2_18 rfl dX2_tell_30 rfl rfl (by omega) (by omega) (by simp [up1]) ?_
  refine r_iconst (pc := 33) (n := 1) dX2_tell_33 (by decide) ?_
  refine r_iadd (pc := 34) dX2_tell_34 (by omega) ?_
  refine p_putI (pc := 35) (jI := 2) (n9 := nb) fl_X2_18 (Or.inl rfl) (Or.inl rfl) dX2_tell_35 rfl rfl (by omega) (by omega) ?_
  refine r_vret (pc := 38) dX2_tell_38 rfl (Nat.le_of_ble_eq_true rfl) (Nat.le_of_ble_eq_true rfl) ?_
  exact qN hQ (rfl)

theorem K_X2_clear {hi : Hi} {nb nk : Int} {b : Int} (hb0 : 0 ≤ b) (hb1 : b < nb) : Det I_X2_clear [aR 2 b] (hp hi nb nk) none (hp (up1 hi 2 b 2 0) nb nk) := by
  refine st_d (xs := [some (aR 2 b)]) pn_X2 rfl rfl (Nat.le_of_ble_eq_true rfl) rfl rfl (fun Q X hQ => ?_)
  refine r_aload_n (pc := 0) dX2_clear_0 rfl ?_
  refine r_iconst (pc := 1) (n := 0) dX2_clear_1 (by decide) ?_
  refine p_putI (pc := 2) (jI := 2) (n9 := nb) fl_X2_18 (Or.inl rfl) (Or.inl rfl) dX2_clear_2 rfl rfl (by omega) (by omega) ?_
  refine r_vret (pc := 5) dX2_clear_5 rfl (Nat.le_of_ble_eq_true rfl) (Nat.le_of_ble_eq_true rfl) ?_
  exact qN hQ (rfl)

theorem K_X3_endOn {hi : Hi} {nb nk : Int} {b : Int} (hb0 : 0 ≤ b) (hb1 : b < nb) {day : Int} (ht : 0 ≤ hi 3 b 2 ∧ hi 3 b 2 ≤ 10) : Det I_X3_endOn [aR 3 b, aI day] (hp hi nb nk) none (hp (endH hi b day (hi 3 b 2)) nb nk) := by
  refine st_d (xs := [some (aR 3 b), some (aI day), none]) pn_X3 rfl rfl (Nat.le_of_ble_eq_true rfl) rfl rfl (fun Q X hQ => ?_)
  refine r_iconst (pc := 0) (n := 0) dX3_endOn_0 (by decide) ?_
  refine r_istore_n (pc := 1) (xs' := [some (aR 3 b), some (aI day), some (aI 0)]) dX3_endOn_1 (by decide) rfl ?_
  have loop : ∀ (n9 : Nat) (i : Int), (0 ≤ i ∧ i ≤ hi 3 b 2) → hi 3 b 2 - i < (n9 : Int) → Run I_X3_endOn 2 [some (aR 3 b), some (aI day), some (aI i)] [] (hp (endH hi b day i) nb nk) 0 0 Q X := by
    intro n9
    induction n9 with
    | zero => intro i h0 hf9; exfalso; omega
    | succ n9 ih_loop =>
      intro i h0 hf9
      refine r_iload_n (pc := 2) dX3_endOn_2 rfl ?_
      refine r_aload_n (pc := 3) dX3_endOn_3 rfl ?_
      refine q_getI (pc := 4) (jI := 2) (n9 := nb) (v := hi 3 b 2) fl_X3_18 rfl dX3_endOn_4 rfl rfl (by omega) (by omega) (by exact endH_r (by omega)) ?_
      refine r_icmp_ge (pc := 7) (tgt := 32) dX3_endOn_7 rfl (fun c7 => ?_) (fun c7 => ?_)
      · refine r_vret (pc := 32) dX3_endOn_32 rfl (Nat.le_of_ble_eq_true rfl) (Nat.le_of_ble_eq_true rfl) ?_
        exact qN hQ (by rw [show i = hi 3 b 2 by omega])
      · refine r_aload_n (pc := 10) dX3_endOn_10 rfl ?_
        refine p_getQ (pc := 11) (jI := 1) (n9 := nb) (r := some (27, b)) fl_X3_15 rfl dX3_endOn_11 rfl rfl (by omega) (by omega) rfl ?_
        refine r_iload_n (pc := 14) dX3_endOn_14 rfl ?_
        refine r_aload_n (pc := 15) dX3_endOn_15 rfl ?_
        refine p_getQ (pc := 16) (jI := 1) (n9 := nb) (r := some (27, b)) fl_X3_15 rfl dX3_endOn_16 rfl rfl (by omega) (by omega) rfl ?_
        refine r_iload_n (pc := 19) dX3_endOn_19 rfl ?_
        refine q_iald (pc := 20) (n9 := nb) (nI := 10) (v := hi 27 b i) rfl dX3_endOn_20 rfl (by omega) (by omega) rfl (by omega) (by omega) (by exact endH_r (by omega)) ?_
        refine r_iload_n (pc := 21) dX3_endOn_21 rfl ?_
        refine r_min (pc := 22) (x := hi 27 b i) (y := day) mw_X3_26 ⟨(by decide), (Nat.le_of_ble_eq_true rfl)⟩ (by decide) (by decide) dX3_endOn_22 ?_
        refine p_iast (pc := 25) (n9 := nb) (nI := 10) rfl dX3_endOn_25 rfl (by omega) (by omega) rfl (by omega) (by omega) ?_
        refine r_iinc (pc := 26) (xs' := [some (aR 3 b), some (aI day), some (aI (i + 1))]) dX3_endOn_26 rfl (by decide) (by omega) rfl ?_
        refine r_goto (pc := 29) (tgt := 2) dX3_endOn_29 rfl ?_
        refine r_hp (hi' := (endH hi b day (i + 1))) (by exact endH_s h0.1) ?_
        exact ih_loop (i + 1) (by omega) (by omega)
  refine r_hp (hi' := (endH hi b day 0)) (by exact endH_0) ?_
  exact loop 11 0 (by omega) (by omega)

theorem K_X4_daysAt {hi : Hi} {nb nk : Int} {b : Int} (hb0 : 0 ≤ b) (hb1 : b < nb) {pl fr to : Int} (ht : 0 ≤ hi 4 b 4 ∧ hi 4 b 4 ≤ 30) (hl : ∀ k, 0 ≤ k → k < hi 4 b 4 → hi 25 b k = livI (hi 23 b) (hi 24 b) (k + 1)) (hd : -100 ≤ fr ∧ fr ≤ to + 1 ∧ to ≤ 20000) : Det I_X4_daysAt [aR 4 b, aI pl, aI fr, aI to] (hp hi nb nk) (some (aI (sI (fun t => bI (plcI (hi 22 b) (hi 23 b) (hi 24 b) (hi 4 b 4) (fr + t) = pl)) (to - fr + 1)))) (hp hi nb nk) := by
  refine st_d (xs := [some (aR 4 b), some (aI pl), some (aI fr), some (aI to), none, none, none, none]) pn_X4 rfl rfl (Nat.le_of_ble_eq_true rfl) rfl rfl (fun Q X hQ => ?_)
  refine r_iconst (pc := 0) (n := 0) dX4_daysAt_0 (by decide) ?_
  refine r_istore (pc := 1) (xs' := [some (aR 4 b), some (aI pl), some (aI fr), some (aI to), some (aI 0), none, none, none]) dX4_daysAt_1 (by decide) rfl ?_
  refine r_iconst (pc := 3) (n := 0) dX4_daysAt_3 (by decide) ?_
  refine r_istore (pc := 4) (xs' := [some (aR 4 b), some (aI pl), some (aI fr), some (aI to), some (aI 0), some (aI 0), none, none]) dX4_daysAt_4 (by decide) rfl ?_
  refine r_bipush (pc := 6) (n := 10) dX4_daysAt_6 rfl (by decide) ?_
  refine r_istore (pc := 8) (xs' := [some (aR 4 b), some (aI pl), some (aI fr), some (aI to), some (aI 0), some (aI 0), some (aI 10), none]) dX4_daysAt_8 (by decide) rfl ?_
  refine r_iload_n (pc := 10) dX4_daysAt_10 rfl ?_
  refine r_istore (pc := 11) (xs' := [some (aR 4 b), some (aI pl), some (aI fr), some (aI to), some (aI 0), some (aI 0), some (aI 10), some (aI fr)]) dX4_daysAt_11 (by decide) rfl ?_
  have loop : ∀ (n9 : Nat) (c n h d : Int), (fr ≤ d ∧ d ≤ to + 1) → (0 ≤ c ∧ c ≤ d - fr) → (c = sI (fun t => bI (plcI (hi 22 b) (hi 23 b) (hi 24 b) (hi 4 b 4) (fr + t) = pl)) (d - fr)) → (0 ≤ n ∧ n ≤ hi 4 b 4) → (∀ k, 0 ≤ k → k < n → hi 22 b k ≤ d) → (h = livI (hi 23 b) (hi 24 b) n) → to + 1 - d < (n9 : Int) → Run I_X4_daysAt 13 [some (aR 4 b), some (aI pl), some (aI fr), some (aI to), some (aI c), some (aI n), some (aI h), some (aI d)] [] (hp hi nb nk) 0 0 Q X := by
    intro n9
    induction n9 with
    | zero => intro c n h d g0 g1 g2 g3 g4 g5 hf9; exfalso; omega
    | succ n9 ih_loop =>
      intro c n h d g0 g1 g2 g3 g4 g5 hf9
      refine r_iload (pc := 13) dX4_daysAt_13 rfl ?_
      refine r_iload_n (pc := 15) dX4_daysAt_15 rfl ?_
      refine r_icmp_gt (pc := 16) (tgt := 70) dX4_daysAt_16 rfl (fun c16 => ?_) (fun c16 => ?_)
      · refine r_iload (pc := 70) dX4_daysAt_70 rfl ?_
        refine r_iret (pc := 72) dX4_daysAt_72 (Or.inl rfl) (Nat.le_of_ble_eq_true rfl) (Nat.le_of_ble_eq_true rfl) ?_
        exact qI hQ (by rw [g2, show d = to + 1 by omega, show to + 1 - fr = to - fr + 1 by omega]) rfl
      · have loop2 : ∀ (n9 : Nat) (m q : Int), (0 ≤ m ∧ m ≤ hi 4 b 4) → (∀ k, 0 ≤ k → k < m → hi 22 b k ≤ d) → (q = livI (hi 23 b) (hi 24 b) m) → hi 4 b 4 - m < (n9 : Int) → Run I_X4_daysAt 19 [some (aR 4 b), some (aI pl), some (aI fr), some (aI to), some (aI c), some (aI m), some (aI q), some (aI d)] [] (hp hi nb nk) 0 0 Q X := by
          intro n9
          induction n9 with
          | zero => intro m q f0 f1 f2 hf9; exfalso; omega
          | succ n9 ih_loop2 =>
            intro m q f0 f1 f2 hf9
            refine r_iload (pc := 19) dX4_daysAt_19 rfl ?_
            refine r_aload_n (pc := 21) dX4_daysAt_21 rfl ?_
            refine q_getI (pc := 22) (jI := 4) (n9 := nb) (v := hi 4 b 4) fl_X4_24 rfl dX4_daysAt_22 rfl rfl (by omega) (by omega) rfl ?_
            refine r_icmp_ge (pc := 25) (tgt := 55) dX4_daysAt_25 rfl (fun c25 => ?_) (fun c25 => ?_)
            · have e9 : plcI (hi 22 b) (hi 23 b) (hi 24 b) (hi 4 b 4) d = q := by unfold plcI; rw [upI_eq (i := m) (by omega) (by omega) f1 (by omega), f2]
              refine r_iload (pc := 55) dX4_daysAt_55 rfl ?_
              refine r_iload_n (pc := 57) dX4_daysAt_57 rfl ?_
              refine r_icmp_ne (pc := 58) (tgt := 64) dX4_daysAt_58 rfl (fun c58 => ?_) (fun c58 => ?_)
              · refine r_iinc (pc := 64) (xs' := [some (aR 4 b), some (aI pl), some (aI fr), some (aI to), some (aI c), some (aI m), some (aI q), some (aI (d + 1))]) dX4_daysAt_64 rfl (by decide) (by omega) rfl ?_
                refine r_goto (pc := 67) (tgt := 13) dX4_daysAt_67 rfl ?_
                exact ih_loop c m q (d + 1) (by omega) (by omega) (by rw [show d + 1 - fr = d - fr + 1 by omega, sI_s (by omega), ← g2, show fr + (d - fr) = d by omega, e9, bI_f c58, Int.add_zero]) (by omega) (fun k x1 x2 => by have := f1 k x1 x2; omega) f2 (by omega)
              · refine r_iinc (pc := 61) (xs' := [some (aR 4 b), some (aI pl), some (aI fr), some (aI to), some (aI (c + 1)), some (aI m), some (aI q), some (aI d)]) dX4_daysAt_61 rfl (by decide) (by omega) rfl ?_
                refine r_iinc (pc := 64) (xs' := [some (aR 4 b), some (aI pl), some (aI fr), some (aI to), some (aI (c + 1)), some (aI m), some (aI q), some (aI (d + 1))]) dX4_daysAt_64 rfl (by decide) (by omega) rfl ?_
                refine r_goto (pc := 67) (tgt := 13) dX4_daysAt_67 rfl ?_
                exact ih_loop (c + 1) m q (d + 1) (by omega) (by omega) (by rw [show d + 1 - fr = d - fr + 1 by omega, sI_s (by omega), ← g2, show fr + (d - fr) = d by omega, e9, bI_t c58]) (by omega) (fun k x1 x2 => by have := f1 k x1 x2; omega) f2 (by omega)
            · refine r_aload_n (pc := 28) dX4_daysAt_28 rfl ?_
              refine p_getQ (pc := 29) (jI := 0) (n9 := nb) (r := some (22, b)) fl_X4_9 rfl dX4_daysAt_29 rfl rfl (by omega) (by omega) rfl ?_
              refine r_iload (pc := 32) dX4_daysAt_32 rfl ?_
              refine q_iald (pc := 34) (n9 := nb) (nI := 30) (v := hi 22 b m) rfl dX4_daysAt_34 rfl (by omega) (by omega) rfl (by omega) (by omega) rfl ?_
              refine r_iload (pc := 35) dX4_daysAt_35 rfl ?_
              refine r_icmp_gt (pc := 37) (tgt := 55) dX4_daysAt_37 rfl (fun c37 => ?_) (fun c37 => ?_)
              · have e9 : plcI (hi 22 b) (hi 23 b) (hi 24 b) (hi 4 b 4) d = q := by unfold plcI; rw [upI_eq (i := m) (by omega) (by omega) f1 (by omega), f2]
                refine r_iload (pc := 55) dX4_daysAt_55 rfl ?_
                refine r_iload_n (pc := 57) dX4_daysAt_57 rfl ?_
                refine r_icmp_ne (pc := 58) (tgt := 64) dX4_daysAt_58 rfl (fun c58 => ?_) (fun c58 => ?_)
                · refine r_iinc (pc := 64) (xs' := [some (aR 4 b), some (aI pl), some (aI fr), some (aI to), some (aI c), some (aI m), some (aI q), some (aI (d + 1))]) dX4_daysAt_64 rfl (by decide) (by omega) rfl ?_
                  refine r_goto (pc := 67) (tgt := 13) dX4_daysAt_67 rfl ?_
                  exact ih_loop c m q (d + 1) (by omega) (by omega) (by rw [show d + 1 - fr = d - fr + 1 by omega, sI_s (by omega), ← g2, show fr + (d - fr) = d by omega, e9, bI_f c58, Int.add_zero]) (by omega) (fun k x1 x2 => by have := f1 k x1 x2; omega) f2 (by omega)
                · refine r_iinc (pc := 61) (xs' := [some (aR 4 b), some (aI pl), some (aI fr), some (aI to), some (aI (c + 1)), some (aI m), some (aI q), some (aI d)]) dX4_daysAt_61 rfl (by decide) (by omega) rfl ?_
                  refine r_iinc (pc := 64) (xs' := [some (aR 4 b), some (aI pl), some (aI fr), some (aI to), some (aI (c + 1)), some (aI m), some (aI q), some (aI (d + 1))]) dX4_daysAt_64 rfl (by decide) (by omega) rfl ?_
                  refine r_goto (pc := 67) (tgt := 13) dX4_daysAt_67 rfl ?_
                  exact ih_loop (c + 1) m q (d + 1) (by omega) (by omega) (by rw [show d + 1 - fr = d - fr + 1 by omega, sI_s (by omega), ← g2, show fr + (d - fr) = d by omega, e9, bI_t c58]) (by omega) (fun k x1 x2 => by have := f1 k x1 x2; omega) f2 (by omega)
              · refine r_aload_n (pc := 40) dX4_daysAt_40 rfl ?_
                refine p_getQ (pc := 41) (jI := 3) (n9 := nb) (r := some (25, b)) fl_X4_21 rfl dX4_daysAt_41 rfl rfl (by omega) (by omega) rfl ?_
                refine r_iload (pc := 44) dX4_daysAt_44 rfl ?_
                refine q_iald (pc := 46) (n9 := nb) (nI := 30) (v := hi 25 b m) rfl dX4_daysAt_46 rfl (by omega) (by omega) rfl (by omega) (by omega) rfl ?_
                refine r_istore (pc := 47) (xs' := [some (aR 4 b), some (aI pl), some (aI fr), some (aI to), some (aI c), some (aI m), some (aI (hi 25 b m)), some (aI d)]) dX4_daysAt_47 (by decide) rfl ?_
                refine r_iinc (pc := 49) (xs' := [some (aR 4 b), some (aI pl), some (aI fr), some (aI to), some (aI c), some (aI (m + 1)), some (aI (hi 25 b m)), some (aI d)]) dX4_daysAt_49 rfl (by decide) (by omega) rfl ?_
                refine r_goto (pc := 52) (tgt := 19) dX4_daysAt_52 rfl ?_
                exact ih_loop2 (m + 1) (hi 25 b m) (by omega) (fun k x1 x2 => by by_cases e : k = m; (subst e; omega); exact f1 k x1 (by omega)) (hl m (by omega) (by omega)) (by omega)
        exact loop2 31 n h g3 g4 g5 (by omega)
  exact loop 30000 0 0 10 fr (by omega) (by omega) (by rw [Int.sub_self]; rfl) (by omega) (fun k a b => by omega) rfl (by omega)
