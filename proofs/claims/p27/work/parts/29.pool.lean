/-! ===== BoxPool: its small methods (walks printed by wip/p27/tools/g29.py) ===== -/
theorem K_X6_isPort {hi : Hi} {nb nk : Int} {p : Int} : Det I_X6_isPort [aI p] (hp hi nb nk) (some (aI (bI (0 ≤ p ∧ p < 6)))) (hp hi nb nk) := by
  refine st_d (xs := [some (aI p)]) pn_X6 rfl rfl (Nat.le_of_ble_eq_true rfl) rfl rfl (fun Q X hQ => ?_)
  refine r_iload_n (pc := 0) dX6_isPort_0 rfl ?_
  refine r_if_lt (pc := 1) (tgt := 14) dX6_isPort_1 rfl (fun c1 => ?_) (fun c1 => ?_)
  · refine r_iconst (pc := 14) (n := 0) dX6_isPort_14 (by decide) ?_
    refine r_iret (pc := 15) dX6_isPort_15 (Or.inr ⟨rfl, (by decide)⟩) (Nat.le_of_ble_eq_true rfl) (Nat.le_of_ble_eq_true rfl) ?_
    exact qI hQ (bI_f (by omega)).symm rfl
  · refine r_iload_n (pc := 4) dX6_isPort_4 rfl ?_
    refine r_bipush (pc := 5) (n := 6) dX6_isPort_5 rfl (by decide) ?_
    refine r_icmp_ge (pc := 7) (tgt := 14) dX6_isPort_7 rfl (fun c7 => ?_) (fun c7 => ?_)
    · refine r_iconst (pc := 14) (n := 0) dX6_isPort_14 (by decide) ?_
      refine r_iret (pc := 15) dX6_isPort_15 (Or.inr ⟨rfl, (by decide)⟩) (Nat.le_of_ble_eq_true rfl) (Nat.le_of_ble_eq_true rfl) ?_
      exact qI hQ (bI_f (by omega)).symm rfl
    · refine r_iconst (pc := 10) (n := 1) dX6_isPort_10 (by decide) ?_
      refine r_goto (pc := 11) (tgt := 15) dX6_isPort_11 rfl ?_
      refine r_iret (pc := 15) dX6_isPort_15 (Or.inr ⟨rfl, (by decide)⟩) (Nat.le_of_ble_eq_true rfl) (Nat.le_of_ble_eq_true rfl) ?_
      exact qI hQ (bI_t (by omega)).symm rfl

theorem K_X6_isLessor {hi : Hi} {nb nk : Int} {p : Int} : Det I_X6_isLessor [aI p] (hp hi nb nk) (some (aI (bI (0 ≤ p ∧ p < 3)))) (hp hi nb nk) := by
  refine st_d (xs := [some (aI p)]) pn_X6 rfl rfl (Nat.le_of_ble_eq_true rfl) rfl rfl (fun Q X hQ => ?_)
  refine r_iload_n (pc := 0) dX6_isLessor_0 rfl ?_
  refine r_if_lt (pc := 1) (tgt := 13) dX6_isLessor_1 rfl (fun c1 => ?_) (fun c1 => ?_)
  · refine r_iconst (pc := 13) (n := 0) dX6_isLessor_13 (by decide) ?_
    refine r_iret (pc := 14) dX6_isLessor_14 (Or.inr ⟨rfl, (by decide)⟩) (Nat.le_of_ble_eq_true rfl) (Nat.le_of_ble_eq_true rfl) ?_
    exact qI hQ (bI_f (by omega)).symm rfl
  · refine r_iload_n (pc := 4) dX6_isLessor_4 rfl ?_
    refine r_iconst (pc := 5) (n := 3) dX6_isLessor_5 (by decide) ?_
    refine r_icmp_ge (pc := 6) (tgt := 13) dX6_isLessor_6 rfl (fun c6 => ?_) (fun c6 => ?_)
    · refine r_iconst (pc := 13) (n := 0) dX6_isLessor_13 (by decide) ?_
      refine r_iret (pc := 14) dX6_isLessor_14 (Or.inr ⟨rfl, (by decide)⟩) (Nat.le_of_ble_eq_true rfl) (Nat.le_of_ble_eq_true rfl) ?_
      exact qI hQ (bI_f (by omega)).symm rfl
    · refine r_iconst (pc := 9) (n := 1) dX6_isLessor_9 (by decide) ?_
      refine r_goto (pc := 10) (tgt := 14) dX6_isLessor_10 rfl ?_
      refine r_iret (pc := 14) dX6_isLessor_14 (Or.inr ⟨rfl, (by decide)⟩) (Nat.le_of_ble_eq_true rfl) (Nat.le_of_ble_eq_true rfl) ?_
      exact qI hQ (bI_t (by omega)).symm rfl

theorem K_X6_needPort {hi : Hi} {nb nk : Int} {p : Int} : Need I_X6_needPort [aI p] (hp hi nb nk) (0 ≤ p ∧ p < 6) none "java/lang/IndexOutOfBoundsException" := by
  refine st_n (xs := [some (aI p)]) pn_X6 rfl rfl (Nat.le_of_ble_eq_true rfl) rfl rfl (fun Q X hQ hX => ?_)
  refine r_iload_n (pc := 0) dX6_needPort_0 rfl ?_
  refine d1_S (pc := 1) (rest := []) (cs' := 0) (sl' := 0) ms_X6_128 rfl (K_X6_isPort (p := p)) rfl ⟨(Nat.le_of_ble_eq_true rfl), (Nat.le_of_ble_eq_true rfl)⟩ (Nat.le_of_ble_eq_true rfl) dX6_needPort_1 ⟨rfl, (Nat.le_of_ble_eq_true rfl)⟩ ⟨rfl, (Nat.le_of_ble_eq_true rfl)⟩ rfl ?_
  refine q_ifneB (pc := 4) (tgt := 17) dX6_needPort_4 rfl (fun c4 => ?_) (fun c4 => ?_)
  · refine r_vret (pc := 17) dX6_needPort_17 rfl (Nat.le_of_ble_eq_true rfl) (Nat.le_of_ble_eq_true rfl) ?_
    exact hQ (by omega)
  · refine r_throw (pc := 7) (text := "no such port") rfl th_X6_234 (by decide) dX6_needPort_7 dX6_needPort_10 dX6_needPort_11 dX6_needPort_13 dX6_needPort_16 ⟨(Nat.le_of_ble_eq_true rfl), (Nat.le_of_ble_eq_true rfl), (Nat.le_of_ble_eq_true rfl), (Nat.le_of_ble_eq_true rfl)⟩ (hX (by omega))

theorem K_X6_needLessor {hi : Hi} {nb nk : Int} {p : Int} : Need I_X6_needLessor [aI p] (hp hi nb nk) (0 ≤ p ∧ p < 3) none "java/lang/IndexOutOfBoundsException" := by
  refine st_n (xs := [some (aI p)]) pn_X6 rfl rfl (Nat.le_of_ble_eq_true rfl) rfl rfl (fun Q X hQ hX => ?_)
  refine r_iload_n (pc := 0) dX6_needLessor_0 rfl ?_
  refine d1_S (pc := 1) (rest := []) (cs' := 0) (sl' := 0) ms_X6_255 rfl (K_X6_isLessor (p := p)) rfl ⟨(Nat.le_of_ble_eq_true rfl), (Nat.le_of_ble_eq_true rfl)⟩ (Nat.le_of_ble_eq_true rfl) dX6_needLessor_1 ⟨rfl, (Nat.le_of_ble_eq_true rfl)⟩ ⟨rfl, (Nat.le_of_ble_eq_true rfl)⟩ rfl ?_
  refine q_ifneB (pc := 4) (tgt := 18) dX6_needLessor_4 rfl (fun c4 => ?_) (fun c4 => ?_)
  · refine r_vret (pc := 18) dX6_needLessor_18 rfl (Nat.le_of_ble_eq_true rfl) (Nat.le_of_ble_eq_true rfl) ?_
    exact hQ (by omega)
  · refine r_throwW (pc := 7) (text := "no such lessor") rfl th_X6_234 (by decide) dX6_needLessor_7 dX6_needLessor_10 dX6_needLessor_11 dX6_needLessor_14 dX6_needLessor_17 ⟨(Nat.le_of_ble_eq_true rfl), (Nat.le_of_ble_eq_true rfl), (Nat.le_of_ble_eq_true rfl), (Nat.le_of_ble_eq_true rfl)⟩ (hX (by omega))

theorem K_X6_needCode {hi : Hi} {nb nk : Int} {p : Int} : Need I_X6_needCode [aI p] (hp hi nb nk) (0 ≤ p ∧ p < 5) none "java/lang/IndexOutOfBoundsException" := by
  refine st_n (xs := [some (aI p)]) pn_X6 rfl rfl (Nat.le_of_ble_eq_true rfl) rfl rfl (fun Q X hQ hX => ?_)
  refine r_iload_n (pc := 0) dX6_needCode_0 rfl ?_
  refine r_if_lt (pc := 1) (tgt := 9) dX6_needCode_1 rfl (fun c1 => ?_) (fun c1 => ?_)
  · refine r_throwW (pc := 9) (text := "no such code") rfl th_X6_234 (by decide) dX6_needCode_9 dX6_needCode_12 dX6_needCode_13 dX6_needCode_16 dX6_needCode_19 ⟨(Nat.le_of_ble_eq_true rfl), (Nat.le_of_ble_eq_true rfl), (Nat.le_of_ble_eq_true rfl), (Nat.le_of_ble_eq_true rfl)⟩ (hX (by omega))
  · refine r_iload_n (pc := 4) dX6_needCode_4 rfl ?_
    refine r_iconst (pc := 5) (n := 5) dX6_needCode_5 (by decide) ?_
    refine r_icmp_lt (pc := 6) (tgt := 20) dX6_needCode_6 rfl (fun c6 => ?_) (fun c6 => ?_)
    · refine r_vret (pc := 20) dX6_needCode_20 rfl (Nat.le_of_ble_eq_true rfl) (Nat.le_of_ble_eq_true rfl) ?_
      exact hQ (by omega)
    · refine r_throwW (pc := 9) (text := "no such code") rfl th_X6_234 (by decide) dX6_needCode_9 dX6_needCode_12 dX6_needCode_13 dX6_needCode_16 dX6_needCode_19 ⟨(Nat.le_of_ble_eq_true rfl), (Nat.le_of_ble_eq_true rfl), (Nat.le_of_ble_eq_true rfl), (Nat.le_of_ble_eq_true rfl)⟩ (hX (by omega))

theorem K_X6_needRange {hi : Hi} {nb nk : Int} {v lo up : Int} : Need I_X6_needRange [aI v, aI lo, aI up] (hp hi nb nk) (lo ≤ v ∧ v ≤ up) none "java/lang/IllegalArgumentException" := by
  refine st_n (xs := [some (aI v), some (aI lo), some (aI up)]) pn_X6 rfl rfl (Nat.le_of_ble_eq_true rfl) rfl rfl (fun Q X hQ hX => ?_)
  refine r_iload_n (pc := 0) dX6_needRange_0 rfl ?_
  refine r_iload_n (pc := 1) dX6_needRange_1 rfl ?_
  refine r_icmp_lt (pc := 2) (tgt := 10) dX6_needRange_2 rfl (fun c2 => ?_) (fun c2 => ?_)
  · refine r_throwW (pc := 10) (text := "an argument is out of range") rfl th_X6_64 (by decide) dX6_needRange_10 dX6_needRange_13 dX6_needRange_14 dX6_needRange_17 dX6_needRange_20 ⟨(Nat.le_of_ble_eq_true rfl), (Nat.le_of_ble_eq_true rfl), (Nat.le_of_ble_eq_true rfl), (Nat.le_of_ble_eq_true rfl)⟩ (hX (by omega))
  · refine r_iload_n (pc := 5) dX6_needRange_5 rfl ?_
    refine r_iload_n (pc := 6) dX6_needRange_6 rfl ?_
    refine r_icmp_le (pc := 7) (tgt := 21) dX6_needRange_7 rfl (fun c7 => ?_) (fun c7 => ?_)
    · refine r_vret (pc := 21) dX6_needRange_21 rfl (Nat.le_of_ble_eq_true rfl) (Nat.le_of_ble_eq_true rfl) ?_
      exact hQ (by omega)
    · refine r_throwW (pc := 10) (text := "an argument is out of range") rfl th_X6_64 (by decide) dX6_needRange_10 dX6_needRange_13 dX6_needRange_14 dX6_needRange_17 dX6_needRange_20 ⟨(Nat.le_of_ble_eq_true rfl), (Nat.le_of_ble_eq_true rfl), (Nat.le_of_ble_eq_true rfl), (Nat.le_of_ble_eq_true rfl)⟩ (hX (by omega))

theorem K_X6_needKind {hi : Hi} {nb nk : Int} {p : Int} : Need I_X6_needKind [aI p] (hp hi nb nk) (0 ≤ p ∧ p < 3) none "java/lang/IllegalArgumentException" := by
  refine st_n (xs := [some (aI p)]) pn_X6 rfl rfl (Nat.le_of_ble_eq_true rfl) rfl rfl (fun Q X hQ hX => ?_)
  refine r_iload_n (pc := 0) dX6_needKind_0 rfl ?_
  refine r_iconst (pc := 1) (n := 0) dX6_needKind_1 (by decide) ?_
  refine r_iconst (pc := 2) (n := 2) dX6_needKind_2 (by decide) ?_
  refine n0_S (pc := 3) (rest := []) (cs' := 1) (sl' := 6) ms_X6_67 rfl (K_X6_needRange (v := p) (lo := 0) (up := 2)) rfl ⟨(Nat.le_of_ble_eq_true rfl), (Nat.le_of_ble_eq_true rfl)⟩ (Nat.le_of_ble_eq_true rfl) dX6_needKind_3 ⟨rfl, (Nat.le_of_ble_eq_true rfl)⟩ ⟨rfl, (Nat.le_of_ble_eq_true rfl)⟩ rfl (fun c3 => ?_) (fun c3 => ?_)
  · refine r_vret (pc := 6) dX6_needKind_6 rfl (Nat.le_of_ble_eq_true rfl) (Nat.le_of_ble_eq_true rfl) ?_
    exact hQ (by omega)
  · exact rx_out rfl (hX (by omega)) (Nat.le_of_ble_eq_true rfl) (Nat.le_of_ble_eq_true rfl)

theorem K_X6_needNotGone {hi : Hi} {nb nk : Int} {b : Int} (hb0 : 0 ≤ b) (hb1 : b < nb) : Need I_X6_needNotGone [aR 1 b] (hp hi nb nk) (hi 1 b 8 = -1) none "java/lang/IllegalStateException" := by
  refine st_n (xs := [some (aR 1 b)]) pn_X6 rfl rfl (Nat.le_of_ble_eq_true rfl) rfl rfl (fun Q X hQ hX => ?_)
  refine r_aload_n (pc := 0) dX6_needNotGone_0 rfl ?_
  refine d1_V (pc := 1) (t := 1) (i := b) (rest := []) (cs' := 0) (sl' := 0) mv_X6_238 (K_X1_isGone (b := b) (by omega) (by omega)) rfl ⟨(Nat.le_of_ble_eq_true rfl), (Nat.le_of_ble_eq_true rfl)⟩ (Nat.le_of_ble_eq_true rfl) dX6_needNotGone_1 (show (0 : Int) ≤ b by omega) (show b < nb by omega) ⟨rfl, (Nat.le_of_ble_eq_true rfl)⟩ ⟨rfl, (Nat.le_of_ble_eq_true rfl)⟩ rfl ?_
  refine q_ifeqB (pc := 4) (tgt := 18) dX6_needNotGone_4 rfl (fun c4 => ?_) (fun c4 => ?_)
  · refine r_vret (pc := 18) dX6_needNotGone_18 rfl (Nat.le_of_ble_eq_true rfl) (Nat.le_of_ble_eq_true rfl) ?_
    exact hQ (by omega)
  · refine r_throwW (pc := 7) (text := "the box is GONE") rfl th_X6_81 (by decide) dX6_needNotGone_7 dX6_needNotGone_10 dX6_needNotGone_11 dX6_needNotGone_14 dX6_needNotGone_17 ⟨(Nat.le_of_ble_eq_true rfl), (Nat.le_of_ble_eq_true rfl), (Nat.le_of_ble_eq_true rfl), (Nat.le_of_ble_eq_true rfl)⟩ (hX (by omega))

theorem K_X6_boxAt {hi : Hi} {nb nk : Int} {b : Int} (hnb : 0 ≤ nb ∧ nb ≤ 40) : Need I_X6_boxAt [aR 6 0, aI b] (hp hi nb nk) (0 ≤ b ∧ b < nb) (some (aR 1 b)) "java/lang/IndexOutOfBoundsException" := by
  refine st_n (xs := [some (aR 6 0), some (aI b), none]) pn_X6 rfl rfl (Nat.le_of_ble_eq_true rfl) rfl rfl (fun Q X hQ hX => ?_)
  refine r_iload_n (pc := 0) dX6_boxAt_0 rfl ?_
  refine r_if_lt (pc := 1) (tgt := 22) dX6_boxAt_1 rfl (fun c1 => ?_) (fun c1 => ?_)
  · refine r_null (pc := 22) dX6_boxAt_22 ?_
    refine r_astore_n (pc := 23) (xs' := [some (aR 6 0), some (aI b), some (aN)]) dX6_boxAt_23 (by decide) rfl ?_
    refine r_aload_n (pc := 24) dX6_boxAt_24 rfl ?_
    refine q_ifnonnullN (pc := 25) (tgt := 39) dX6_boxAt_25 rfl ?_
    refine r_throwW (pc := 28) (text := "no such box") rfl th_X6_234 (by decide) dX6_boxAt_28 dX6_boxAt_31 dX6_boxAt_32 dX6_boxAt_35 dX6_boxAt_38 ⟨(Nat.le_of_ble_eq_true rfl), (Nat.le_of_ble_eq_true rfl), (Nat.le_of_ble_eq_true rfl), (Nat.le_of_ble_eq_true rfl)⟩ (hX (by omega))
  · refine r_iload_n (pc := 4) dX6_boxAt_4 rfl ?_
    refine r_aload_n (pc := 5) dX6_boxAt_5 rfl ?_
    refine p_getQ (pc := 6) (jI := 3) (n9 := 1) (r := some (13, 0)) fl_X6_23 rfl dX6_boxAt_6 rfl rfl (by decide) (by decide) rfl ?_
    refine p_alen (pc := 9) (kk := 13) (n9 := 1) (nI := 40) rfl ⟨(by decide), (by decide), (by decide)⟩ (by decide) dX6_boxAt_9 rfl (by decide) (by decide) rfl ?_
    refine r_icmp_ge (pc := 10) (tgt := 22) dX6_boxAt_10 rfl (fun c10 => ?_) (fun c10 => ?_)
    · refine r_null (pc := 22) dX6_boxAt_22 ?_
      refine r_astore_n (pc := 23) (xs' := [some (aR 6 0), some (aI b), some (aN)]) dX6_boxAt_23 (by decide) rfl ?_
      refine r_aload_n (pc := 24) dX6_boxAt_24 rfl ?_
      refine q_ifnonnullN (pc := 25) (tgt := 39) dX6_boxAt_25 rfl ?_
      refine r_throwW (pc := 28) (text := "no such box") rfl th_X6_234 (by decide) dX6_boxAt_28 dX6_boxAt_31 dX6_boxAt_32 dX6_boxAt_35 dX6_boxAt_38 ⟨(Nat.le_of_ble_eq_true rfl), (Nat.le_of_ble_eq_true rfl), (Nat.le_of_ble_eq_true rfl), (Nat.le_of_ble_eq_true rfl)⟩ (hX (by omega))
    · refine r_aload_n (pc := 13) dX6_boxAt_13 rfl ?_
      refine p_getQ (pc := 14) (jI := 3) (n9 := 1) (r := some (13, 0)) fl_X6_23 rfl dX6_boxAt_14 rfl rfl (by decide) (by decide) rfl ?_
      refine r_iload_n (pc := 17) dX6_boxAt_17 rfl ?_
      rcases (show b < nb ∨ nb ≤ b by omega) with c18 | c18
      · refine p_aald (pc := 18) (n9 := 1) (nI := 40) (r := some (1, b)) rfl ⟨(by decide), (by decide)⟩ dX6_boxAt_18 rfl (by decide) (by decide) rfl (by omega) (by omega) (hr_13 (by omega) (by omega)) ?_
        refine r_goto (pc := 19) (tgt := 23) dX6_boxAt_19 rfl ?_
        refine r_astore_n (pc := 23) (xs' := [some (aR 6 0), some (aI b), some (aR 1 b)]) dX6_boxAt_23 (by decide) rfl ?_
        refine r_aload_n (pc := 24) dX6_boxAt_24 rfl ?_
        refine q_ifnonnullS (pc := 25) (tgt := 39) dX6_boxAt_25 rfl ?_
        refine r_aload_n (pc := 39) dX6_boxAt_39 rfl ?_
        refine r_aret (pc := 40) dX6_boxAt_40 rfl (Nat.le_of_ble_eq_true rfl) (Nat.le_of_ble_eq_true rfl) ?_
        exact hQ (by omega)
      · refine p_aald (pc := 18) (n9 := 1) (nI := 40) (r := none) rfl ⟨(by decide), (by decide)⟩ dX6_boxAt_18 rfl (by decide) (by decide) rfl (by omega) (by omega) (hr_13n (by omega)) ?_
        refine r_goto (pc := 19) (tgt := 23) dX6_boxAt_19 rfl ?_
        refine r_astore_n (pc := 23) (xs' := [some (aR 6 0), some (aI b), some (aN)]) dX6_boxAt_23 (by decide) rfl ?_
        refine r_aload_n (pc := 24) dX6_boxAt_24 rfl ?_
        refine q_ifnonnullN (pc := 25) (tgt := 39) dX6_boxAt_25 rfl ?_
        refine r_throwW (pc := 28) (text := "no such box") rfl th_X6_234 (by decide) dX6_boxAt_28 dX6_boxAt_31 dX6_boxAt_32 dX6_boxAt_35 dX6_boxAt_38 ⟨(Nat.le_of_ble_eq_true rfl), (Nat.le_of_ble_eq_true rfl), (Nat.le_of_ble_eq_true rfl), (Nat.le_of_ble_eq_true rfl)⟩ (hX (by omega))

theorem K_X6_bookingAt {hi : Hi} {nb nk : Int} {b : Int} (hnk : 0 ≤ nk ∧ nk ≤ 20) : Need I_X6_bookingAt [aR 6 0, aI b] (hp hi nb nk) (0 ≤ b ∧ b < nk) (some (aR 0 b)) "java/lang/IndexOutOfBoundsException" := by
  refine st_n (xs := [some (aR 6 0), some (aI b), none]) pn_X6 rfl rfl (Nat.le_of_ble_eq_true rfl) rfl rfl (fun Q X hQ hX => ?_)
  refine r_iload_n (pc := 0) dX6_bookingAt_0 rfl ?_
  refine r_if_lt (pc := 1) (tgt := 22) dX6_bookingAt_1 rfl (fun c1 => ?_) (fun c1 => ?_)
  · refine r_null (pc := 22) dX6_bookingAt_22 ?_
    refine r_astore_n (pc := 23) (xs' := [some (aR 6 0), some (aI b), some (aN)]) dX6_bookingAt_23 (by decide) rfl ?_
    refine r_aload_n (pc := 24) dX6_bookingAt_24 rfl ?_
    refine q_ifnonnullN (pc := 25) (tgt := 39) dX6_bookingAt_25 rfl ?_
    refine r_throwW (pc := 28) (text := "no such booking") rfl th_X6_234 (by decide) dX6_bookingAt_28 dX6_bookingAt_31 dX6_bookingAt_32 dX6_bookingAt_35 dX6_bookingAt_38 ⟨(Nat.le_of_ble_eq_true rfl), (Nat.le_of_ble_eq_true rfl), (Nat.le_of_ble_eq_true rfl), (Nat.le_of_ble_eq_true rfl)⟩ (hX (by omega))
  · refine r_iload_n (pc := 4) dX6_bookingAt_4 rfl ?_
    refine r_aload_n (pc := 5) dX6_bookingAt_5 rfl ?_
    refine p_getQ (pc := 6) (jI := 4) (n9 := 1) (r := some (14, 0)) fl_X6_29 rfl dX6_bookingAt_6 rfl rfl (by decide) (by decide) rfl ?_
    refine p_alen (pc := 9) (kk := 14) (n9 := 1) (nI := 20) rfl ⟨(by decide), (by decide), (by decide)⟩ (by decide) dX6_bookingAt_9 rfl (by decide) (by decide) rfl ?_
    refine r_icmp_ge (pc := 10) (tgt := 22) dX6_bookingAt_10 rfl (fun c10 => ?_) (fun c10 => ?_)
    · refine r_null (pc := 22) dX6_bookingAt_22 ?_
      refine r_astore_n (pc := 23) (xs' := [some (aR 6 0), some (aI b), some (aN)]) dX6_bookingAt_23 (by decide) rfl ?_
      refine r_aload_n (pc := 24) dX6_bookingAt_24 rfl ?_
      refine q_ifnonnullN (pc := 25) (tgt := 39) dX6_bookingAt_25 rfl ?_
      refine r_throwW (pc := 28) (text := "no such booking") rfl th_X6_234 (by decide) dX6_bookingAt_28 dX6_bookingAt_31 dX6_bookingAt_32 dX6_bookingAt_35 dX6_bookingAt_38 ⟨(Nat.le_of_ble_eq_true rfl), (Nat.le_of_ble_eq_true rfl), (Nat.le_of_ble_eq_true rfl), (Nat.le_of_ble_eq_true rfl)⟩ (hX (by omega))
    · refine r_aload_n (pc := 13) dX6_bookingAt_13 rfl ?_
      refine p_getQ (pc := 14) (jI := 4) (n9 := 1) (r := some (14, 0)) fl_X6_29 rfl dX6_bookingAt_14 rfl rfl (by decide) (by decide) rfl ?_
      refine r_iload_n (pc := 17) dX6_bookingAt_17 rfl ?_
      rcases (show b < nk ∨ nk ≤ b by omega) with c18 | c18
      · refine p_aald (pc := 18) (n9 := 1) (nI := 20) (r := some (0, b)) rfl ⟨(by decide), (by decide)⟩ dX6_bookingAt_18 rfl (by decide) (by decide) rfl (by omega) (by omega) (hr_14 (by omega) (by omega)) ?_
        refine r_goto (pc := 19) (tgt := 23) dX6_bookingAt_19 rfl ?_
        refine r_astore_n (pc := 23) (xs' := [some (aR 6 0), some (aI b), some (aR 0 b)]) dX6_bookingAt_23 (by decide) rfl ?_
        refine r_aload_n (pc := 24) dX6_bookingAt_24 rfl ?_
        refine q_ifnonnullS (pc := 25) (tgt := 39) dX6_bookingAt_25 rfl ?_
        refine r_aload_n (pc := 39) dX6_bookingAt_39 rfl ?_
        refine r_aret (pc := 40) dX6_bookingAt_40 rfl (Nat.le_of_ble_eq_true rfl) (Nat.le_of_ble_eq_true rfl) ?_
        exact hQ (by omega)
      · refine p_aald (pc := 18) (n9 := 1) (nI := 20) (r := none) rfl ⟨(by decide), (by decide)⟩ dX6_bookingAt_18 rfl (by decide) (by decide) rfl (by omega) (by omega) (hr_14n (by omega)) ?_
        refine r_goto (pc := 19) (tgt := 23) dX6_bookingAt_19 rfl ?_
        refine r_astore_n (pc := 23) (xs' := [some (aR 6 0), some (aI b), some (aN)]) dX6_bookingAt_23 (by decide) rfl ?_
        refine r_aload_n (pc := 24) dX6_bookingAt_24 rfl ?_
        refine q_ifnonnullN (pc := 25) (tgt := 39) dX6_bookingAt_25 rfl ?_
        refine r_throwW (pc := 28) (text := "no such booking") rfl th_X6_234 (by decide) dX6_bookingAt_28 dX6_bookingAt_31 dX6_bookingAt_32 dX6_bookingAt_35 dX6_bookingAt_38 ⟨(Nat.le_of_ble_eq_true rfl), (Nat.le_of_ble_eq_true rfl), (Nat.le_of_ble_eq_true rfl), (Nat.le_of_ble_eq_true rfl)⟩ (hX (by omega))

theorem K_X6_asNumber {hi : Hi} {nb nk : Int} {P : Prop} : Det I_X6_asNumber [aI (bI (P))] (hp hi nb nk) (some (aI (bI P))) (hp hi nb nk) := by
  refine st_d (xs := [some (aI (bI (P)))]) pn_X6 rfl rfl (Nat.le_of_ble_eq_true rfl) rfl rfl (fun Q X hQ => ?_)
  refine r_iload_n (pc := 0) dX6_asNumber_0 rfl ?_
  refine q_ifeqB (pc := 1) (tgt := 8) dX6_asNumber_1 rfl (fun c1 => ?_) (fun c1 => ?_)
  · refine r_iconst (pc := 8) (n := 0) dX6_asNumber_8 (by decide) ?_
    refine r_iret (pc := 9) dX6_asNumber_9 (Or.inl rfl) (Nat.le_of_ble_eq_true rfl) (Nat.le_of_ble_eq_true rfl) ?_
    exact qI hQ (bI_f c1).symm rfl
  · refine r_iconst (pc := 4) (n := 1) dX6_asNumber_4 (by decide) ?_
    refine r_goto (pc := 5) (tgt := 9) dX6_asNumber_5 rfl ?_
    refine r_iret (pc := 9) dX6_asNumber_9 (Or.inl rfl) (Nat.le_of_ble_eq_true rfl) (Nat.le_of_ble_eq_true rfl) ?_
    exact qI hQ (bI_t c1).symm rfl

theorem KI_placeOn {hi : Hi} {nb nk : Int} (hI : Inv hi nb nk) {b day : Int} (h0 : 0 ≤ b) (h1 : b < nb) : Det I_X4_placeOn [aR 4 b, aI day] (hp hi nb nk) (some (aI (plcC hi b day))) (hp hi nb nk) :=
  K_X4_placeOn h0 h1 (by have := (hI.rep b h0 h1).1; omega) (fun k a c => ((hI.rep b h0 h1).2 k a c).2.2.2.1)
theorem KI_mendCost {hi : Hi} {nb nk : Int} (hI : Inv hi nb nk) {b : Int} (h0 : 0 ≤ b) (h1 : b < nb) : Det I_X2_mendCost [aR 2 b, aR 12 0] (hp hi nb nk) (some (aI (menC hi b))) (hp hi nb nk) :=
  K_X2_mendCost h0 h1 (by have := (hI.dam b h0 h1).1; omega) (fun k a c => ((hI.dam b h0 h1).2 k a c).2.2)
theorem KI_holdOn {hi : Hi} {nb nk : Int} (hI : Inv hi nb nk) {b day : Int} (h0 : 0 ≤ b) (h1 : b < nb) : Det I_X3_holdOn [aR 3 b, aI day] (hp hi nb nk) (some (aI (bI (holC hi b day)))) (hp hi nb nk) :=
  K_X3_holdOn h0 h1 (by have := (hI.lea b h0 h1).1; omega)
theorem lacC_r {hi : Hi} {nb nk : Int} (hI : Inv hi nb nk) {k : Int} (h0 : 0 ≤ k) (h1 : k < nk) : 0 ≤ lacC hi k ∧ lacC hi k ≤ 9 := by
  have := hI.bok k h0 h1
  unfold lacC
  split <;> omega
theorem KI_lacking {hi : Hi} {nb nk : Int} (hI : Inv hi nb nk) {b : Int} (h0 : 0 ≤ b) (h1 : b < nk) : Det I_X0_lacking [aR 0 b] (hp hi nb nk) (some (aI (lacC hi b))) (hp hi nb nk) := by
  have := hI.bok b h0 h1
  exact K_X0_lacking h0 h1 (by omega) (by omega)

theorem K_X6_canServe {hi : Hi} {nb nk : Int} (hI : Inv hi nb nk) {b : Int} (hb0 : 0 ≤ b) (hb1 : b < nb) : Det I_X6_canServe [aR 6 0, aR 1 b] (hp hi nb nk) (some (aI (bI (canC hi b)))) (hp hi nb nk) := by
  have hN := hI.num
  have hD := hI.day
  unfold vNum at hN
  unfold vDay at hD
  refine st_d (xs := [some (aR 6 0), some (aR 1 b)]) pn_X6 rfl rfl (Nat.le_of_ble_eq_true rfl) rfl rfl (fun Q X hQ => ?_)
  refine r_aload_n (pc := 0) dX6_canServe_0 rfl ?_
  refine d1_V (pc := 1) (t := 1) (i := b) (rest := []) (cs' := 0) (sl' := 0) mv_X6_238 (K_X1_isGone (b := b) (by omega) (by omega)) rfl ⟨(Nat.le_of_ble_eq_true rfl), (Nat.le_of_ble_eq_true rfl)⟩ (Nat.le_of_ble_eq_true rfl) dX6_canServe_1 (show (0 : Int) ≤ b by omega) (show b < nb by omega) ⟨rfl, (Nat.le_of_ble_eq_true rfl)⟩ ⟨rfl, (Nat.le_of_ble_eq_true rfl)⟩ rfl ?_
  refine q_ifneB (pc := 4) (tgt := 51) dX6_canServe_4 rfl (fun c4 => ?_) (fun c4 => ?_)
  · refine r_iconst (pc := 51) (n := 0) dX6_canServe_51 (by decide) ?_
    refine r_iret (pc := 52) dX6_canServe_52 (Or.inr ⟨rfl, (by decide)⟩) (Nat.le_of_ble_eq_true rfl) (Nat.le_of_ble_eq_true rfl) ?_
    exact qI hQ (bI_f (by unfold canC; omega)).symm rfl
  · refine r_aload_n (pc := 7) dX6_canServe_7 rfl ?_
    refine q_getI (pc := 8) (jI := 7) (n9 := nb) (v := hi 1 b 7) fl_X6_160 rfl dX6_canServe_8 rfl rfl (by omega) (by omega) rfl ?_
    refine r_iconst (pc := 11) (n := (-1)) dX6_canServe_11 (by decide) ?_
    refine r_icmp_ne (pc := 12) (tgt := 51) dX6_canServe_12 rfl (fun c12 => ?_) (fun c12 => ?_)
    · refine r_iconst (pc := 51) (n := 0) dX6_canServe_51 (by decide) ?_
      refine r_iret (pc := 52) dX6_canServe_52 (Or.inr ⟨rfl, (by decide)⟩) (Nat.le_of_ble_eq_true rfl) (Nat.le_of_ble_eq_true rfl) ?_
      exact qI hQ (bI_f (by unfold canC; omega)).symm rfl
    · refine r_aload_n (pc := 15) dX6_canServe_15 rfl ?_
      refine q_getI (pc := 16) (jI := 6) (n9 := nb) (v := hi 1 b 6) fl_X6_92 rfl dX6_canServe_16 rfl rfl (by omega) (by omega) rfl ?_
      refine r_if_ne (pc := 19) (tgt := 51) dX6_canServe_19 rfl (fun c19 => ?_) (fun c19 => ?_)
      · refine r_iconst (pc := 51) (n := 0) dX6_canServe_51 (by decide) ?_
        refine r_iret (pc := 52) dX6_canServe_52 (Or.inr ⟨rfl, (by decide)⟩) (Nat.le_of_ble_eq_true rfl) (Nat.le_of_ble_eq_true rfl) ?_
        exact qI hQ (bI_f (by unfold canC; omega)).symm rfl
      · refine r_aload_n (pc := 22) dX6_canServe_22 rfl ?_
        refine q_getI (pc := 23) (jI := 5) (n9 := nb) (v := hi 1 b 5) fl_X6_96 rfl dX6_canServe_23 rfl rfl (by omega) (by omega) rfl ?_
        refine r_aload_n (pc := 26) dX6_canServe_26 rfl ?_
        refine q_getI (pc := 27) (jI := 8) (n9 := 1) (v := hi 6 0 8) fl_X6_47 rfl dX6_canServe_27 rfl rfl (by decide) (by decide) rfl ?_
        refine r_icmp_lt (pc := 30) (tgt := 51) dX6_canServe_30 rfl (fun c30 => ?_) (fun c30 => ?_)
        · refine r_iconst (pc := 51) (n := 0) dX6_canServe_51 (by decide) ?_
          refine r_iret (pc := 52) dX6_canServe_52 (Or.inr ⟨rfl, (by decide)⟩) (Nat.le_of_ble_eq_true rfl) (Nat.le_of_ble_eq_true rfl) ?_
          exact qI hQ (bI_f (by unfold canC; omega)).symm rfl
        · refine r_aload_n (pc := 33) dX6_canServe_33 rfl ?_
          refine p_getQ (pc := 34) (jI := 4) (n9 := nb) (r := some (2, b)) fl_X6_183 rfl dX6_canServe_34 rfl rfl (by omega) (by omega) rfl ?_
          refine r_aload_n (pc := 37) dX6_canServe_37 rfl ?_
          refine p_getQ (pc := 38) (jI := 2) (n9 := 1) (r := some (12, 0)) fl_X6_17 rfl dX6_canServe_38 rfl rfl (by decide) (by decide) rfl ?_
          refine d1_V (pc := 41) (t := 2) (i := b) (rest := []) (cs' := 0) (sl' := 0) mv_X6_193 (KI_mendCost hI (b := b) (by omega) (by omega)) rfl ⟨(Nat.le_of_ble_eq_true rfl), (Nat.le_of_ble_eq_true rfl)⟩ (Nat.le_of_ble_eq_true rfl) dX6_canServe_41 (show (0 : Int) ≤ b by omega) (show b < nb by omega) ⟨rfl, (Nat.le_of_ble_eq_true rfl)⟩ ⟨rfl, (Nat.le_of_ble_eq_true rfl)⟩ rfl ?_
          refine r_if_ne (pc := 44) (tgt := 51) dX6_canServe_44 rfl (fun c44 => ?_) (fun c44 => ?_)
          · refine r_iconst (pc := 51) (n := 0) dX6_canServe_51 (by decide) ?_
            refine r_iret (pc := 52) dX6_canServe_52 (Or.inr ⟨rfl, (by decide)⟩) (Nat.le_of_ble_eq_true rfl) (Nat.le_of_ble_eq_true rfl) ?_
            exact qI hQ (bI_f (by unfold canC; omega)).symm rfl
          · refine r_iconst (pc := 47) (n := 1) dX6_canServe_47 (by decide) ?_
            refine r_goto (pc := 48) (tgt := 52) dX6_canServe_48 rfl ?_
            refine r_iret (pc := 52) dX6_canServe_52 (Or.inr ⟨rfl, (by decide)⟩) (Nat.le_of_ble_eq_true rfl) (Nat.le_of_ble_eq_true rfl) ?_
            exact qI hQ (bI_t (by unfold canC; omega)).symm rfl

theorem K_X6_quotaLeft {hi : Hi} {nb nk : Int} (hI : Inv hi nb nk) {l p : Int} (hl : 0 ≤ l ∧ l < 3) (hpp : 0 ≤ p ∧ p < 6) : Det I_X6_quotaLeft [aR 6 0, aI l, aI p] (hp hi nb nk) (some (aI (hi 11 l p - hanI hi nb l p (hi 6 0 8 / 30)))) (hp hi nb nk) := by
  have hN := hI.num
  have hD := hI.day
  unfold vNum at hN
  unfold vDay at hD
  have hQ9 := hI.quo l p hl.1 hl.2 hpp.1 hpp.2
  refine st_d (xs := [some (aR 6 0), some (aI l), some (aI p), none, none, none, none, none]) pn_X6 rfl rfl (Nat.le_of_ble_eq_true rfl) rfl rfl (fun Q X hQ => ?_)
  refine r_iload_n (pc := 0) dX6_quotaLeft_0 rfl ?_
  refine d1_S (pc := 1) (rest := []) (cs' := 0) (sl' := 0) ms_X6_255 rfl (K_X6_isLessor (p := l)) rfl ⟨(Nat.le_of_ble_eq_true rfl), (Nat.le_of_ble_eq_true rfl)⟩ (Nat.le_of_ble_eq_true rfl) dX6_quotaLeft_1 ⟨rfl, (Nat.le_of_ble_eq_true rfl)⟩ ⟨rfl, (Nat.le_of_ble_eq_true rfl)⟩ rfl ?_
  refine q_ifeqB (pc := 4) (tgt := 14) dX6_quotaLeft_4 rfl (fun c4 => absurd hl c4) (fun c4 => ?_)
  refine r_iload_n (pc := 7) dX6_quotaLeft_7 rfl ?_
  refine d1_S (pc := 8) (rest := []) (cs' := 0) (sl' := 0) ms_X6_128 rfl (K_X6_isPort (p := p)) rfl ⟨(Nat.le_of_ble_eq_true rfl), (Nat.le_of_ble_eq_true rfl)⟩ (Nat.le_of_ble_eq_true rfl) dX6_quotaLeft_8 ⟨rfl, (Nat.le_of_ble_eq_true rfl)⟩ ⟨rfl, (Nat.le_of_ble_eq_true rfl)⟩ rfl ?_
  refine q_ifneB (pc := 11) (tgt := 16) dX6_quotaLeft_11 rfl (fun c11 => ?_) (fun c11 => absurd hpp c11)
  refine r_iconst (pc := 16) (n := 0) dX6_quotaLeft_16 (by decide) ?_
  refine r_istore_n (pc := 17) (xs' := [some (aR 6 0), some (aI l), some (aI p), some (aI 0), none, none, none, none]) dX6_quotaLeft_17 (by decide) rfl ?_
  refine r_aload_n (pc := 18) dX6_quotaLeft_18 rfl ?_
  refine p_getQ (pc := 19) (jI := 3) (n9 := 1) (r := some (13, 0)) fl_X6_23 rfl dX6_quotaLeft_19 rfl rfl (by decide) (by decide) rfl ?_
  refine r_astore (pc := 22) (xs' := [some (aR 6 0), some (aI l), some (aI p), some (aI 0), some (aR 13 0), none, none, none]) dX6_quotaLeft_22 (by decide) rfl ?_
  refine r_aload (pc := 24) dX6_quotaLeft_24 rfl ?_
  refine p_alen (pc := 26) (kk := 13) (n9 := 1) (nI := 40) rfl ⟨(by decide), (by decide), (by decide)⟩ (by decide) dX6_quotaLeft_26 rfl (by decide) (by decide) rfl ?_
  refine r_istore (pc := 27) (xs' := [some (aR 6 0), some (aI l), some (aI p), some (aI 0), some (aR 13 0), some (aI 40), none, none]) dX6_quotaLeft_27 (by decide) rfl ?_
  refine r_iconst (pc := 29) (n := 0) dX6_quotaLeft_29 (by decide) ?_
  refine r_istore (pc := 30) (xs' := [some (aR 6 0), some (aI l), some (aI p), some (aI 0), some (aR 13 0), some (aI 40), some (aI 0), none]) dX6_quotaLeft_30 (by decide) rfl ?_
  have loop : ∀ (n9 : Nat) (i c : Int), (0 ≤ i ∧ i ≤ 40) → (0 ≤ c ∧ c ≤ i) → ((i ≤ nb → c = sI (fun b => bI (hi 1 b 8 ≠ -1 ∧ hi 1 b 1 = l ∧ hi 1 b 9 = p ∧ hi 1 b 8 / 30 = hi 6 0 8 / 30)) i) ∧ (nb ≤ i → c = sI (fun b => bI (hi 1 b 8 ≠ -1 ∧ hi 1 b 1 = l ∧ hi 1 b 9 = p ∧ hi 1 b 8 / 30 = hi 6 0 8 / 30)) nb)) → 40 - i < (n9 : Int) → Run I_X6_quotaLeft 32 [some (aR 6 0), some (aI l), some (aI p), some (aI c), some (aR 13 0), some (aI 40), some (aI i), none] [] (hp hi nb nk) 0 0 Q X := by
    intro n9
    induction n9 with
    | zero => intro i c h0 h1 h2 hf9; exfalso; omega
    | succ n9 ih_loop =>
      intro i c h0 h1 h2 hf9
      have hB9 := fun q1 q2 => hI.box i q1 q2
      refine r_iload (pc := 32) dX6_quotaLeft_32 rfl ?_
      refine r_iload (pc := 34) dX6_quotaLeft_34 rfl ?_
      refine r_icmp_ge (pc := 36) (tgt := 104) dX6_quotaLeft_36 rfl (fun c36 => ?_) (fun c36 => ?_)
      · refine r_aload_n (pc := 104) dX6_quotaLeft_104 rfl ?_
        refine p_getQ (pc := 105) (jI := 1) (n9 := 1) (r := some (10, 0)) fl_X6_14 rfl dX6_quotaLeft_105 rfl rfl (by decide) (by decide) rfl ?_
        refine r_iload_n (pc := 108) dX6_quotaLeft_108 rfl ?_
        refine p_aald (pc := 109) (n9 := 1) (nI := 3) (r := some (11, l)) rfl ⟨(by decide), (by decide)⟩ dX6_quotaLeft_109 rfl (by decide) (by decide) rfl (by omega) (by omega) (hr_10 (by omega) (by omega)) ?_
        refine r_iload_n (pc := 110) dX6_quotaLeft_110 rfl ?_
        refine q_iald (pc := 111) (n9 := 3) (nI := 6) (v := hi 11 l p) rfl dX6_quotaLeft_111 rfl (by omega) (by omega) rfl (by omega) (by omega) rfl ?_
        refine r_iload_n (pc := 112) dX6_quotaLeft_112 rfl ?_
        refine r_isub (pc := 113) dX6_quotaLeft_113 (by omega) ?_
        refine r_iret (pc := 114) dX6_quotaLeft_114 (Or.inl rfl) (Nat.le_of_ble_eq_true rfl) (Nat.le_of_ble_eq_true rfl) ?_
        exact qI hQ (by rw [h2.2 (by omega)]; rfl) rfl
      · refine r_aload (pc := 39) dX6_quotaLeft_39 rfl ?_
        refine r_iload (pc := 41) dX6_quotaLeft_41 rfl ?_
        rcases (show i < nb ∨ nb ≤ i by omega) with c43 | c43
        · refine p_aald (pc := 43) (n9 := 1) (nI := 40) (r := some (1, i)) rfl ⟨(by decide), (by decide)⟩ dX6_quotaLeft_43 rfl (by decide) (by decide) rfl (by omega) (by omega) (hr_13 (by omega) (by omega)) ?_
          refine r_astore (pc := 44) (xs' := [some (aR 6 0), some (aI l), some (aI p), some (aI c), some (aR 13 0), some (aI 40), some (aI i), some (aR 1 i)]) dX6_quotaLeft_44 (by decide) rfl ?_
          refine r_aload (pc := 46) dX6_quotaLeft_46 rfl ?_
          refine q_ifnullS (pc := 48) (tgt := 98) dX6_quotaLeft_48 rfl ?_
          refine r_aload (pc := 51) dX6_quotaLeft_51 rfl ?_
          refine d1_V (pc := 53) (t := 1) (i := i) (rest := []) (cs' := 0) (sl' := 0) mv_X6_238 (K_X1_isGone (b := i) (by omega) (by omega)) rfl ⟨(Nat.le_of_ble_eq_true rfl), (Nat.le_of_ble_eq_true rfl)⟩ (Nat.le_of_ble_eq_true rfl) dX6_quotaLeft_53 (show (0 : Int) ≤ i by omega) (show i < nb by omega) ⟨rfl, (Nat.le_of_ble_eq_true rfl)⟩ ⟨rfl, (Nat.le_of_ble_eq_true rfl)⟩ rfl ?_
          refine q_ifeqB (pc := 56) (tgt := 98) dX6_quotaLeft_56 rfl (fun c56 => ?_) (fun c56 => ?_)
          · refine r_iinc (pc := 98) (xs' := [some (aR 6 0), some (aI l), some (aI p), some (aI c), some (aR 13 0), some (aI 40), some (aI (i + 1)), some (aR 1 i)]) dX6_quotaLeft_98 rfl (by decide) (by omega) rfl ?_
            refine r_goto (pc := 101) (tgt := 32) dX6_quotaLeft_101 rfl ?_
            refine r_drop (xs' := [some (aR 6 0), some (aI l), some (aI p), some (aI c), some (aR 13 0), some (aI 40), some (aI (i + 1)), none]) 7 rfl ?_
            exact ih_loop (i + 1) c (by omega) (by omega) ⟨fun q => (by rw [sI_s (by omega), ← h2.1 (by omega), bI_f (by omega), Int.add_zero]), fun q => by rw [show nb = i + 1 by omega]; exact (by rw [sI_s (by omega), ← h2.1 (by omega), bI_f (by omega), Int.add_zero])⟩ (by omega)
          · refine r_aload (pc := 59) dX6_quotaLeft_59 rfl ?_
            refine q_getI (pc := 61) (jI := 1) (n9 := nb) (v := hi 1 i 1) fl_X6_136 rfl dX6_quotaLeft_61 rfl rfl (by omega) (by omega) rfl ?_
            refine r_iload_n (pc := 64) dX6_quotaLeft_64 rfl ?_
            refine r_icmp_ne (pc := 65) (tgt := 98) dX6_quotaLeft_65 rfl (fun c65 => ?_) (fun c65 => ?_)
            · refine r_iinc (pc := 98) (xs' := [some (aR 6 0), some (aI l), some (aI p), some (aI c), some (aR 13 0), some (aI 40), some (aI (i + 1)), some (aR 1 i)]) dX6_quotaLeft_98 rfl (by decide) (by omega) rfl ?_
              refine r_goto (pc := 101) (tgt := 32) dX6_quotaLeft_101 rfl ?_
              refine r_drop (xs' := [some (aR 6 0), some (aI l), some (aI p), some (aI c), some (aR 13 0), some (aI 40), some (aI (i + 1)), none]) 7 rfl ?_
              exact ih_loop (i + 1) c (by omega) (by omega) ⟨fun q => (by rw [sI_s (by omega), ← h2.1 (by omega), bI_f (by omega), Int.add_zero]), fun q => by rw [show nb = i + 1 by omega]; exact (by rw [sI_s (by omega), ← h2.1 (by omega), bI_f (by omega), Int.add_zero])⟩ (by omega)
            · refine r_aload (pc := 68) dX6_quotaLeft_68 rfl ?_
              refine q_getI (pc := 70) (jI := 9) (n9 := nb) (v := hi 1 i 9) fl_X6_177 rfl dX6_quotaLeft_70 rfl rfl (by omega) (by omega) rfl ?_
              refine r_iload_n (pc := 73) dX6_quotaLeft_73 rfl ?_
              refine r_icmp_ne (pc := 74) (tgt := 98) dX6_quotaLeft_74 rfl (fun c74 => ?_) (fun c74 => ?_)
              · refine r_iinc (pc := 98) (xs' := [some (aR 6 0), some (aI l), some (aI p), some (aI c), some (aR 13 0), some (aI 40), some (aI (i + 1)), some (aR 1 i)]) dX6_quotaLeft_98 rfl (by decide) (by omega) rfl ?_
                refine r_goto (pc := 101) (tgt := 32) dX6_quotaLeft_101 rfl ?_
                refine r_drop (xs' := [some (aR 6 0), some (aI l), some (aI p), some (aI c), some (aR 13 0), some (aI 40), some (aI (i + 1)), none]) 7 rfl ?_
                exact ih_loop (i + 1) c (by omega) (by omega) ⟨fun q => (by rw [sI_s (by omega), ← h2.1 (by omega), bI_f (by omega), Int.add_zero]), fun q => by rw [show nb = i + 1 by omega]; exact (by rw [sI_s (by omega), ← h2.1 (by omega), bI_f (by omega), Int.add_zero])⟩ (by omega)
              · refine r_aload (pc := 77) dX6_quotaLeft_77 rfl ?_
                refine q_getI (pc := 79) (jI := 8) (n9 := nb) (v := hi 1 i 8) fl_X6_174 rfl dX6_quotaLeft_79 rfl rfl (by omega) (by omega) rfl ?_
                refine r_bipush (pc := 82) (n := 30) dX6_quotaLeft_82 rfl (by decide) ?_
                refine r_idiv (pc := 84) dX6_quotaLeft_84 (by have := hB9 (by omega) (by omega); omega) (by have := hB9 (by omega) (by omega); omega) ?_
                refine r_aload_n (pc := 85) dX6_quotaLeft_85 rfl ?_
                refine q_getI (pc := 86) (jI := 8) (n9 := 1) (v := hi 6 0 8) fl_X6_47 rfl dX6_quotaLeft_86 rfl rfl (by decide) (by decide) rfl ?_
                refine r_bipush (pc := 89) (n := 30) dX6_quotaLeft_89 rfl (by decide) ?_
                refine r_idiv (pc := 91) dX6_quotaLeft_91 (by omega) (by omega) ?_
                refine r_icmp_ne (pc := 92) (tgt := 98) dX6_quotaLeft_92 rfl (fun c92 => ?_) (fun c92 => ?_)
                · refine r_iinc (pc := 98) (xs' := [some (aR 6 0), some (aI l), some (aI p), some (aI c), some (aR 13 0), some (aI 40), some (aI (i + 1)), some (aR 1 i)]) dX6_quotaLeft_98 rfl (by decide) (by omega) rfl ?_
                  refine r_goto (pc := 101) (tgt := 32) dX6_quotaLeft_101 rfl ?_
                  refine r_drop (xs' := [some (aR 6 0), some (aI l), some (aI p), some (aI c), some (aR 13 0), some (aI 40), some (aI (i + 1)), none]) 7 rfl ?_
                  exact ih_loop (i + 1) c (by omega) (by omega) ⟨fun q => (by rw [sI_s (by omega), ← h2.1 (by omega), bI_f (by omega), Int.add_zero]), fun q => by rw [show nb = i + 1 by omega]; exact (by rw [sI_s (by omega), ← h2.1 (by omega), bI_f (by omega), Int.add_zero])⟩ (by omega)
                · refine r_iinc (pc := 95) (xs' := [some (aR 6 0), some (aI l), some (aI p), some (aI (c + 1)), some (aR 13 0), some (aI 40), some (aI i), some (aR 1 i)]) dX6_quotaLeft_95 rfl (by decide) (by omega) rfl ?_
                  refine r_iinc (pc := 98) (xs' := [some (aR 6 0), some (aI l), some (aI p), some (aI (c + 1)), some (aR 13 0), some (aI 40), some (aI (i + 1)), some (aR 1 i)]) dX6_quotaLeft_98 rfl (by decide) (by omega) rfl ?_
                  refine r_goto (pc := 101) (tgt := 32) dX6_quotaLeft_101 rfl ?_
                  refine r_drop (xs' := [some (aR 6 0), some (aI l), some (aI p), some (aI (c + 1)), some (aR 13 0), some (aI 40), some (aI (i + 1)), none]) 7 rfl ?_
                  exact ih_loop (i + 1) (c + 1) (by omega) (by omega) ⟨fun q => (by rw [sI_s (by omega), ← h2.1 (by omega), bI_t (by omega)]), fun q => by rw [show nb = i + 1 by omega]; exact (by rw [sI_s (by omega), ← h2.1 (by omega), bI_t (by omega)])⟩ (by omega)
        · refine p_aald (pc := 43) (n9 := 1) (nI := 40) (r := none) rfl ⟨(by decide), (by decide)⟩ dX6_quotaLeft_43 rfl (by decide) (by decide) rfl (by omega) (by omega) (hr_13n (by omega)) ?_
          refine r_astore (pc := 44) (xs' := [some (aR 6 0), some (aI l), some (aI p), some (aI c), some (aR 13 0), some (aI 40), some (aI i), some (aN)]) dX6_quotaLeft_44 (by decide) rfl ?_
          refine r_aload (pc := 46) dX6_quotaLeft_46 rfl ?_
          refine q_ifnullN (pc := 48) (tgt := 98) dX6_quotaLeft_48 rfl ?_
          refine r_iinc (pc := 98) (xs' := [some (aR 6 0), some (aI l), some (aI p), some (aI c), some (aR 13 0), some (aI 40), some (aI (i + 1)), some (aN)]) dX6_quotaLeft_98 rfl (by decide) (by omega) rfl ?_
          refine r_goto (pc := 101) (tgt := 32) dX6_quotaLeft_101 rfl ?_
          refine r_drop (xs' := [some (aR 6 0), some (aI l), some (aI p), some (aI c), some (aR 13 0), some (aI 40), some (aI (i + 1)), none]) 7 rfl ?_
          exact ih_loop (i + 1) c (by omega) (by omega) ⟨fun q => by omega, fun q => by first | exact h2.2 (by omega) | rw [show nb = i by omega]; exact h2.1 (by omega)⟩ (by omega)
  exact loop 41 0 0 (by omega) (by omega) ⟨fun _ => rfl, fun q => by rw [show nb = 0 by omega]; rfl⟩ (by omega)

theorem K_X6_lackingAt {hi : Hi} {nb nk : Int} (hI : Inv hi nb nk) {p kd : Int} : Det I_X6_lackingAt [aR 6 0, aI p, aI kd] (hp hi nb nk) (some (aI (sI (fun k => if hi 0 k 0 = p ∧ hi 0 k 1 = kd then lacC hi k else 0) nk))) (hp hi nb nk) := by
  have hN := hI.num
  have hD := hI.day
  unfold vNum at hN
  unfold vDay at hD
  refine st_d (xs := [some (aR 6 0), some (aI p), some (aI kd), none, none, none, none, none]) pn_X6 rfl rfl (Nat.le_of_ble_eq_true rfl) rfl rfl (fun Q X hQ => ?_)
  refine r_iconst (pc := 0) (n := 0) dX6_lackingAt_0 (by decide) ?_
  refine r_istore_n (pc := 1) (xs' := [some (aR 6 0), some (aI p), some (aI kd), some (aI 0), none, none, none, none]) dX6_lackingAt_1 (by decide) rfl ?_
  refine r_aload_n (pc := 2) dX6_lackingAt_2 rfl ?_
  refine p_getQ (pc := 3) (jI := 4) (n9 := 1) (r := some (14, 0)) fl_X6_29 rfl dX6_lackingAt_3 rfl rfl (by decide) (by decide) rfl ?_
  refine r_astore (pc := 6) (xs' := [some (aR 6 0), some (aI p), some (aI kd), some (aI 0), some (aR 14 0), none, none, none]) dX6_lackingAt_6 (by decide) rfl ?_
  refine r_aload (pc := 8) dX6_lackingAt_8 rfl ?_
  refine p_alen (pc := 10) (kk := 14) (n9 := 1) (nI := 20) rfl ⟨(by decide), (by decide), (by decide)⟩ (by decide) dX6_lackingAt_10 rfl (by decide) (by decide) rfl ?_
  refine r_istore (pc := 11) (xs' := [some (aR 6 0), some (aI p), some (aI kd), some (aI 0), some (aR 14 0), some (aI 20), none, none]) dX6_lackingAt_11 (by decide) rfl ?_
  refine r_iconst (pc := 13) (n := 0) dX6_lackingAt_13 (by decide) ?_
  refine r_istore (pc := 14) (xs' := [some (aR 6 0), some (aI p), some (aI kd), some (aI 0), some (aR 14 0), some (aI 20), some (aI 0), none]) dX6_lackingAt_14 (by decide) rfl ?_
  have loop : ∀ (n9 : Nat) (i c : Int), (0 ≤ i ∧ i ≤ 20) → (0 ≤ c ∧ c ≤ 9 * i) → ((i ≤ nk → c = sI (fun k => if hi 0 k 0 = p ∧ hi 0 k 1 = kd then lacC hi k else 0) i) ∧ (nk ≤ i → c = sI (fun k => if hi 0 k 0 = p ∧ hi 0 k 1 = kd then lacC hi k else 0) nk)) → 20 - i < (n9 : Int) → Run I_X6_lackingAt 16 [some (aR 6 0), some (aI p), some (aI kd), some (aI c), some (aR 14 0), some (aI 20), some (aI i), none] [] (hp hi nb nk) 0 0 Q X := by
    intro n9
    induction n9 with
    | zero => intro i c h0 h1 h2 hf9; exfalso; omega
    | succ n9 ih_loop =>
      intro i c h0 h1 h2 hf9
      have hB9 := fun q1 q2 => hI.bok i q1 q2
      refine r_iload (pc := 16) dX6_lackingAt_16 rfl ?_
      refine r_iload (pc := 18) dX6_lackingAt_18 rfl ?_
      refine r_icmp_ge (pc := 20) (tgt := 67) dX6_lackingAt_20 rfl (fun c20 => ?_) (fun c20 => ?_)
      · refine r_iload_n (pc := 67) dX6_lackingAt_67 rfl ?_
        refine r_iret (pc := 68) dX6_lackingAt_68 (Or.inl rfl) (Nat.le_of_ble_eq_true rfl) (Nat.le_of_ble_eq_true rfl) ?_
        exact qI hQ (by rw [h2.2 (by omega)]) rfl
      · refine r_aload (pc := 23) dX6_lackingAt_23 rfl ?_
        refine r_iload (pc := 25) dX6_lackingAt_25 rfl ?_
        rcases (show i < nk ∨ nk ≤ i by omega) with c27 | c27
        · refine p_aald (pc := 27) (n9 := 1) (nI := 20) (r := some (0, i)) rfl ⟨(by decide), (by decide)⟩ dX6_lackingAt_27 rfl (by decide) (by decide) rfl (by omega) (by omega) (hr_14 (by omega) (by omega)) ?_
          refine r_astore (pc := 28) (xs' := [some (aR 6 0), some (aI p), some (aI kd), some (aI c), some (aR 14 0), some (aI 20), some (aI i), some (aR 0 i)]) dX6_lackingAt_28 (by decide) rfl ?_
          refine r_aload (pc := 30) dX6_lackingAt_30 rfl ?_
          refine q_ifnullS (pc := 32) (tgt := 61) dX6_lackingAt_32 rfl ?_
          refine r_aload (pc := 35) dX6_lackingAt_35 rfl ?_
          refine q_getI (pc := 37) (jI := 0) (n9 := nk) (v := hi 0 i 0) fl_X6_274 rfl dX6_lackingAt_37 rfl rfl (by omega) (by omega) rfl ?_
          refine r_iload_n (pc := 40) dX6_lackingAt_40 rfl ?_
          refine r_icmp_ne (pc := 41) (tgt := 61) dX6_lackingAt_41 rfl (fun c41 => ?_) (fun c41 => ?_)
          · refine r_iinc (pc := 61) (xs' := [some (aR 6 0), some (aI p), some (aI kd), some (aI c), some (aR 14 0), some (aI 20), some (aI (i + 1)), some (aR 0 i)]) dX6_lackingAt_61 rfl (by decide) (by omega) rfl ?_
            refine r_goto (pc := 64) (tgt := 16) dX6_lackingAt_64 rfl ?_
            refine r_drop (xs' := [some (aR 6 0), some (aI p), some (aI kd), some (aI c), some (aR 14 0), some (aI 20), some (aI (i + 1)), none]) 7 rfl ?_
            exact ih_loop (i + 1) c (by omega) (by omega) ⟨fun q => (by rw [sI_s (by omega), ← h2.1 (by omega), if_neg (by omega), Int.add_zero]), fun q => by rw [show nk = i + 1 by omega]; exact (by rw [sI_s (by omega), ← h2.1 (by omega), if_neg (by omega), Int.add_zero])⟩ (by omega)
          · refine r_aload (pc := 44) dX6_lackingAt_44 rfl ?_
            refine q_getI (pc := 46) (jI := 1) (n9 := nk) (v := hi 0 i 1) fl_X6_207 rfl dX6_lackingAt_46 rfl rfl (by omega) (by omega) rfl ?_
            refine r_iload_n (pc := 49) dX6_lackingAt_49 rfl ?_
            refine r_icmp_ne (pc := 50) (tgt := 61) dX6_lackingAt_50 rfl (fun c50 => ?_) (fun c50 => ?_)
            · refine r_iinc (pc := 61) (xs' := [some (aR 6 0), some (aI p), some (aI kd), some (aI c), some (aR 14 0), some (aI 20), some (aI (i + 1)), some (aR 0 i)]) dX6_lackingAt_61 rfl (by decide) (by omega) rfl ?_
              refine r_goto (pc := 64) (tgt := 16) dX6_lackingAt_64 rfl ?_
              refine r_drop (xs' := [some (aR 6 0), some (aI p), some (aI kd), some (aI c), some (aR 14 0), some (aI 20), some (aI (i + 1)), none]) 7 rfl ?_
              exact ih_loop (i + 1) c (by omega) (by omega) ⟨fun q => (by rw [sI_s (by omega), ← h2.1 (by omega), if_neg (by omega), Int.add_zero]), fun q => by rw [show nk = i + 1 by omega]; exact (by rw [sI_s (by omega), ← h2.1 (by omega), if_neg (by omega), Int.add_zero])⟩ (by omega)
            · refine r_iload_n (pc := 53) dX6_lackingAt_53 rfl ?_
              refine r_aload (pc := 54) dX6_lackingAt_54 rfl ?_
              refine d1_V (pc := 56) (t := 0) (i := i) (rest := [aI c]) (cs' := 0) (sl' := 0) mv_X6_247 (KI_lacking hI (b := i) (by omega) (by omega)) rfl ⟨(Nat.le_of_ble_eq_true rfl), (Nat.le_of_ble_eq_true rfl)⟩ (Nat.le_of_ble_eq_true rfl) dX6_lackingAt_56 (show (0 : Int) ≤ i by omega) (show i < nk by omega) ⟨rfl, (Nat.le_of_ble_eq_true rfl)⟩ ⟨rfl, (Nat.le_of_ble_eq_true rfl)⟩ rfl ?_
              refine r_iadd (pc := 59) dX6_lackingAt_59 (by have := lacC_r hI h0.1 c27; omega) ?_
              refine r_istore_n (pc := 60) (xs' := [some (aR 6 0), some (aI p), some (aI kd), some (aI (c + (lacC hi i))), some (aR 14 0), some (aI 20), some (aI i), some (aR 0 i)]) dX6_lackingAt_60 (by decide) rfl ?_
              refine r_iinc (pc := 61) (xs' := [some (aR 6 0), some (aI p), some (aI kd), some (aI (c + (lacC hi i))), some (aR 14 0), some (aI 20), some (aI (i + 1)), some (aR 0 i)]) dX6_lackingAt_61 rfl (by decide) (by omega) rfl ?_
              refine r_goto (pc := 64) (tgt := 16) dX6_lackingAt_64 rfl ?_
              refine r_drop (xs' := [some (aR 6 0), some (aI p), some (aI kd), some (aI (c + (lacC hi i))), some (aR 14 0), some (aI 20), some (aI (i + 1)), none]) 7 rfl ?_
              exact ih_loop (i + 1) (c + (lacC hi i)) (by omega) (by have := lacC_r hI h0.1 c27; omega) ⟨fun q => (by rw [sI_s (by omega), ← h2.1 (by omega), if_pos (by omega)]), fun q => by rw [show nk = i + 1 by omega]; exact (by rw [sI_s (by omega), ← h2.1 (by omega), if_pos (by omega)])⟩ (by omega)
        · refine p_aald (pc := 27) (n9 := 1) (nI := 20) (r := none) rfl ⟨(by decide), (by decide)⟩ dX6_lackingAt_27 rfl (by decide) (by decide) rfl (by omega) (by omega) (hr_14n (by omega)) ?_
          refine r_astore (pc := 28) (xs' := [some (aR 6 0), some (aI p), some (aI kd), some (aI c), some (aR 14 0), some (aI 20), some (aI i), some (aN)]) dX6_lackingAt_28 (by decide) rfl ?_
          refine r_aload (pc := 30) dX6_lackingAt_30 rfl ?_
          refine q_ifnullN (pc := 32) (tgt := 61) dX6_lackingAt_32 rfl ?_
          refine r_iinc (pc := 61) (xs' := [some (aR 6 0), some (aI p), some (aI kd), some (aI c), some (aR 14 0), some (aI 20), some (aI (i + 1)), some (aN)]) dX6_lackingAt_61 rfl (by decide) (by omega) rfl ?_
          refine r_goto (pc := 64) (tgt := 16) dX6_lackingAt_64 rfl ?_
          refine r_drop (xs' := [some (aR 6 0), some (aI p), some (aI kd), some (aI c), some (aR 14 0), some (aI 20), some (aI (i + 1)), none]) 7 rfl ?_
          exact ih_loop (i + 1) c (by omega) (by omega) ⟨fun q => by omega, fun q => by first | exact h2.2 (by omega) | rw [show nk = i by omega]; exact h2.1 (by omega)⟩ (by omega)
  exact loop 21 0 0 (by omega) (by omega) ⟨fun _ => rfl, fun q => by rw [show nk = 0 by omega]; rfl⟩ (by omega)
