/-! ===== the reference: its small methods (walks printed by wip/whole/tools/g36.py) ===== -/
theorem K_X7_holds {hi : Hi} {nb nk : Int} {e v : Int} (hv : v = if e = 0 then 1 else 0) : Det I_X7_holds [aR 7 0, aI e] (hp hi nb nk) (some (aI v)) (hp (up1 hi 7 0 0 e) nb nk) := by
  refine st_d (xs := [some (aR 7 0), some (aI e)]) pn_X7 rfl rfl (Nat.le_of_ble_eq_true rfl) rfl rfl (fun Q X hQ => ?_)
  refine r_aload_n (pc := 0) dX7_holds_0 rfl ?_
  refine r_iload_n (pc := 1) dX7_holds_1 rfl ?_
  refine p_putI (pc := 2) (jI := 0) (n9 := 1) fl_X7_108 (Or.inl rfl) (Or.inl rfl) dX7_holds_2 rfl rfl (by decide) (by decide) ?_
  refine r_iload_n (pc := 5) dX7_holds_5 rfl ?_
  refine r_if_ne (pc := 6) (tgt := 13) dX7_holds_6 rfl (fun c6 => ?_) (fun c6 => ?_)
  · refine r_iconst (pc := 13) (n := 0) dX7_holds_13 (by decide) ?_
    refine r_iret (pc := 14) dX7_holds_14 (Or.inr ⟨rfl, (by decide)⟩) (Nat.le_of_ble_eq_true rfl) (Nat.le_of_ble_eq_true rfl) ?_
    exact qI hQ (by rw [hv]; simp [c6]) rfl
  · refine r_iconst (pc := 9) (n := 1) dX7_holds_9 (by decide) ?_
    refine r_goto (pc := 10) (tgt := 14) dX7_holds_10 rfl ?_
    refine r_iret (pc := 14) dX7_holds_14 (Or.inr ⟨rfl, (by decide)⟩) (Nat.le_of_ble_eq_true rfl) (Nat.le_of_ble_eq_true rfl) ?_
    exact qI hQ (by rw [hv]; simp [c6]) rfl

theorem K_X7_isIn {hi : Hi} {nb nk : Int} {v lo up : Int} : Det I_X7_isIn [aI v, aI lo, aI up] (hp hi nb nk) (some (aI (bI (lo ≤ v ∧ v ≤ up)))) (hp hi nb nk) := by
  refine st_d (xs := [some (aI v), some (aI lo), some (aI up)]) pn_X7 rfl rfl (Nat.le_of_ble_eq_true rfl) rfl rfl (fun Q X hQ => ?_)
  refine r_iload_n (pc := 0) dX7_isIn_0 rfl ?_
  refine r_iload_n (pc := 1) dX7_isIn_1 rfl ?_
  refine r_icmp_lt (pc := 2) (tgt := 14) dX7_isIn_2 rfl (fun c2 => ?_) (fun c2 => ?_)
  · refine r_iconst (pc := 14) (n := 0) dX7_isIn_14 (by decide) ?_
    refine r_iret (pc := 15) dX7_isIn_15 (Or.inr ⟨rfl, (by decide)⟩) (Nat.le_of_ble_eq_true rfl) (Nat.le_of_ble_eq_true rfl) ?_
    exact qI hQ (bI_f (by omega)).symm rfl
  · refine r_iload_n (pc := 5) dX7_isIn_5 rfl ?_
    refine r_iload_n (pc := 6) dX7_isIn_6 rfl ?_
    refine r_icmp_gt (pc := 7) (tgt := 14) dX7_isIn_7 rfl (fun c7 => ?_) (fun c7 => ?_)
    · refine r_iconst (pc := 14) (n := 0) dX7_isIn_14 (by decide) ?_
      refine r_iret (pc := 15) dX7_isIn_15 (Or.inr ⟨rfl, (by decide)⟩) (Nat.le_of_ble_eq_true rfl) (Nat.le_of_ble_eq_true rfl) ?_
      exact qI hQ (bI_f (by omega)).symm rfl
    · refine r_iconst (pc := 10) (n := 1) dX7_isIn_10 (by decide) ?_
      refine r_goto (pc := 11) (tgt := 15) dX7_isIn_11 rfl ?_
      refine r_iret (pc := 15) dX7_isIn_15 (Or.inr ⟨rfl, (by decide)⟩) (Nat.le_of_ble_eq_true rfl) (Nat.le_of_ble_eq_true rfl) ?_
      exact qI hQ (bI_t (by omega)).symm rfl

theorem K_X7_isPort {hi : Hi} {nb nk : Int} {p : Int} : Det I_X7_isPort [aI p] (hp hi nb nk) (some (aI (bI (0 ≤ p ∧ p < 6)))) (hp hi nb nk) := by
  refine st_d (xs := [some (aI p)]) pn_X7 rfl rfl (Nat.le_of_ble_eq_true rfl) rfl rfl (fun Q X hQ => ?_)
  refine r_iload_n (pc := 0) dX7_isPort_0 rfl ?_
  refine r_iconst (pc := 1) (n := 0) dX7_isPort_1 (by decide) ?_
  refine r_iconst (pc := 2) (n := 5) dX7_isPort_2 (by decide) ?_
  refine d1_S (pc := 3) (rest := []) (cs' := 0) (sl' := 0) ms_X7_111 rfl (K_X7_isIn (v := p) (lo := 0) (up := 5)) rfl ⟨(Nat.le_of_ble_eq_true rfl), (Nat.le_of_ble_eq_true rfl)⟩ (Nat.le_of_ble_eq_true rfl) dX7_isPort_3 ⟨rfl, (Nat.le_of_ble_eq_true rfl)⟩ ⟨rfl, (Nat.le_of_ble_eq_true rfl)⟩ rfl ?_
  refine r_iret (pc := 6) dX7_isPort_6 (Or.inr ⟨rfl, bI_01⟩) (Nat.le_of_ble_eq_true rfl) (Nat.le_of_ble_eq_true rfl) ?_
  exact qI hQ (bI_iff (by constructor <;> (intro q; omega))) rfl

theorem K_X7_isKind {hi : Hi} {nb nk : Int} {p : Int} : Det I_X7_isKind [aI p] (hp hi nb nk) (some (aI (bI (0 ≤ p ∧ p < 3)))) (hp hi nb nk) := by
  refine st_d (xs := [some (aI p)]) pn_X7 rfl rfl (Nat.le_of_ble_eq_true rfl) rfl rfl (fun Q X hQ => ?_)
  refine r_iload_n (pc := 0) dX7_isKind_0 rfl ?_
  refine r_iconst (pc := 1) (n := 0) dX7_isKind_1 (by decide) ?_
  refine r_iconst (pc := 2) (n := 2) dX7_isKind_2 (by decide) ?_
  refine d1_S (pc := 3) (rest := []) (cs' := 0) (sl' := 0) ms_X7_111 rfl (K_X7_isIn (v := p) (lo := 0) (up := 2)) rfl ⟨(Nat.le_of_ble_eq_true rfl), (Nat.le_of_ble_eq_true rfl)⟩ (Nat.le_of_ble_eq_true rfl) dX7_isKind_3 ⟨rfl, (Nat.le_of_ble_eq_true rfl)⟩ ⟨rfl, (Nat.le_of_ble_eq_true rfl)⟩ rfl ?_
  refine r_iret (pc := 6) dX7_isKind_6 (Or.inr ⟨rfl, bI_01⟩) (Nat.le_of_ble_eq_true rfl) (Nat.le_of_ble_eq_true rfl) ?_
  exact qI hQ (bI_iff (by constructor <;> (intro q; omega))) rfl

theorem K_X7_isDay {hi : Hi} {nb nk : Int} {p : Int} : Det I_X7_isDay [aI p] (hp hi nb nk) (some (aI (bI (0 ≤ p ∧ p < 10000)))) (hp hi nb nk) := by
  refine st_d (xs := [some (aI p)]) pn_X7 rfl rfl (Nat.le_of_ble_eq_true rfl) rfl rfl (fun Q X hQ => ?_)
  refine r_iload_n (pc := 0) dX7_isDay_0 rfl ?_
  refine r_iconst (pc := 1) (n := 0) dX7_isDay_1 (by decide) ?_
  refine r_sipush (pc := 2) (n := 9999) dX7_isDay_2 rfl (by decide) ?_
  refine d1_S (pc := 5) (rest := []) (cs' := 0) (sl' := 0) ms_X7_111 rfl (K_X7_isIn (v := p) (lo := 0) (up := 9999)) rfl ⟨(Nat.le_of_ble_eq_true rfl), (Nat.le_of_ble_eq_true rfl)⟩ (Nat.le_of_ble_eq_true rfl) dX7_isDay_5 ⟨rfl, (Nat.le_of_ble_eq_true rfl)⟩ ⟨rfl, (Nat.le_of_ble_eq_true rfl)⟩ rfl ?_
  refine r_iret (pc := 8) dX7_isDay_8 (Or.inr ⟨rfl, bI_01⟩) (Nat.le_of_ble_eq_true rfl) (Nat.le_of_ble_eq_true rfl) ?_
  exact qI hQ (bI_iff (by constructor <;> (intro q; omega))) rfl

theorem K_X7_isCode {hi : Hi} {nb nk : Int} {p : Int} : Det I_X7_isCode [aI p] (hp hi nb nk) (some (aI (bI (0 ≤ p ∧ p < 5)))) (hp hi nb nk) := by
  refine st_d (xs := [some (aI p)]) pn_X7 rfl rfl (Nat.le_of_ble_eq_true rfl) rfl rfl (fun Q X hQ => ?_)
  refine r_iload_n (pc := 0) dX7_isCode_0 rfl ?_
  refine r_iconst (pc := 1) (n := 0) dX7_isCode_1 (by decide) ?_
  refine r_iconst (pc := 2) (n := 4) dX7_isCode_2 (by decide) ?_
  refine d1_S (pc := 3) (rest := []) (cs' := 0) (sl' := 0) ms_X7_111 rfl (K_X7_isIn (v := p) (lo := 0) (up := 4)) rfl ⟨(Nat.le_of_ble_eq_true rfl), (Nat.le_of_ble_eq_true rfl)⟩ (Nat.le_of_ble_eq_true rfl) dX7_isCode_3 ⟨rfl, (Nat.le_of_ble_eq_true rfl)⟩ ⟨rfl, (Nat.le_of_ble_eq_true rfl)⟩ rfl ?_
  refine r_iret (pc := 6) dX7_isCode_6 (Or.inr ⟨rfl, bI_01⟩) (Nat.le_of_ble_eq_true rfl) (Nat.le_of_ble_eq_true rfl) ?_
  exact qI hQ (bI_iff (by constructor <;> (intro q; omega))) rfl

theorem K_X7_isBox {hi : Hi} {nb nk : Int} (hM : MV hi nb nk) {b : Int} : Det I_X7_isBox [aR 7 0, aI b] (hp hi nb nk) (some (aI (bI (0 ≤ b ∧ b < nb)))) (hp hi nb nk) := by
  have hN := hM.num
  unfold mNum at hN
  refine st_d (xs := [some (aR 7 0), some (aI b)]) pn_X7 rfl rfl (Nat.le_of_ble_eq_true rfl) rfl rfl (fun Q X hQ => ?_)
  refine r_iload_n (pc := 0) dX7_isBox_0 rfl ?_
  refine r_iconst (pc := 1) (n := 0) dX7_isBox_1 (by decide) ?_
  refine r_aload_n (pc := 2) dX7_isBox_2 rfl ?_
  refine q_getI (pc := 3) (jI := 9) (n9 := 1) (v := hi 7 0 9) fl_X7_115 rfl dX7_isBox_3 rfl rfl (by decide) (by decide) rfl ?_
  refine r_iconst (pc := 6) (n := 1) dX7_isBox_6 (by decide) ?_
  refine r_isub (pc := 7) dX7_isBox_7 (by omega) ?_
  refine d1_S (pc := 8) (rest := []) (cs' := 0) (sl' := 0) ms_X7_111 rfl (K_X7_isIn (v := b) (lo := 0) (up := (hi 7 0 9) - 1)) rfl ⟨(Nat.le_of_ble_eq_true rfl), (Nat.le_of_ble_eq_true rfl)⟩ (Nat.le_of_ble_eq_true rfl) dX7_isBox_8 ⟨rfl, (Nat.le_of_ble_eq_true rfl)⟩ ⟨rfl, (Nat.le_of_ble_eq_true rfl)⟩ rfl ?_
  refine r_iret (pc := 11) dX7_isBox_11 (Or.inr ⟨rfl, bI_01⟩) (Nat.le_of_ble_eq_true rfl) (Nat.le_of_ble_eq_true rfl) ?_
  exact qI hQ (bI_iff (by constructor <;> (intro q; omega))) rfl

theorem K_X7_isBooking {hi : Hi} {nb nk : Int} (hM : MV hi nb nk) {b : Int} : Det I_X7_isBooking [aR 7 0, aI b] (hp hi nb nk) (some (aI (bI (0 ≤ b ∧ b < nk)))) (hp hi nb nk) := by
  have hN := hM.num
  unfold mNum at hN
  refine st_d (xs := [some (aR 7 0), some (aI b)]) pn_X7 rfl rfl (Nat.le_of_ble_eq_true rfl) rfl rfl (fun Q X hQ => ?_)
  refine r_iload_n (pc := 0) dX7_isBooking_0 rfl ?_
  refine r_iconst (pc := 1) (n := 0) dX7_isBooking_1 (by decide) ?_
  refine r_aload_n (pc := 2) dX7_isBooking_2 rfl ?_
  refine q_getI (pc := 3) (jI := 30) (n9 := 1) (v := hi 7 0 30) fl_X7_186 rfl dX7_isBooking_3 rfl rfl (by decide) (by decide) rfl ?_
  refine r_iconst (pc := 6) (n := 1) dX7_isBooking_6 (by decide) ?_
  refine r_isub (pc := 7) dX7_isBooking_7 (by omega) ?_
  refine d1_S (pc := 8) (rest := []) (cs' := 0) (sl' := 0) ms_X7_111 rfl (K_X7_isIn (v := b) (lo := 0) (up := (hi 7 0 30) - 1)) rfl ⟨(Nat.le_of_ble_eq_true rfl), (Nat.le_of_ble_eq_true rfl)⟩ (Nat.le_of_ble_eq_true rfl) dX7_isBooking_8 ⟨rfl, (Nat.le_of_ble_eq_true rfl)⟩ ⟨rfl, (Nat.le_of_ble_eq_true rfl)⟩ rfl ?_
  refine r_iret (pc := 11) dX7_isBooking_11 (Or.inr ⟨rfl, bI_01⟩) (Nat.le_of_ble_eq_true rfl) (Nat.le_of_ble_eq_true rfl) ?_
  exact qI hQ (bI_iff (by constructor <;> (intro q; omega))) rfl

theorem K_X7_isGone {hi : Hi} {nb nk : Int} {b : Int} (hb0 : 0 ≤ b) (hb1 : b < 40) : Det I_X7_isGone [aR 7 0, aI b] (hp hi nb nk) (some (aI (bI (hi 35 0 b ≠ -1)))) (hp hi nb nk) := by
  refine st_d (xs := [some (aR 7 0), some (aI b)]) pn_X7 rfl rfl (Nat.le_of_ble_eq_true rfl) rfl rfl (fun Q X hQ => ?_)
  refine r_aload_n (pc := 0) dX7_isGone_0 rfl ?_
  refine p_getQ (pc := 1) (jI := 7) (n9 := 1) (r := some (35, 0)) fl_X7_26 rfl dX7_isGone_1 rfl rfl (by decide) (by decide) rfl ?_
  refine r_iload_n (pc := 4) dX7_isGone_4 rfl ?_
  refine q_iald (pc := 5) (n9 := 1) (nI := 40) (v := hi 35 0 b) rfl dX7_isGone_5 rfl (by decide) (by decide) rfl (by omega) (by omega) rfl ?_
  refine r_iconst (pc := 6) (n := (-1)) dX7_isGone_6 (by decide) ?_
  refine r_icmp_eq (pc := 7) (tgt := 14) dX7_isGone_7 rfl (fun c7 => ?_) (fun c7 => ?_)
  · refine r_iconst (pc := 14) (n := 0) dX7_isGone_14 (by decide) ?_
    refine r_iret (pc := 15) dX7_isGone_15 (Or.inr ⟨rfl, (by decide)⟩) (Nat.le_of_ble_eq_true rfl) (Nat.le_of_ble_eq_true rfl) ?_
    exact qI hQ (bI_f (by omega)).symm rfl
  · refine r_iconst (pc := 10) (n := 1) dX7_isGone_10 (by decide) ?_
    refine r_goto (pc := 11) (tgt := 15) dX7_isGone_11 rfl ?_
    refine r_iret (pc := 15) dX7_isGone_15 (Or.inr ⟨rfl, (by decide)⟩) (Nat.le_of_ble_eq_true rfl) (Nat.le_of_ble_eq_true rfl) ?_
    exact qI hQ (bI_t (by omega)).symm rfl

theorem K_X7_fits {hi : Hi} {nb nk : Int} {its ev po : Int} : Det I_X7_fits [aI its, aI ev, aI po] (hp hi nb nk) (some (aI (bI (fitsP its ev po)))) (hp hi nb nk) := by
  refine st_d (xs := [some (aI its), some (aI ev), some (aI po)]) pn_X7 rfl rfl (Nat.le_of_ble_eq_true rfl) rfl rfl (fun Q X hQ => ?_)
  refine r_iload_n (pc := 0) dX7_fits_0 rfl ?_
  refine r_if_ne (pc := 1) (tgt := 24) dX7_fits_1 rfl (fun c1 => ?_) (fun c1 => ?_)
  · refine r_iload_n (pc := 24) dX7_fits_24 rfl ?_
    refine r_iconst (pc := 25) (n := 3) dX7_fits_25 (by decide) ?_
    refine r_icmp_ne (pc := 26) (tgt := 49) dX7_fits_26 rfl (fun c26 => ?_) (fun c26 => ?_)
    · refine r_iload_n (pc := 49) dX7_fits_49 rfl ?_
      refine r_iload_n (pc := 50) dX7_fits_50 rfl ?_
      refine r_icmp_ne (pc := 51) (tgt := 58) dX7_fits_51 rfl (fun c51 => ?_) (fun c51 => ?_)
      · refine r_iconst (pc := 58) (n := 0) dX7_fits_58 (by decide) ?_
        refine r_iret (pc := 59) dX7_fits_59 (Or.inr ⟨rfl, (by decide)⟩) (Nat.le_of_ble_eq_true rfl) (Nat.le_of_ble_eq_true rfl) ?_
        exact qI hQ (bI_f (by unfold fitsP; omega)).symm rfl
      · refine r_iconst (pc := 54) (n := 1) dX7_fits_54 (by decide) ?_
        refine r_goto (pc := 55) (tgt := 59) dX7_fits_55 rfl ?_
        refine r_iret (pc := 59) dX7_fits_59 (Or.inr ⟨rfl, (by decide)⟩) (Nat.le_of_ble_eq_true rfl) (Nat.le_of_ble_eq_true rfl) ?_
        exact qI hQ (bI_t (by unfold fitsP; omega)).symm rfl
    · refine r_iload_n (pc := 29) dX7_fits_29 rfl ?_
      refine r_bipush (pc := 30) (n := 10) dX7_fits_30 rfl (by decide) ?_
      refine r_icmp_eq (pc := 32) (tgt := 41) dX7_fits_32 rfl (fun c32 => ?_) (fun c32 => ?_)
      · refine r_iconst (pc := 41) (n := 1) dX7_fits_41 (by decide) ?_
        refine r_goto (pc := 42) (tgt := 59) dX7_fits_42 rfl ?_
        refine r_iret (pc := 59) dX7_fits_59 (Or.inr ⟨rfl, (by decide)⟩) (Nat.le_of_ble_eq_true rfl) (Nat.le_of_ble_eq_true rfl) ?_
        exact qI hQ (bI_t (by unfold fitsP; omega)).symm rfl
      · refine r_iload_n (pc := 35) dX7_fits_35 rfl ?_
        refine r_bipush (pc := 36) (n := 12) dX7_fits_36 rfl (by decide) ?_
        refine r_icmp_ne (pc := 38) (tgt := 45) dX7_fits_38 rfl (fun c38 => ?_) (fun c38 => ?_)
        · refine r_iconst (pc := 45) (n := 0) dX7_fits_45 (by decide) ?_
          refine r_goto (pc := 46) (tgt := 59) dX7_fits_46 rfl ?_
          refine r_iret (pc := 59) dX7_fits_59 (Or.inr ⟨rfl, (by decide)⟩) (Nat.le_of_ble_eq_true rfl) (Nat.le_of_ble_eq_true rfl) ?_
          exact qI hQ (bI_f (by unfold fitsP; omega)).symm rfl
        · refine r_iconst (pc := 41) (n := 1) dX7_fits_41 (by decide) ?_
          refine r_goto (pc := 42) (tgt := 59) dX7_fits_42 rfl ?_
          refine r_iret (pc := 59) dX7_fits_59 (Or.inr ⟨rfl, (by decide)⟩) (Nat.le_of_ble_eq_true rfl) (Nat.le_of_ble_eq_true rfl) ?_
          exact qI hQ (bI_t (by unfold fitsP; omega)).symm rfl
  · refine r_iload_n (pc := 4) dX7_fits_4 rfl ?_
    refine r_bipush (pc := 5) (n := 10) dX7_fits_5 rfl (by decide) ?_
    refine r_icmp_eq (pc := 7) (tgt := 16) dX7_fits_7 rfl (fun c7 => ?_) (fun c7 => ?_)
    · refine r_iconst (pc := 16) (n := 1) dX7_fits_16 (by decide) ?_
      refine r_goto (pc := 17) (tgt := 59) dX7_fits_17 rfl ?_
      refine r_iret (pc := 59) dX7_fits_59 (Or.inr ⟨rfl, (by decide)⟩) (Nat.le_of_ble_eq_true rfl) (Nat.le_of_ble_eq_true rfl) ?_
      exact qI hQ (bI_t (by unfold fitsP; omega)).symm rfl
    · refine r_iload_n (pc := 10) dX7_fits_10 rfl ?_
      refine r_bipush (pc := 11) (n := 11) dX7_fits_11 rfl (by decide) ?_
      refine r_icmp_ne (pc := 13) (tgt := 20) dX7_fits_13 rfl (fun c13 => ?_) (fun c13 => ?_)
      · refine r_iconst (pc := 20) (n := 0) dX7_fits_20 (by decide) ?_
        refine r_goto (pc := 21) (tgt := 59) dX7_fits_21 rfl ?_
        refine r_iret (pc := 59) dX7_fits_59 (Or.inr ⟨rfl, (by decide)⟩) (Nat.le_of_ble_eq_true rfl) (Nat.le_of_ble_eq_true rfl) ?_
        exact qI hQ (bI_f (by unfold fitsP; omega)).symm rfl
      · refine r_iconst (pc := 16) (n := 1) dX7_fits_16 (by decide) ?_
        refine r_goto (pc := 17) (tgt := 59) dX7_fits_17 rfl ?_
        refine r_iret (pc := 59) dX7_fits_59 (Or.inr ⟨rfl, (by decide)⟩) (Nat.le_of_ble_eq_true rfl) (Nat.le_of_ble_eq_true rfl) ?_
        exact qI hQ (bI_t (by unfold fitsP; omega)).symm rfl

theorem K_X7_behind {hi : Hi} {nb nk : Int} {ev po : Int} : Det I_X7_behind [aI ev, aI po] (hp hi nb nk) (some (aI (behI ev po))) (hp hi nb nk) := by
  refine st_d (xs := [some (aI ev), some (aI po)]) pn_X7 rfl rfl (Nat.le_of_ble_eq_true rfl) rfl rfl (fun Q X hQ => ?_)
  refine r_iload_n (pc := 0) dX7_behind_0 rfl ?_
  refine r_iconst (pc := 1) (n := 1) dX7_behind_1 (by decide) ?_
  refine r_icmp_ne (pc := 2) (tgt := 10) dX7_behind_2 rfl (fun c2 => ?_) (fun c2 => ?_)
  · refine r_iload_n (pc := 10) dX7_behind_10 rfl ?_
    refine r_iconst (pc := 11) (n := 2) dX7_behind_11 (by decide) ?_
    refine r_icmp_ne (pc := 12) (tgt := 20) dX7_behind_12 rfl (fun c12 => ?_) (fun c12 => ?_)
    · refine r_iload_n (pc := 20) dX7_behind_20 rfl ?_
      refine r_iret (pc := 21) dX7_behind_21 (Or.inl rfl) (Nat.le_of_ble_eq_true rfl) (Nat.le_of_ble_eq_true rfl) ?_
      exact qI hQ (by unfold behI; (repeat (split; try omega)); try omega) rfl
    · refine r_bipush (pc := 15) (n := 12) dX7_behind_15 rfl (by decide) ?_
      refine r_goto (pc := 17) (tgt := 21) dX7_behind_17 rfl ?_
      refine r_iret (pc := 21) dX7_behind_21 (Or.inl rfl) (Nat.le_of_ble_eq_true rfl) (Nat.le_of_ble_eq_true rfl) ?_
      exact qI hQ (by unfold behI; (repeat (split; try omega)); try omega) rfl
  · refine r_bipush (pc := 5) (n := 11) dX7_behind_5 rfl (by decide) ?_
    refine r_goto (pc := 7) (tgt := 21) dX7_behind_7 rfl ?_
    refine r_iret (pc := 21) dX7_behind_21 (Or.inl rfl) (Nat.le_of_ble_eq_true rfl) (Nat.le_of_ble_eq_true rfl) ?_
    exact qI hQ (by unfold behI; (repeat (split; try omega)); try omega) rfl

theorem KR_X7_placeOn {hi : Hi} {nb nk : Int} {b day : Int} (hb0 : 0 ≤ b) (hb1 : b < 40) (ht : 0 ≤ hi 40 0 b ∧ hi 40 0 b ≤ 30) : Det I_X7_placeOn [aR 7 0, aI b, aI day] (hp hi nb nk) (some (aI (plcM hi b day))) (hp hi nb nk) := by
  refine st_d (xs := [some (aR 7 0), some (aI b), some (aI day), none, none]) pn_X7 rfl rfl (Nat.le_of_ble_eq_true rfl) rfl rfl (fun Q X hQ => ?_)
  refine r_bipush (pc := 0) (n := 10) dX7_placeOn_0 rfl (by decide) ?_
  refine r_istore_n (pc := 2) (xs' := [some (aR 7 0), some (aI b), some (aI day), some (aI 10), none]) dX7_placeOn_2 (by decide) rfl ?_
  refine r_bipush (pc := 3) (n := 30) dX7_placeOn_3 rfl (by decide) ?_
  refine r_iload_n (pc := 5) dX7_placeOn_5 rfl ?_
  refine r_imul (pc := 6) dX7_placeOn_6 (by omega) ?_
  refine r_istore (pc := 7) (xs' := [some (aR 7 0), some (aI b), some (aI day), some (aI 10), some (aI (30 * b))]) dX7_placeOn_7 (by decide) rfl ?_
  have loop : ∀ (n9 : Nat) (q i p : Int), (q = 30 * b + i) → (0 ≤ i ∧ i ≤ hi 40 0 b) → (∀ k, 0 ≤ k → k < i → mD hi b k ≤ day) → (p = livI (mE hi b) (mP hi b) i) → hi 40 0 b - i < (n9 : Int) → Run I_X7_placeOn 9 [some (aR 7 0), some (aI b), some (aI day), some (aI p), some (aI q)] [] (hp hi nb nk) 0 0 Q X := by
    intro n9
    induction n9 with
    | zero => intro q i p h3 h0 h1 h2 hf9; exfalso; omega
    | succ n9 ih_loop =>
      intro q i p h3 h0 h1 h2 hf9
      refine r_iload (pc := 9) dX7_placeOn_9 rfl ?_
      refine r_bipush (pc := 11) (n := 30) dX7_placeOn_11 rfl (by decide) ?_
      refine r_iload_n (pc := 13) dX7_placeOn_13 rfl ?_
      refine r_imul (pc := 14) dX7_placeOn_14 (by omega) ?_
      refine r_aload_n (pc := 15) dX7_placeOn_15 rfl ?_
      refine p_getQ (pc := 16) (jI := 13) (n9 := 1) (r := some (40, 0)) fl_X7_41 rfl dX7_placeOn_16 rfl rfl (by decide) (by decide) rfl ?_
      refine r_iload_n (pc := 19) dX7_placeOn_19 rfl ?_
      refine q_iald (pc := 20) (n9 := 1) (nI := 40) (v := hi 40 0 b) rfl dX7_placeOn_20 rfl (by decide) (by decide) rfl (by omega) (by omega) rfl ?_
      refine r_iadd (pc := 21) dX7_placeOn_21 (by omega) ?_
      refine r_icmp_ge (pc := 22) (tgt := 85) dX7_placeOn_22 rfl (fun c22 => ?_) (fun c22 => ?_)
      · refine r_iload_n (pc := 85) dX7_placeOn_85 rfl ?_
        refine r_iret (pc := 86) dX7_placeOn_86 (Or.inl rfl) (Nat.le_of_ble_eq_true rfl) (Nat.le_of_ble_eq_true rfl) ?_
        exact qI hQ (by rw [h2]; unfold plcM plcI; rw [upI_eq (i := i) (by omega) (by omega) h1 (by unfold mD; rw [← h3]; omega)]) rfl
      · refine r_aload_n (pc := 25) dX7_placeOn_25 rfl ?_
        refine p_getQ (pc := 26) (jI := 10) (n9 := 1) (r := some (37, 0)) fl_X7_32 rfl dX7_placeOn_26 rfl rfl (by decide) (by decide) rfl ?_
        refine r_iload (pc := 29) dX7_placeOn_29 rfl ?_
        refine q_iald (pc := 31) (n9 := 1) (nI := 1200) (v := hi 37 0 q) rfl dX7_placeOn_31 rfl (by decide) (by decide) rfl (by omega) (by omega) rfl ?_
        refine r_iload_n (pc := 32) dX7_placeOn_32 rfl ?_
        refine r_icmp_gt (pc := 33) (tgt := 85) dX7_placeOn_33 rfl (fun c33 => ?_) (fun c33 => ?_)
        · refine r_iload_n (pc := 85) dX7_placeOn_85 rfl ?_
          refine r_iret (pc := 86) dX7_placeOn_86 (Or.inl rfl) (Nat.le_of_ble_eq_true rfl) (Nat.le_of_ble_eq_true rfl) ?_
          exact qI hQ (by rw [h2]; unfold plcM plcI; rw [upI_eq (i := i) (by omega) (by omega) h1 (by unfold mD; rw [← h3]; omega)]) rfl
        · refine r_iload_n (pc := 36) dX7_placeOn_36 rfl ?_
          refine r_aload_n (pc := 37) dX7_placeOn_37 rfl ?_
          refine p_getQ (pc := 38) (jI := 11) (n9 := 1) (r := some (38, 0)) fl_X7_35 rfl dX7_placeOn_38 rfl rfl (by decide) (by decide) rfl ?_
          refine r_iload (pc := 41) dX7_placeOn_41 rfl ?_
          refine q_iald (pc := 43) (n9 := 1) (nI := 1200) (v := hi 38 0 q) rfl dX7_placeOn_43 rfl (by decide) (by decide) rfl (by omega) (by omega) rfl ?_
          refine r_aload_n (pc := 44) dX7_placeOn_44 rfl ?_
          refine p_getQ (pc := 45) (jI := 12) (n9 := 1) (r := some (39, 0)) fl_X7_38 rfl dX7_placeOn_45 rfl rfl (by decide) (by decide) rfl ?_
          refine r_iload (pc := 48) dX7_placeOn_48 rfl ?_
          refine q_iald (pc := 50) (n9 := 1) (nI := 1200) (v := hi 39 0 q) rfl dX7_placeOn_50 rfl (by decide) (by decide) rfl (by omega) (by omega) rfl ?_
          refine d1_S (pc := 51) (rest := []) (cs' := 0) (sl' := 0) ms_X7_137 rfl (K_X7_fits (its := p) (ev := hi 38 0 q) (po := hi 39 0 q)) rfl ⟨(Nat.le_of_ble_eq_true rfl), (Nat.le_of_ble_eq_true rfl)⟩ (Nat.le_of_ble_eq_true rfl) dX7_placeOn_51 ⟨rfl, (Nat.le_of_ble_eq_true rfl)⟩ ⟨rfl, (Nat.le_of_ble_eq_true rfl)⟩ rfl ?_
          refine q_ifeqB (pc := 54) (tgt := 77) dX7_placeOn_54 rfl (fun c54 => ?_) (fun c54 => ?_)
          · refine r_iload_n (pc := 77) dX7_placeOn_77 rfl ?_
            refine r_istore_n (pc := 78) (xs' := [some (aR 7 0), some (aI b), some (aI day), some (aI p), some (aI q)]) dX7_placeOn_78 (by decide) rfl ?_
            refine r_iinc (pc := 79) (xs' := [some (aR 7 0), some (aI b), some (aI day), some (aI p), some (aI (q + 1))]) dX7_placeOn_79 rfl (by decide) (by omega) rfl ?_
            refine r_goto (pc := 82) (tgt := 9) dX7_placeOn_82 rfl ?_
            exact ih_loop (q + 1) (i + 1) p (by omega) (by omega) (fun k x1 x2 => by by_cases e : k = i; (subst e; unfold mD; rw [← h3]; omega); exact h1 k x1 (by omega)) (by rw [livI_s (by omega), ← h2]; unfold stpI mE mP; rw [← h3, if_neg c54]) (by omega)
          · refine r_aload_n (pc := 57) dX7_placeOn_57 rfl ?_
            refine p_getQ (pc := 58) (jI := 11) (n9 := 1) (r := some (38, 0)) fl_X7_35 rfl dX7_placeOn_58 rfl rfl (by decide) (by decide) rfl ?_
            refine r_iload (pc := 61) dX7_placeOn_61 rfl ?_
            refine q_iald (pc := 63) (n9 := 1) (nI := 1200) (v := hi 38 0 q) rfl dX7_placeOn_63 rfl (by decide) (by decide) rfl (by omega) (by omega) rfl ?_
            refine r_aload_n (pc := 64) dX7_placeOn_64 rfl ?_
            refine p_getQ (pc := 65) (jI := 12) (n9 := 1) (r := some (39, 0)) fl_X7_38 rfl dX7_placeOn_65 rfl rfl (by decide) (by decide) rfl ?_
            refine r_iload (pc := 68) dX7_placeOn_68 rfl ?_
            refine q_iald (pc := 70) (n9 := 1) (nI := 1200) (v := hi 39 0 q) rfl dX7_placeOn_70 rfl (by decide) (by decide) rfl (by omega) (by omega) rfl ?_
            refine d1_S (pc := 71) (rest := []) (cs' := 0) (sl' := 0) ms_X7_140 rfl (K_X7_behind (ev := hi 38 0 q) (po := hi 39 0 q)) rfl ⟨(Nat.le_of_ble_eq_true rfl), (Nat.le_of_ble_eq_true rfl)⟩ (Nat.le_of_ble_eq_true rfl) dX7_placeOn_71 ⟨rfl, (Nat.le_of_ble_eq_true rfl)⟩ ⟨rfl, (Nat.le_of_ble_eq_true rfl)⟩ rfl ?_
            refine r_goto (pc := 74) (tgt := 78) dX7_placeOn_74 rfl ?_
            refine r_istore_n (pc := 78) (xs' := [some (aR 7 0), some (aI b), some (aI day), some (aI (behI (hi 38 0 q) (hi 39 0 q))), some (aI q)]) dX7_placeOn_78 (by decide) rfl ?_
            refine r_iinc (pc := 79) (xs' := [some (aR 7 0), some (aI b), some (aI day), some (aI (behI (hi 38 0 q) (hi 39 0 q))), some (aI (q + 1))]) dX7_placeOn_79 rfl (by decide) (by omega) rfl ?_
            refine r_goto (pc := 82) (tgt := 9) dX7_placeOn_82 rfl ?_
            exact ih_loop (q + 1) (i + 1) (behI (hi 38 0 q) (hi 39 0 q)) (by omega) (by omega) (fun k x1 x2 => by by_cases e : k = i; (subst e; unfold mD; rw [← h3]; omega); exact h1 k x1 (by omega)) (by rw [livI_s (by omega), ← h2]; unfold stpI mE mP; rw [← h3, if_pos c54]) (by omega)
  exact loop 31 (30 * b) 0 10 (by omega) (by omega) (fun k a b => by omega) rfl (by omega)

theorem KR_X7_doubtful {hi : Hi} {nb nk : Int} {b : Int} (hb0 : 0 ≤ b) (hb1 : b < 40) (ht : 0 ≤ hi 40 0 b ∧ hi 40 0 b ≤ 30) : Det I_X7_doubtful [aR 7 0, aI b] (hp hi nb nk) (some (aI (dbtM hi b))) (hp hi nb nk) := by
  refine st_d (xs := [some (aR 7 0), some (aI b), none, none, none, none]) pn_X7 rfl rfl (Nat.le_of_ble_eq_true rfl) rfl rfl (fun Q X hQ => ?_)
  refine r_bipush (pc := 0) (n := 10) dX7_doubtful_0 rfl (by decide) ?_
  refine r_istore_n (pc := 2) (xs' := [some (aR 7 0), some (aI b), some (aI 10), none, none, none]) dX7_doubtful_2 (by decide) rfl ?_
  refine r_iconst (pc := 3) (n := 0) dX7_doubtful_3 (by decide) ?_
  refine r_istore_n (pc := 4) (xs' := [some (aR 7 0), some (aI b), some (aI 10), some (aI 0), none, none]) dX7_doubtful_4 (by decide) rfl ?_
  refine r_bipush (pc := 5) (n := 30) dX7_doubtful_5 rfl (by decide) ?_
  refine r_iload_n (pc := 7) dX7_doubtful_7 rfl ?_
  refine r_imul (pc := 8) dX7_doubtful_8 (by omega) ?_
  refine r_istore (pc := 9) (xs' := [some (aR 7 0), some (aI b), some (aI 10), some (aI 0), some (aI (30 * b)), none]) dX7_doubtful_9 (by decide) rfl ?_
  have loop : ∀ (n9 : Nat) (q i p n : Int), (q = 30 * b + i) → (0 ≤ i ∧ i ≤ hi 40 0 b) → (p = livI (mE hi b) (mP hi b) i) → (n = dbtI (mE hi b) (mP hi b) i) → hi 40 0 b - i < (n9 : Int) → Run I_X7_doubtful 11 [some (aR 7 0), some (aI b), some (aI p), some (aI n), some (aI q), none] [] (hp hi nb nk) 0 0 Q X := by
    intro n9
    induction n9 with
    | zero => intro q i p n h3 h0 h2 h4 hf9; exfalso; omega
    | succ n9 ih_loop =>
      intro q i p n h3 h0 h2 h4 hf9
      have hd9 := dbtI_r (ev := mE hi b) (po := mP hi b) h0.1
      refine r_iload (pc := 11) dX7_doubtful_11 rfl ?_
      refine r_bipush (pc := 13) (n := 30) dX7_doubtful_13 rfl (by decide) ?_
      refine r_iload_n (pc := 15) dX7_doubtful_15 rfl ?_
      refine r_imul (pc := 16) dX7_doubtful_16 (by omega) ?_
      refine r_aload_n (pc := 17) dX7_doubtful_17 rfl ?_
      refine p_getQ (pc := 18) (jI := 13) (n9 := 1) (r := some (40, 0)) fl_X7_41 rfl dX7_doubtful_18 rfl rfl (by decide) (by decide) rfl ?_
      refine r_iload_n (pc := 21) dX7_doubtful_21 rfl ?_
      refine q_iald (pc := 22) (n9 := 1) (nI := 40) (v := hi 40 0 b) rfl dX7_doubtful_22 rfl (by decide) (by decide) rfl (by omega) (by omega) rfl ?_
      refine r_iadd (pc := 23) dX7_doubtful_23 (by omega) ?_
      refine r_icmp_ge (pc := 24) (tgt := 93) dX7_doubtful_24 rfl (fun c24 => ?_) (fun c24 => ?_)
      · refine r_iload_n (pc := 93) dX7_doubtful_93 rfl ?_
        refine r_iret (pc := 94) dX7_doubtful_94 (Or.inl rfl) (Nat.le_of_ble_eq_true rfl) (Nat.le_of_ble_eq_true rfl) ?_
        exact qI hQ (by rw [h4]; unfold dbtM; rw [show i = hi 40 0 b by omega]) rfl
      · refine r_iload_n (pc := 27) dX7_doubtful_27 rfl ?_
        refine r_aload_n (pc := 28) dX7_doubtful_28 rfl ?_
        refine p_getQ (pc := 29) (jI := 11) (n9 := 1) (r := some (38, 0)) fl_X7_35 rfl dX7_doubtful_29 rfl rfl (by decide) (by decide) rfl ?_
        refine r_iload (pc := 32) dX7_doubtful_32 rfl ?_
        refine q_iald (pc := 34) (n9 := 1) (nI := 1200) (v := hi 38 0 q) rfl dX7_doubtful_34 rfl (by decide) (by decide) rfl (by omega) (by omega) rfl ?_
        refine r_aload_n (pc := 35) dX7_doubtful_35 rfl ?_
        refine p_getQ (pc := 36) (jI := 12) (n9 := 1) (r := some (39, 0)) fl_X7_38 rfl dX7_doubtful_36 rfl rfl (by decide) (by decide) rfl ?_
        refine r_iload (pc := 39) dX7_doubtful_39 rfl ?_
        refine q_iald (pc := 41) (n9 := 1) (nI := 1200) (v := hi 39 0 q) rfl dX7_doubtful_41 rfl (by decide) (by decide) rfl (by omega) (by omega) rfl ?_
        refine d1_S (pc := 42) (rest := []) (cs' := 0) (sl' := 0) ms_X7_137 rfl (K_X7_fits (its := p) (ev := hi 38 0 q) (po := hi 39 0 q)) rfl ⟨(Nat.le_of_ble_eq_true rfl), (Nat.le_of_ble_eq_true rfl)⟩ (Nat.le_of_ble_eq_true rfl) dX7_doubtful_42 ⟨rfl, (Nat.le_of_ble_eq_true rfl)⟩ ⟨rfl, (Nat.le_of_ble_eq_true rfl)⟩ rfl ?_
        refine r_istore (pc := 45) (xs' := [some (aR 7 0), some (aI b), some (aI p), some (aI n), some (aI q), some (aI (bI (fitsP p (hi 38 0 q) (hi 39 0 q))))]) dX7_doubtful_45 (by decide) rfl ?_
        refine r_iload (pc := 47) dX7_doubtful_47 rfl ?_
        refine q_ifeqB (pc := 49) (tgt := 72) dX7_doubtful_49 rfl (fun c49 => ?_) (fun c49 => ?_)
        · refine r_iload_n (pc := 72) dX7_doubtful_72 rfl ?_
          refine r_istore_n (pc := 73) (xs' := [some (aR 7 0), some (aI b), some (aI p), some (aI n), some (aI q), some (aI (bI (fitsP p (hi 38 0 q) (hi 39 0 q))))]) dX7_doubtful_73 (by decide) rfl ?_
          refine r_iload_n (pc := 74) dX7_doubtful_74 rfl ?_
          refine r_iload (pc := 75) dX7_doubtful_75 rfl ?_
          refine q_ifeqB (pc := 77) (tgt := 84) dX7_doubtful_77 rfl (fun c77 => ?_) (fun c77 => absurd c77 c49)
          refine r_iconst (pc := 84) (n := 1) dX7_doubtful_84 (by decide) ?_
          refine r_iadd (pc := 85) dX7_doubtful_85 (by omega) ?_
          refine r_istore_n (pc := 86) (xs' := [some (aR 7 0), some (aI b), some (aI p), some (aI (n + 1)), some (aI q), some (aI (bI (fitsP p (hi 38 0 q) (hi 39 0 q))))]) dX7_doubtful_86 (by decide) rfl ?_
          refine r_iinc (pc := 87) (xs' := [some (aR 7 0), some (aI b), some (aI p), some (aI (n + 1)), some (aI (q + 1)), some (aI (bI (fitsP p (hi 38 0 q) (hi 39 0 q))))]) dX7_doubtful_87 rfl (by decide) (by omega) rfl ?_
          refine r_goto (pc := 90) (tgt := 11) dX7_doubtful_90 rfl ?_
          refine r_drop (xs' := [some (aR 7 0), some (aI b), some (aI p), some (aI (n + 1)), some (aI (q + 1)), none]) 5 rfl ?_
          exact ih_loop (q + 1) (i + 1) p (n + 1) (by omega) (by omega) (by rw [livI_s (by omega), ← h2]; unfold stpI mE mP; rw [← h3, if_neg c49]) (by unfold dbtI; rw [sI_s (by omega), ← h2]; unfold mE mP; rw [← h3, if_neg c49]; rw [h4]; unfold dbtI mE mP; rfl) (by omega)
        · refine r_aload_n (pc := 52) dX7_doubtful_52 rfl ?_
          refine p_getQ (pc := 53) (jI := 11) (n9 := 1) (r := some (38, 0)) fl_X7_35 rfl dX7_doubtful_53 rfl rfl (by decide) (by decide) rfl ?_
          refine r_iload (pc := 56) dX7_doubtful_56 rfl ?_
          refine q_iald (pc := 58) (n9 := 1) (nI := 1200) (v := hi 38 0 q) rfl dX7_doubtful_58 rfl (by decide) (by decide) rfl (by omega) (by omega) rfl ?_
          refine r_aload_n (pc := 59) dX7_doubtful_59 rfl ?_
          refine p_getQ (pc := 60) (jI := 12) (n9 := 1) (r := some (39, 0)) fl_X7_38 rfl dX7_doubtful_60 rfl rfl (by decide) (by decide) rfl ?_
          refine r_iload (pc := 63) dX7_doubtful_63 rfl ?_
          refine q_iald (pc := 65) (n9 := 1) (nI := 1200) (v := hi 39 0 q) rfl dX7_doubtful_65 rfl (by decide) (by decide) rfl (by omega) (by omega) rfl ?_
          refine d1_S (pc := 66) (rest := []) (cs' := 0) (sl' := 0) ms_X7_140 rfl (K_X7_behind (ev := hi 38 0 q) (po := hi 39 0 q)) rfl ⟨(Nat.le_of_ble_eq_true rfl), (Nat.le_of_ble_eq_true rfl)⟩ (Nat.le_of_ble_eq_true rfl) dX7_doubtful_66 ⟨rfl, (Nat.le_of_ble_eq_true rfl)⟩ ⟨rfl, (Nat.le_of_ble_eq_true rfl)⟩ rfl ?_
          refine r_goto (pc := 69) (tgt := 73) dX7_doubtful_69 rfl ?_
          refine r_istore_n (pc := 73) (xs' := [some (aR 7 0), some (aI b), some (aI (behI (hi 38 0 q) (hi 39 0 q))), some (aI n), some (aI q), some (aI (bI (fitsP p (hi 38 0 q) (hi 39 0 q))))]) dX7_doubtful_73 (by decide) rfl ?_
          refine r_iload_n (pc := 74) dX7_doubtful_74 rfl ?_
          refine r_iload (pc := 75) dX7_doubtful_75 rfl ?_
          refine q_ifeqB (pc := 77) (tgt := 84) dX7_doubtful_77 rfl (fun c77 => absurd c49 c77) (fun c77 => ?_)
          refine r_iconst (pc := 80) (n := 0) dX7_doubtful_80 (by decide) ?_
          refine r_goto (pc := 81) (tgt := 85) dX7_doubtful_81 rfl ?_
          refine r_iadd (pc := 85) dX7_doubtful_85 (by omega) ?_
          refine r_istore_n (pc := 86) (xs' := [some (aR 7 0), some (aI b), some (aI (behI (hi 38 0 q) (hi 39 0 q))), some (aI (n + 0)), some (aI q), some (aI (bI (fitsP p (hi 38 0 q) (hi 39 0 q))))]) dX7_doubtful_86 (by decide) rfl ?_
          refine r_iinc (pc := 87) (xs' := [some (aR 7 0), some (aI b), some (aI (behI (hi 38 0 q) (hi 39 0 q))), some (aI (n + 0)), some (aI (q + 1)), some (aI (bI (fitsP p (hi 38 0 q) (hi 39 0 q))))]) dX7_doubtful_87 rfl (by decide) (by omega) rfl ?_
          refine r_goto (pc := 90) (tgt := 11) dX7_doubtful_90 rfl ?_
          refine r_drop (xs' := [some (aR 7 0), some (aI b), some (aI (behI (hi 38 0 q) (hi 39 0 q))), some (aI (n + 0)), some (aI (q + 1)), none]) 5 rfl ?_
          exact ih_loop (q + 1) (i + 1) (behI (hi 38 0 q) (hi 39 0 q)) (n + 0) (by omega) (by omega) (by rw [livI_s (by omega), ← h2]; unfold stpI mE mP; rw [← h3, if_pos c49]) (by unfold dbtI; rw [sI_s (by omega), ← h2]; unfold mE mP; rw [← h3, if_pos c49]; rw [h4]; unfold dbtI mE mP; rfl) (by omega)
  exact loop 31 (30 * b) 0 10 0 (by omega) (by omega) rfl rfl (by omega)

theorem K_X7_placeOn {hi : Hi} {nb nk : Int} (hM : MV hi nb nk) {b day : Int} (h0 : 0 ≤ b) (h1 : b < nb) : Det I_X7_placeOn [aR 7 0, aI b, aI day] (hp hi nb nk) (some (aI (plcM hi b day))) (hp hi nb nk) := by
  have a := hM.num
  unfold mNum at a
  exact KR_X7_placeOn h0 (by omega) (hM.box b h0 h1).2.2.1
theorem K_X7_doubtful {hi : Hi} {nb nk : Int} (hM : MV hi nb nk) {b : Int} (h0 : 0 ≤ b) (h1 : b < nb) : Det I_X7_doubtful [aR 7 0, aI b] (hp hi nb nk) (some (aI (dbtM hi b))) (hp hi nb nk) := by
  have a := hM.num
  unfold mNum at a
  exact KR_X7_doubtful h0 (by omega) (hM.box b h0 h1).2.2.1