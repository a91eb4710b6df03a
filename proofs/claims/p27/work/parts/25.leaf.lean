/-! ===== the small methods (walks printed by wip/p27/tools/g25.py) ===== -/
theorem K_X4_isFull {hi : Hi} {nb nk : Int} {b : Int} (hb0 : 0 ≤ b) (hb1 : b < nb) : Det I_X4_isFull [aR 4 b] (hp hi nb nk) (some (aI (bI (30 ≤ hi 4 b 4)))) (hp hi nb nk) := by
  refine st_d (xs := [some (aR 4 b)]) pn_X4 rfl rfl (Nat.le_of_ble_eq_true rfl) rfl rfl (fun Q X hQ => ?_)
  refine r_aload_n (pc := 0) dX4_isFull_0 rfl ?_
  refine q_getI (pc := 1) (jI := 4) (n9 := nb) (v := hi 4 b 4) fl_X4_24 rfl dX4_isFull_1 rfl rfl (by omega) (by omega) rfl ?_
  refine r_bipush (pc := 4) (n := 30) dX4_isFull_4 rfl (by decide) ?_
  refine r_icmp_lt (pc := 6) (tgt := 13) dX4_isFull_6 rfl (fun c6 => ?_) (fun c6 => ?_)
  · refine r_iconst (pc := 13) (n := 0) dX4_isFull_13 (by decide) ?_
    refine r_iret (pc := 14) dX4_isFull_14 (Or.inr ⟨rfl, (by decide)⟩) (Nat.le_of_ble_eq_true rfl) (Nat.le_of_ble_eq_true rfl) ?_
    exact qI hQ (bI_f (by omega)).symm rfl
  · refine r_iconst (pc := 9) (n := 1) dX4_isFull_9 (by decide) ?_
    refine r_goto (pc := 10) (tgt := 14) dX4_isFull_10 rfl ?_
    refine r_iret (pc := 14) dX4_isFull_14 (Or.inr ⟨rfl, (by decide)⟩) (Nat.le_of_ble_eq_true rfl) (Nat.le_of_ble_eq_true rfl) ?_
    exact qI hQ (bI_t (by omega)).symm rfl

theorem K_X3_isFull {hi : Hi} {nb nk : Int} {b : Int} (hb0 : 0 ≤ b) (hb1 : b < nb) : Det I_X3_isFull [aR 3 b] (hp hi nb nk) (some (aI (bI (10 ≤ hi 3 b 2)))) (hp hi nb nk) := by
  refine st_d (xs := [some (aR 3 b)]) pn_X3 rfl rfl (Nat.le_of_ble_eq_true rfl) rfl rfl (fun Q X hQ => ?_)
  refine r_aload_n (pc := 0) dX3_isFull_0 rfl ?_
  refine q_getI (pc := 1) (jI := 2) (n9 := nb) (v := hi 3 b 2) fl_X3_18 rfl dX3_isFull_1 rfl rfl (by omega) (by omega) rfl ?_
  refine r_bipush (pc := 4) (n := 10) dX3_isFull_4 rfl (by decide) ?_
  refine r_icmp_lt (pc := 6) (tgt := 13) dX3_isFull_6 rfl (fun c6 => ?_) (fun c6 => ?_)
  · refine r_iconst (pc := 13) (n := 0) dX3_isFull_13 (by decide) ?_
    refine r_iret (pc := 14) dX3_isFull_14 (Or.inr ⟨rfl, (by decide)⟩) (Nat.le_of_ble_eq_true rfl) (Nat.le_of_ble_eq_true rfl) ?_
    exact qI hQ (bI_f (by omega)).symm rfl
  · refine r_iconst (pc := 9) (n := 1) dX3_isFull_9 (by decide) ?_
    refine r_goto (pc := 10) (tgt := 14) dX3_isFull_10 rfl ?_
    refine r_iret (pc := 14) dX3_isFull_14 (Or.inr ⟨rfl, (by decide)⟩) (Nat.le_of_ble_eq_true rfl) (Nat.le_of_ble_eq_true rfl) ?_
    exact qI hQ (bI_t (by omega)).symm rfl

theorem K_X2_isFull {hi : Hi} {nb nk : Int} {b : Int} (hb0 : 0 ≤ b) (hb1 : b < nb) : Det I_X2_isFull [aR 2 b] (hp hi nb nk) (some (aI (bI (12 ≤ hi 2 b 2)))) (hp hi nb nk) := by
  refine st_d (xs := [some (aR 2 b)]) pn_X2 rfl rfl (Nat.le_of_ble_eq_true rfl) rfl rfl (fun Q X hQ => ?_)
  refine r_aload_n (pc := 0) dX2_isFull_0 rfl ?_
  refine q_getI (pc := 1) (jI := 2) (n9 := nb) (v := hi 2 b 2) fl_X2_18 rfl dX2_isFull_1 rfl rfl (by omega) (by omega) rfl ?_
  refine r_bipush (pc := 4) (n := 12) dX2_isFull_4 rfl (by decide) ?_
  refine r_icmp_lt (pc := 6) (tgt := 13) dX2_isFull_6 rfl (fun c6 => ?_) (fun c6 => ?_)
  · refine r_iconst (pc := 13) (n := 0) dX2_isFull_13 (by decide) ?_
    refine r_iret (pc := 14) dX2_isFull_14 (Or.inr ⟨rfl, (by decide)⟩) (Nat.le_of_ble_eq_true rfl) (Nat.le_of_ble_eq_true rfl) ?_
    exact qI hQ (bI_f (by omega)).symm rfl
  · refine r_iconst (pc := 9) (n := 1) dX2_isFull_9 (by decide) ?_
    refine r_goto (pc := 10) (tgt := 14) dX2_isFull_10 rfl ?_
    refine r_iret (pc := 14) dX2_isFull_14 (Or.inr ⟨rfl, (by decide)⟩) (Nat.le_of_ble_eq_true rfl) (Nat.le_of_ble_eq_true rfl) ?_
    exact qI hQ (bI_t (by omega)).symm rfl

theorem K_X1_isGone {hi : Hi} {nb nk : Int} {b : Int} (hb0 : 0 ≤ b) (hb1 : b < nb) : Det I_X1_isGone [aR 1 b] (hp hi nb nk) (some (aI (bI (hi 1 b 8 ≠ -1)))) (hp hi nb nk) := by
  refine st_d (xs := [some (aR 1 b)]) pn_X1 rfl rfl (Nat.le_of_ble_eq_true rfl) rfl rfl (fun Q X hQ => ?_)
  refine r_aload_n (pc := 0) dX1_isGone_0 rfl ?_
  refine q_getI (pc := 1) (jI := 8) (n9 := nb) (v := hi 1 b 8) fl_X1_40 rfl dX1_isGone_1 rfl rfl (by omega) (by omega) rfl ?_
  refine r_iconst (pc := 4) (n := (-1)) dX1_isGone_4 (by decide) ?_
  refine r_icmp_eq (pc := 5) (tgt := 12) dX1_isGone_5 rfl (fun c5 => ?_) (fun c5 => ?_)
  · refine r_iconst (pc := 12) (n := 0) dX1_isGone_12 (by decide) ?_
    refine r_iret (pc := 13) dX1_isGone_13 (Or.inr ⟨rfl, (by decide)⟩) (Nat.le_of_ble_eq_true rfl) (Nat.le_of_ble_eq_true rfl) ?_
    exact qI hQ (bI_f (by omega)).symm rfl
  · refine r_iconst (pc := 8) (n := 1) dX1_isGone_8 (by decide) ?_
    refine r_goto (pc := 9) (tgt := 13) dX1_isGone_9 rfl ?_
    refine r_iret (pc := 13) dX1_isGone_13 (Or.inr ⟨rfl, (by decide)⟩) (Nat.le_of_ble_eq_true rfl) (Nat.le_of_ble_eq_true rfl) ?_
    exact qI hQ (bI_t (by omega)).symm rfl

theorem K_X4_fits {hi : Hi} {nb nk : Int} {its ev po : Int} : Det I_X4_fits [aI its, aI ev, aI po] (hp hi nb nk) (some (aI (bI (fitsP its ev po)))) (hp hi nb nk) := by
  refine st_d (xs := [some (aI its), some (aI ev), some (aI po)]) pn_X4 rfl rfl (Nat.le_of_ble_eq_true rfl) rfl rfl (fun Q X hQ => ?_)
  refine r_iload_n (pc := 0) dX4_fits_0 rfl ?_
  rcases (show ev = 0 ∨ ev = 3 ∨ (ev ≠ 0 ∧ ev ≠ 3) by omega) with c1 | c1 | c1
  · refine r_lookup (pc := 1) (off := 27) (tgt := 28) dX4_fits_1 rfl (by rw [c1]; try rfl) rfl ?_
    refine r_iload_n (pc := 28) dX4_fits_28 rfl ?_
    refine r_bipush (pc := 29) (n := 10) dX4_fits_29 rfl (by decide) ?_
    refine r_icmp_eq (pc := 31) (tgt := 40) dX4_fits_31 rfl (fun c31 => ?_) (fun c31 => ?_)
    · refine r_iconst (pc := 40) (n := 1) dX4_fits_40 (by decide) ?_
      refine r_goto (pc := 41) (tgt := 45) dX4_fits_41 rfl ?_
      refine r_iret (pc := 45) dX4_fits_45 (Or.inr ⟨rfl, (by decide)⟩) (Nat.le_of_ble_eq_true rfl) (Nat.le_of_ble_eq_true rfl) ?_
      exact qI hQ (bI_t (by unfold fitsP; omega)).symm rfl
    · refine r_iload_n (pc := 34) dX4_fits_34 rfl ?_
      refine r_bipush (pc := 35) (n := 11) dX4_fits_35 rfl (by decide) ?_
      refine r_icmp_ne (pc := 37) (tgt := 44) dX4_fits_37 rfl (fun c37 => ?_) (fun c37 => ?_)
      · refine r_iconst (pc := 44) (n := 0) dX4_fits_44 (by decide) ?_
        refine r_iret (pc := 45) dX4_fits_45 (Or.inr ⟨rfl, (by decide)⟩) (Nat.le_of_ble_eq_true rfl) (Nat.le_of_ble_eq_true rfl) ?_
        exact qI hQ (bI_f (by unfold fitsP; omega)).symm rfl
      · refine r_iconst (pc := 40) (n := 1) dX4_fits_40 (by decide) ?_
        refine r_goto (pc := 41) (tgt := 45) dX4_fits_41 rfl ?_
        refine r_iret (pc := 45) dX4_fits_45 (Or.inr ⟨rfl, (by decide)⟩) (Nat.le_of_ble_eq_true rfl) (Nat.le_of_ble_eq_true rfl) ?_
        exact qI hQ (bI_t (by unfold fitsP; omega)).symm rfl
  · refine r_lookup (pc := 1) (off := 45) (tgt := 46) dX4_fits_1 rfl (by rw [c1]; try rfl) rfl ?_
    refine r_iload_n (pc := 46) dX4_fits_46 rfl ?_
    refine r_bipush (pc := 47) (n := 10) dX4_fits_47 rfl (by decide) ?_
    refine r_icmp_eq (pc := 49) (tgt := 58) dX4_fits_49 rfl (fun c49 => ?_) (fun c49 => ?_)
    · refine r_iconst (pc := 58) (n := 1) dX4_fits_58 (by decide) ?_
      refine r_goto (pc := 59) (tgt := 63) dX4_fits_59 rfl ?_
      refine r_iret (pc := 63) dX4_fits_63 (Or.inr ⟨rfl, (by decide)⟩) (Nat.le_of_ble_eq_true rfl) (Nat.le_of_ble_eq_true rfl) ?_
      exact qI hQ (bI_t (by unfold fitsP; omega)).symm rfl
    · refine r_iload_n (pc := 52) dX4_fits_52 rfl ?_
      refine r_bipush (pc := 53) (n := 12) dX4_fits_53 rfl (by decide) ?_
      refine r_icmp_ne (pc := 55) (tgt := 62) dX4_fits_55 rfl (fun c55 => ?_) (fun c55 => ?_)
      · refine r_iconst (pc := 62) (n := 0) dX4_fits_62 (by decide) ?_
        refine r_iret (pc := 63) dX4_fits_63 (Or.inr ⟨rfl, (by decide)⟩) (Nat.le_of_ble_eq_true rfl) (Nat.le_of_ble_eq_true rfl) ?_
        exact qI hQ (bI_f (by unfold fitsP; omega)).symm rfl
      · refine r_iconst (pc := 58) (n := 1) dX4_fits_58 (by decide) ?_
        refine r_goto (pc := 59) (tgt := 63) dX4_fits_59 rfl ?_
        refine r_iret (pc := 63) dX4_fits_63 (Or.inr ⟨rfl, (by decide)⟩) (Nat.le_of_ble_eq_true rfl) (Nat.le_of_ble_eq_true rfl) ?_
        exact qI hQ (bI_t (by unfold fitsP; omega)).symm rfl
  · refine r_lookup (pc := 1) (off := 63) (tgt := 64) dX4_fits_1 rfl (by simp [Op.lookupswitch.offset]; (repeat' split) <;> omega) rfl ?_
    refine r_iload_n (pc := 64) dX4_fits_64 rfl ?_
    refine r_iload_n (pc := 65) dX4_fits_65 rfl ?_
    refine r_icmp_ne (pc := 66) (tgt := 73) dX4_fits_66 rfl (fun c66 => ?_) (fun c66 => ?_)
    · refine r_iconst (pc := 73) (n := 0) dX4_fits_73 (by decide) ?_
      refine r_iret (pc := 74) dX4_fits_74 (Or.inr ⟨rfl, (by decide)⟩) (Nat.le_of_ble_eq_true rfl) (Nat.le_of_ble_eq_true rfl) ?_
      exact qI hQ (bI_f (by unfold fitsP; omega)).symm rfl
    · refine r_iconst (pc := 69) (n := 1) dX4_fits_69 (by decide) ?_
      refine r_goto (pc := 70) (tgt := 74) dX4_fits_70 rfl ?_
      refine r_iret (pc := 74) dX4_fits_74 (Or.inr ⟨rfl, (by decide)⟩) (Nat.le_of_ble_eq_true rfl) (Nat.le_of_ble_eq_true rfl) ?_
      exact qI hQ (bI_t (by unfold fitsP; omega)).symm rfl

theorem K_X4_placeAfter {hi : Hi} {nb nk : Int} {ev po : Int} : Det I_X4_placeAfter [aI ev, aI po] (hp hi nb nk) (some (aI (behI ev po))) (hp hi nb nk) := by
  refine st_d (xs := [some (aI ev), some (aI po)]) pn_X4 rfl rfl (Nat.le_of_ble_eq_true rfl) rfl rfl (fun Q X hQ => ?_)
  refine r_iload_n (pc := 0) dX4_placeAfter_0 rfl ?_
  rcases (show ev = 1 ∨ ev = 2 ∨ (ev ≠ 1 ∧ ev ≠ 2) by omega) with c1 | c1 | c1
  · refine r_lookup (pc := 1) (off := 27) (tgt := 28) dX4_placeAfter_1 rfl (by rw [c1]; try rfl) rfl ?_
    refine r_bipush (pc := 28) (n := 11) dX4_placeAfter_28 rfl (by decide) ?_
    refine r_iret (pc := 30) dX4_placeAfter_30 (Or.inl rfl) (Nat.le_of_ble_eq_true rfl) (Nat.le_of_ble_eq_true rfl) ?_
    exact qI hQ (by unfold behI; (repeat (split; try omega)); try omega) rfl
  · refine r_lookup (pc := 1) (off := 30) (tgt := 31) dX4_placeAfter_1 rfl (by rw [c1]; try rfl) rfl ?_
    refine r_bipush (pc := 31) (n := 12) dX4_placeAfter_31 rfl (by decide) ?_
    refine r_iret (pc := 33) dX4_placeAfter_33 (Or.inl rfl) (Nat.le_of_ble_eq_true rfl) (Nat.le_of_ble_eq_true rfl) ?_
    exact qI hQ (by unfold behI; (repeat (split; try omega)); try omega) rfl
  · refine r_lookup (pc := 1) (off := 33) (tgt := 34) dX4_placeAfter_1 rfl (by simp [Op.lookupswitch.offset]; (repeat' split) <;> omega) rfl ?_
    refine r_iload_n (pc := 34) dX4_placeAfter_34 rfl ?_
    refine r_iret (pc := 35) dX4_placeAfter_35 (Or.inl rfl) (Nat.le_of_ble_eq_true rfl) (Nat.le_of_ble_eq_true rfl) ?_
    exact qI hQ (by unfold behI; (repeat (split; try omega)); try omega) rfl

theorem K_X0_lacking {hi : Hi} {nb nk : Int} {b : Int} (hb0 : 0 ≤ b) (hb1 : b < nk) (hw : 0 ≤ hi 0 b 2 ∧ hi 0 b 2 ≤ 9) (hg : 0 ≤ hi 0 b 3 ∧ hi 0 b 3 ≤ 40) : Det I_X0_lacking [aR 0 b] (hp hi nb nk) (some (aI (if hi 0 b 4 = 0 then hi 0 b 2 - hi 0 b 3 else 0))) (hp hi nb nk) := by
  refine st_d (xs := [some (aR 0 b)]) pn_X0 rfl rfl (Nat.le_of_ble_eq_true rfl) rfl rfl (fun Q X hQ => ?_)
  refine r_aload_n (pc := 0) dX0_lacking_0 rfl ?_
  refine q_getI (pc := 1) (jI := 4) (n9 := nk) (v := hi 0 b 4) fl_X0_13 rfl dX0_lacking_1 rfl rfl (by omega) (by omega) rfl ?_
  refine r_if_eq (pc := 4) (tgt := 11) dX0_lacking_4 rfl (fun c4 => ?_) (fun c4 => ?_)
  · refine r_aload_n (pc := 11) dX0_lacking_11 rfl ?_
    refine q_getI (pc := 12) (jI := 2) (n9 := nk) (v := hi 0 b 2) fl_X0_23 rfl dX0_lacking_12 rfl rfl (by omega) (by omega) rfl ?_
    refine r_aload_n (pc := 15) dX0_lacking_15 rfl ?_
    refine q_getI (pc := 16) (jI := 3) (n9 := nk) (v := hi 0 b 3) fl_X0_7 rfl dX0_lacking_16 rfl rfl (by omega) (by omega) rfl ?_
    refine r_isub (pc := 19) dX0_lacking_19 (by omega) ?_
    refine r_iret (pc := 20) dX0_lacking_20 (Or.inl rfl) (Nat.le_of_ble_eq_true rfl) (Nat.le_of_ble_eq_true rfl) ?_
    exact qI hQ (by (repeat (split; try omega)); try omega) rfl
  · refine r_iconst (pc := 7) (n := 0) dX0_lacking_7 (by decide) ?_
    refine r_goto (pc := 8) (tgt := 20) dX0_lacking_8 rfl ?_
    refine r_iret (pc := 20) dX0_lacking_20 (Or.inl rfl) (Nat.le_of_ble_eq_true rfl) (Nat.le_of_ble_eq_true rfl) ?_
    exact qI hQ (by (repeat (split; try omega)); try omega) rfl

theorem K_X4_placeOn {hi : Hi} {nb nk : Int} {b : Int} (hb0 : 0 ≤ b) (hb1 : b < nb) {day : Int} (ht : 0 ≤ hi 4 b 4 ∧ hi 4 b 4 ≤ 30) (hl : ∀ k, 0 ≤ k → k < hi 4 b 4 → hi 25 b k = livI (hi 23 b) (hi 24 b) (k + 1)) : Det I_X4_placeOn [aR 4 b, aI day] (hp hi nb nk) (some (aI (plcI (hi 22 b) (hi 23 b) (hi 24 b) (hi 4 b 4) day))) (hp hi nb nk) := by
  refine st_d (xs := [some (aR 4 b), some (aI day), none, none]) pn_X4 rfl rfl (Nat.le_of_ble_eq_true rfl) rfl rfl (fun Q X hQ => ?_)
  refine r_bipush (pc := 0) (n := 10) dX4_placeOn_0 rfl (by decide) ?_
  refine r_istore_n (pc := 2) (xs' := [some (aR 4 b), some (aI day), some (aI 10), none]) dX4_placeOn_2 (by decide) rfl ?_
  refine r_iconst (pc := 3) (n := 0) dX4_placeOn_3 (by decide) ?_
  refine r_istore_n (pc := 4) (xs' := [some (aR 4 b), some (aI day), some (aI 10), some (aI 0)]) dX4_placeOn_4 (by decide) rfl ?_
  have loop : ∀ (n9 : Nat) (i p : Int), (0 ≤ i ∧ i ≤ hi 4 b 4) → (∀ k, 0 ≤ k → k < i → hi 22 b k ≤ day) → (p = livI (hi 23 b) (hi 24 b) i) → hi 4 b 4 - i < (n9 : Int) → Run I_X4_placeOn 5 [some (aR 4 b), some (aI day), some (aI p), some (aI i)] [] (hp hi nb nk) 0 0 Q X := by
    intro n9
    induction n9 with
    | zero => intro i p h0 h1 h2 hf9; exfalso; omega
    | succ n9 ih_loop =>
      intro i p h0 h1 h2 hf9
      refine r_iload_n (pc := 5) dX4_placeOn_5 rfl ?_
      refine r_aload_n (pc := 6) dX4_placeOn_6 rfl ?_
      refine q_getI (pc := 7) (jI := 4) (n9 := nb) (v := hi 4 b 4) fl_X4_24 rfl dX4_placeOn_7 rfl rfl (by omega) (by omega) rfl ?_
      refine r_icmp_ge (pc := 10) (tgt := 36) dX4_placeOn_10 rfl (fun c10 => ?_) (fun c10 => ?_)
      · refine r_iload_n (pc := 36) dX4_placeOn_36 rfl ?_
        refine r_iret (pc := 37) dX4_placeOn_37 (Or.inl rfl) (Nat.le_of_ble_eq_true rfl) (Nat.le_of_ble_eq_true rfl) ?_
        exact qI hQ (by rw [h2]; unfold plcI; rw [upI_eq (i := i) (by omega) (by omega) h1 (by omega)]) rfl
      · refine r_aload_n (pc := 13) dX4_placeOn_13 rfl ?_
        refine p_getQ (pc := 14) (jI := 0) (n9 := nb) (r := some (22, b)) fl_X4_9 rfl dX4_placeOn_14 rfl rfl (by omega) (by omega) rfl ?_
        refine r_iload_n (pc := 17) dX4_placeOn_17 rfl ?_
        refine q_iald (pc := 18) (n9 := nb) (nI := 30) (v := hi 22 b i) rfl dX4_placeOn_18 rfl (by omega) (by omega) rfl (by omega) (by omega) rfl ?_
        refine r_iload_n (pc := 19) dX4_placeOn_19 rfl ?_
        refine r_icmp_gt (pc := 20) (tgt := 36) dX4_placeOn_20 rfl (fun c20 => ?_) (fun c20 => ?_)
        · refine r_iload_n (pc := 36) dX4_placeOn_36 rfl ?_
          refine r_iret (pc := 37) dX4_placeOn_37 (Or.inl rfl) (Nat.le_of_ble_eq_true rfl) (Nat.le_of_ble_eq_true rfl) ?_
          exact qI hQ (by rw [h2]; unfold plcI; rw [upI_eq (i := i) (by omega) (by omega) h1 (by omega)]) rfl
        · refine r_aload_n (pc := 23) dX4_placeOn_23 rfl ?_
          refine p_getQ (pc := 24) (jI := 3) (n9 := nb) (r := some (25, b)) fl_X4_21 rfl dX4_placeOn_24 rfl rfl (by omega) (by omega) rfl ?_
          refine r_iload_n (pc := 27) dX4_placeOn_27 rfl ?_
          refine q_iald (pc := 28) (n9 := nb) (nI := 30) (v := hi 25 b i) rfl dX4_placeOn_28 rfl (by omega) (by omega) rfl (by omega) (by omega) rfl ?_
          refine r_istore_n (pc := 29) (xs' := [some (aR 4 b), some (aI day), some (aI (hi 25 b i)), some (aI i)]) dX4_placeOn_29 (by decide) rfl ?_
          refine r_iinc (pc := 30) (xs' := [some (aR 4 b), some (aI day), some (aI (hi 25 b i)), some (aI (i + 1))]) dX4_placeOn_30 rfl (by decide) (by omega) rfl ?_
          refine r_goto (pc := 33) (tgt := 5) dX4_placeOn_33 rfl ?_
          exact ih_loop (i + 1) (hi 25 b i) (by omega) (fun k a b => by by_cases e : k = i; (subst e; omega); exact h1 k a (by omega)) (hl i (by omega) (by omega)) (by omega)
  exact loop 31 0 10 (by omega) (fun k a b => by omega) rfl (by omega)

theorem K_X4_knows {hi : Hi} {nb nk : Int} {b : Int} (hb0 : 0 ≤ b) (hb1 : b < nb) {day ev po : Int} (ht : 0 ≤ hi 4 b 4 ∧ hi 4 b 4 ≤ 30) : Det I_X4_knows [aR 4 b, aI day, aI ev, aI po] (hp hi nb nk) (some (aI (bI (∃ k, 0 ≤ k ∧ k < hi 4 b 4 ∧ hi 22 b k = day ∧ hi 23 b k = ev ∧ hi 24 b k = po)))) (hp hi nb nk) := by
  refine st_d (xs := [some (aR 4 b), some (aI day), some (aI ev), some (aI po), none]) pn_X4 rfl rfl (Nat.le_of_ble_eq_true rfl) rfl rfl (fun Q X hQ => ?_)
  refine r_iconst (pc := 0) (n := 0) dX4_knows_0 (by decide) ?_
  refine r_istore (pc := 1) (xs' := [some (aR 4 b), some (aI day), some (aI ev), some (aI po), some (aI 0)]) dX4_knows_1 (by decide) rfl ?_
  have loop : ∀ (n9 : Nat) (i : Int), (0 ≤ i ∧ i ≤ hi 4 b 4) → (∀ k, 0 ≤ k → k < i → ¬ (hi 22 b k = day ∧ hi 23 b k = ev ∧ hi 24 b k = po)) → hi 4 b 4 - i < (n9 : Int) → Run I_X4_knows 3 [some (aR 4 b), some (aI day), some (aI ev), some (aI po), some (aI i)] [] (hp hi nb nk) 0 0 Q X := by
    intro n9
    induction n9 with
    | zero => intro i h0 h1 hf9; exfalso; omega
    | succ n9 ih_loop =>
      intro i h0 h1 hf9
      refine r_iload (pc := 3) dX4_knows_3 rfl ?_
      refine r_aload_n (pc := 5) dX4_knows_5 rfl ?_
      refine q_getI (pc := 6) (jI := 4) (n9 := nb) (v := hi 4 b 4) fl_X4_24 rfl dX4_knows_6 rfl rfl (by omega) (by omega) rfl ?_
      refine r_icmp_ge (pc := 9) (tgt := 53) dX4_knows_9 rfl (fun c9 => ?_) (fun c9 => ?_)
      · refine r_iconst (pc := 53) (n := 0) dX4_knows_53 (by decide) ?_
        refine r_iret (pc := 54) dX4_knows_54 (Or.inr ⟨rfl, (by decide)⟩) (Nat.le_of_ble_eq_true rfl) (Nat.le_of_ble_eq_true rfl) ?_
        exact qI hQ (bI_f (fun ⟨k, a, b, c⟩ => h1 k a (by omega) c)).symm rfl
      · refine r_aload_n (pc := 12) dX4_knows_12 rfl ?_
        refine p_getQ (pc := 13) (jI := 0) (n9 := nb) (r := some (22, b)) fl_X4_9 rfl dX4_knows_13 rfl rfl (by omega) (by omega) rfl ?_
        refine r_iload (pc := 16) dX4_knows_16 rfl ?_
        refine q_iald (pc := 18) (n9 := nb) (nI := 30) (v := hi 22 b i) rfl dX4_knows_18 rfl (by omega) (by omega) rfl (by omega) (by omega) rfl ?_
        refine r_iload_n (pc := 19) dX4_knows_19 rfl ?_
        refine r_icmp_ne (pc := 20) (tgt := 47) dX4_knows_20 rfl (fun c20 => ?_) (fun c20 => ?_)
        · refine r_iinc (pc := 47) (xs' := [some (aR 4 b), some (aI day), some (aI ev), some (aI po), some (aI (i + 1))]) dX4_knows_47 rfl (by decide) (by omega) rfl ?_
          refine r_goto (pc := 50) (tgt := 3) dX4_knows_50 rfl ?_
          exact ih_loop (i + 1) (by omega) (fun k a b => by by_cases e : k = i; (subst e; omega); exact h1 k a (by omega)) (by omega)
        · refine r_aload_n (pc := 23) dX4_knows_23 rfl ?_
          refine p_getQ (pc := 24) (jI := 1) (n9 := nb) (r := some (23, b)) fl_X4_15 rfl dX4_knows_24 rfl rfl (by omega) (by omega) rfl ?_
          refine r_iload (pc := 27) dX4_knows_27 rfl ?_
          refine q_iald (pc := 29) (n9 := nb) (nI := 30) (v := hi 23 b i) rfl dX4_knows_29 rfl (by omega) (by omega) rfl (by omega) (by omega) rfl ?_
          refine r_iload_n (pc := 30) dX4_knows_30 rfl ?_
          refine r_icmp_ne (pc := 31) (tgt := 47) dX4_knows_31 rfl (fun c31 => ?_) (fun c31 => ?_)
          · refine r_iinc (pc := 47) (xs' := [some (aR 4 b), some (aI day), some (aI ev), some (aI po), some (aI (i + 1))]) dX4_knows_47 rfl (by decide) (by omega) rfl ?_
            refine r_goto (pc := 50) (tgt := 3) dX4_knows_50 rfl ?_
            exact ih_loop (i + 1) (by omega) (fun k a b => by by_cases e : k = i; (subst e; omega); exact h1 k a (by omega)) (by omega)
          · refine r_aload_n (pc := 34) dX4_knows_34 rfl ?_
            refine p_getQ (pc := 35) (jI := 2) (n9 := nb) (r := some (24, b)) fl_X4_18 rfl dX4_knows_35 rfl rfl (by omega) (by omega) rfl ?_
            refine r_iload (pc := 38) dX4_knows_38 rfl ?_
            refine q_iald (pc := 40) (n9 := nb) (nI := 30) (v := hi 24 b i) rfl dX4_knows_40 rfl (by omega) (by omega) rfl (by omega) (by omega) rfl ?_
            refine r_iload_n (pc := 41) dX4_knows_41 rfl ?_
            refine r_icmp_ne (pc := 42) (tgt := 47) dX4_knows_42 rfl (fun c42 => ?_) (fun c42 => ?_)
            · refine r_iinc (pc := 47) (xs' := [some (aR 4 b), some (aI day), some (aI ev), some (aI po), some (aI (i + 1))]) dX4_knows_47 rfl (by decide) (by omega) rfl ?_
              refine r_goto (pc := 50) (tgt := 3) dX4_knows_50 rfl ?_
              exact ih_loop (i + 1) (by omega) (fun k a b => by by_cases e : k = i; (subst e; omega); exact h1 k a (by omega)) (by omega)
            · refine r_iconst (pc := 45) (n := 1) dX4_knows_45 (by decide) ?_
              refine r_iret (pc := 46) dX4_knows_46 (Or.inr ⟨rfl, (by decide)⟩) (Nat.le_of_ble_eq_true rfl) (Nat.le_of_ble_eq_true rfl) ?_
              exact qI hQ (bI_t ⟨i, by omega, by omega, by omega, by omega, by omega⟩).symm rfl
  exact loop 31 0 (by omega) (fun k a b => by omega) (by omega)

theorem K_X3_holdOn {hi : Hi} {nb nk : Int} {b : Int} (hb0 : 0 ≤ b) (hb1 : b < nb) {day : Int} (ht : 0 ≤ hi 3 b 2 ∧ hi 3 b 2 ≤ 10) : Det I_X3_holdOn [aR 3 b, aI day] (hp hi nb nk) (some (aI (bI (lasI (hi 26 b) day (hi 3 b 2) ≠ -1 ∧ day ≤ hi 27 b (lasI (hi 26 b) day (hi 3 b 2)))))) (hp hi nb nk) := by
  refine st_d (xs := [some (aR 3 b), some (aI day), none]) pn_X3 rfl rfl (Nat.le_of_ble_eq_true rfl) rfl rfl (fun Q X hQ => ?_)
  refine r_aload_n (pc := 0) dX3_holdOn_0 rfl ?_
  refine q_getI (pc := 1) (jI := 2) (n9 := nb) (v := hi 3 b 2) fl_X3_18 rfl dX3_holdOn_1 rfl rfl (by omega) (by omega) rfl ?_
  refine r_iconst (pc := 4) (n := 1) dX3_holdOn_4 (by decide) ?_
  refine r_isub (pc := 5) dX3_holdOn_5 (by omega) ?_
  refine r_istore_n (pc := 6) (xs' := [some (aR 3 b), some (aI day), some (aI ((hi 3 b 2) - 1))]) dX3_holdOn_6 (by decide) rfl ?_
  have loop : ∀ (n9 : Nat) (i : Int), (-1 ≤ i ∧ i < hi 3 b 2) → (lasI (hi 26 b) day (hi 3 b 2) = lasI (hi 26 b) day (i + 1)) → i + 1 < (n9 : Int) → Run I_X3_holdOn 7 [some (aR 3 b), some (aI day), some (aI i)] [] (hp hi nb nk) 0 0 Q X := by
    intro n9
    induction n9 with
    | zero => intro i h0 h1 hf9; exfalso; omega
    | succ n9 ih_loop =>
      intro i h0 h1 hf9
      refine r_iload_n (pc := 7) dX3_holdOn_7 rfl ?_
      refine r_if_lt (pc := 8) (tgt := 43) dX3_holdOn_8 rfl (fun c8 => ?_) (fun c8 => ?_)
      · refine r_iconst (pc := 43) (n := 0) dX3_holdOn_43 (by decide) ?_
        refine r_iret (pc := 44) dX3_holdOn_44 (Or.inr ⟨rfl, (by decide)⟩) (Nat.le_of_ble_eq_true rfl) (Nat.le_of_ble_eq_true rfl) ?_
        exact qI hQ (bI_f (by rw [h1, show i + 1 = 0 by omega, lasI_0]; omega)).symm rfl
      · refine r_aload_n (pc := 11) dX3_holdOn_11 rfl ?_
        refine p_getQ (pc := 12) (jI := 0) (n9 := nb) (r := some (26, b)) fl_X3_9 rfl dX3_holdOn_12 rfl rfl (by omega) (by omega) rfl ?_
        refine r_iload_n (pc := 15) dX3_holdOn_15 rfl ?_
        refine q_iald (pc := 16) (n9 := nb) (nI := 10) (v := hi 26 b i) rfl dX3_holdOn_16 rfl (by omega) (by omega) rfl (by omega) (by omega) rfl ?_
        refine r_iload_n (pc := 17) dX3_holdOn_17 rfl ?_
        refine r_icmp_gt (pc := 18) (tgt := 37) dX3_holdOn_18 rfl (fun c18 => ?_) (fun c18 => ?_)
        · refine r_iinc (pc := 37) (xs' := [some (aR 3 b), some (aI day), some (aI (i + (-1)))]) dX3_holdOn_37 rfl (by decide) (by omega) rfl ?_
          refine r_goto (pc := 40) (tgt := 7) dX3_holdOn_40 rfl ?_
          exact ih_loop (i + (-1)) (by omega) (by rw [h1, lasI_s (by omega), if_neg (by omega), show i + -1 + 1 = i by omega]) (by omega)
        · refine r_iload_n (pc := 21) dX3_holdOn_21 rfl ?_
          refine r_aload_n (pc := 22) dX3_holdOn_22 rfl ?_
          refine p_getQ (pc := 23) (jI := 1) (n9 := nb) (r := some (27, b)) fl_X3_15 rfl dX3_holdOn_23 rfl rfl (by omega) (by omega) rfl ?_
          refine r_iload_n (pc := 26) dX3_holdOn_26 rfl ?_
          refine q_iald (pc := 27) (n9 := nb) (nI := 10) (v := hi 27 b i) rfl dX3_holdOn_27 rfl (by omega) (by omega) rfl (by omega) (by omega) rfl ?_
          refine r_icmp_gt (pc := 28) (tgt := 35) dX3_holdOn_28 rfl (fun c28 => ?_) (fun c28 => ?_)
          · refine r_iconst (pc := 35) (n := 0) dX3_holdOn_35 (by decide) ?_
            refine r_iret (pc := 36) dX3_holdOn_36 (Or.inr ⟨rfl, (by decide)⟩) (Nat.le_of_ble_eq_true rfl) (Nat.le_of_ble_eq_true rfl) ?_
            have e9 : lasI (hi 26 b) day (hi 3 b 2) = i := by rw [h1, lasI_s (by omega), if_pos (by omega)]
            exact qI hQ (bI_f (by rw [e9]; omega)).symm rfl
          · refine r_iconst (pc := 31) (n := 1) dX3_holdOn_31 (by decide) ?_
            refine r_goto (pc := 32) (tgt := 36) dX3_holdOn_32 rfl ?_
            refine r_iret (pc := 36) dX3_holdOn_36 (Or.inr ⟨rfl, (by decide)⟩) (Nat.le_of_ble_eq_true rfl) (Nat.le_of_ble_eq_true rfl) ?_
            have e9 : lasI (hi 26 b) day (hi 3 b 2) = i := by rw [h1, lasI_s (by omega), if_pos (by omega)]
            exact qI hQ (bI_t (by rw [e9]; omega)).symm rfl
  exact loop 12 (hi 3 b 2 - 1) (by omega) (by rw [show hi 3 b 2 - 1 + 1 = hi 3 b 2 by omega]) (by omega)

theorem K_X2_mendCost {hi : Hi} {nb nk : Int} {b : Int} (hb0 : 0 ≤ b) (hb1 : b < nb) (ht : 0 ≤ hi 2 b 2 ∧ hi 2 b 2 ≤ 12) (hs : ∀ k, 0 ≤ k → k < hi 2 b 2 → 1 ≤ hi 29 b k ∧ hi 29 b k ≤ 20) : Det I_X2_mendCost [aR 2 b, aR 12 0] (hp hi nb nk) (some (aI (menI (hi 28 b) (hi 29 b) (hi 12 0) (hi 2 b 2)))) (hp hi nb nk) := by
  refine st_d (xs := [some (aR 2 b), some (aR 12 0), none, none, none]) pn_X2 rfl rfl (Nat.le_of_ble_eq_true rfl) rfl rfl (fun Q X hQ => ?_)
  refine r_iconst (pc := 0) (n := 0) dX2_mendCost_0 (by decide) ?_
  refine r_istore_n (pc := 1) (xs' := [some (aR 2 b), some (aR 12 0), some (aI 0), none, none]) dX2_mendCost_1 (by decide) rfl ?_
  refine r_iconst (pc := 2) (n := 0) dX2_mendCost_2 (by decide) ?_
  refine r_istore_n (pc := 3) (xs' := [some (aR 2 b), some (aR 12 0), some (aI 0), some (aI 0), none]) dX2_mendCost_3 (by decide) rfl ?_
  have loop : ∀ (n9 : Nat) (i c : Int), (0 ≤ i ∧ i ≤ hi 2 b 2) → (0 ≤ c ∧ c ≤ 1000 * i) → (c = menI (hi 28 b) (hi 29 b) (hi 12 0) i) → hi 2 b 2 - i < (n9 : Int) → Run I_X2_mendCost 4 [some (aR 2 b), some (aR 12 0), some (aI c), some (aI i), none] [] (hp hi nb nk) 0 0 Q X := by
    intro n9
    induction n9 with
    | zero => intro i c h0 h1 h2 hf9; exfalso; omega
    | succ n9 ih_loop =>
      intro i c h0 h1 h2 hf9
      have hs9 := hs i
      have hm9 : 0 ≤ i → i < hi 2 b 2 → 0 ≤ hi 28 b i → hi 28 b i < 5 → 0 ≤ hi 29 b i * (hi 28 b i + 1) ∧ hi 29 b i * (hi 28 b i + 1) ≤ 100 := fun x1 x2 x3 x4 => by
          rcases (show hi 28 b i = 0 ∨ hi 28 b i = 1 ∨ hi 28 b i = 2 ∨ hi 28 b i = 3 ∨ hi 28 b i = 4 by omega) with e | e | e | e | e <;> rw [e] <;> omega
      refine r_iload_n (pc := 4) dX2_mendCost_4 rfl ?_
      refine r_aload_n (pc := 5) dX2_mendCost_5 rfl ?_
      refine q_getI (pc := 6) (jI := 2) (n9 := nb) (v := hi 2 b 2) fl_X2_18 rfl dX2_mendCost_6 rfl rfl (by omega) (by omega) rfl ?_
      refine r_icmp_ge (pc := 9) (tgt := 68) dX2_mendCost_9 rfl (fun c9 => ?_) (fun c9 => ?_)
      · refine r_iload_n (pc := 68) dX2_mendCost_68 rfl ?_
        refine r_iret (pc := 69) dX2_mendCost_69 (Or.inl rfl) (Nat.le_of_ble_eq_true rfl) (Nat.le_of_ble_eq_true rfl) ?_
        exact qI hQ (by rw [h2, show i = hi 2 b 2 by omega]) rfl
      · refine r_aload_n (pc := 12) dX2_mendCost_12 rfl ?_
        refine p_getQ (pc := 13) (jI := 0) (n9 := nb) (r := some (28, b)) fl_X2_9 rfl dX2_mendCost_13 rfl rfl (by omega) (by omega) rfl ?_
        refine r_iload_n (pc := 16) dX2_mendCost_16 rfl ?_
        refine q_iald (pc := 17) (n9 := nb) (nI := 12) (v := hi 28 b i) rfl dX2_mendCost_17 rfl (by omega) (by omega) rfl (by omega) (by omega) rfl ?_
        refine r_istore (pc := 18) (xs' := [some (aR 2 b), some (aR 12 0), some (aI c), some (aI i), some (aI (hi 28 b i))]) dX2_mendCost_18 (by decide) rfl ?_
        refine r_iload (pc := 20) dX2_mendCost_20 rfl ?_
        refine r_if_lt (pc := 22) (tgt := 62) dX2_mendCost_22 rfl (fun c22 => ?_) (fun c22 => ?_)
        · refine r_iinc (pc := 62) (xs' := [some (aR 2 b), some (aR 12 0), some (aI c), some (aI (i + 1)), some (aI (hi 28 b i))]) dX2_mendCost_62 rfl (by decide) (by omega) rfl ?_
          refine r_goto (pc := 65) (tgt := 4) dX2_mendCost_65 rfl ?_
          refine r_drop (xs' := [some (aR 2 b), some (aR 12 0), some (aI c), some (aI (i + 1)), none]) 4 rfl ?_
          exact ih_loop (i + 1) c (by omega) (by omega) (by rw [h2, menI_s (by omega), if_neg (by omega), Int.add_zero]) (by omega)
        · refine r_iload (pc := 25) dX2_mendCost_25 rfl ?_
          refine r_aload_n (pc := 27) dX2_mendCost_27 rfl ?_
          refine p_alen (pc := 28) (kk := 12) (n9 := 1) (nI := 5) rfl ⟨(by decide), (by decide), (by decide)⟩ (by decide) dX2_mendCost_28 rfl (by decide) (by decide) rfl ?_
          refine r_icmp_ge (pc := 29) (tgt := 62) dX2_mendCost_29 rfl (fun c29 => ?_) (fun c29 => ?_)
          · refine r_iinc (pc := 62) (xs' := [some (aR 2 b), some (aR 12 0), some (aI c), some (aI (i + 1)), some (aI (hi 28 b i))]) dX2_mendCost_62 rfl (by decide) (by omega) rfl ?_
            refine r_goto (pc := 65) (tgt := 4) dX2_mendCost_65 rfl ?_
            refine r_drop (xs' := [some (aR 2 b), some (aR 12 0), some (aI c), some (aI (i + 1)), none]) 4 rfl ?_
            exact ih_loop (i + 1) c (by omega) (by omega) (by rw [h2, menI_s (by omega), if_neg (by omega), Int.add_zero]) (by omega)
          · refine r_aload_n (pc := 32) dX2_mendCost_32 rfl ?_
            refine p_getQ (pc := 33) (jI := 1) (n9 := nb) (r := some (29, b)) fl_X2_15 rfl dX2_mendCost_33 rfl rfl (by omega) (by omega) rfl ?_
            refine r_iload_n (pc := 36) dX2_mendCost_36 rfl ?_
            refine q_iald (pc := 37) (n9 := nb) (nI := 12) (v := hi 29 b i) rfl dX2_mendCost_37 rfl (by omega) (by omega) rfl (by omega) (by omega) rfl ?_
            refine r_aload_n (pc := 38) dX2_mendCost_38 rfl ?_
            refine r_iload (pc := 39) dX2_mendCost_39 rfl ?_
            refine q_iald (pc := 41) (n9 := 1) (nI := 5) (v := hi 12 0 (hi 28 b i)) rfl dX2_mendCost_41 rfl (by decide) (by decide) rfl (by omega) (by omega) rfl ?_
            refine r_icmp_le (pc := 42) (tgt := 62) dX2_mendCost_42 rfl (fun c42 => ?_) (fun c42 => ?_)
            · refine r_iinc (pc := 62) (xs' := [some (aR 2 b), some (aR 12 0), some (aI c), some (aI (i + 1)), some (aI (hi 28 b i))]) dX2_mendCost_62 rfl (by decide) (by omega) rfl ?_
              refine r_goto (pc := 65) (tgt := 4) dX2_mendCost_65 rfl ?_
              refine r_drop (xs' := [some (aR 2 b), some (aR 12 0), some (aI c), some (aI (i + 1)), none]) 4 rfl ?_
              exact ih_loop (i + 1) c (by omega) (by omega) (by rw [h2, menI_s (by omega), if_neg (by omega), Int.add_zero]) (by omega)
            · refine r_iload_n (pc := 45) dX2_mendCost_45 rfl ?_
              refine r_aload_n (pc := 46) dX2_mendCost_46 rfl ?_
              refine p_getQ (pc := 47) (jI := 1) (n9 := nb) (r := some (29, b)) fl_X2_15 rfl dX2_mendCost_47 rfl rfl (by omega) (by omega) rfl ?_
              refine r_iload_n (pc := 50) dX2_mendCost_50 rfl ?_
              refine q_iald (pc := 51) (n9 := nb) (nI := 12) (v := hi 29 b i) rfl dX2_mendCost_51 rfl (by omega) (by omega) rfl (by omega) (by omega) rfl ?_
              refine r_iload (pc := 52) dX2_mendCost_52 rfl ?_
              refine r_iconst (pc := 54) (n := 1) dX2_mendCost_54 (by decide) ?_
              refine r_iadd (pc := 55) dX2_mendCost_55 (by omega) ?_
              refine r_imul (pc := 56) dX2_mendCost_56 (by omega) ?_
              refine r_bipush (pc := 57) (n := 10) dX2_mendCost_57 rfl (by decide) ?_
              refine r_imul (pc := 59) dX2_mendCost_59 (by omega) ?_
              refine r_iadd (pc := 60) dX2_mendCost_60 (by omega) ?_
              refine r_istore_n (pc := 61) (xs' := [some (aR 2 b), some (aR 12 0), some (aI (c + (((hi 29 b i) * ((hi 28 b i) + 1)) * 10))), some (aI i), some (aI (hi 28 b i))]) dX2_mendCost_61 (by decide) rfl ?_
              refine r_iinc (pc := 62) (xs' := [some (aR 2 b), some (aR 12 0), some (aI (c + (((hi 29 b i) * ((hi 28 b i) + 1)) * 10))), some (aI (i + 1)), some (aI (hi 28 b i))]) dX2_mendCost_62 rfl (by decide) (by omega) rfl ?_
              refine r_goto (pc := 65) (tgt := 4) dX2_mendCost_65 rfl ?_
              refine r_drop (xs' := [some (aR 2 b), some (aR 12 0), some (aI (c + (((hi 29 b i) * ((hi 28 b i) + 1)) * 10))), some (aI (i + 1)), none]) 4 rfl ?_
              exact ih_loop (i + 1) (c + (((hi 29 b i) * ((hi 28 b i) + 1)) * 10)) (by omega) (by omega) (by rw [h2, menI_s (by omega), if_pos (by omega)]) (by omega)
  exact loop 13 0 0 (by omega) (by omega) rfl (by omega)
