/-! ===== the law: its small methods (walks printed by wip/whole/tools/g40.py) ===== -/
theorem cs_IO : Cond.castable "java/lang/IndexOutOfBoundsException" "java/lang/IndexOutOfBoundsException" ∈ ax_NW := by simp [ax_NW]
theorem cs_IA : Cond.castable "java/lang/IllegalArgumentException" "java/lang/IllegalArgumentException" ∈ ax_NW := by simp [ax_NW]
theorem cs_IS : Cond.castable "java/lang/IllegalStateException" "java/lang/IllegalStateException" ∈ ax_NW := by simp [ax_NW]
theorem qW {Q : Option Av → Hp → Prop} {x y : Int} {h h' : Hp} (hQ : Q (some (aI y)) h') (e : y = x) (g : h' = h) : Q (some (aI x)) h := by rw [← e, ← g]; exact hQ
theorem W_cost {hi : Hi} {nb nk : Int} (hI : Inv hi nb nk) {a b c : Int}  : Det I_L_cost [aR 6 0, aI a, aI b, aI c, aR 60 0] (hp hi nb nk) (some (aI (cC_cost a b c))) (if cC_cost a b c = 0 then hp (up1 (up1 hi 9 a b c) 60 0 0 (hi 9 a b)) nb nk else hp hi nb nk) := by
  refine st_d (xs := [some (aR 6 0), some (aI a), some (aI b), some (aI c), some (aR 60 0), none]) pn_L rfl rfl (Nat.le_of_ble_eq_true rfl) rfl rfl (fun Q X hQ => ?_)
  refine r_aload (pc := 0) dL_cost_0 rfl ?_
  refine r_iconst (pc := 2) (n := 0) dL_cost_2 (by decide) ?_
  refine r_aload_n (pc := 3) dL_cost_3 rfl ?_
  refine r_iload_n (pc := 4) dL_cost_4 rfl ?_
  refine r_iload_n (pc := 5) dL_cost_5 rfl ?_
  refine r_iload_n (pc := 6) dL_cost_6 rfl ?_
  refine r_callV (pc := 7) (t := 6) (i := 0) (rest := [aI 0, aR 60 0]) (cs' := 4) (sl' := 24) mv_L_7 (K_X6_cost hI) rfl ⟨(Nat.le_of_ble_eq_true rfl), (Nat.le_of_ble_eq_true rfl)⟩ (Nat.le_of_ble_eq_true rfl) dL_cost_7 (show (0 : Int) ≤ 0 by decide) (show (0 : Int) < 1 by decide) ⟨rfl, (Nat.le_of_ble_eq_true rfl)⟩ ⟨rfl, (Nat.le_of_ble_eq_true rfl)⟩ rfl (fun r9 h9 hq9 => ?_) (fun E9 h9 hx9 => ?_)
  · obtain ⟨hc9, rfl, rfl⟩ := hq9
    rw [if_pos hc9] at hQ
    show Run _ 10 _ [aI (hi 9 a b), aI 0, aR 60 0] (hp (up1 hi 9 a b c) nb nk) _ _ _ _
    refine r_i2l (pc := 10) dL_cost_10 ?_
    refine p_last (pc := 11) (n9 := 1) (nI := 1) rfl dL_cost_11 rfl (by decide) (by decide) rfl (by omega) (by omega) ?_
    refine r_goto (pc := 12) (tgt := 23) dL_cost_12 rfl ?_
    refine r_iconst (pc := 23) (n := 0) dL_cost_23 (by decide) ?_
    refine r_iret (pc := 24) dL_cost_24 (Or.inl rfl) (Nat.le_of_ble_eq_true rfl) (Nat.le_of_ble_eq_true rfl) ?_
    exact qW hQ hc9 rfl
  · obtain ⟨rfl, hx9⟩ := hx9
    rcases hx9 with ⟨rfl, hx9⟩ | ⟨rfl, hx9⟩ | ⟨rfl, hx9⟩
    · refine rx_catch (pre := []) (suf := [(0, 12, 19, 15)]) (x := (0, 12, 15, 13)) (i := 5) (ln := 2) (xs' := [some (aR 6 0), some (aI a), some (aI b), some (aI c), some (aR 60 0), none]) rfl ⟨by decide, by decide⟩ (by decide) hl_13 cs_IO (fun z hz => by cases hz) (Or.inl ⟨dL_cost_15, rfl⟩) (by decide) rfl ?_
      show Run _ 17 _ _ _ _ _ _ _
      refine r_iconst (pc := 17) (n := 1) dL_cost_17 (by decide) ?_
      refine r_iret (pc := 18) dL_cost_18 (Or.inl rfl) (Nat.le_of_ble_eq_true rfl) (Nat.le_of_ble_eq_true rfl) ?_
      exact qW hQ hx9 (if_neg (by rw [hx9]; decide))
    · refine rx_catch (pre := [(0, 12, 15, 13)]) (suf := []) (x := (0, 12, 19, 15)) (i := 5) (ln := 2) (xs' := [some (aR 6 0), some (aI a), some (aI b), some (aI c), some (aR 60 0), none]) rfl ⟨by decide, by decide⟩ (by decide) hl_15 cs_IA (fun z hz => by rcases List.mem_singleton.mp hz with rfl; exact ⟨by decide, _, hl_13, by simp⟩) (Or.inl ⟨dL_cost_19, rfl⟩) (by decide) rfl ?_
      show Run _ 21 _ _ _ _ _ _ _
      refine r_iconst (pc := 21) (n := 2) dL_cost_21 (by decide) ?_
      refine r_iret (pc := 22) dL_cost_22 (Or.inl rfl) (Nat.le_of_ble_eq_true rfl) (Nat.le_of_ble_eq_true rfl) ?_
      exact qW hQ hx9 (if_neg (by rw [hx9]; decide))
    · exact absurd hx9 (by unfold cC_cost; (repeat' split) <;> omega)

theorem W_box {hi : Hi} {nb nk : Int} (hI : Inv hi nb nk) {kd ls un : Int}  : Det I_L_box [aR 6 0, aI kd, aI ls, aI un, aR 60 0] (hp hi nb nk) (some (aI (cC_box nb kd ls un))) (if cC_box nb kd ls un = 0 then hp (up1 (up1 (boxH hi nb kd ls un) 6 0 6 (nb + 1)) 60 0 0 nb) (nb + 1) nk else hp hi nb nk) := by
  refine st_d (xs := [some (aR 6 0), some (aI kd), some (aI ls), some (aI un), some (aR 60 0), none]) pn_L rfl rfl (Nat.le_of_ble_eq_true rfl) rfl rfl (fun Q X hQ => ?_)
  refine r_aload (pc := 0) dL_box_0 rfl ?_
  refine r_iconst (pc := 2) (n := 0) dL_box_2 (by decide) ?_
  refine r_aload_n (pc := 3) dL_box_3 rfl ?_
  refine r_iload_n (pc := 4) dL_box_4 rfl ?_
  refine r_iload_n (pc := 5) dL_box_5 rfl ?_
  refine r_iload_n (pc := 6) dL_box_6 rfl ?_
  refine r_callV (pc := 7) (t := 6) (i := 0) (rest := [aI 0, aR 60 0]) (cs' := 16) (sl' := 210) mv_L_17 (K_X6_box hI) rfl ⟨(Nat.le_of_ble_eq_true rfl), (Nat.le_of_ble_eq_true rfl)⟩ (Nat.le_of_ble_eq_true rfl) dL_box_7 (show (0 : Int) ≤ 0 by decide) (show (0 : Int) < 1 by decide) ⟨rfl, (Nat.le_of_ble_eq_true rfl)⟩ ⟨rfl, (Nat.le_of_ble_eq_true rfl)⟩ rfl (fun r9 h9 hq9 => ?_) (fun E9 h9 hx9 => ?_)
  · obtain ⟨hc9, rfl, rfl⟩ := hq9
    rw [if_pos hc9] at hQ
    show Run _ 10 _ [aI nb, aI 0, aR 60 0] (hp (up1 (boxH hi nb kd ls un) 6 0 6 (nb + 1)) (nb + 1) nk) _ _ _ _
    refine r_i2l (pc := 10) dL_box_10 ?_
    refine p_last (pc := 11) (n9 := 1) (nI := 1) rfl dL_box_11 rfl (by decide) (by decide) rfl (by omega) (by omega) ?_
    refine r_goto (pc := 12) (tgt := 27) dL_box_12 rfl ?_
    refine r_iconst (pc := 27) (n := 0) dL_box_27 (by decide) ?_
    refine r_iret (pc := 28) dL_box_28 (Or.inl rfl) (Nat.le_of_ble_eq_true rfl) (Nat.le_of_ble_eq_true rfl) ?_
    exact qW hQ hc9 rfl
  · obtain ⟨rfl, hx9⟩ := hx9
    rcases hx9 with ⟨rfl, hx9⟩ | ⟨rfl, hx9⟩ | ⟨rfl, hx9⟩
    · refine rx_catch (pre := []) (suf := [(0, 12, 19, 15), (0, 12, 23, 20)]) (x := (0, 12, 15, 13)) (i := 5) (ln := 2) (xs' := [some (aR 6 0), some (aI kd), some (aI ls), some (aI un), some (aR 60 0), none]) rfl ⟨by decide, by decide⟩ (by decide) hl_13 cs_IO (fun z hz => by cases hz) (Or.inl ⟨dL_box_15, rfl⟩) (by decide) rfl ?_
      show Run _ 17 _ _ _ _ _ _ _
      refine r_iconst (pc := 17) (n := 1) dL_box_17 (by decide) ?_
      refine r_iret (pc := 18) dL_box_18 (Or.inl rfl) (Nat.le_of_ble_eq_true rfl) (Nat.le_of_ble_eq_true rfl) ?_
      exact qW hQ hx9 (if_neg (by rw [hx9]; decide))
    · refine rx_catch (pre := [(0, 12, 15, 13)]) (suf := [(0, 12, 23, 20)]) (x := (0, 12, 19, 15)) (i := 5) (ln := 2) (xs' := [some (aR 6 0), some (aI kd), some (aI ls), some (aI un), some (aR 60 0), none]) rfl ⟨by decide, by decide⟩ (by decide) hl_15 cs_IA (fun z hz => by rcases List.mem_singleton.mp hz with rfl; exact ⟨by decide, _, hl_13, by simp⟩) (Or.inl ⟨dL_box_19, rfl⟩) (by decide) rfl ?_
      show Run _ 21 _ _ _ _ _ _ _
      refine r_iconst (pc := 21) (n := 2) dL_box_21 (by decide) ?_
      refine r_iret (pc := 22) dL_box_22 (Or.inl rfl) (Nat.le_of_ble_eq_true rfl) (Nat.le_of_ble_eq_true rfl) ?_
      exact qW hQ hx9 (if_neg (by rw [hx9]; decide))
    · refine rx_catch (pre := [(0, 12, 15, 13), (0, 12, 19, 15)]) (suf := []) (x := (0, 12, 23, 20)) (i := 5) (ln := 2) (xs' := [some (aR 6 0), some (aI kd), some (aI ls), some (aI un), some (aR 60 0), none]) rfl ⟨by decide, by decide⟩ (by decide) hl_20 cs_IS (fun z hz => by rcases List.mem_cons.mp hz with rfl | hz; (exact ⟨by decide, _, hl_13, by simp⟩); (rcases List.mem_singleton.mp hz with rfl; exact ⟨by decide, _, hl_15, by simp⟩)) (Or.inl ⟨dL_box_23, rfl⟩) (by decide) rfl ?_
      show Run _ 25 _ _ _ _ _ _ _
      refine r_iconst (pc := 25) (n := 3) dL_box_25 (by decide) ?_
      refine r_iret (pc := 26) dL_box_26 (Or.inl rfl) (Nat.le_of_ble_eq_true rfl) (Nat.le_of_ble_eq_true rfl) ?_
      exact qW hQ hx9 (if_neg (by rw [hx9]; decide))

theorem W_wash {hi : Hi} {nb nk : Int} (hI : Inv hi nb nk) {b u : Int}  : Det I_L_wash [aR 6 0, aI b, aI u, aR 60 0] (hp hi nb nk) (some (aI (cC_wash hi nb b u))) (if cC_wash hi nb b u = 0 then hp (up1 (up1 (up1 hi 1 b 6 0) 1 b 5 u) 60 0 0 (hi 1 b 6)) nb nk else hp hi nb nk) := by
  refine st_d (xs := [some (aR 6 0), some (aI b), some (aI u), some (aR 60 0), none]) pn_L rfl rfl (Nat.le_of_ble_eq_true rfl) rfl rfl (fun Q X hQ => ?_)
  refine r_aload_n (pc := 0) dL_wash_0 rfl ?_
  refine r_iconst (pc := 1) (n := 0) dL_wash_1 (by decide) ?_
  refine r_aload_n (pc := 2) dL_wash_2 rfl ?_
  refine r_iload_n (pc := 3) dL_wash_3 rfl ?_
  refine r_iload_n (pc := 4) dL_wash_4 rfl ?_
  refine r_callV (pc := 5) (t := 6) (i := 0) (rest := [aI 0, aR 60 0]) (cs' := 3) (sl' := 18) mv_L_22 (K_X6_wash hI) rfl ⟨(Nat.le_of_ble_eq_true rfl), (Nat.le_of_ble_eq_true rfl)⟩ (Nat.le_of_ble_eq_true rfl) dL_wash_5 (show (0 : Int) ≤ 0 by decide) (show (0 : Int) < 1 by decide) ⟨rfl, (Nat.le_of_ble_eq_true rfl)⟩ ⟨rfl, (Nat.le_of_ble_eq_true rfl)⟩ rfl (fun r9 h9 hq9 => ?_) (fun E9 h9 hx9 => ?_)
  · obtain ⟨hc9, rfl, rfl⟩ := hq9
    rw [if_pos hc9] at hQ
    show Run _ 8 _ [aI (hi 1 b 6), aI 0, aR 60 0] (hp (up1 (up1 hi 1 b 6 0) 1 b 5 u) nb nk) _ _ _ _
    refine r_if_eq (pc := 8) (tgt := 15) dL_wash_8 rfl (fun c8 => ?_) (fun c8 => ?_)
    · refine r_lconst (pc := 15) (v := 0) dL_wash_15 rfl (by decide) ?_
      refine p_last (pc := 16) (n9 := 1) (nI := 1) rfl dL_wash_16 rfl (by decide) (by decide) rfl (by omega) (by omega) ?_
      refine r_goto (pc := 17) (tgt := 32) dL_wash_17 rfl ?_
      refine r_iconst (pc := 32) (n := 0) dL_wash_32 (by decide) ?_
      refine r_iret (pc := 33) dL_wash_33 (Or.inl rfl) (Nat.le_of_ble_eq_true rfl) (Nat.le_of_ble_eq_true rfl) ?_
      exact qW hQ hc9 (by rw [show hi 1 b 6 = 0 from c8])
    · refine r_lconst (pc := 11) (v := 1) dL_wash_11 rfl (by decide) ?_
      refine r_goto (pc := 12) (tgt := 16) dL_wash_12 rfl ?_
      refine p_last (pc := 16) (n9 := 1) (nI := 1) rfl dL_wash_16 rfl (by decide) (by decide) rfl (by omega) (by omega) ?_
      refine r_goto (pc := 17) (tgt := 32) dL_wash_17 rfl ?_
      refine r_iconst (pc := 32) (n := 0) dL_wash_32 (by decide) ?_
      refine r_iret (pc := 33) dL_wash_33 (Or.inl rfl) (Nat.le_of_ble_eq_true rfl) (Nat.le_of_ble_eq_true rfl) ?_
      exact qW hQ hc9 (by rw [show hi 1 b 6 = 1 from (by have := hI.box b (by unfold cC_wash at hc9; (repeat' split at hc9) <;> omega) (by unfold cC_wash at hc9; (repeat' split at hc9) <;> omega); omega)])
  · obtain ⟨rfl, hx9⟩ := hx9
    rcases hx9 with ⟨rfl, hx9⟩ | ⟨rfl, hx9⟩ | ⟨rfl, hx9⟩
    · refine rx_catch (pre := []) (suf := [(0, 17, 24, 15), (0, 17, 28, 20)]) (x := (0, 17, 20, 13)) (i := 4) (ln := 2) (xs' := [some (aR 6 0), some (aI b), some (aI u), some (aR 60 0), none]) rfl ⟨by decide, by decide⟩ (by decide) hl_13 cs_IO (fun z hz => by cases hz) (Or.inl ⟨dL_wash_20, rfl⟩) (by decide) rfl ?_
      show Run _ 22 _ _ _ _ _ _ _
      refine r_iconst (pc := 22) (n := 1) dL_wash_22 (by decide) ?_
      refine r_iret (pc := 23) dL_wash_23 (Or.inl rfl) (Nat.le_of_ble_eq_true rfl) (Nat.le_of_ble_eq_true rfl) ?_
      exact qW hQ hx9 (if_neg (by rw [hx9]; decide))
    · refine rx_catch (pre := [(0, 17, 20, 13)]) (suf := [(0, 17, 28, 20)]) (x := (0, 17, 24, 15)) (i := 4) (ln := 2) (xs' := [some (aR 6 0), some (aI b), some (aI u), some (aR 60 0), none]) rfl ⟨by decide, by decide⟩ (by decide) hl_15 cs_IA (fun z hz => by rcases List.mem_singleton.mp hz with rfl; exact ⟨by decide, _, hl_13, by simp⟩) (Or.inl ⟨dL_wash_24, rfl⟩) (by decide) rfl ?_
      show Run _ 26 _ _ _ _ _ _ _
      refine r_iconst (pc := 26) (n := 2) dL_wash_26 (by decide) ?_
      refine r_iret (pc := 27) dL_wash_27 (Or.inl rfl) (Nat.le_of_ble_eq_true rfl) (Nat.le_of_ble_eq_true rfl) ?_
      exact qW hQ hx9 (if_neg (by rw [hx9]; decide))
    · refine rx_catch (pre := [(0, 17, 20, 13), (0, 17, 24, 15)]) (suf := []) (x := (0, 17, 28, 20)) (i := 4) (ln := 2) (xs' := [some (aR 6 0), some (aI b), some (aI u), some (aR 60 0), none]) rfl ⟨by decide, by decide⟩ (by decide) hl_20 cs_IS (fun z hz => by rcases List.mem_cons.mp hz with rfl | hz; (exact ⟨by decide, _, hl_13, by simp⟩); (rcases List.mem_singleton.mp hz with rfl; exact ⟨by decide, _, hl_15, by simp⟩)) (Or.inl ⟨dL_wash_28, rfl⟩) (by decide) rfl ?_
      show Run _ 30 _ _ _ _ _ _ _
      refine r_iconst (pc := 30) (n := 3) dL_wash_30 (by decide) ?_
      refine r_iret (pc := 31) dL_wash_31 (Or.inl rfl) (Nat.le_of_ble_eq_true rfl) (Nat.le_of_ble_eq_true rfl) ?_
      exact qW hQ hx9 (if_neg (by rw [hx9]; decide))

theorem W_report {hi : Hi} {nb nk : Int} (hI : Inv hi nb nk) {b d e p : Int}  : Det I_L_report [aR 6 0, aI b, aI d, aI e, aI p, aR 60 0] (hp hi nb nk) (some (aI (cC_report hi nb b d e p))) (if cC_report hi nb b d e p = 0 then hp (up1 (if bI (knoC hi b d e p) = 1 then hi else telH hi b d e p) 60 0 0 (if bI (knoC hi b d e p) = 1 then -1 else telH hi b d e p 4 b 5)) nb nk else hp hi nb nk) := by
  refine st_d (xs := [some (aR 6 0), some (aI b), some (aI d), some (aI e), some (aI p), some (aR 60 0), none]) pn_L rfl rfl (Nat.le_of_ble_eq_true rfl) rfl rfl (fun Q X hQ => ?_)
  refine r_aload (pc := 0) dL_report_0 rfl ?_
  refine r_iconst (pc := 2) (n := 0) dL_report_2 (by decide) ?_
  refine r_aload_n (pc := 3) dL_report_3 rfl ?_
  refine r_iload_n (pc := 4) dL_report_4 rfl ?_
  refine r_iload_n (pc := 5) dL_report_5 rfl ?_
  refine r_iload_n (pc := 6) dL_report_6 rfl ?_
  refine r_iload (pc := 7) dL_report_7 rfl ?_
  refine r_callV (pc := 9) (t := 6) (i := 0) (rest := [aI 0, aR 60 0]) (cs' := 6) (sl' := 36) mv_L_26 (K_X6_report hI) rfl ⟨(Nat.le_of_ble_eq_true rfl), (Nat.le_of_ble_eq_true rfl)⟩ (Nat.le_of_ble_eq_true rfl) dL_report_9 (show (0 : Int) ≤ 0 by decide) (show (0 : Int) < 1 by decide) ⟨rfl, (Nat.le_of_ble_eq_true rfl)⟩ ⟨rfl, (Nat.le_of_ble_eq_true rfl)⟩ rfl (fun r9 h9 hq9 => ?_) (fun E9 h9 hx9 => ?_)
  · obtain ⟨hc9, rfl, rfl⟩ := hq9
    rw [if_pos hc9] at hQ
    show Run _ 12 _ [aI (if bI (knoC hi b d e p) = 1 then -1 else telH hi b d e p 4 b 5), aI 0, aR 60 0] (hp (if bI (knoC hi b d e p) = 1 then hi else telH hi b d e p) nb nk) _ _ _ _
    refine r_i2l (pc := 12) dL_report_12 ?_
    refine p_last (pc := 13) (n9 := 1) (nI := 1) rfl dL_report_13 rfl (by decide) (by decide) rfl (by omega) (by omega) ?_
    refine r_goto (pc := 14) (tgt := 29) dL_report_14 rfl ?_
    refine r_iconst (pc := 29) (n := 0) dL_report_29 (by decide) ?_
    refine r_iret (pc := 30) dL_report_30 (Or.inl rfl) (Nat.le_of_ble_eq_true rfl) (Nat.le_of_ble_eq_true rfl) ?_
    exact qW hQ hc9 rfl
  · obtain ⟨rfl, hx9⟩ := hx9
    rcases hx9 with ⟨rfl, hx9⟩ | ⟨rfl, hx9⟩ | ⟨rfl, hx9⟩
    · refine rx_catch (pre := []) (suf := [(0, 14, 21, 15), (0, 14, 25, 20)]) (x := (0, 14, 17, 13)) (i := 6) (ln := 2) (xs' := [some (aR 6 0), some (aI b), some (aI d), some (aI e), some (aI p), some (aR 60 0), none]) rfl ⟨by decide, by decide⟩ (by decide) hl_13 cs_IO (fun z hz => by cases hz) (Or.inl ⟨dL_report_17, rfl⟩) (by decide) rfl ?_
      show Run _ 19 _ _ _ _ _ _ _
      refine r_iconst (pc := 19) (n := 1) dL_report_19 (by decide) ?_
      refine r_iret (pc := 20) dL_report_20 (Or.inl rfl) (Nat.le_of_ble_eq_true rfl) (Nat.le_of_ble_eq_true rfl) ?_
      exact qW hQ hx9 (if_neg (by rw [hx9]; decide))
    · refine rx_catch (pre := [(0, 14, 17, 13)]) (suf := [(0, 14, 25, 20)]) (x := (0, 14, 21, 15)) (i := 6) (ln := 2) (xs' := [some (aR 6 0), some (aI b), some (aI d), some (aI e), some (aI p), some (aR 60 0), none]) rfl ⟨by decide, by decide⟩ (by decide) hl_15 cs_IA (fun z hz => by rcases List.mem_singleton.mp hz with rfl; exact ⟨by decide, _, hl_13, by simp⟩) (Or.inl ⟨dL_report_21, rfl⟩) (by decide) rfl ?_
      show Run _ 23 _ _ _ _ _ _ _
      refine r_iconst (pc := 23) (n := 2) dL_report_23 (by decide) ?_
      refine r_iret (pc := 24) dL_report_24 (Or.inl rfl) (Nat.le_of_ble_eq_true rfl) (Nat.le_of_ble_eq_true rfl) ?_
      exact qW hQ hx9 (if_neg (by rw [hx9]; decide))
    · refine rx_catch (pre := [(0, 14, 17, 13), (0, 14, 21, 15)]) (suf := []) (x := (0, 14, 25, 20)) (i := 6) (ln := 2) (xs' := [some (aR 6 0), some (aI b), some (aI d), some (aI e), some (aI p), some (aR 60 0), none]) rfl ⟨by decide, by decide⟩ (by decide) hl_20 cs_IS (fun z hz => by rcases List.mem_cons.mp hz with rfl | hz; (exact ⟨by decide, _, hl_13, by simp⟩); (rcases List.mem_singleton.mp hz with rfl; exact ⟨by decide, _, hl_15, by simp⟩)) (Or.inl ⟨dL_report_25, rfl⟩) (by decide) rfl ?_
      show Run _ 27 _ _ _ _ _ _ _
      refine r_iconst (pc := 27) (n := 3) dL_report_27 (by decide) ?_
      refine r_iret (pc := 28) dL_report_28 (Or.inl rfl) (Nat.le_of_ble_eq_true rfl) (Nat.le_of_ble_eq_true rfl) ?_
      exact qW hQ hx9 (if_neg (by rw [hx9]; decide))

theorem W_place {hi : Hi} {nb nk : Int} (hI : Inv hi nb nk) {b d : Int}  : Det I_L_place [aR 6 0, aI b, aI d, aR 60 0] (hp hi nb nk) (some (aI (cC_place nb b d))) (if cC_place nb b d = 0 then hp (up1 hi 60 0 0 (plcC hi b d)) nb nk else hp hi nb nk) := by
  refine st_d (xs := [some (aR 6 0), some (aI b), some (aI d), some (aR 60 0), none]) pn_L rfl rfl (Nat.le_of_ble_eq_true rfl) rfl rfl (fun Q X hQ => ?_)
  refine r_aload_n (pc := 0) dL_place_0 rfl ?_
  refine r_iconst (pc := 1) (n := 0) dL_place_1 (by decide) ?_
  refine r_aload_n (pc := 2) dL_place_2 rfl ?_
  refine r_iload_n (pc := 3) dL_place_3 rfl ?_
  refine r_iload_n (pc := 4) dL_place_4 rfl ?_
  refine r_callV (pc := 5) (t := 6) (i := 0) (rest := [aI 0, aR 60 0]) (cs' := 2) (sl' := 12) mv_L_30 (K_X6_place hI) rfl ⟨(Nat.le_of_ble_eq_true rfl), (Nat.le_of_ble_eq_true rfl)⟩ (Nat.le_of_ble_eq_true rfl) dL_place_5 (show (0 : Int) ≤ 0 by decide) (show (0 : Int) < 1 by decide) ⟨rfl, (Nat.le_of_ble_eq_true rfl)⟩ ⟨rfl, (Nat.le_of_ble_eq_true rfl)⟩ rfl (fun r9 h9 hq9 => ?_) (fun E9 h9 hx9 => ?_)
  · obtain ⟨hc9, rfl, rfl⟩ := hq9
    rw [if_pos hc9] at hQ
    show Run _ 8 _ [aI (plcC hi b d), aI 0, aR 60 0] (hp hi nb nk) _ _ _ _
    refine r_i2l (pc := 8) dL_place_8 ?_
    refine p_last (pc := 9) (n9 := 1) (nI := 1) rfl dL_place_9 rfl (by decide) (by decide) rfl (by omega) (by omega) ?_
    refine r_goto (pc := 10) (tgt := 21) dL_place_10 rfl ?_
    refine r_iconst (pc := 21) (n := 0) dL_place_21 (by decide) ?_
    refine r_iret (pc := 22) dL_place_22 (Or.inl rfl) (Nat.le_of_ble_eq_true rfl) (Nat.le_of_ble_eq_true rfl) ?_
    exact qW hQ hc9 rfl
  · obtain ⟨rfl, hx9⟩ := hx9
    rcases hx9 with ⟨rfl, hx9⟩ | ⟨rfl, hx9⟩ | ⟨rfl, hx9⟩
    · refine rx_catch (pre := []) (suf := [(0, 10, 17, 15)]) (x := (0, 10, 13, 13)) (i := 4) (ln := 2) (xs' := [some (aR 6 0), some (aI b), some (aI d), some (aR 60 0), none]) rfl ⟨by decide, by decide⟩ (by decide) hl_13 cs_IO (fun z hz => by cases hz) (Or.inl ⟨dL_place_13, rfl⟩) (by decide) rfl ?_
      show Run _ 15 _ _ _ _ _ _ _
      refine r_iconst (pc := 15) (n := 1) dL_place_15 (by decide) ?_
      refine r_iret (pc := 16) dL_place_16 (Or.inl rfl) (Nat.le_of_ble_eq_true rfl) (Nat.le_of_ble_eq_true rfl) ?_
      exact qW hQ hx9 (if_neg (by rw [hx9]; decide))
    · refine rx_catch (pre := [(0, 10, 13, 13)]) (suf := []) (x := (0, 10, 17, 15)) (i := 4) (ln := 2) (xs' := [some (aR 6 0), some (aI b), some (aI d), some (aR 60 0), none]) rfl ⟨by decide, by decide⟩ (by decide) hl_15 cs_IA (fun z hz => by rcases List.mem_singleton.mp hz with rfl; exact ⟨by decide, _, hl_13, by simp⟩) (Or.inl ⟨dL_place_17, rfl⟩) (by decide) rfl ?_
      show Run _ 19 _ _ _ _ _ _ _
      refine r_iconst (pc := 19) (n := 2) dL_place_19 (by decide) ?_
      refine r_iret (pc := 20) dL_place_20 (Or.inl rfl) (Nat.le_of_ble_eq_true rfl) (Nat.le_of_ble_eq_true rfl) ?_
      exact qW hQ hx9 (if_neg (by rw [hx9]; decide))
    · exact absurd hx9 (by unfold cC_place; (repeat' split) <;> omega)

theorem W_count {hi : Hi} {nb nk : Int} (hI : Inv hi nb nk) {p kd d : Int}  : Det I_L_count [aR 6 0, aI p, aI kd, aI d, aR 60 0] (hp hi nb nk) (some (aI (cC_count p kd d))) (if cC_count p kd d = 0 then hp (up1 hi 60 0 0 (sI (fun b => bI ((kd = -1 ∨ hi 1 b 0 = kd) ∧ plcC hi b d = p)) nb)) nb nk else hp hi nb nk) := by
  refine st_d (xs := [some (aR 6 0), some (aI p), some (aI kd), some (aI d), some (aR 60 0), none]) pn_L rfl rfl (Nat.le_of_ble_eq_true rfl) rfl rfl (fun Q X hQ => ?_)
  refine r_aload (pc := 0) dL_count_0 rfl ?_
  refine r_iconst (pc := 2) (n := 0) dL_count_2 (by decide) ?_
  refine r_aload_n (pc := 3) dL_count_3 rfl ?_
  refine r_iload_n (pc := 4) dL_count_4 rfl ?_
  refine r_iload_n (pc := 5) dL_count_5 rfl ?_
  refine r_iload_n (pc := 6) dL_count_6 rfl ?_
  refine r_callV (pc := 7) (t := 6) (i := 0) (rest := [aI 0, aR 60 0]) (cs' := 3) (sl' := 18) mv_L_34 (K_X6_count hI) rfl ⟨(Nat.le_of_ble_eq_true rfl), (Nat.le_of_ble_eq_true rfl)⟩ (Nat.le_of_ble_eq_true rfl) dL_count_7 (show (0 : Int) ≤ 0 by decide) (show (0 : Int) < 1 by decide) ⟨rfl, (Nat.le_of_ble_eq_true rfl)⟩ ⟨rfl, (Nat.le_of_ble_eq_true rfl)⟩ rfl (fun r9 h9 hq9 => ?_) (fun E9 h9 hx9 => ?_)
  · obtain ⟨hc9, rfl, rfl⟩ := hq9
    rw [if_pos hc9] at hQ
    show Run _ 10 _ [aI (sI (fun b => bI ((kd = -1 ∨ hi 1 b 0 = kd) ∧ plcC hi b d = p)) nb), aI 0, aR 60 0] (hp hi nb nk) _ _ _ _
    refine r_i2l (pc := 10) dL_count_10 ?_
    refine p_last (pc := 11) (n9 := 1) (nI := 1) rfl dL_count_11 rfl (by decide) (by decide) rfl (by omega) (by omega) ?_
    refine r_goto (pc := 12) (tgt := 23) dL_count_12 rfl ?_
    refine r_iconst (pc := 23) (n := 0) dL_count_23 (by decide) ?_
    refine r_iret (pc := 24) dL_count_24 (Or.inl rfl) (Nat.le_of_ble_eq_true rfl) (Nat.le_of_ble_eq_true rfl) ?_
    exact qW hQ hc9 rfl
  · obtain ⟨rfl, hx9⟩ := hx9
    rcases hx9 with ⟨rfl, hx9⟩ | ⟨rfl, hx9⟩ | ⟨rfl, hx9⟩
    · refine rx_catch (pre := []) (suf := [(0, 12, 19, 15)]) (x := (0, 12, 15, 13)) (i := 5) (ln := 2) (xs' := [some (aR 6 0), some (aI p), some (aI kd), some (aI d), some (aR 60 0), none]) rfl ⟨by decide, by decide⟩ (by decide) hl_13 cs_IO (fun z hz => by cases hz) (Or.inl ⟨dL_count_15, rfl⟩) (by decide) rfl ?_
      show Run _ 17 _ _ _ _ _ _ _
      refine r_iconst (pc := 17) (n := 1) dL_count_17 (by decide) ?_
      refine r_iret (pc := 18) dL_count_18 (Or.inl rfl) (Nat.le_of_ble_eq_true rfl) (Nat.le_of_ble_eq_true rfl) ?_
      exact qW hQ hx9 (if_neg (by rw [hx9]; decide))
    · refine rx_catch (pre := [(0, 12, 15, 13)]) (suf := []) (x := (0, 12, 19, 15)) (i := 5) (ln := 2) (xs' := [some (aR 6 0), some (aI p), some (aI kd), some (aI d), some (aR 60 0), none]) rfl ⟨by decide, by decide⟩ (by decide) hl_15 cs_IA (fun z hz => by rcases List.mem_singleton.mp hz with rfl; exact ⟨by decide, _, hl_13, by simp⟩) (Or.inl ⟨dL_count_19, rfl⟩) (by decide) rfl ?_
      show Run _ 21 _ _ _ _ _ _ _
      refine r_iconst (pc := 21) (n := 2) dL_count_21 (by decide) ?_
      refine r_iret (pc := 22) dL_count_22 (Or.inl rfl) (Nat.le_of_ble_eq_true rfl) (Nat.le_of_ble_eq_true rfl) ?_
      exact qW hQ hx9 (if_neg (by rw [hx9]; decide))
    · exact absurd hx9 (by unfold cC_count; (repeat' split) <;> omega)

theorem W_days {hi : Hi} {nb nk : Int} (hI : Inv hi nb nk) {b fr to pl : Int}  : Det I_L_days [aR 6 0, aI b, aI fr, aI to, aI pl, aR 60 0] (hp hi nb nk) (some (aI (cC_days nb b fr to pl))) (if cC_days nb b fr to pl = 0 then hp (up1 hi 60 0 0 (sI (fun t => bI (plcC hi b (fr + t) = pl)) (to - fr + 1))) nb nk else hp hi nb nk) := by
  refine st_d (xs := [some (aR 6 0), some (aI b), some (aI fr), some (aI to), some (aI pl), some (aR 60 0), none]) pn_L rfl rfl (Nat.le_of_ble_eq_true rfl) rfl rfl (fun Q X hQ => ?_)
  refine r_aload (pc := 0) dL_days_0 rfl ?_
  refine r_iconst (pc := 2) (n := 0) dL_days_2 (by decide) ?_
  refine r_aload_n (pc := 3) dL_days_3 rfl ?_
  refine r_iload_n (pc := 4) dL_days_4 rfl ?_
  refine r_iload_n (pc := 5) dL_days_5 rfl ?_
  refine r_iload_n (pc := 6) dL_days_6 rfl ?_
  refine r_iload (pc := 7) dL_days_7 rfl ?_
  refine r_callV (pc := 9) (t := 6) (i := 0) (rest := [aI 0, aR 60 0]) (cs' := 4) (sl' := 24) mv_L_37 (K_X6_days hI) rfl ⟨(Nat.le_of_ble_eq_true rfl), (Nat.le_of_ble_eq_true rfl)⟩ (Nat.le_of_ble_eq_true rfl) dL_days_9 (show (0 : Int) ≤ 0 by decide) (show (0 : Int) < 1 by decide) ⟨rfl, (Nat.le_of_ble_eq_true rfl)⟩ ⟨rfl, (Nat.le_of_ble_eq_true rfl)⟩ rfl (fun r9 h9 hq9 => ?_) (fun E9 h9 hx9 => ?_)
  · obtain ⟨hc9, rfl, rfl⟩ := hq9
    rw [if_pos hc9] at hQ
    show Run _ 12 _ [aI (sI (fun t => bI (plcC hi b (fr + t) = pl)) (to - fr + 1)), aI 0, aR 60 0] (hp hi nb nk) _ _ _ _
    refine r_i2l (pc := 12) dL_days_12 ?_
    refine p_last (pc := 13) (n9 := 1) (nI := 1) rfl dL_days_13 rfl (by decide) (by decide) rfl (by omega) (by omega) ?_
    refine r_goto (pc := 14) (tgt := 25) dL_days_14 rfl ?_
    refine r_iconst (pc := 25) (n := 0) dL_days_25 (by decide) ?_
    refine r_iret (pc := 26) dL_days_26 (Or.inl rfl) (Nat.le_of_ble_eq_true rfl) (Nat.le_of_ble_eq_true rfl) ?_
    exact qW hQ hc9 rfl
  · obtain ⟨rfl, hx9⟩ := hx9
    rcases hx9 with ⟨rfl, hx9⟩ | ⟨rfl, hx9⟩ | ⟨rfl, hx9⟩
    · refine rx_catch (pre := []) (suf := [(0, 14, 21, 15)]) (x := (0, 14, 17, 13)) (i := 6) (ln := 2) (xs' := [some (aR 6 0), some (aI b), some (aI fr), some (aI to), some (aI pl), some (aR 60 0), none]) rfl ⟨by decide, by decide⟩ (by decide) hl_13 cs_IO (fun z hz => by cases hz) (Or.inl ⟨dL_days_17, rfl⟩) (by decide) rfl ?_
      show Run _ 19 _ _ _ _ _ _ _
      refine r_iconst (pc := 19) (n := 1) dL_days_19 (by decide) ?_
      refine r_iret (pc := 20) dL_days_20 (Or.inl rfl) (Nat.le_of_ble_eq_true rfl) (Nat.le_of_ble_eq_true rfl) ?_
      exact qW hQ hx9 (if_neg (by rw [hx9]; decide))
    · refine rx_catch (pre := [(0, 14, 17, 13)]) (suf := []) (x := (0, 14, 21, 15)) (i := 6) (ln := 2) (xs' := [some (aR 6 0), some (aI b), some (aI fr), some (aI to), some (aI pl), some (aR 60 0), none]) rfl ⟨by decide, by decide⟩ (by decide) hl_15 cs_IA (fun z hz => by rcases List.mem_singleton.mp hz with rfl; exact ⟨by decide, _, hl_13, by simp⟩) (Or.inl ⟨dL_days_21, rfl⟩) (by decide) rfl ?_
      show Run _ 23 _ _ _ _ _ _ _
      refine r_iconst (pc := 23) (n := 2) dL_days_23 (by decide) ?_
      refine r_iret (pc := 24) dL_days_24 (Or.inl rfl) (Nat.le_of_ble_eq_true rfl) (Nat.le_of_ble_eq_true rfl) ?_
      exact qW hQ hx9 (if_neg (by rw [hx9]; decide))
    · exact absurd hx9 (by unfold cC_days; (repeat' split) <;> omega)

theorem W_lease {hi : Hi} {nb nk : Int} (hI : Inv hi nb nk) {b fr to : Int}  : Det I_L_lease [aR 6 0, aI b, aI fr, aI to] (hp hi nb nk) (some (aI (cC_lease hi nb b fr to))) (if cC_lease hi nb b fr to = 0 then hp (leaH hi b fr to) nb nk else hp hi nb nk) := by
  refine st_d (xs := [some (aR 6 0), some (aI b), some (aI fr), some (aI to), none]) pn_L rfl rfl (Nat.le_of_ble_eq_true rfl) rfl rfl (fun Q X hQ => ?_)
  refine r_aload_n (pc := 0) dL_lease_0 rfl ?_
  refine r_iload_n (pc := 1) dL_lease_1 rfl ?_
  refine r_iload_n (pc := 2) dL_lease_2 rfl ?_
  refine r_iload_n (pc := 3) dL_lease_3 rfl ?_
  refine r_callV (pc := 4) (t := 6) (i := 0) (rest := []) (cs' := 6) (sl' := 36) mv_L_40 (K_X6_lease hI) rfl ⟨(Nat.le_of_ble_eq_true rfl), (Nat.le_of_ble_eq_true rfl)⟩ (Nat.le_of_ble_eq_true rfl) dL_lease_4 (show (0 : Int) ≤ 0 by decide) (show (0 : Int) < 1 by decide) ⟨rfl, (Nat.le_of_ble_eq_true rfl)⟩ ⟨rfl, (Nat.le_of_ble_eq_true rfl)⟩ rfl (fun r9 h9 hq9 => ?_) (fun E9 h9 hx9 => ?_)
  · obtain ⟨hc9, rfl, rfl⟩ := hq9
    rw [if_pos hc9] at hQ
    show Run _ 7 _ [] (hp (leaH hi b fr to) nb nk) _ _ _ _
    refine r_goto (pc := 7) (tgt := 22) dL_lease_7 rfl ?_
    refine r_iconst (pc := 22) (n := 0) dL_lease_22 (by decide) ?_
    refine r_iret (pc := 23) dL_lease_23 (Or.inl rfl) (Nat.le_of_ble_eq_true rfl) (Nat.le_of_ble_eq_true rfl) ?_
    exact qW hQ hc9 rfl
  · obtain ⟨rfl, hx9⟩ := hx9
    rcases hx9 with ⟨rfl, hx9⟩ | ⟨rfl, hx9⟩ | ⟨rfl, hx9⟩
    · refine rx_catch (pre := []) (suf := [(0, 7, 14, 15), (0, 7, 18, 20)]) (x := (0, 7, 10, 13)) (i := 4) (ln := 2) (xs' := [some (aR 6 0), some (aI b), some (aI fr), some (aI to), none]) rfl ⟨by decide, by decide⟩ (by decide) hl_13 cs_IO (fun z hz => by cases hz) (Or.inl ⟨dL_lease_10, rfl⟩) (by decide) rfl ?_
      show Run _ 12 _ _ _ _ _ _ _
      refine r_iconst (pc := 12) (n := 1) dL_lease_12 (by decide) ?_
      refine r_iret (pc := 13) dL_lease_13 (Or.inl rfl) (Nat.le_of_ble_eq_true rfl) (Nat.le_of_ble_eq_true rfl) ?_
      exact qW hQ hx9 (if_neg (by rw [hx9]; decide))
    · refine rx_catch (pre := [(0, 7, 10, 13)]) (suf := [(0, 7, 18, 20)]) (x := (0, 7, 14, 15)) (i := 4) (ln := 2) (xs' := [some (aR 6 0), some (aI b), some (aI fr), some (aI to), none]) rfl ⟨by decide, by decide⟩ (by decide) hl_15 cs_IA (fun z hz => by rcases List.mem_singleton.mp hz with rfl; exact ⟨by decide, _, hl_13, by simp⟩) (Or.inl ⟨dL_lease_14, rfl⟩) (by decide) rfl ?_
      show Run _ 16 _ _ _ _ _ _ _
      refine r_iconst (pc := 16) (n := 2) dL_lease_16 (by decide) ?_
      refine r_iret (pc := 17) dL_lease_17 (Or.inl rfl) (Nat.le_of_ble_eq_true rfl) (Nat.le_of_ble_eq_true rfl) ?_
      exact qW hQ hx9 (if_neg (by rw [hx9]; decide))
    · refine rx_catch (pre := [(0, 7, 10, 13), (0, 7, 14, 15)]) (suf := []) (x := (0, 7, 18, 20)) (i := 4) (ln := 2) (xs' := [some (aR 6 0), some (aI b), some (aI fr), some (aI to), none]) rfl ⟨by decide, by decide⟩ (by decide) hl_20 cs_IS (fun z hz => by rcases List.mem_cons.mp hz with rfl | hz; (exact ⟨by decide, _, hl_13, by simp⟩); (rcases List.mem_singleton.mp hz with rfl; exact ⟨by decide, _, hl_15, by simp⟩)) (Or.inl ⟨dL_lease_18, rfl⟩) (by decide) rfl ?_
      show Run _ 20 _ _ _ _ _ _ _
      refine r_iconst (pc := 20) (n := 3) dL_lease_20 (by decide) ?_
      refine r_iret (pc := 21) dL_lease_21 (Or.inl rfl) (Nat.le_of_ble_eq_true rfl) (Nat.le_of_ble_eq_true rfl) ?_
      exact qW hQ hx9 (if_neg (by rw [hx9]; decide))

theorem W_free {hi : Hi} {nb nk : Int} (hI : Inv hi nb nk) {d : Int}  : Det I_L_free [aR 6 0, aI d, aR 60 0] (hp hi nb nk) (some (aI (cC_free d))) (if cC_free d = 0 then hp (up1 (up1 hi 6 0 9 d) 60 0 0 (hi 6 0 9)) nb nk else hp hi nb nk) := by
  refine st_d (xs := [some (aR 6 0), some (aI d), some (aR 60 0), none]) pn_L rfl rfl (Nat.le_of_ble_eq_true rfl) rfl rfl (fun Q X hQ => ?_)
  refine r_aload_n (pc := 0) dL_free_0 rfl ?_
  refine r_iconst (pc := 1) (n := 0) dL_free_1 (by decide) ?_
  refine r_aload_n (pc := 2) dL_free_2 rfl ?_
  refine r_iload_n (pc := 3) dL_free_3 rfl ?_
  refine r_callV (pc := 4) (t := 6) (i := 0) (rest := [aI 0, aR 60 0]) (cs' := 1) (sl' := 6) mv_L_44 (K_X6_free hI) rfl ⟨(Nat.le_of_ble_eq_true rfl), (Nat.le_of_ble_eq_true rfl)⟩ (Nat.le_of_ble_eq_true rfl) dL_free_4 (show (0 : Int) ≤ 0 by decide) (show (0 : Int) < 1 by decide) ⟨rfl, (Nat.le_of_ble_eq_true rfl)⟩ ⟨rfl, (Nat.le_of_ble_eq_true rfl)⟩ rfl (fun r9 h9 hq9 => ?_) (fun E9 h9 hx9 => ?_)
  · obtain ⟨hc9, rfl, rfl⟩ := hq9
    rw [if_pos hc9] at hQ
    show Run _ 7 _ [aI (hi 6 0 9), aI 0, aR 60 0] (hp (up1 hi 6 0 9 d) nb nk) _ _ _ _
    refine r_i2l (pc := 7) dL_free_7 ?_
    refine p_last (pc := 8) (n9 := 1) (nI := 1) rfl dL_free_8 rfl (by decide) (by decide) rfl (by omega) (by omega) ?_
    refine r_goto (pc := 9) (tgt := 15) dL_free_9 rfl ?_
    refine r_iconst (pc := 15) (n := 0) dL_free_15 (by decide) ?_
    refine r_iret (pc := 16) dL_free_16 (Or.inl rfl) (Nat.le_of_ble_eq_true rfl) (Nat.le_of_ble_eq_true rfl) ?_
    exact qW hQ hc9 rfl
  · obtain ⟨rfl, hx9⟩ := hx9
    rcases hx9 with ⟨rfl, hx9⟩ | ⟨rfl, hx9⟩ | ⟨rfl, hx9⟩
    · exact absurd hx9 (by unfold cC_free; (repeat' split) <;> omega)
    · refine rx_catch (pre := []) (suf := []) (x := (0, 9, 12, 15)) (i := 3) (ln := 1) (xs' := [some (aR 6 0), some (aI d), some (aR 60 0), none]) rfl ⟨by decide, by decide⟩ (by decide) hl_15 cs_IA (fun z hz => by cases hz) (Or.inr ⟨3, dL_free_12, rfl, rfl⟩) (by decide) rfl ?_
      show Run _ 13 _ _ _ _ _ _ _
      refine r_iconst (pc := 13) (n := 1) dL_free_13 (by decide) ?_
      refine r_iret (pc := 14) dL_free_14 (Or.inl rfl) (Nat.le_of_ble_eq_true rfl) (Nat.le_of_ble_eq_true rfl) ?_
      exact qW hQ hx9 (if_neg (by rw [hx9]; decide))
    · exact absurd hx9 (by unfold cC_free; (repeat' split) <;> omega)

theorem W_payer {hi : Hi} {nb nk : Int} (hI : Inv hi nb nk) {b d : Int}  : Det I_L_payer [aR 6 0, aI b, aI d, aR 60 0] (hp hi nb nk) (some (aI (cC_payer nb b d))) (if cC_payer nb b d = 0 then hp (up1 hi 60 0 0 (payC hi b d)) nb nk else hp hi nb nk) := by
  refine st_d (xs := [some (aR 6 0), some (aI b), some (aI d), some (aR 60 0), none]) pn_L rfl rfl (Nat.le_of_ble_eq_true rfl) rfl rfl (fun Q X hQ => ?_)
  refine r_aload_n (pc := 0) dL_payer_0 rfl ?_
  refine r_iconst (pc := 1) (n := 0) dL_payer_1 (by decide) ?_
  refine r_aload_n (pc := 2) dL_payer_2 rfl ?_
  refine r_iload_n (pc := 3) dL_payer_3 rfl ?_
  refine r_iload_n (pc := 4) dL_payer_4 rfl ?_
  refine r_callV (pc := 5) (t := 6) (i := 0) (rest := [aI 0, aR 60 0]) (cs' := 2) (sl' := 12) mv_L_48 (K_X6_payer hI) rfl ⟨(Nat.le_of_ble_eq_true rfl), (Nat.le_of_ble_eq_true rfl)⟩ (Nat.le_of_ble_eq_true rfl) dL_payer_5 (show (0 : Int) ≤ 0 by decide) (show (0 : Int) < 1 by decide) ⟨rfl, (Nat.le_of_ble_eq_true rfl)⟩ ⟨rfl, (Nat.le_of_ble_eq_true rfl)⟩ rfl (fun r9 h9 hq9 => ?_) (fun E9 h9 hx9 => ?_)
  · obtain ⟨hc9, rfl, rfl⟩ := hq9
    rw [if_pos hc9] at hQ
    show Run _ 8 _ [aI (payC hi b d), aI 0, aR 60 0] (hp hi nb nk) _ _ _ _
    refine r_i2l (pc := 8) dL_payer_8 ?_
    refine p_last (pc := 9) (n9 := 1) (nI := 1) rfl dL_payer_9 rfl (by decide) (by decide) rfl (by omega) (by omega) ?_
    refine r_goto (pc := 10) (tgt := 21) dL_payer_10 rfl ?_
    refine r_iconst (pc := 21) (n := 0) dL_payer_21 (by decide) ?_
    refine r_iret (pc := 22) dL_payer_22 (Or.inl rfl) (Nat.le_of_ble_eq_true rfl) (Nat.le_of_ble_eq_true rfl) ?_
    exact qW hQ hc9 rfl
  · obtain ⟨rfl, hx9⟩ := hx9
    rcases hx9 with ⟨rfl, hx9⟩ | ⟨rfl, hx9⟩ | ⟨rfl, hx9⟩
    · refine rx_catch (pre := []) (suf := [(0, 10, 17, 15)]) (x := (0, 10, 13, 13)) (i := 4) (ln := 2) (xs' := [some (aR 6 0), some (aI b), some (aI d), some (aR 60 0), none]) rfl ⟨by decide, by decide⟩ (by decide) hl_13 cs_IO (fun z hz => by cases hz) (Or.inl ⟨dL_payer_13, rfl⟩) (by decide) rfl ?_
      show Run _ 15 _ _ _ _ _ _ _
      refine r_iconst (pc := 15) (n := 1) dL_payer_15 (by decide) ?_
      refine r_iret (pc := 16) dL_payer_16 (Or.inl rfl) (Nat.le_of_ble_eq_true rfl) (Nat.le_of_ble_eq_true rfl) ?_
      exact qW hQ hx9 (if_neg (by rw [hx9]; decide))
    · refine rx_catch (pre := [(0, 10, 13, 13)]) (suf := []) (x := (0, 10, 17, 15)) (i := 4) (ln := 2) (xs' := [some (aR 6 0), some (aI b), some (aI d), some (aR 60 0), none]) rfl ⟨by decide, by decide⟩ (by decide) hl_15 cs_IA (fun z hz => by rcases List.mem_singleton.mp hz with rfl; exact ⟨by decide, _, hl_13, by simp⟩) (Or.inl ⟨dL_payer_17, rfl⟩) (by decide) rfl ?_
      show Run _ 19 _ _ _ _ _ _ _
      refine r_iconst (pc := 19) (n := 2) dL_payer_19 (by decide) ?_
      refine r_iret (pc := 20) dL_payer_20 (Or.inl rfl) (Nat.le_of_ble_eq_true rfl) (Nat.le_of_ble_eq_true rfl) ?_
      exact qW hQ hx9 (if_neg (by rw [hx9]; decide))
    · exact absurd hx9 (by unfold cC_payer; (repeat' split) <;> omega)

theorem W_quota {hi : Hi} {nb nk : Int} (hI : Inv hi nb nk) {l p c : Int}  : Det I_L_quota [aR 6 0, aI l, aI p, aI c, aR 60 0] (hp hi nb nk) (some (aI (cC_quota l p c))) (if cC_quota l p c = 0 then hp (up1 (up1 hi 11 l p c) 60 0 0 (hi 11 l p)) nb nk else hp hi nb nk) := by
  refine st_d (xs := [some (aR 6 0), some (aI l), some (aI p), some (aI c), some (aR 60 0), none]) pn_L rfl rfl (Nat.le_of_ble_eq_true rfl) rfl rfl (fun Q X hQ => ?_)
  refine r_aload (pc := 0) dL_quota_0 rfl ?_
  refine r_iconst (pc := 2) (n := 0) dL_quota_2 (by decide) ?_
  refine r_aload_n (pc := 3) dL_quota_3 rfl ?_
  refine r_iload_n (pc := 4) dL_quota_4 rfl ?_
  refine r_iload_n (pc := 5) dL_quota_5 rfl ?_
  refine r_iload_n (pc := 6) dL_quota_6 rfl ?_
  refine r_callV (pc := 7) (t := 6) (i := 0) (rest := [aI 0, aR 60 0]) (cs' := 3) (sl' := 18) mv_L_51 (K_X6_quota hI) rfl ⟨(Nat.le_of_ble_eq_true rfl), (Nat.le_of_ble_eq_true rfl)⟩ (Nat.le_of_ble_eq_true rfl) dL_quota_7 (show (0 : Int) ≤ 0 by decide) (show (0 : Int) < 1 by decide) ⟨rfl, (Nat.le_of_ble_eq_true rfl)⟩ ⟨rfl, (Nat.le_of_ble_eq_true rfl)⟩ rfl (fun r9 h9 hq9 => ?_) (fun E9 h9 hx9 => ?_)
  · obtain ⟨hc9, rfl, rfl⟩ := hq9
    rw [if_pos hc9] at hQ
    show Run _ 10 _ [aI (hi 11 l p), aI 0, aR 60 0] (hp (up1 hi 11 l p c) nb nk) _ _ _ _
    refine r_i2l (pc := 10) dL_quota_10 ?_
    refine p_last (pc := 11) (n9 := 1) (nI := 1) rfl dL_quota_11 rfl (by decide) (by decide) rfl (by omega) (by omega) ?_
    refine r_goto (pc := 12) (tgt := 23) dL_quota_12 rfl ?_
    refine r_iconst (pc := 23) (n := 0) dL_quota_23 (by decide) ?_
    refine r_iret (pc := 24) dL_quota_24 (Or.inl rfl) (Nat.le_of_ble_eq_true rfl) (Nat.le_of_ble_eq_true rfl) ?_
    exact qW hQ hc9 rfl
  · obtain ⟨rfl, hx9⟩ := hx9
    rcases hx9 with ⟨rfl, hx9⟩ | ⟨rfl, hx9⟩ | ⟨rfl, hx9⟩
    · refine rx_catch (pre := []) (suf := [(0, 12, 19, 15)]) (x := (0, 12, 15, 13)) (i := 5) (ln := 2) (xs' := [some (aR 6 0), some (aI l), some (aI p), some (aI c), some (aR 60 0), none]) rfl ⟨by decide, by decide⟩ (by decide) hl_13 cs_IO (fun z hz => by cases hz) (Or.inl ⟨dL_quota_15, rfl⟩) (by decide) rfl ?_
      show Run _ 17 _ _ _ _ _ _ _
      refine r_iconst (pc := 17) (n := 1) dL_quota_17 (by decide) ?_
      refine r_iret (pc := 18) dL_quota_18 (Or.inl rfl) (Nat.le_of_ble_eq_true rfl) (Nat.le_of_ble_eq_true rfl) ?_
      exact qW hQ hx9 (if_neg (by rw [hx9]; decide))
    · refine rx_catch (pre := [(0, 12, 15, 13)]) (suf := []) (x := (0, 12, 19, 15)) (i := 5) (ln := 2) (xs' := [some (aR 6 0), some (aI l), some (aI p), some (aI c), some (aR 60 0), none]) rfl ⟨by decide, by decide⟩ (by decide) hl_15 cs_IA (fun z hz => by rcases List.mem_singleton.mp hz with rfl; exact ⟨by decide, _, hl_13, by simp⟩) (Or.inl ⟨dL_quota_19, rfl⟩) (by decide) rfl ?_
      show Run _ 21 _ _ _ _ _ _ _
      refine r_iconst (pc := 21) (n := 2) dL_quota_21 (by decide) ?_
      refine r_iret (pc := 22) dL_quota_22 (Or.inl rfl) (Nat.le_of_ble_eq_true rfl) (Nat.le_of_ble_eq_true rfl) ?_
      exact qW hQ hx9 (if_neg (by rw [hx9]; decide))
    · exact absurd hx9 (by unfold cC_quota; (repeat' split) <;> omega)

theorem W_handIn {hi : Hi} {nb nk : Int} (hI : Inv hi nb nk) {b : Int}  : Det I_L_handIn [aR 6 0, aI b, aR 60 0] (hp hi nb nk) (some (aI (cC_handIn hi nb b))) (if cC_handIn hi nb b = 0 then hp (up1 (hanH hi b) 60 0 0 (lefC hi nb b - 1)) nb nk else hp hi nb nk) := by
  refine st_d (xs := [some (aR 6 0), some (aI b), some (aR 60 0), none]) pn_L rfl rfl (Nat.le_of_ble_eq_true rfl) rfl rfl (fun Q X hQ => ?_)
  refine r_aload_n (pc := 0) dL_handIn_0 rfl ?_
  refine r_iconst (pc := 1) (n := 0) dL_handIn_1 (by decide) ?_
  refine r_aload_n (pc := 2) dL_handIn_2 rfl ?_
  refine r_iload_n (pc := 3) dL_handIn_3 rfl ?_
  refine r_callV (pc := 4) (t := 6) (i := 0) (rest := [aI 0, aR 60 0]) (cs' := 6) (sl' := 36) mv_L_54 (K_X6_handIn hI) rfl ⟨(Nat.le_of_ble_eq_true rfl), (Nat.le_of_ble_eq_true rfl)⟩ (Nat.le_of_ble_eq_true rfl) dL_handIn_4 (show (0 : Int) ≤ 0 by decide) (show (0 : Int) < 1 by decide) ⟨rfl, (Nat.le_of_ble_eq_true rfl)⟩ ⟨rfl, (Nat.le_of_ble_eq_true rfl)⟩ rfl (fun r9 h9 hq9 => ?_) (fun E9 h9 hx9 => ?_)
  · obtain ⟨hc9, rfl, rfl⟩ := hq9
    rw [if_pos hc9] at hQ
    show Run _ 7 _ [aI (lefC hi nb b - 1), aI 0, aR 60 0] (hp (hanH hi b) nb nk) _ _ _ _
    refine r_i2l (pc := 7) dL_handIn_7 ?_
    refine p_last (pc := 8) (n9 := 1) (nI := 1) rfl dL_handIn_8 rfl (by decide) (by decide) rfl (by omega) (by omega) ?_
    refine r_goto (pc := 9) (tgt := 18) dL_handIn_9 rfl ?_
    refine r_iconst (pc := 18) (n := 0) dL_handIn_18 (by decide) ?_
    refine r_iret (pc := 19) dL_handIn_19 (Or.inl rfl) (Nat.le_of_ble_eq_true rfl) (Nat.le_of_ble_eq_true rfl) ?_
    exact qW hQ hc9 rfl
  · obtain ⟨rfl, hx9⟩ := hx9
    rcases hx9 with ⟨rfl, hx9⟩ | ⟨rfl, hx9⟩ | ⟨rfl, hx9⟩
    · refine rx_catch (pre := []) (suf := [(0, 9, 15, 20)]) (x := (0, 9, 12, 13)) (i := 3) (ln := 1) (xs' := [some (aR 6 0), some (aI b), some (aR 60 0), none]) rfl ⟨by decide, by decide⟩ (by decide) hl_13 cs_IO (fun z hz => by cases hz) (Or.inr ⟨3, dL_handIn_12, rfl, rfl⟩) (by decide) rfl ?_
      show Run _ 13 _ _ _ _ _ _ _
      refine r_iconst (pc := 13) (n := 1) dL_handIn_13 (by decide) ?_
      refine r_iret (pc := 14) dL_handIn_14 (Or.inl rfl) (Nat.le_of_ble_eq_true rfl) (Nat.le_of_ble_eq_true rfl) ?_
      exact qW hQ hx9 (if_neg (by rw [hx9]; decide))
    · exact absurd hx9 (by unfold cC_handIn; (repeat' split) <;> omega)
    · refine rx_catch (pre := [(0, 9, 12, 13)]) (suf := []) (x := (0, 9, 15, 20)) (i := 3) (ln := 1) (xs' := [some (aR 6 0), some (aI b), some (aR 60 0), none]) rfl ⟨by decide, by decide⟩ (by decide) hl_20 cs_IS (fun z hz => by rcases List.mem_singleton.mp hz with rfl; exact ⟨by decide, _, hl_13, by simp⟩) (Or.inr ⟨3, dL_handIn_15, rfl, rfl⟩) (by decide) rfl ?_
      show Run _ 16 _ _ _ _ _ _ _
      refine r_iconst (pc := 16) (n := 2) dL_handIn_16 (by decide) ?_
      refine r_iret (pc := 17) dL_handIn_17 (Or.inl rfl) (Nat.le_of_ble_eq_true rfl) (Nat.le_of_ble_eq_true rfl) ?_
      exact qW hQ hx9 (if_neg (by rw [hx9]; decide))

theorem W_damage {hi : Hi} {nb nk : Int} (hI : Inv hi nb nk) {b co si : Int}  : Det I_L_damage [aR 6 0, aI b, aI co, aI si, aR 60 0] (hp hi nb nk) (some (aI (cC_damage hi nb b co si))) (if cC_damage hi nb b co si = 0 then hp (up1 (damH hi b co si) 60 0 0 (menC (damH hi b co si) b)) nb nk else hp hi nb nk) := by
  refine st_d (xs := [some (aR 6 0), some (aI b), some (aI co), some (aI si), some (aR 60 0), none]) pn_L rfl rfl (Nat.le_of_ble_eq_true rfl) rfl rfl (fun Q X hQ => ?_)
  refine r_aload (pc := 0) dL_damage_0 rfl ?_
  refine r_iconst (pc := 2) (n := 0) dL_damage_2 (by decide) ?_
  refine r_aload_n (pc := 3) dL_damage_3 rfl ?_
  refine r_iload_n (pc := 4) dL_damage_4 rfl ?_
  refine r_iload_n (pc := 5) dL_damage_5 rfl ?_
  refine r_iload_n (pc := 6) dL_damage_6 rfl ?_
  refine r_callV (pc := 7) (t := 6) (i := 0) (rest := [aI 0, aR 60 0]) (cs' := 5) (sl' := 30) mv_L_57 (K_X6_damage hI) rfl ⟨(Nat.le_of_ble_eq_true rfl), (Nat.le_of_ble_eq_true rfl)⟩ (Nat.le_of_ble_eq_true rfl) dL_damage_7 (show (0 : Int) ≤ 0 by decide) (show (0 : Int) < 1 by decide) ⟨rfl, (Nat.le_of_ble_eq_true rfl)⟩ ⟨rfl, (Nat.le_of_ble_eq_true rfl)⟩ rfl (fun r9 h9 hq9 => ?_) (fun E9 h9 hx9 => ?_)
  · obtain ⟨hc9, rfl, rfl⟩ := hq9
    rw [if_pos hc9] at hQ
    show Run _ 10 _ [aI (menC (damH hi b co si) b), aI 0, aR 60 0] (hp (damH hi b co si) nb nk) _ _ _ _
    refine r_i2l (pc := 10) dL_damage_10 ?_
    refine p_last (pc := 11) (n9 := 1) (nI := 1) rfl dL_damage_11 rfl (by decide) (by decide) rfl (by omega) (by omega) ?_
    refine r_goto (pc := 12) (tgt := 27) dL_damage_12 rfl ?_
    refine r_iconst (pc := 27) (n := 0) dL_damage_27 (by decide) ?_
    refine r_iret (pc := 28) dL_damage_28 (Or.inl rfl) (Nat.le_of_ble_eq_true rfl) (Nat.le_of_ble_eq_true rfl) ?_
    exact qW hQ hc9 rfl
  · obtain ⟨rfl, hx9⟩ := hx9
    rcases hx9 with ⟨rfl, hx9⟩ | ⟨rfl, hx9⟩ | ⟨rfl, hx9⟩
    · refine rx_catch (pre := []) (suf := [(0, 12, 19, 15), (0, 12, 23, 20)]) (x := (0, 12, 15, 13)) (i := 5) (ln := 2) (xs' := [some (aR 6 0), some (aI b), some (aI co), some (aI si), some (aR 60 0), none]) rfl ⟨by decide, by decide⟩ (by decide) hl_13 cs_IO (fun z hz => by cases hz) (Or.inl ⟨dL_damage_15, rfl⟩) (by decide) rfl ?_
      show Run _ 17 _ _ _ _ _ _ _
      refine r_iconst (pc := 17) (n := 1) dL_damage_17 (by decide) ?_
      refine r_iret (pc := 18) dL_damage_18 (Or.inl rfl) (Nat.le_of_ble_eq_true rfl) (Nat.le_of_ble_eq_true rfl) ?_
      exact qW hQ hx9 (if_neg (by rw [hx9]; decide))
    · refine rx_catch (pre := [(0, 12, 15, 13)]) (suf := [(0, 12, 23, 20)]) (x := (0, 12, 19, 15)) (i := 5) (ln := 2) (xs' := [some (aR 6 0), some (aI b), some (aI co), some (aI si), some (aR 60 0), none]) rfl ⟨by decide, by decide⟩ (by decide) hl_15 cs_IA (fun z hz => by rcases List.mem_singleton.mp hz with rfl; exact ⟨by decide, _, hl_13, by simp⟩) (Or.inl ⟨dL_damage_19, rfl⟩) (by decide) rfl ?_
      show Run _ 21 _ _ _ _ _ _ _
      refine r_iconst (pc := 21) (n := 2) dL_damage_21 (by decide) ?_
      refine r_iret (pc := 22) dL_damage_22 (Or.inl rfl) (Nat.le_of_ble_eq_true rfl) (Nat.le_of_ble_eq_true rfl) ?_
      exact qW hQ hx9 (if_neg (by rw [hx9]; decide))
    · refine rx_catch (pre := [(0, 12, 15, 13), (0, 12, 19, 15)]) (suf := []) (x := (0, 12, 23, 20)) (i := 5) (ln := 2) (xs' := [some (aR 6 0), some (aI b), some (aI co), some (aI si), some (aR 60 0), none]) rfl ⟨by decide, by decide⟩ (by decide) hl_20 cs_IS (fun z hz => by rcases List.mem_cons.mp hz with rfl | hz; (exact ⟨by decide, _, hl_13, by simp⟩); (rcases List.mem_singleton.mp hz with rfl; exact ⟨by decide, _, hl_15, by simp⟩)) (Or.inl ⟨dL_damage_23, rfl⟩) (by decide) rfl ?_
      show Run _ 25 _ _ _ _ _ _ _
      refine r_iconst (pc := 25) (n := 3) dL_damage_25 (by decide) ?_
      refine r_iret (pc := 26) dL_damage_26 (Or.inl rfl) (Nat.le_of_ble_eq_true rfl) (Nat.le_of_ble_eq_true rfl) ?_
      exact qW hQ hx9 (if_neg (by rw [hx9]; decide))

theorem W_standard {hi : Hi} {nb nk : Int} (hI : Inv hi nb nk) {c si : Int}  : Det I_L_standard [aR 6 0, aI c, aI si, aR 60 0] (hp hi nb nk) (some (aI (cC_standard c si))) (if cC_standard c si = 0 then hp (up1 (up1 hi 12 0 c si) 60 0 0 (hi 12 0 c)) nb nk else hp hi nb nk) := by
  refine st_d (xs := [some (aR 6 0), some (aI c), some (aI si), some (aR 60 0), none]) pn_L rfl rfl (Nat.le_of_ble_eq_true rfl) rfl rfl (fun Q X hQ => ?_)
  refine r_aload_n (pc := 0) dL_standard_0 rfl ?_
  refine r_iconst (pc := 1) (n := 0) dL_standard_1 (by decide) ?_
  refine r_aload_n (pc := 2) dL_standard_2 rfl ?_
  refine r_iload_n (pc := 3) dL_standard_3 rfl ?_
  refine r_iload_n (pc := 4) dL_standard_4 rfl ?_
  refine r_callV (pc := 5) (t := 6) (i := 0) (rest := [aI 0, aR 60 0]) (cs' := 2) (sl' := 12) mv_L_60 (K_X6_standard hI) rfl ⟨(Nat.le_of_ble_eq_true rfl), (Nat.le_of_ble_eq_true rfl)⟩ (Nat.le_of_ble_eq_true rfl) dL_standard_5 (show (0 : Int) ≤ 0 by decide) (show (0 : Int) < 1 by decide) ⟨rfl, (Nat.le_of_ble_eq_true rfl)⟩ ⟨rfl, (Nat.le_of_ble_eq_true rfl)⟩ rfl (fun r9 h9 hq9 => ?_) (fun E9 h9 hx9 => ?_)
  · obtain ⟨hc9, rfl, rfl⟩ := hq9
    rw [if_pos hc9] at hQ
    show Run _ 8 _ [aI (hi 12 0 c), aI 0, aR 60 0] (hp (up1 hi 12 0 c si) nb nk) _ _ _ _
    refine r_i2l (pc := 8) dL_standard_8 ?_
    refine p_last (pc := 9) (n9 := 1) (nI := 1) rfl dL_standard_9 rfl (by decide) (by decide) rfl (by omega) (by omega) ?_
    refine r_goto (pc := 10) (tgt := 21) dL_standard_10 rfl ?_
    refine r_iconst (pc := 21) (n := 0) dL_standard_21 (by decide) ?_
    refine r_iret (pc := 22) dL_standard_22 (Or.inl rfl) (Nat.le_of_ble_eq_true rfl) (Nat.le_of_ble_eq_true rfl) ?_
    exact qW hQ hc9 rfl
  · obtain ⟨rfl, hx9⟩ := hx9
    rcases hx9 with ⟨rfl, hx9⟩ | ⟨rfl, hx9⟩ | ⟨rfl, hx9⟩
    · refine rx_catch (pre := []) (suf := [(0, 10, 17, 15)]) (x := (0, 10, 13, 13)) (i := 4) (ln := 2) (xs' := [some (aR 6 0), some (aI c), some (aI si), some (aR 60 0), none]) rfl ⟨by decide, by decide⟩ (by decide) hl_13 cs_IO (fun z hz => by cases hz) (Or.inl ⟨dL_standard_13, rfl⟩) (by decide) rfl ?_
      show Run _ 15 _ _ _ _ _ _ _
      refine r_iconst (pc := 15) (n := 1) dL_standard_15 (by decide) ?_
      refine r_iret (pc := 16) dL_standard_16 (Or.inl rfl) (Nat.le_of_ble_eq_true rfl) (Nat.le_of_ble_eq_true rfl) ?_
      exact qW hQ hx9 (if_neg (by rw [hx9]; decide))
    · refine rx_catch (pre := [(0, 10, 13, 13)]) (suf := []) (x := (0, 10, 17, 15)) (i := 4) (ln := 2) (xs' := [some (aR 6 0), some (aI c), some (aI si), some (aR 60 0), none]) rfl ⟨by decide, by decide⟩ (by decide) hl_15 cs_IA (fun z hz => by rcases List.mem_singleton.mp hz with rfl; exact ⟨by decide, _, hl_13, by simp⟩) (Or.inl ⟨dL_standard_17, rfl⟩) (by decide) rfl ?_
      show Run _ 19 _ _ _ _ _ _ _
      refine r_iconst (pc := 19) (n := 2) dL_standard_19 (by decide) ?_
      refine r_iret (pc := 20) dL_standard_20 (Or.inl rfl) (Nat.le_of_ble_eq_true rfl) (Nat.le_of_ble_eq_true rfl) ?_
      exact qW hQ hx9 (if_neg (by rw [hx9]; decide))
    · exact absurd hx9 (by unfold cC_standard; (repeat' split) <;> omega)

theorem W_limit {hi : Hi} {nb nk : Int} (hI : Inv hi nb nk) {m : Int}  : Det I_L_limit [aR 6 0, aI m, aR 60 0] (hp hi nb nk) (some (aI (cC_limit m))) (if cC_limit m = 0 then hp (up1 (up1 hi 6 0 10 m) 60 0 0 (hi 6 0 10)) nb nk else hp hi nb nk) := by
  refine st_d (xs := [some (aR 6 0), some (aI m), some (aR 60 0), none]) pn_L rfl rfl (Nat.le_of_ble_eq_true rfl) rfl rfl (fun Q X hQ => ?_)
  refine r_aload_n (pc := 0) dL_limit_0 rfl ?_
  refine r_iconst (pc := 1) (n := 0) dL_limit_1 (by decide) ?_
  refine r_aload_n (pc := 2) dL_limit_2 rfl ?_
  refine r_iload_n (pc := 3) dL_limit_3 rfl ?_
  refine r_callV (pc := 4) (t := 6) (i := 0) (rest := [aI 0, aR 60 0]) (cs' := 1) (sl' := 6) mv_L_63 (K_X6_limit hI) rfl ⟨(Nat.le_of_ble_eq_true rfl), (Nat.le_of_ble_eq_true rfl)⟩ (Nat.le_of_ble_eq_true rfl) dL_limit_4 (show (0 : Int) ≤ 0 by decide) (show (0 : Int) < 1 by decide) ⟨rfl, (Nat.le_of_ble_eq_true rfl)⟩ ⟨rfl, (Nat.le_of_ble_eq_true rfl)⟩ rfl (fun r9 h9 hq9 => ?_) (fun E9 h9 hx9 => ?_)
  · obtain ⟨hc9, rfl, rfl⟩ := hq9
    rw [if_pos hc9] at hQ
    show Run _ 7 _ [aI (hi 6 0 10), aI 0, aR 60 0] (hp (up1 hi 6 0 10 m) nb nk) _ _ _ _
    refine r_i2l (pc := 7) dL_limit_7 ?_
    refine p_last (pc := 8) (n9 := 1) (nI := 1) rfl dL_limit_8 rfl (by decide) (by decide) rfl (by omega) (by omega) ?_
    refine r_goto (pc := 9) (tgt := 15) dL_limit_9 rfl ?_
    refine r_iconst (pc := 15) (n := 0) dL_limit_15 (by decide) ?_
    refine r_iret (pc := 16) dL_limit_16 (Or.inl rfl) (Nat.le_of_ble_eq_true rfl) (Nat.le_of_ble_eq_true rfl) ?_
    exact qW hQ hc9 rfl
  · obtain ⟨rfl, hx9⟩ := hx9
    rcases hx9 with ⟨rfl, hx9⟩ | ⟨rfl, hx9⟩ | ⟨rfl, hx9⟩
    · exact absurd hx9 (by unfold cC_limit; (repeat' split) <;> omega)
    · refine rx_catch (pre := []) (suf := []) (x := (0, 9, 12, 15)) (i := 3) (ln := 1) (xs' := [some (aR 6 0), some (aI m), some (aR 60 0), none]) rfl ⟨by decide, by decide⟩ (by decide) hl_15 cs_IA (fun z hz => by cases hz) (Or.inr ⟨3, dL_limit_12, rfl, rfl⟩) (by decide) rfl ?_
      show Run _ 13 _ _ _ _ _ _ _
      refine r_iconst (pc := 13) (n := 1) dL_limit_13 (by decide) ?_
      refine r_iret (pc := 14) dL_limit_14 (Or.inl rfl) (Nat.le_of_ble_eq_true rfl) (Nat.le_of_ble_eq_true rfl) ?_
      exact qW hQ hx9 (if_neg (by rw [hx9]; decide))
    · exact absurd hx9 (by unfold cC_limit; (repeat' split) <;> omega)

theorem W_mend {hi : Hi} {nb nk : Int} (hI : Inv hi nb nk) {b : Int}  : Det I_L_mend [aR 6 0, aI b, aR 60 0] (hp hi nb nk) (some (aI (cC_mend hi nb b))) (if cC_mend hi nb b = 0 then hp (up1 (up1 hi 2 b 2 0) 60 0 0 (menC hi b)) nb nk else hp hi nb nk) := by
  refine st_d (xs := [some (aR 6 0), some (aI b), some (aR 60 0), none]) pn_L rfl rfl (Nat.le_of_ble_eq_true rfl) rfl rfl (fun Q X hQ => ?_)
  refine r_aload_n (pc := 0) dL_mend_0 rfl ?_
  refine r_iconst (pc := 1) (n := 0) dL_mend_1 (by decide) ?_
  refine r_aload_n (pc := 2) dL_mend_2 rfl ?_
  refine r_iload_n (pc := 3) dL_mend_3 rfl ?_
  refine r_callV (pc := 4) (t := 6) (i := 0) (rest := [aI 0, aR 60 0]) (cs' := 4) (sl' := 24) mv_L_66 (K_X6_mend hI) rfl ⟨(Nat.le_of_ble_eq_true rfl), (Nat.le_of_ble_eq_true rfl)⟩ (Nat.le_of_ble_eq_true rfl) dL_mend_4 (show (0 : Int) ≤ 0 by decide) (show (0 : Int) < 1 by decide) ⟨rfl, (Nat.le_of_ble_eq_true rfl)⟩ ⟨rfl, (Nat.le_of_ble_eq_true rfl)⟩ rfl (fun r9 h9 hq9 => ?_) (fun E9 h9 hx9 => ?_)
  · obtain ⟨hc9, rfl, rfl⟩ := hq9
    rw [if_pos hc9] at hQ
    show Run _ 7 _ [aI (menC hi b), aI 0, aR 60 0] (hp (up1 hi 2 b 2 0) nb nk) _ _ _ _
    refine r_i2l (pc := 7) dL_mend_7 ?_
    refine p_last (pc := 8) (n9 := 1) (nI := 1) rfl dL_mend_8 rfl (by decide) (by decide) rfl (by omega) (by omega) ?_
    refine r_goto (pc := 9) (tgt := 18) dL_mend_9 rfl ?_
    refine r_iconst (pc := 18) (n := 0) dL_mend_18 (by decide) ?_
    refine r_iret (pc := 19) dL_mend_19 (Or.inl rfl) (Nat.le_of_ble_eq_true rfl) (Nat.le_of_ble_eq_true rfl) ?_
    exact qW hQ hc9 rfl
  · obtain ⟨rfl, hx9⟩ := hx9
    rcases hx9 with ⟨rfl, hx9⟩ | ⟨rfl, hx9⟩ | ⟨rfl, hx9⟩
    · refine rx_catch (pre := []) (suf := [(0, 9, 15, 20)]) (x := (0, 9, 12, 13)) (i := 3) (ln := 1) (xs' := [some (aR 6 0), some (aI b), some (aR 60 0), none]) rfl ⟨by decide, by decide⟩ (by decide) hl_13 cs_IO (fun z hz => by cases hz) (Or.inr ⟨3, dL_mend_12, rfl, rfl⟩) (by decide) rfl ?_
      show Run _ 13 _ _ _ _ _ _ _
      refine r_iconst (pc := 13) (n := 1) dL_mend_13 (by decide) ?_
      refine r_iret (pc := 14) dL_mend_14 (Or.inl rfl) (Nat.le_of_ble_eq_true rfl) (Nat.le_of_ble_eq_true rfl) ?_
      exact qW hQ hx9 (if_neg (by rw [hx9]; decide))
    · exact absurd hx9 (by unfold cC_mend; (repeat' split) <;> omega)
    · refine rx_catch (pre := [(0, 9, 12, 13)]) (suf := []) (x := (0, 9, 15, 20)) (i := 3) (ln := 1) (xs' := [some (aR 6 0), some (aI b), some (aR 60 0), none]) rfl ⟨by decide, by decide⟩ (by decide) hl_20 cs_IS (fun z hz => by rcases List.mem_singleton.mp hz with rfl; exact ⟨by decide, _, hl_13, by simp⟩) (Or.inr ⟨3, dL_mend_15, rfl, rfl⟩) (by decide) rfl ?_
      show Run _ 16 _ _ _ _ _ _ _
      refine r_iconst (pc := 16) (n := 2) dL_mend_16 (by decide) ?_
      refine r_iret (pc := 17) dL_mend_17 (Or.inl rfl) (Nat.le_of_ble_eq_true rfl) (Nat.le_of_ble_eq_true rfl) ?_
      exact qW hQ hx9 (if_neg (by rw [hx9]; decide))

theorem W_book {hi : Hi} {nb nk : Int} (hI : Inv hi nb nk) {po kd wa : Int}  : Det I_L_book [aR 6 0, aI po, aI kd, aI wa, aR 60 0] (hp hi nb nk) (some (aI (cC_book nk po kd wa))) (if cC_book nk po kd wa = 0 then hp (up1 (up1 (bokH hi nk po kd wa) 6 0 7 (nk + 1)) 60 0 0 nk) nb (nk + 1) else hp hi nb nk) := by
  refine st_d (xs := [some (aR 6 0), some (aI po), some (aI kd), some (aI wa), some (aR 60 0), none]) pn_L rfl rfl (Nat.le_of_ble_eq_true rfl) rfl rfl (fun Q X hQ => ?_)
  refine r_aload (pc := 0) dL_book_0 rfl ?_
  refine r_iconst (pc := 2) (n := 0) dL_book_2 (by decide) ?_
  refine r_aload_n (pc := 3) dL_book_3 rfl ?_
  refine r_iload_n (pc := 4) dL_book_4 rfl ?_
  refine r_iload_n (pc := 5) dL_book_5 rfl ?_
  refine r_iload_n (pc := 6) dL_book_6 rfl ?_
  refine r_callV (pc := 7) (t := 6) (i := 0) (rest := [aI 0, aR 60 0]) (cs' := 5) (sl' := 29) mv_L_69 (K_X6_book hI) rfl ⟨(Nat.le_of_ble_eq_true rfl), (Nat.le_of_ble_eq_true rfl)⟩ (Nat.le_of_ble_eq_true rfl) dL_book_7 (show (0 : Int) ≤ 0 by decide) (show (0 : Int) < 1 by decide) ⟨rfl, (Nat.le_of_ble_eq_true rfl)⟩ ⟨rfl, (Nat.le_of_ble_eq_true rfl)⟩ rfl (fun r9 h9 hq9 => ?_) (fun E9 h9 hx9 => ?_)
  · obtain ⟨hc9, rfl, rfl⟩ := hq9
    rw [if_pos hc9] at hQ
    show Run _ 10 _ [aI nk, aI 0, aR 60 0] (hp (up1 (bokH hi nk po kd wa) 6 0 7 (nk + 1)) nb (nk + 1)) _ _ _ _
    refine r_i2l (pc := 10) dL_book_10 ?_
    refine p_last (pc := 11) (n9 := 1) (nI := 1) rfl dL_book_11 rfl (by decide) (by decide) rfl (by omega) (by omega) ?_
    refine r_goto (pc := 12) (tgt := 27) dL_book_12 rfl ?_
    refine r_iconst (pc := 27) (n := 0) dL_book_27 (by decide) ?_
    refine r_iret (pc := 28) dL_book_28 (Or.inl rfl) (Nat.le_of_ble_eq_true rfl) (Nat.le_of_ble_eq_true rfl) ?_
    exact qW hQ hc9 rfl
  · obtain ⟨rfl, hx9⟩ := hx9
    rcases hx9 with ⟨rfl, hx9⟩ | ⟨rfl, hx9⟩ | ⟨rfl, hx9⟩
    · refine rx_catch (pre := []) (suf := [(0, 12, 19, 15), (0, 12, 23, 20)]) (x := (0, 12, 15, 13)) (i := 5) (ln := 2) (xs' := [some (aR 6 0), some (aI po), some (aI kd), some (aI wa), some (aR 60 0), none]) rfl ⟨by decide, by decide⟩ (by decide) hl_13 cs_IO (fun z hz => by cases hz) (Or.inl ⟨dL_book_15, rfl⟩) (by decide) rfl ?_
      show Run _ 17 _ _ _ _ _ _ _
      refine r_iconst (pc := 17) (n := 1) dL_book_17 (by decide) ?_
      refine r_iret (pc := 18) dL_book_18 (Or.inl rfl) (Nat.le_of_ble_eq_true rfl) (Nat.le_of_ble_eq_true rfl) ?_
      exact qW hQ hx9 (if_neg (by rw [hx9]; decide))
    · refine rx_catch (pre := [(0, 12, 15, 13)]) (suf := [(0, 12, 23, 20)]) (x := (0, 12, 19, 15)) (i := 5) (ln := 2) (xs' := [some (aR 6 0), some (aI po), some (aI kd), some (aI wa), some (aR 60 0), none]) rfl ⟨by decide, by decide⟩ (by decide) hl_15 cs_IA (fun z hz => by rcases List.mem_singleton.mp hz with rfl; exact ⟨by decide, _, hl_13, by simp⟩) (Or.inl ⟨dL_book_19, rfl⟩) (by decide) rfl ?_
      show Run _ 21 _ _ _ _ _ _ _
      refine r_iconst (pc := 21) (n := 2) dL_book_21 (by decide) ?_
      refine r_iret (pc := 22) dL_book_22 (Or.inl rfl) (Nat.le_of_ble_eq_true rfl) (Nat.le_of_ble_eq_true rfl) ?_
      exact qW hQ hx9 (if_neg (by rw [hx9]; decide))
    · refine rx_catch (pre := [(0, 12, 15, 13), (0, 12, 19, 15)]) (suf := []) (x := (0, 12, 23, 20)) (i := 5) (ln := 2) (xs' := [some (aR 6 0), some (aI po), some (aI kd), some (aI wa), some (aR 60 0), none]) rfl ⟨by decide, by decide⟩ (by decide) hl_20 cs_IS (fun z hz => by rcases List.mem_cons.mp hz with rfl | hz; (exact ⟨by decide, _, hl_13, by simp⟩); (rcases List.mem_singleton.mp hz with rfl; exact ⟨by decide, _, hl_15, by simp⟩)) (Or.inl ⟨dL_book_23, rfl⟩) (by decide) rfl ?_
      show Run _ 25 _ _ _ _ _ _ _
      refine r_iconst (pc := 25) (n := 3) dL_book_25 (by decide) ?_
      refine r_iret (pc := 26) dL_book_26 (Or.inl rfl) (Nat.le_of_ble_eq_true rfl) (Nat.le_of_ble_eq_true rfl) ?_
      exact qW hQ hx9 (if_neg (by rw [hx9]; decide))

theorem W_end {hi : Hi} {nb nk : Int} (hI : Inv hi nb nk) {k : Int}  : Det I_L_end [aR 6 0, aI k, aR 60 0] (hp hi nb nk) (some (aI (cC_end hi nk k))) (if cC_end hi nk k = 0 then hp (up1 (enH hi k nb) 60 0 0 (hi 0 k 3)) nb nk else hp hi nb nk) := by
  refine st_d (xs := [some (aR 6 0), some (aI k), some (aR 60 0), none]) pn_L rfl rfl (Nat.le_of_ble_eq_true rfl) rfl rfl (fun Q X hQ => ?_)
  refine r_aload_n (pc := 0) dL_end_0 rfl ?_
  refine r_iconst (pc := 1) (n := 0) dL_end_1 (by decide) ?_
  refine r_aload_n (pc := 2) dL_end_2 rfl ?_
  refine r_iload_n (pc := 3) dL_end_3 rfl ?_
  refine r_callV (pc := 4) (t := 6) (i := 0) (rest := [aI 0, aR 60 0]) (cs' := 2) (sl' := 12) mv_L_72 (K_X6_end hI) rfl ⟨(Nat.le_of_ble_eq_true rfl), (Nat.le_of_ble_eq_true rfl)⟩ (Nat.le_of_ble_eq_true rfl) dL_end_4 (show (0 : Int) ≤ 0 by decide) (show (0 : Int) < 1 by decide) ⟨rfl, (Nat.le_of_ble_eq_true rfl)⟩ ⟨rfl, (Nat.le_of_ble_eq_true rfl)⟩ rfl (fun r9 h9 hq9 => ?_) (fun E9 h9 hx9 => ?_)
  · obtain ⟨hc9, rfl, rfl⟩ := hq9
    rw [if_pos hc9] at hQ
    show Run _ 7 _ [aI (hi 0 k 3), aI 0, aR 60 0] (hp (enH hi k nb) nb nk) _ _ _ _
    refine r_i2l (pc := 7) dL_end_7 ?_
    refine p_last (pc := 8) (n9 := 1) (nI := 1) rfl dL_end_8 rfl (by decide) (by decide) rfl (by omega) (by omega) ?_
    refine r_goto (pc := 9) (tgt := 18) dL_end_9 rfl ?_
    refine r_iconst (pc := 18) (n := 0) dL_end_18 (by decide) ?_
    refine r_iret (pc := 19) dL_end_19 (Or.inl rfl) (Nat.le_of_ble_eq_true rfl) (Nat.le_of_ble_eq_true rfl) ?_
    exact qW hQ hc9 rfl
  · obtain ⟨rfl, hx9⟩ := hx9
    rcases hx9 with ⟨rfl, hx9⟩ | ⟨rfl, hx9⟩ | ⟨rfl, hx9⟩
    · refine rx_catch (pre := []) (suf := [(0, 9, 15, 20)]) (x := (0, 9, 12, 13)) (i := 3) (ln := 1) (xs' := [some (aR 6 0), some (aI k), some (aR 60 0), none]) rfl ⟨by decide, by decide⟩ (by decide) hl_13 cs_IO (fun z hz => by cases hz) (Or.inr ⟨3, dL_end_12, rfl, rfl⟩) (by decide) rfl ?_
      show Run _ 13 _ _ _ _ _ _ _
      refine r_iconst (pc := 13) (n := 1) dL_end_13 (by decide) ?_
      refine r_iret (pc := 14) dL_end_14 (Or.inl rfl) (Nat.le_of_ble_eq_true rfl) (Nat.le_of_ble_eq_true rfl) ?_
      exact qW hQ hx9 (if_neg (by rw [hx9]; decide))
    · exact absurd hx9 (by unfold cC_end; (repeat' split) <;> omega)
    · refine rx_catch (pre := [(0, 9, 12, 13)]) (suf := []) (x := (0, 9, 15, 20)) (i := 3) (ln := 1) (xs' := [some (aR 6 0), some (aI k), some (aR 60 0), none]) rfl ⟨by decide, by decide⟩ (by decide) hl_20 cs_IS (fun z hz => by rcases List.mem_singleton.mp hz with rfl; exact ⟨by decide, _, hl_13, by simp⟩) (Or.inr ⟨3, dL_end_15, rfl, rfl⟩) (by decide) rfl ?_
      show Run _ 16 _ _ _ _ _ _ _
      refine r_iconst (pc := 16) (n := 2) dL_end_16 (by decide) ?_
      refine r_iret (pc := 17) dL_end_17 (Or.inl rfl) (Nat.le_of_ble_eq_true rfl) (Nat.le_of_ble_eq_true rfl) ?_
      exact qW hQ hx9 (if_neg (by rw [hx9]; decide))

theorem W_boxIs {hi : Hi} {nb nk : Int} (hI : Inv hi nb nk) {b w : Int}  : Det I_L_boxIs [aR 6 0, aI b, aI w, aR 60 0] (hp hi nb nk) (some (aI (cC_boxIs nb b w))) (if cC_boxIs nb b w = 0 then hp (up1 hi 60 0 0 (isC hi b w)) nb nk else hp hi nb nk) := by
  refine st_d (xs := [some (aR 6 0), some (aI b), some (aI w), some (aR 60 0), none]) pn_L rfl rfl (Nat.le_of_ble_eq_true rfl) rfl rfl (fun Q X hQ => ?_)
  refine r_aload_n (pc := 0) dL_boxIs_0 rfl ?_
  refine r_iconst (pc := 1) (n := 0) dL_boxIs_1 (by decide) ?_
  refine r_aload_n (pc := 2) dL_boxIs_2 rfl ?_
  refine r_iload_n (pc := 3) dL_boxIs_3 rfl ?_
  refine r_iload_n (pc := 4) dL_boxIs_4 rfl ?_
  refine r_callV (pc := 5) (t := 6) (i := 0) (rest := [aI 0, aR 60 0]) (cs' := 2) (sl' := 12) mv_L_81 (K_X6_boxIs hI) rfl ⟨(Nat.le_of_ble_eq_true rfl), (Nat.le_of_ble_eq_true rfl)⟩ (Nat.le_of_ble_eq_true rfl) dL_boxIs_5 (show (0 : Int) ≤ 0 by decide) (show (0 : Int) < 1 by decide) ⟨rfl, (Nat.le_of_ble_eq_true rfl)⟩ ⟨rfl, (Nat.le_of_ble_eq_true rfl)⟩ rfl (fun r9 h9 hq9 => ?_) (fun E9 h9 hx9 => ?_)
  · obtain ⟨hc9, rfl, rfl⟩ := hq9
    rw [if_pos hc9] at hQ
    show Run _ 8 _ [aI (isC hi b w), aI 0, aR 60 0] (hp hi nb nk) _ _ _ _
    refine r_i2l (pc := 8) dL_boxIs_8 ?_
    refine p_last (pc := 9) (n9 := 1) (nI := 1) rfl dL_boxIs_9 rfl (by decide) (by decide) rfl (by omega) (by omega) ?_
    refine r_goto (pc := 10) (tgt := 21) dL_boxIs_10 rfl ?_
    refine r_iconst (pc := 21) (n := 0) dL_boxIs_21 (by decide) ?_
    refine r_iret (pc := 22) dL_boxIs_22 (Or.inl rfl) (Nat.le_of_ble_eq_true rfl) (Nat.le_of_ble_eq_true rfl) ?_
    exact qW hQ hc9 rfl
  · obtain ⟨rfl, hx9⟩ := hx9
    rcases hx9 with ⟨rfl, hx9⟩ | ⟨rfl, hx9⟩ | ⟨rfl, hx9⟩
    · refine rx_catch (pre := []) (suf := [(0, 10, 17, 15)]) (x := (0, 10, 13, 13)) (i := 4) (ln := 2) (xs' := [some (aR 6 0), some (aI b), some (aI w), some (aR 60 0), none]) rfl ⟨by decide, by decide⟩ (by decide) hl_13 cs_IO (fun z hz => by cases hz) (Or.inl ⟨dL_boxIs_13, rfl⟩) (by decide) rfl ?_
      show Run _ 15 _ _ _ _ _ _ _
      refine r_iconst (pc := 15) (n := 1) dL_boxIs_15 (by decide) ?_
      refine r_iret (pc := 16) dL_boxIs_16 (Or.inl rfl) (Nat.le_of_ble_eq_true rfl) (Nat.le_of_ble_eq_true rfl) ?_
      exact qW hQ hx9 (if_neg (by rw [hx9]; decide))
    · refine rx_catch (pre := [(0, 10, 13, 13)]) (suf := []) (x := (0, 10, 17, 15)) (i := 4) (ln := 2) (xs' := [some (aR 6 0), some (aI b), some (aI w), some (aR 60 0), none]) rfl ⟨by decide, by decide⟩ (by decide) hl_15 cs_IA (fun z hz => by rcases List.mem_singleton.mp hz with rfl; exact ⟨by decide, _, hl_13, by simp⟩) (Or.inl ⟨dL_boxIs_17, rfl⟩) (by decide) rfl ?_
      show Run _ 19 _ _ _ _ _ _ _
      refine r_iconst (pc := 19) (n := 2) dL_boxIs_19 (by decide) ?_
      refine r_iret (pc := 20) dL_boxIs_20 (Or.inl rfl) (Nat.le_of_ble_eq_true rfl) (Nat.le_of_ble_eq_true rfl) ?_
      exact qW hQ hx9 (if_neg (by rw [hx9]; decide))
    · exact absurd hx9 (by unfold cC_boxIs; (repeat' split) <;> omega)

theorem W_lacks {hi : Hi} {nb nk : Int} (hI : Inv hi nb nk) {k : Int}  : Det I_L_lacks [aR 6 0, aI k, aR 60 0] (hp hi nb nk) (some (aI (cC_lacks nk k))) (if cC_lacks nk k = 0 then hp (up1 hi 60 0 0 (lacC hi k)) nb nk else hp hi nb nk) := by
  refine st_d (xs := [some (aR 6 0), some (aI k), some (aR 60 0), none]) pn_L rfl rfl (Nat.le_of_ble_eq_true rfl) rfl rfl (fun Q X hQ => ?_)
  refine r_aload_n (pc := 0) dL_lacks_0 rfl ?_
  refine r_iconst (pc := 1) (n := 0) dL_lacks_1 (by decide) ?_
  refine r_aload_n (pc := 2) dL_lacks_2 rfl ?_
  refine r_iload_n (pc := 3) dL_lacks_3 rfl ?_
  refine r_callV (pc := 4) (t := 6) (i := 0) (rest := [aI 0, aR 60 0]) (cs' := 1) (sl' := 6) mv_L_84 (K_X6_lacks hI) rfl ⟨(Nat.le_of_ble_eq_true rfl), (Nat.le_of_ble_eq_true rfl)⟩ (Nat.le_of_ble_eq_true rfl) dL_lacks_4 (show (0 : Int) ≤ 0 by decide) (show (0 : Int) < 1 by decide) ⟨rfl, (Nat.le_of_ble_eq_true rfl)⟩ ⟨rfl, (Nat.le_of_ble_eq_true rfl)⟩ rfl (fun r9 h9 hq9 => ?_) (fun E9 h9 hx9 => ?_)
  · obtain ⟨hc9, rfl, rfl⟩ := hq9
    rw [if_pos hc9] at hQ
    show Run _ 7 _ [aI (lacC hi k), aI 0, aR 60 0] (hp hi nb nk) _ _ _ _
    refine r_i2l (pc := 7) dL_lacks_7 ?_
    refine p_last (pc := 8) (n9 := 1) (nI := 1) rfl dL_lacks_8 rfl (by decide) (by decide) rfl (by omega) (by omega) ?_
    refine r_goto (pc := 9) (tgt := 15) dL_lacks_9 rfl ?_
    refine r_iconst (pc := 15) (n := 0) dL_lacks_15 (by decide) ?_
    refine r_iret (pc := 16) dL_lacks_16 (Or.inl rfl) (Nat.le_of_ble_eq_true rfl) (Nat.le_of_ble_eq_true rfl) ?_
    exact qW hQ hc9 rfl
  · obtain ⟨rfl, hx9⟩ := hx9
    rcases hx9 with ⟨rfl, hx9⟩ | ⟨rfl, hx9⟩ | ⟨rfl, hx9⟩
    · refine rx_catch (pre := []) (suf := []) (x := (0, 9, 12, 13)) (i := 3) (ln := 1) (xs' := [some (aR 6 0), some (aI k), some (aR 60 0), none]) rfl ⟨by decide, by decide⟩ (by decide) hl_13 cs_IO (fun z hz => by cases hz) (Or.inr ⟨3, dL_lacks_12, rfl, rfl⟩) (by decide) rfl ?_
      show Run _ 13 _ _ _ _ _ _ _
      refine r_iconst (pc := 13) (n := 1) dL_lacks_13 (by decide) ?_
      refine r_iret (pc := 14) dL_lacks_14 (Or.inl rfl) (Nat.le_of_ble_eq_true rfl) (Nat.le_of_ble_eq_true rfl) ?_
      exact qW hQ hx9 (if_neg (by rw [hx9]; decide))
    · exact absurd hx9 (by unfold cC_lacks; (repeat' split) <;> omega)
    · exact absurd hx9 (by unfold cC_lacks; (repeat' split) <;> omega)

theorem W_pass {hi : Hi} {nb nk : Int} (hI : Inv hi nb nk) {d : Int}  : Det I_L_pass [aR 6 0, aI d, aR 60 0] (hp hi nb nk) (some (aI (cC_pass hi d))) (if cC_pass hi d = 0 then hp (up1 (up1 hi 6 0 8 (hi 6 0 8 + d)) 60 0 0 (hi 6 0 8 + d)) nb nk else hp hi nb nk) := by
  refine st_d (xs := [some (aR 6 0), some (aI d), some (aR 60 0), none]) pn_L rfl rfl (Nat.le_of_ble_eq_true rfl) rfl rfl (fun Q X hQ => ?_)
  refine r_aload_n (pc := 0) dL_pass_0 rfl ?_
  refine r_iconst (pc := 1) (n := 0) dL_pass_1 (by decide) ?_
  refine r_aload_n (pc := 2) dL_pass_2 rfl ?_
  refine r_iload_n (pc := 3) dL_pass_3 rfl ?_
  refine r_callV (pc := 4) (t := 6) (i := 0) (rest := [aI 0, aR 60 0]) (cs' := 2) (sl' := 12) mv_L_87 (K_X6_pass hI) rfl ⟨(Nat.le_of_ble_eq_true rfl), (Nat.le_of_ble_eq_true rfl)⟩ (Nat.le_of_ble_eq_true rfl) dL_pass_4 (show (0 : Int) ≤ 0 by decide) (show (0 : Int) < 1 by decide) ⟨rfl, (Nat.le_of_ble_eq_true rfl)⟩ ⟨rfl, (Nat.le_of_ble_eq_true rfl)⟩ rfl (fun r9 h9 hq9 => ?_) (fun E9 h9 hx9 => ?_)
  · obtain ⟨hc9, rfl, rfl⟩ := hq9
    rw [if_pos hc9] at hQ
    show Run _ 7 _ [aI (hi 6 0 8 + d), aI 0, aR 60 0] (hp (up1 hi 6 0 8 (hi 6 0 8 + d)) nb nk) _ _ _ _
    refine r_i2l (pc := 7) dL_pass_7 ?_
    refine p_last (pc := 8) (n9 := 1) (nI := 1) rfl dL_pass_8 rfl (by decide) (by decide) rfl (by omega) (by omega) ?_
    refine r_goto (pc := 9) (tgt := 18) dL_pass_9 rfl ?_
    refine r_iconst (pc := 18) (n := 0) dL_pass_18 (by decide) ?_
    refine r_iret (pc := 19) dL_pass_19 (Or.inl rfl) (Nat.le_of_ble_eq_true rfl) (Nat.le_of_ble_eq_true rfl) ?_
    exact qW hQ hc9 rfl
  · obtain ⟨rfl, hx9⟩ := hx9
    rcases hx9 with ⟨rfl, hx9⟩ | ⟨rfl, hx9⟩ | ⟨rfl, hx9⟩
    · exact absurd hx9 (by unfold cC_pass; (repeat' split) <;> omega)
    · refine rx_catch (pre := []) (suf := [(0, 9, 15, 20)]) (x := (0, 9, 12, 15)) (i := 3) (ln := 1) (xs' := [some (aR 6 0), some (aI d), some (aR 60 0), none]) rfl ⟨by decide, by decide⟩ (by decide) hl_15 cs_IA (fun z hz => by cases hz) (Or.inr ⟨3, dL_pass_12, rfl, rfl⟩) (by decide) rfl ?_
      show Run _ 13 _ _ _ _ _ _ _
      refine r_iconst (pc := 13) (n := 1) dL_pass_13 (by decide) ?_
      refine r_iret (pc := 14) dL_pass_14 (Or.inl rfl) (Nat.le_of_ble_eq_true rfl) (Nat.le_of_ble_eq_true rfl) ?_
      exact qW hQ hx9 (if_neg (by rw [hx9]; decide))
    · refine rx_catch (pre := [(0, 9, 12, 15)]) (suf := []) (x := (0, 9, 15, 20)) (i := 3) (ln := 1) (xs' := [some (aR 6 0), some (aI d), some (aR 60 0), none]) rfl ⟨by decide, by decide⟩ (by decide) hl_20 cs_IS (fun z hz => by rcases List.mem_singleton.mp hz with rfl; exact ⟨by decide, _, hl_15, by simp⟩) (Or.inr ⟨3, dL_pass_15, rfl, rfl⟩) (by decide) rfl ?_
      show Run _ 16 _ _ _ _ _ _ _
      refine r_iconst (pc := 16) (n := 2) dL_pass_16 (by decide) ?_
      refine r_iret (pc := 17) dL_pass_17 (Or.inl rfl) (Nat.le_of_ble_eq_true rfl) (Nat.le_of_ble_eq_true rfl) ?_
      exact qW hQ hx9 (if_neg (by rw [hx9]; decide))
