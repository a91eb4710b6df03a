/-! ===== giveBoxes, serve, end (walks printed by wip/p27/tools/g32.py) ===== -/
theorem KD_mend {hi : Hi} {nb nk b : Int} (hb0 : 0 ≤ b) (hb1 : b < nb) (ht : 0 ≤ hi 2 b 2 ∧ hi 2 b 2 ≤ 12) (hs : ∀ k, 0 ≤ k → k < hi 2 b 2 → 1 ≤ hi 29 b k ∧ hi 29 b k ≤ 20) : Det I_X2_mendCost [aR 2 b, aR 12 0] (hp hi nb nk) (some (aI (menC hi b))) (hp hi nb nk) := K_X2_mendCost hb0 hb1 ht hs
theorem KD_canServe {hi : Hi} {nb nk : Int} {b : Int} (hb0 : 0 ≤ b) (hb1 : b < nb) (ht : 0 ≤ hi 2 b 2 ∧ hi 2 b 2 ≤ 12) (hs : ∀ k, 0 ≤ k → k < hi 2 b 2 → 1 ≤ hi 29 b k ∧ hi 29 b k ≤ 20) : Det I_X6_canServe [aR 6 0, aR 1 b] (hp hi nb nk) (some (aI (bI (canC hi b)))) (hp hi nb nk) := by
  refine st_d (xs := [some (aR 6 0), some (aR 1 b)]) pn_X6 rfl rfl (Nat.le_of_ble_eq_true rfl) rfl rfl (fun Q X hQ => ?_)
  refine r_aload_n (pc := 0) dX6_canServe_0 rfl ?_
  refine d1_V (pc := 1) (t := 1) (i := b) (rest := []) (cs' := 0) (sl' := 0) mv_X6_238 (K_X1_isGone (b := b) (by omega) (by omega)) rfl ⟨(Nat.le_of_ble_eq_true rfl), (Nat.le_of_ble_eq_true rfl)⟩ (Nat.le_of_ble_eq_true rfl) dX6_canServe_1 (show (0 : Int) ≤ b by omega) (show b < nb by omega) ⟨rfl, (Nat.le_of_ble_eq_true rfl)⟩ ⟨rfl, (Nat.le_of_ble_eq_true rfl)⟩ rfl ?_
  refine q_ifneB (pc := 4) (tgt := 51) dX6_canServe_4 rfl (fun c4 => ?_) (fun c4 => ?_)
  · refine r_iconst (pc := 51) (n := 0) dX6_canServe_51 (by decide) ?_
    refine r_iret (pc := 52) dX6_canServe_52 (Or.inr ⟨rfl, (by decide)⟩) (Nat.le_of_ble_eq_true rfl) (Nat.le_of_ble_eq_true rfl) ?_
    exact qI hQ (bI_f (by unfold canC; omega)).symm rfl
  · refine r_aload_n (pc := 7) dX6_canServe_7 rfl ?_
    refine q_getI (pc := 8) (jI := 7) (n9 := nb) (v := hi 1 b 7) fl_X6_160 rfl dX6_canServe_8 rfl rfl (by omega) (by omega) rfl ?_
    refine r_iconst (pc := 11) (n := (-1)) dX6_canServe_11 (by decide) ?_
    refine r_icmp_ne (pc := 12) (tgt := 51) dX6_canServe_12 rfl (fun c12 => ?_) (fun c12 => ?_)
    · refine r_iconst (pc := 51) (n := 0) dX6_canServe_51 (by decide) ?_
      refine r_iret (pc := 52) dX6_canServe_52 (Or.inr ⟨rfl, (by decide)⟩) (Nat.le_of_ble_eq_true rfl) (Nat.le_of_ble_eq_true rfl) ?_
      exact qI hQ (bI_f (by unfold canC; omega)).symm rfl
    · refine r_aload_n (pc := 15) dX6_canServe_15 rfl ?_
      refine q_getI (pc := 16) (jI := 6) (n9 := nb) (v := hi 1 b 6) fl_X6_92 rfl dX6_canServe_16 rfl rfl (by omega) (by omega) rfl ?_
      refine r_if_ne (pc := 19) (tgt := 51) dX6_canServe_19 rfl (fun c19 => ?_) (fun c19 => ?_)
      · refine r_iconst (pc := 51) (n := 0) dX6_canServe_51 (by decide) ?_
        refine r_iret (pc := 52) dX6_canServe_52 (Or.inr ⟨rfl, (by decide)⟩) (Nat.le_of_ble_eq_true rfl) (Nat.le_of_ble_eq_true rfl) ?_
        exact qI hQ (bI_f (by unfold canC; omega)).symm rfl
      · refine r_aload_n (pc := 22) dX6_canServe_22 rfl ?_
        refine q_getI (pc := 23) (jI := 5) (n9 := nb) (v := hi 1 b 5) fl_X6_96 rfl dX6_canServe_23 rfl rfl (by omega) (by omega) rfl ?_
        refine r_aload_n (pc := 26) dX6_canServe_26 rfl ?_
        refine q_getI (pc := 27) (jI := 8) (n9 := 1) (v := hi 6 0 8) fl_X6_47 rfl dX6_canServe_27 rfl rfl (by decide) (by decide) rfl ?_
        refine r_icmp_lt (pc := 30) (tgt := 51) dX6_canServe_30 rfl (fun c30 => ?_) (fun c30 => ?_)
        · refine r_iconst (pc := 51) (n := 0) dX6_canServe_51 (by decide) ?_
          refine r_iret (pc := 52) dX6_canServe_52 (Or.inr ⟨rfl, (by decide)⟩) (Nat.le_of_ble_eq_true rfl) (Nat.le_of_ble_eq_true rfl) ?_
          exact qI hQ (bI_f (by unfold canC; omega)).symm rfl
        · refine r_aload_n (pc := 33) dX6_canServe_33 rfl ?_
          refine p_getQ (pc := 34) (jI := 4) (n9 := nb) (r := some (2, b)) fl_X6_183 rfl dX6_canServe_34 rfl rfl (by omega) (by omega) rfl ?_
          refine r_aload_n (pc := 37) dX6_canServe_37 rfl ?_
          refine p_getQ (pc := 38) (jI := 2) (n9 := 1) (r := some (12, 0)) fl_X6_17 rfl dX6_canServe_38 rfl rfl (by decide) (by decide) rfl ?_
          refine d1_V (pc := 41) (t := 2) (i := b) (rest := []) (cs' := 0) (sl' := 0) mv_X6_193 (KD_mend hb0 hb1 ht hs) rfl ⟨(Nat.le_of_ble_eq_true rfl), (Nat.le_of_ble_eq_true rfl)⟩ (Nat.le_of_ble_eq_true rfl) dX6_canServe_41 (show (0 : Int) ≤ b by omega) (show b < nb by omega) ⟨rfl, (Nat.le_of_ble_eq_true rfl)⟩ ⟨rfl, (Nat.le_of_ble_eq_true rfl)⟩ rfl ?_
          refine r_if_ne (pc := 44) (tgt := 51) dX6_canServe_44 rfl (fun c44 => ?_) (fun c44 => ?_)
          · refine r_iconst (pc := 51) (n := 0) dX6_canServe_51 (by decide) ?_
            refine r_iret (pc := 52) dX6_canServe_52 (Or.inr ⟨rfl, (by decide)⟩) (Nat.le_of_ble_eq_true rfl) (Nat.le_of_ble_eq_true rfl) ?_
            exact qI hQ (bI_f (by unfold canC; omega)).symm rfl
          · refine r_iconst (pc := 47) (n := 1) dX6_canServe_47 (by decide) ?_
            refine r_goto (pc := 48) (tgt := 52) dX6_canServe_48 rfl ?_
            refine r_iret (pc := 52) dX6_canServe_52 (Or.inr ⟨rfl, (by decide)⟩) (Nat.le_of_ble_eq_true rfl) (Nat.le_of_ble_eq_true rfl) ?_
            exact qI hQ (bI_t (by unfold canC; omega)).symm rfl

theorem setB_k {hi : Hi} {B g : Int → Int} {kk : Nat} (h : 2 ≤ kk) : setB hi B g kk = hi kk := by
  funext a j
  exact setB_r (by omega)
theorem KS_canServe {hi : Hi} {nb nk : Int} (hI : Inv hi nb nk) {B g : Int → Int} {b x : Int} (h0 : 0 ≤ b) (h1 : b < nb) (hB : B b = x) : Det I_X6_canServe [aR 6 0, aR 1 b] (hp (setB hi B g) nb nk) (some (aI (bI (srvC hi b ∧ x = -1)))) (hp (setB hi B g) nb nk) := by
  have a1 := hI.dam b h0 h1
  have := KD_canServe (hi := setB hi B g) (nb := nb) (nk := nk) h0 h1 (by rw [setB_r (by omega)]; omega) (fun k a c => by rw [setB_r (by omega)] at c; rw [setB_r (by omega)]; exact (a1.2 k a c).2.2)
  have e : bI (srvC hi b ∧ x = -1) = bI (canC (setB hi B g) b) := bI_iff (by
    unfold srvC canC menC
    rw [setB_k (kk := 2) (by omega), setB_k (kk := 6) (by omega), setB_k (kk := 12) (by omega), setB_k (kk := 28) (by omega), setB_k (kk := 29) (by omega), setB_r (kk := 1) (j := 8) (by omega), setB_r (kk := 1) (j := 6) (by omega), setB_r (kk := 1) (j := 5) (by omega), show setB hi B g 1 b 7 = x from hB]
    exact ⟨fun q => ⟨q.1.1, q.2, q.1.2.1, q.1.2.2.1, q.1.2.2.2⟩, fun q => ⟨⟨q.1, q.2.2.1, q.2.2.2.1, q.2.2.2.2⟩, q.2.1⟩⟩)
  rw [e]
  exact this
theorem KS_placeOn {hi : Hi} {nb nk : Int} (hI : Inv hi nb nk) {B g : Int → Int} {b day : Int} (h0 : 0 ≤ b) (h1 : b < nb) : Det I_X4_placeOn [aR 4 b, aI day] (hp (setB hi B g) nb nk) (some (aI (plcC hi b day))) (hp (setB hi B g) nb nk) := by
  have a1 := hI.rep b h0 h1
  have := K_X4_placeOn (hi := setB hi B g) (nb := nb) (nk := nk) (day := day) h0 h1 (by rw [setB_r (by omega)]; omega) (fun k a c => by rw [setB_r (by omega)] at c; rw [setB_r (by omega), setB_k (kk := 23) (by omega), setB_k (kk := 24) (by omega)]; exact (a1.2 k a c).2.2.2.1)
  rw [setB_k (kk := 22) (by omega), setB_k (kk := 23) (by omega), setB_k (kk := 24) (by omega), setB_k (kk := 4) (by omega)] at this
  exact this
theorem KS_lacking {hi : Hi} {nb nk : Int} (hI : Inv hi nb nk) {B g : Int → Int} {k v : Int} (h0 : 0 ≤ k) (h1 : k < nk) (hg : 0 ≤ g k ∧ g k ≤ 9) (hv : (if hi 0 k 4 = 0 then hi 0 k 2 - g k else 0) = v) : Det I_X0_lacking [aR 0 k] (hp (setB hi B g) nb nk) (some (aI v)) (hp (setB hi B g) nb nk) := by
  have a1 := hI.bok k h0 h1
  subst hv
  exact K_X0_lacking (hi := setB hi B g) (nb := nb) (nk := nk) h0 h1 (by rw [setB_r (by omega)]; omega) (by show 0 ≤ g k ∧ g k ≤ 40; omega)
theorem K_X6_giveBoxes {hi : Hi} {nb nk : Int} (hI : Inv hi nb nk) {B g : Int → Int} {k kd lk : Int} (hk0 : 0 ≤ k) (hk1 : k < nk) (hg : 0 ≤ g k ∧ g k ≤ hi 0 k 2) (hl : lk = if hi 0 k 4 = 0 then hi 0 k 2 - g k else 0) : Det I_X6_giveBoxes [aR 6 0, aR 0 k, aI k, aI kd] (hp (setB hi B g) nb nk) (some (aI (gvI (okS hi B (hi 0 k 0) kd) lk nb))) (hp (setB hi (gvB (okS hi B (hi 0 k 0) kd) lk k B nb) (gad g k (gvI (okS hi B (hi 0 k 0) kd) lk nb))) nb nk) := by
  have hN := hI.num
  have hD := hI.day
  unfold vNum at hN
  unfold vDay at hD
  have hB9 := hI.bok k hk0 hk1
  have hl2 : (hi 0 k 4 = 0 ∧ lk = hi 0 k 2 - g k) ∨ (hi 0 k 4 ≠ 0 ∧ lk = 0) := by rw [hl]; split <;> omega
  refine st_d (xs := [some (aR 6 0), some (aR 0 k), some (aI k), some (aI kd), none, none, none, none, none]) pn_X6 rfl rfl (Nat.le_of_ble_eq_true rfl) rfl rfl (fun Q X hQ => ?_)
  refine r_iconst (pc := 0) (n := 0) dX6_giveBoxes_0 (by decide) ?_
  refine r_istore (pc := 1) (xs' := [some (aR 6 0), some (aR 0 k), some (aI k), some (aI kd), some (aI 0), none, none, none, none]) dX6_giveBoxes_1 (by decide) rfl ?_
  refine r_aload_n (pc := 3) dX6_giveBoxes_3 rfl ?_
  refine p_getQ (pc := 4) (jI := 3) (n9 := 1) (r := some (13, 0)) fl_X6_23 rfl dX6_giveBoxes_4 rfl rfl (by decide) (by decide) rfl ?_
  refine r_astore (pc := 7) (xs' := [some (aR 6 0), some (aR 0 k), some (aI k), some (aI kd), some (aI 0), some (aR 13 0), none, none, none]) dX6_giveBoxes_7 (by decide) rfl ?_
  refine r_aload (pc := 9) dX6_giveBoxes_9 rfl ?_
  refine p_alen (pc := 11) (kk := 13) (n9 := 1) (nI := 40) rfl ⟨(by decide), (by decide), (by decide)⟩ (by decide) dX6_giveBoxes_11 rfl (by decide) (by decide) rfl ?_
  refine r_istore (pc := 12) (xs' := [some (aR 6 0), some (aR 0 k), some (aI k), some (aI kd), some (aI 0), some (aR 13 0), some (aI 40), none, none]) dX6_giveBoxes_12 (by decide) rfl ?_
  refine r_iconst (pc := 14) (n := 0) dX6_giveBoxes_14 (by decide) ?_
  refine r_istore (pc := 15) (xs' := [some (aR 6 0), some (aR 0 k), some (aI k), some (aI kd), some (aI 0), some (aR 13 0), some (aI 40), some (aI 0), none]) dX6_giveBoxes_15 (by decide) rfl ?_
  have loop : ∀ (n9 : Nat) (i m c : Int), (0 ≤ i ∧ i ≤ 40 ∧ 0 ≤ m) → ((i ≤ nb ∧ m = i) ∨ (nb ≤ i ∧ m = nb)) → (c = gvI (okS hi B (hi 0 k 0) kd) lk m) → 40 - i < (n9 : Int) → Run I_X6_giveBoxes 17 [some (aR 6 0), some (aR 0 k), some (aI k), some (aI kd), some (aI c), some (aR 13 0), some (aI 40), some (aI i), none] [] (hp (setB hi (gvB (okS hi B (hi 0 k 0) kd) lk k B m) (gad g k (gvI (okS hi B (hi 0 k 0) kd) lk m))) nb nk) 0 0 Q X := by
    intro n9
    induction n9 with
    | zero => intro i m c h0 h1 h2 hf9; exfalso; omega
    | succ n9 ih_loop =>
      intro i m c h0 h1 h2 hf9
      have hr9 := gvI_r (ok := (okS hi B (hi 0 k 0) kd)) (lack := lk) (n := m) h0.2.2
      refine r_iload (pc := 17) dX6_giveBoxes_17 rfl ?_
      refine r_iload (pc := 19) dX6_giveBoxes_19 rfl ?_
      refine r_icmp_ge (pc := 21) (tgt := 108) dX6_giveBoxes_21 rfl (fun c21 => ?_) (fun c21 => ?_)
      · refine r_iload (pc := 108) dX6_giveBoxes_108 rfl ?_
        refine r_iret (pc := 110) dX6_giveBoxes_110 (Or.inl rfl) (Nat.le_of_ble_eq_true rfl) (Nat.le_of_ble_eq_true rfl) ?_
        exact qI hQ (by rw [h2, show m = nb by omega]) (by rw [show m = nb by omega])
      · refine r_aload (pc := 24) dX6_giveBoxes_24 rfl ?_
        refine r_iload (pc := 26) dX6_giveBoxes_26 rfl ?_
        rcases (show i < nb ∨ nb ≤ i by omega) with c28 | c28
        · refine p_aald (pc := 28) (n9 := 1) (nI := 40) (r := some (1, i)) rfl ⟨(by decide), (by decide)⟩ dX6_giveBoxes_28 rfl (by decide) (by decide) rfl (by omega) (by omega) (hr_13 (by omega) (by omega)) ?_
          refine r_astore (pc := 29) (xs' := [some (aR 6 0), some (aR 0 k), some (aI k), some (aI kd), some (aI c), some (aR 13 0), some (aI 40), some (aI i), some (aR 1 i)]) dX6_giveBoxes_29 (by decide) rfl ?_
          refine r_aload_n (pc := 31) dX6_giveBoxes_31 rfl ?_
          refine d1_V (pc := 32) (t := 0) (i := k) (rest := []) (cs' := 0) (sl' := 0) mv_X6_247 (KS_lacking hI (v := lk - gvI (okS hi B (hi 0 k 0) kd) lk m) hk0 hk1 (by unfold gad; rw [if_pos rfl]; omega) (by unfold gad; rw [if_pos rfl]; split <;> omega)) rfl ⟨(Nat.le_of_ble_eq_true rfl), (Nat.le_of_ble_eq_true rfl)⟩ (Nat.le_of_ble_eq_true rfl) dX6_giveBoxes_32 (show (0 : Int) ≤ k by omega) (show k < nk by omega) ⟨rfl, (Nat.le_of_ble_eq_true rfl)⟩ ⟨rfl, (Nat.le_of_ble_eq_true rfl)⟩ rfl ?_
          refine r_if_gt (pc := 35) (tgt := 41) dX6_giveBoxes_35 rfl (fun c35 => ?_) (fun c35 => ?_)
          · refine r_aload (pc := 41) dX6_giveBoxes_41 rfl ?_
            refine q_ifnullS (pc := 43) (tgt := 102) dX6_giveBoxes_43 rfl ?_
            refine r_aload (pc := 46) dX6_giveBoxes_46 rfl ?_
            refine q_getI (pc := 48) (jI := 0) (n9 := nb) (v := hi 1 i 0) fl_X6_125 rfl dX6_giveBoxes_48 rfl rfl (by omega) (by omega) (by exact setB_r (by decide)) ?_
            refine r_iload_n (pc := 51) dX6_giveBoxes_51 rfl ?_
            refine r_icmp_ne (pc := 52) (tgt := 102) dX6_giveBoxes_52 rfl (fun c52 => ?_) (fun c52 => ?_)
            · have e9 : ¬ ((okS hi B (hi 0 k 0) kd) m = 1 ∧ gvI (okS hi B (hi 0 k 0) kd) lk m < lk) := fun z => by have q := bI_ne.mp (show okS hi B (hi 0 k 0) kd i ≠ 0 by rw [show i = m by omega, z.1]; decide); exact c52 q.1
              refine r_iinc (pc := 102) (xs' := [some (aR 6 0), some (aR 0 k), some (aI k), some (aI kd), some (aI c), some (aR 13 0), some (aI 40), some (aI (i + 1)), some (aR 1 i)]) dX6_giveBoxes_102 rfl (by decide) (by omega) rfl ?_
              refine r_goto (pc := 105) (tgt := 17) dX6_giveBoxes_105 rfl ?_
              refine r_drop (xs' := [some (aR 6 0), some (aR 0 k), some (aI k), some (aI kd), some (aI c), some (aR 13 0), some (aI 40), some (aI (i + 1)), none]) 8 rfl ?_
              refine r_hp (hi' := (setB hi (gvB (okS hi B (hi 0 k 0) kd) lk k B (m + 1)) (gad g k (gvI (okS hi B (hi 0 k 0) kd) lk (m + 1))))) (by rw [gvB_s0 e9, gvI_s (by omega), if_neg e9, Int.add_zero]) ?_
              exact ih_loop (i + 1) (m + 1) c (by omega) (by omega) (by rw [gvI_s (by omega), if_neg e9, Int.add_zero]; exact h2) (by omega)
            · refine r_aload_n (pc := 55) dX6_giveBoxes_55 rfl ?_
              refine r_aload (pc := 56) dX6_giveBoxes_56 rfl ?_
              refine d1_V (pc := 58) (t := 6) (i := 0) (rest := []) (cs' := 0) (sl' := 0) mv_X6_270 (KS_canServe hI (x := B i) (by omega) (by omega) (gvB_at (by omega))) rfl ⟨(Nat.le_of_ble_eq_true rfl), (Nat.le_of_ble_eq_true rfl)⟩ (Nat.le_of_ble_eq_true rfl) dX6_giveBoxes_58 (show (0 : Int) ≤ 0 by omega) (show 0 < 1 by omega) ⟨rfl, (Nat.le_of_ble_eq_true rfl)⟩ ⟨rfl, (Nat.le_of_ble_eq_true rfl)⟩ rfl ?_
              refine q_ifeqB (pc := 61) (tgt := 102) dX6_giveBoxes_61 rfl (fun c61 => ?_) (fun c61 => ?_)
              · have e9 : ¬ ((okS hi B (hi 0 k 0) kd) m = 1 ∧ gvI (okS hi B (hi 0 k 0) kd) lk m < lk) := fun z => by have q := bI_ne.mp (show okS hi B (hi 0 k 0) kd i ≠ 0 by rw [show i = m by omega, z.1]; decide); exact c61 ⟨q.2.1, q.2.2.1⟩
                refine r_iinc (pc := 102) (xs' := [some (aR 6 0), some (aR 0 k), some (aI k), some (aI kd), some (aI c), some (aR 13 0), some (aI 40), some (aI (i + 1)), some (aR 1 i)]) dX6_giveBoxes_102 rfl (by decide) (by omega) rfl ?_
                refine r_goto (pc := 105) (tgt := 17) dX6_giveBoxes_105 rfl ?_
                refine r_drop (xs' := [some (aR 6 0), some (aR 0 k), some (aI k), some (aI kd), some (aI c), some (aR 13 0), some (aI 40), some (aI (i + 1)), none]) 8 rfl ?_
                refine r_hp (hi' := (setB hi (gvB (okS hi B (hi 0 k 0) kd) lk k B (m + 1)) (gad g k (gvI (okS hi B (hi 0 k 0) kd) lk (m + 1))))) (by rw [gvB_s0 e9, gvI_s (by omega), if_neg e9, Int.add_zero]) ?_
                exact ih_loop (i + 1) (m + 1) c (by omega) (by omega) (by rw [gvI_s (by omega), if_neg e9, Int.add_zero]; exact h2) (by omega)
              · refine r_aload (pc := 64) dX6_giveBoxes_64 rfl ?_
                refine p_getQ (pc := 66) (jI := 2) (n9 := nb) (r := some (4, i)) fl_X6_99 rfl dX6_giveBoxes_66 rfl rfl (by omega) (by omega) rfl ?_
                refine r_aload_n (pc := 69) dX6_giveBoxes_69 rfl ?_
                refine q_getI (pc := 70) (jI := 8) (n9 := 1) (v := hi 6 0 8) fl_X6_47 rfl dX6_giveBoxes_70 rfl rfl (by decide) (by decide) (by exact setB_r (by decide)) ?_
                refine d1_V (pc := 73) (t := 4) (i := i) (rest := []) (cs' := 0) (sl' := 0) mv_X6_121 (KS_placeOn hI (by omega) (by omega)) rfl ⟨(Nat.le_of_ble_eq_true rfl), (Nat.le_of_ble_eq_true rfl)⟩ (Nat.le_of_ble_eq_true rfl) dX6_giveBoxes_73 (show (0 : Int) ≤ i by omega) (show i < nb by omega) ⟨rfl, (Nat.le_of_ble_eq_true rfl)⟩ ⟨rfl, (Nat.le_of_ble_eq_true rfl)⟩ rfl ?_
                refine r_aload_n (pc := 76) dX6_giveBoxes_76 rfl ?_
                refine q_getI (pc := 77) (jI := 0) (n9 := nk) (v := hi 0 k 0) fl_X6_274 rfl dX6_giveBoxes_77 rfl rfl (by omega) (by omega) (by exact setB_r (by decide)) ?_
                refine r_icmp_ne (pc := 80) (tgt := 102) dX6_giveBoxes_80 rfl (fun c80 => ?_) (fun c80 => ?_)
                · have e9 : ¬ ((okS hi B (hi 0 k 0) kd) m = 1 ∧ gvI (okS hi B (hi 0 k 0) kd) lk m < lk) := fun z => by have q := bI_ne.mp (show okS hi B (hi 0 k 0) kd i ≠ 0 by rw [show i = m by omega, z.1]; decide); exact c80 q.2.2.2
                  refine r_iinc (pc := 102) (xs' := [some (aR 6 0), some (aR 0 k), some (aI k), some (aI kd), some (aI c), some (aR 13 0), some (aI 40), some (aI (i + 1)), some (aR 1 i)]) dX6_giveBoxes_102 rfl (by decide) (by omega) rfl ?_
                  refine r_goto (pc := 105) (tgt := 17) dX6_giveBoxes_105 rfl ?_
                  refine r_drop (xs' := [some (aR 6 0), some (aR 0 k), some (aI k), some (aI kd), some (aI c), some (aR 13 0), some (aI 40), some (aI (i + 1)), none]) 8 rfl ?_
                  refine r_hp (hi' := (setB hi (gvB (okS hi B (hi 0 k 0) kd) lk k B (m + 1)) (gad g k (gvI (okS hi B (hi 0 k 0) kd) lk (m + 1))))) (by rw [gvB_s0 e9, gvI_s (by omega), if_neg e9, Int.add_zero]) ?_
                  exact ih_loop (i + 1) (m + 1) c (by omega) (by omega) (by rw [gvI_s (by omega), if_neg e9, Int.add_zero]; exact h2) (by omega)
                · refine r_aload (pc := 83) dX6_giveBoxes_83 rfl ?_
                  refine r_iload_n (pc := 85) dX6_giveBoxes_85 rfl ?_
                  refine p_putI (pc := 86) (jI := 7) (n9 := nb) fl_X6_160 (Or.inl rfl) (Or.inl rfl) dX6_giveBoxes_86 rfl rfl (by omega) (by omega) ?_
                  refine r_aload_n (pc := 89) dX6_giveBoxes_89 rfl ?_
                  refine r_dup (pc := 90) dX6_giveBoxes_90 (fun _ => rfl) ?_
                  refine q_getI (pc := 91) (jI := 3) (n9 := nk) (v := g k + gvI (okS hi B (hi 0 k 0) kd) lk m) fl_X6_221 rfl dX6_giveBoxes_91 rfl rfl (by omega) (by omega) (by simp only [up1]; simp; show gad g k _ k = _; unfold gad; rw [if_pos rfl]) ?_
                  refine r_iconst (pc := 94) (n := 1) dX6_giveBoxes_94 (by decide) ?_
                  refine r_iadd (pc := 95) dX6_giveBoxes_95 (by omega) ?_
                  refine p_putI (pc := 96) (jI := 3) (n9 := nk) fl_X6_221 (Or.inl rfl) (Or.inl rfl) dX6_giveBoxes_96 rfl rfl (by omega) (by omega) ?_
                  refine r_iinc (pc := 99) (xs' := [some (aR 6 0), some (aR 0 k), some (aI k), some (aI kd), some (aI (c + 1)), some (aR 13 0), some (aI 40), some (aI i), some (aR 1 i)]) dX6_giveBoxes_99 rfl (by decide) (by omega) rfl ?_
                  have e9 : (okS hi B (hi 0 k 0) kd) m = 1 ∧ gvI (okS hi B (hi 0 k 0) kd) lk m < lk := ⟨by rw [show m = i by omega]; exact bI_t ⟨c52, c61.1, c61.2, c80⟩, by omega⟩
                  refine r_iinc (pc := 102) (xs' := [some (aR 6 0), some (aR 0 k), some (aI k), some (aI kd), some (aI (c + 1)), some (aR 13 0), some (aI 40), some (aI (i + 1)), some (aR 1 i)]) dX6_giveBoxes_102 rfl (by decide) (by omega) rfl ?_
                  refine r_goto (pc := 105) (tgt := 17) dX6_giveBoxes_105 rfl ?_
                  refine r_drop (xs' := [some (aR 6 0), some (aR 0 k), some (aI k), some (aI kd), some (aI (c + 1)), some (aR 13 0), some (aI 40), some (aI (i + 1)), none]) 8 rfl ?_
                  refine r_hp (hi' := (setB hi (gvB (okS hi B (hi 0 k 0) kd) lk k B (m + 1)) (gad g k (gvI (okS hi B (hi 0 k 0) kd) lk (m + 1))))) (by rw [show i = m by omega]; exact setB_s (by omega) e9) ?_
                  exact ih_loop (i + 1) (m + 1) (c + 1) (by omega) (by omega) (by rw [show m + 1 = m + 1 from rfl, gvI_s (by omega), if_pos e9, h2]) (by omega)
          · refine r_iload (pc := 38) dX6_giveBoxes_38 rfl ?_
            refine r_iret (pc := 40) dX6_giveBoxes_40 (Or.inl rfl) (Nat.le_of_ble_eq_true rfl) (Nat.le_of_ble_eq_true rfl) ?_
            exact qI hQ (by rw [h2]; exact (gvI_full (by omega) (by omega) (by omega)).symm) (hp_c (by rw [gvB_full (m := m) (n := nb) (by omega) (by omega) (by omega), gvI_full (m := m) (n := nb) (by omega) (by omega) (by omega)]))
        · refine p_aald (pc := 28) (n9 := 1) (nI := 40) (r := none) rfl ⟨(by decide), (by decide)⟩ dX6_giveBoxes_28 rfl (by decide) (by decide) rfl (by omega) (by omega) (hr_13n (by omega)) ?_
          refine r_astore (pc := 29) (xs' := [some (aR 6 0), some (aR 0 k), some (aI k), some (aI kd), some (aI c), some (aR 13 0), some (aI 40), some (aI i), some (aN)]) dX6_giveBoxes_29 (by decide) rfl ?_
          refine r_aload_n (pc := 31) dX6_giveBoxes_31 rfl ?_
          refine d1_V (pc := 32) (t := 0) (i := k) (rest := []) (cs' := 0) (sl' := 0) mv_X6_247 (KS_lacking hI (v := lk - gvI (okS hi B (hi 0 k 0) kd) lk m) hk0 hk1 (by unfold gad; rw [if_pos rfl]; omega) (by unfold gad; rw [if_pos rfl]; split <;> omega)) rfl ⟨(Nat.le_of_ble_eq_true rfl), (Nat.le_of_ble_eq_true rfl)⟩ (Nat.le_of_ble_eq_true rfl) dX6_giveBoxes_32 (show (0 : Int) ≤ k by omega) (show k < nk by omega) ⟨rfl, (Nat.le_of_ble_eq_true rfl)⟩ ⟨rfl, (Nat.le_of_ble_eq_true rfl)⟩ rfl ?_
          refine r_if_gt (pc := 35) (tgt := 41) dX6_giveBoxes_35 rfl (fun c35 => ?_) (fun c35 => ?_)
          · refine r_aload (pc := 41) dX6_giveBoxes_41 rfl ?_
            refine q_ifnullN (pc := 43) (tgt := 102) dX6_giveBoxes_43 rfl ?_
            refine r_iinc (pc := 102) (xs' := [some (aR 6 0), some (aR 0 k), some (aI k), some (aI kd), some (aI c), some (aR 13 0), some (aI 40), some (aI (i + 1)), some (aN)]) dX6_giveBoxes_102 rfl (by decide) (by omega) rfl ?_
            refine r_goto (pc := 105) (tgt := 17) dX6_giveBoxes_105 rfl ?_
            refine r_drop (xs' := [some (aR 6 0), some (aR 0 k), some (aI k), some (aI kd), some (aI c), some (aR 13 0), some (aI 40), some (aI (i + 1)), none]) 8 rfl ?_
            refine r_hp (hi' := (setB hi (gvB (okS hi B (hi 0 k 0) kd) lk k B m) (gad g k (gvI (okS hi B (hi 0 k 0) kd) lk m)))) (by rfl) ?_
            exact ih_loop (i + 1) m c (by omega) (by omega) h2 (by omega)
          · refine r_iload (pc := 38) dX6_giveBoxes_38 rfl ?_
            refine r_iret (pc := 40) dX6_giveBoxes_40 (Or.inl rfl) (Nat.le_of_ble_eq_true rfl) (Nat.le_of_ble_eq_true rfl) ?_
            exact qI hQ (by rw [h2]; exact (gvI_full (by omega) (by omega) (by omega)).symm) (hp_c (by rw [gvB_full (m := m) (n := nb) (by omega) (by omega) (by omega), gvI_full (m := m) (n := nb) (by omega) (by omega) (by omega)]))
  refine r_hp (hi' := (setB hi (gvB (okS hi B (hi 0 k 0) kd) lk k B 0) (gad g k (gvI (okS hi B (hi 0 k 0) kd) lk 0)))) (by rw [gvB_0, gvI_0, gad_0]) ?_
  exact loop 41 0 0 0 (by omega) (by omega) rfl (by omega)

def srvQ (hi : Hi) (nb nk : Int) (r : Option Av) (h : Hp) : Prop := ∃ g : Int → Int, r = some (aI (svI hi nb (fun b => hi 1 b 7) nk).2) ∧ h = hp (setB hi (svI hi nb (fun b => hi 1 b 7) nk).1 g) nb nk ∧ (∀ k, 0 ≤ k → k < nk → 0 ≤ g k ∧ g k ≤ hi 0 k 2 ∧ (hi 0 k 4 = 0 → g k = givI (svI hi nb (fun b => hi 1 b 7) nk).1 nb k)) ∧ ∀ b, 0 ≤ b → b < nb → -1 ≤ (svI hi nb (fun b => hi 1 b 7) nk).1 b ∧ (svI hi nb (fun b => hi 1 b 7) nk).1 b < nk
theorem K_X6_serve {hi : Hi} {nb nk : Int} (hI : Inv hi nb nk) : Con I_X6_serve [aR 6 0] (hp hi nb nk) (srvQ hi nb nk) (fun _ _ => False) := by
  have hN := hI.num
  have hD := hI.day
  unfold vNum at hN
  unfold vDay at hD
  refine st_r (xs := [some (aR 6 0), none, none, none, none]) pn_X6 rfl rfl (Nat.le_of_ble_eq_true rfl) rfl rfl (fun Q X hQ hX => ?_)
  refine r_iconst (pc := 0) (n := 0) dX6_serve_0 (by decide) ?_
  refine r_istore_n (pc := 1) (xs' := [some (aR 6 0), some (aI 0), none, none, none]) dX6_serve_1 (by decide) rfl ?_
  refine r_iconst (pc := 2) (n := 0) dX6_serve_2 (by decide) ?_
  refine r_istore_n (pc := 3) (xs' := [some (aR 6 0), some (aI 0), some (aI 0), none, none]) dX6_serve_3 (by decide) rfl ?_
  have loop : ∀ (n9 : Nat) (i m c : Int) (B g : Int → Int), (0 ≤ i ∧ i ≤ 20 ∧ 0 ≤ m) → ((i ≤ nk ∧ m = i) ∨ (nk ≤ i ∧ m = nk)) → (svI hi nb (fun b => hi 1 b 7) m = (B, c)) → (0 ≤ c ∧ c ≤ 120 * m) → (∀ k, 0 ≤ k → k < nk → 0 ≤ g k ∧ g k ≤ hi 0 k 2 ∧ (hi 0 k 4 = 0 → g k = givI B nb k)) → (∀ b, 0 ≤ b → b < nb → -1 ≤ B b ∧ B b < nk) → 20 - i < (n9 : Int) → Run I_X6_serve 4 [some (aR 6 0), some (aI c), some (aI i), none, none] [] (hp (setB hi B g) nb nk) 0 0 Q X := by
    intro n9
    induction n9 with
    | zero => intro i m c B g h0 h1 h2 h3 h4 h5 hf9; exfalso; omega
    | succ n9 ih_loop =>
      intro i m c B g h0 h1 h2 h3 h4 h5 hf9
      refine r_iload_n (pc := 4) dX6_serve_4 rfl ?_
      refine r_aload_n (pc := 5) dX6_serve_5 rfl ?_
      refine p_getQ (pc := 6) (jI := 4) (n9 := 1) (r := some (14, 0)) fl_X6_29 rfl dX6_serve_6 rfl rfl (by decide) (by decide) rfl ?_
      refine p_alen (pc := 9) (kk := 14) (n9 := 1) (nI := 20) rfl ⟨(by decide), (by decide), (by decide)⟩ (by decide) dX6_serve_9 rfl (by decide) (by decide) rfl ?_
      refine r_icmp_ge (pc := 10) (tgt := 59) dX6_serve_10 rfl (fun c10 => ?_) (fun c10 => ?_)
      · refine r_iload_n (pc := 59) dX6_serve_59 rfl ?_
        refine r_iret (pc := 60) dX6_serve_60 (Or.inl rfl) (Nat.le_of_ble_eq_true rfl) (Nat.le_of_ble_eq_true rfl) ?_
        have e9 : svI hi nb (fun b => hi 1 b 7) nk = (B, c) := by rw [show nk = m by omega]; exact h2
        refine hQ _ _ ?_
        unfold srvQ; rw [e9]
        exact ⟨g, rfl, rfl, h4, h5⟩
      · refine r_aload_n (pc := 13) dX6_serve_13 rfl ?_
        refine p_getQ (pc := 14) (jI := 4) (n9 := 1) (r := some (14, 0)) fl_X6_29 rfl dX6_serve_14 rfl rfl (by decide) (by decide) rfl ?_
        refine r_iload_n (pc := 17) dX6_serve_17 rfl ?_
        rcases (show i < nk ∨ nk ≤ i by omega) with c18 | c18
        · refine p_aald (pc := 18) (n9 := 1) (nI := 20) (r := some (0, i)) rfl ⟨(by decide), (by decide)⟩ dX6_serve_18 rfl (by decide) (by decide) rfl (by omega) (by omega) (hr_14 (by omega) (by omega)) ?_
          refine r_astore_n (pc := 19) (xs' := [some (aR 6 0), some (aI c), some (aI i), some (aR 0 i), none]) dX6_serve_19 (by decide) rfl ?_
          refine r_aload_n (pc := 20) dX6_serve_20 rfl ?_
          refine q_ifnullS (pc := 21) (tgt := 53) dX6_serve_21 rfl ?_
          refine r_aload_n (pc := 24) dX6_serve_24 rfl ?_
          refine q_getI (pc := 25) (jI := 1) (n9 := nk) (v := hi 0 i 1) fl_X6_207 rfl dX6_serve_25 rfl rfl (by omega) (by omega) (by exact setB_r (by omega)) ?_
          refine r_istore (pc := 28) (xs' := [some (aR 6 0), some (aI c), some (aI i), some (aR 0 i), some (aI (hi 0 i 1))]) dX6_serve_28 (by decide) rfl ?_
          have b9 := hI.bok i (by omega) (by omega)
          obtain ⟨L9, hL9⟩ : ∃ z, z = (if hi 0 i 4 = 0 then hi 0 i 2 - givI B nb i else 0) := ⟨_, rfl⟩
          have loop2 : ∀ (n9 : Nat) (kd c2 d : Int) (j : Nat) (B2 g2 : Int → Int), (kd = hi 0 i 1 + (j : Int) ∧ kd ≤ 3) → (0 ≤ d ∧ d ≤ 40 * (j : Int)) → (svK hi nb i L9 B j = (B2, d)) → (c + d = c2) → (∀ k, 0 ≤ k → k < nk → 0 ≤ g2 k ∧ g2 k ≤ hi 0 k 2 ∧ (hi 0 k 4 = 0 → g2 k = givI B2 nb k)) → (∀ b, 0 ≤ b → b < nb → -1 ≤ B2 b ∧ B2 b < nk) → (L9 - d = if hi 0 i 4 = 0 then hi 0 i 2 - g2 i else 0) → 3 - kd < (n9 : Int) → Run I_X6_serve 30 [some (aR 6 0), some (aI c2), some (aI i), some (aR 0 i), some (aI kd)] [] (hp (setB hi B2 g2) nb nk) 0 0 Q X := by
            intro n9
            induction n9 with
            | zero => intro kd c2 d j B2 g2 f0 f1 f2 f3 f4 f5 f6 hf9; exfalso; omega
            | succ n9 ih_loop2 =>
              intro kd c2 d j B2 g2 f0 f1 f2 f3 f4 f5 f6 hf9
              have f7 := f4 i (by omega) (by omega)
              refine r_iload (pc := 30) dX6_serve_30 rfl ?_
              refine r_iconst (pc := 32) (n := 3) dX6_serve_32 (by decide) ?_
              refine r_icmp_ge (pc := 33) (tgt := 53) dX6_serve_33 rfl (fun c33 => ?_) (fun c33 => ?_)
              · refine r_iinc (pc := 53) (xs' := [some (aR 6 0), some (aI c2), some (aI (i + 1)), some (aR 0 i), some (aI kd)]) dX6_serve_53 rfl (by decide) (by omega) rfl ?_
                refine r_goto (pc := 56) (tgt := 4) dX6_serve_56 rfl ?_
                refine r_drop (xs' := [some (aR 6 0), some (aI c2), some (aI (i + 1)), none, some (aI kd)]) 3 rfl ?_
                refine r_drop (xs' := [some (aR 6 0), some (aI c2), some (aI (i + 1)), none, none]) 4 rfl ?_
                refine r_hp (hi' := (setB hi B2 g2)) (by rfl) ?_
                exact ih_loop (i + 1) (m + 1) c2 B2 g2 (by omega) (by omega) (by rw [svI_s h0.2.2, h2, show m = i by omega]; simp only []; unfold svO; rw [show (3 - hi 0 i 1).toNat = j by omega, ← hL9, f2]; simp only []; rw [f3]) (by omega) f4 f5 (by omega)
              · refine r_iload_n (pc := 36) dX6_serve_36 rfl ?_
                refine r_aload_n (pc := 37) dX6_serve_37 rfl ?_
                refine r_aload_n (pc := 38) dX6_serve_38 rfl ?_
                refine r_iload_n (pc := 39) dX6_serve_39 rfl ?_
                refine r_iload (pc := 40) dX6_serve_40 rfl ?_
                refine d1_V (pc := 42) (t := 6) (i := 0) (rest := [aI c2]) (cs' := 0) (sl' := 0) mv_X6_208 (K_X6_giveBoxes hI (B := B2) (g := g2) (k := i) (kd := kd) (lk := L9 - d) (by omega) (by omega) ⟨f7.1, f7.2.1⟩ f6) rfl ⟨(Nat.le_of_ble_eq_true rfl), (Nat.le_of_ble_eq_true rfl)⟩ (Nat.le_of_ble_eq_true rfl) dX6_serve_42 (show (0 : Int) ≤ 0 by omega) (show 0 < 1 by omega) ⟨rfl, (Nat.le_of_ble_eq_true rfl)⟩ ⟨rfl, (Nat.le_of_ble_eq_true rfl)⟩ rfl ?_
                generalize hB3 : gvB (okS hi B2 (hi 0 i 0) kd) (L9 - d) i B2 nb = B3
                generalize hg3 : gad g2 i (gvI (okS hi B2 (hi 0 i 0) kd) (L9 - d) nb) = g3
                have r9 := gvI_r (ok := (okS hi B2 (hi 0 i 0) kd)) (lack := L9 - d) (n := nb) (by omega)
                have v9 := givI_gv (ok := (okS hi B2 (hi 0 i 0) kd)) (B := B2) (lack := L9 - d) (k := i) (nb := nb) (by omega) (fun b q => (bI_ne.mp (show okS hi B2 (hi 0 i 0) kd b ≠ 0 by rw [q]; decide)).2.2.1) (by omega)
                rw [hB3] at v9
                have lk9 : (hi 0 i 4 = 0 ∧ L9 - d = hi 0 i 2 - g2 i) ∨ (hi 0 i 4 ≠ 0 ∧ L9 - d = 0) := by rw [f6]; split <;> omega
                have e4 : ∀ k, 0 ≤ k → k < nk → 0 ≤ g3 k ∧ g3 k ≤ hi 0 k 2 ∧ (hi 0 k 4 = 0 → g3 k = givI B3 nb k) := fun k a b => by
                  have q := f4 k a b
                  rw [← hg3]
                  unfold gad
                  by_cases z : k = i
                  · rw [if_pos z, z]; exact ⟨by omega, by omega, fun y => by rw [v9.1, f7.2.2 y]⟩
                  · rw [if_neg z]; exact ⟨q.1, q.2.1, fun y => by rw [v9.2 k z (by omega)]; exact q.2.2 y⟩
                have e5 : ∀ b, 0 ≤ b → b < nb → -1 ≤ B3 b ∧ B3 b < nk := fun b a c => by
                  have q := f5 b a c
                  rw [← hB3]
                  unfold gvB
                  split <;> omega
                have e6 : L9 - (d + gvI (okS hi B2 (hi 0 i 0) kd) (L9 - d) nb) = if hi 0 i 4 = 0 then hi 0 i 2 - g3 i else 0 := by
                  have : g3 i = g2 i + gvI (okS hi B2 (hi 0 i 0) kd) (L9 - d) nb := by rw [← hg3]; unfold gad; rw [if_pos rfl]
                  rcases lk9 with q | q
                  · rw [if_pos q.1, this, q.2]; omega
                  · rw [if_neg q.1, q.2]; have := r9.2.2.2 (by omega); rw [q.2] at this; omega
                refine r_iadd (pc := 45) dX6_serve_45 (by omega) ?_
                refine r_istore_n (pc := 46) (xs' := [some (aR 6 0), some (aI (c2 + (gvI (okS hi B2 (hi 0 i 0) kd) (L9 - d) nb))), some (aI i), some (aR 0 i), some (aI kd)]) dX6_serve_46 (by decide) rfl ?_
                refine r_iinc (pc := 47) (xs' := [some (aR 6 0), some (aI (c2 + (gvI (okS hi B2 (hi 0 i 0) kd) (L9 - d) nb))), some (aI i), some (aR 0 i), some (aI (kd + 1))]) dX6_serve_47 rfl (by decide) (by omega) rfl ?_
                refine r_goto (pc := 50) (tgt := 30) dX6_serve_50 rfl ?_
                refine r_hp (hi' := (setB hi B3 g3)) (by rfl) ?_
                exact ih_loop2 (kd + 1) (c2 + (gvI (okS hi B2 (hi 0 i 0) kd) (L9 - d) nb)) (d + gvI (okS hi B2 (hi 0 i 0) kd) (L9 - d) nb) (j + 1) B3 g3 (by omega) (by omega) (by simp only [svK]; rw [f2]; simp only []; rw [← f0.1, hB3]) (by omega) e4 e5 e6 (by omega)
          refine r_hp (hi' := (setB hi B g)) (by rfl) ?_
          exact loop2 4 (hi 0 i 1) c 0 0 B g (by omega) (by omega) rfl (by omega) h4 h5 (by have := h4 i (by omega) (by omega); rw [hL9]; by_cases q : hi 0 i 4 = 0; (rw [if_pos q, if_pos q, this.2.2 q, Int.sub_zero]); (rw [if_neg q, if_neg q, Int.sub_zero])) (by omega)
        · refine p_aald (pc := 18) (n9 := 1) (nI := 20) (r := none) rfl ⟨(by decide), (by decide)⟩ dX6_serve_18 rfl (by decide) (by decide) rfl (by omega) (by omega) (hr_14n (by omega)) ?_
          refine r_astore_n (pc := 19) (xs' := [some (aR 6 0), some (aI c), some (aI i), some (aN), none]) dX6_serve_19 (by decide) rfl ?_
          refine r_aload_n (pc := 20) dX6_serve_20 rfl ?_
          refine q_ifnullN (pc := 21) (tgt := 53) dX6_serve_21 rfl ?_
          refine r_iinc (pc := 53) (xs' := [some (aR 6 0), some (aI c), some (aI (i + 1)), some (aN), none]) dX6_serve_53 rfl (by decide) (by omega) rfl ?_
          refine r_goto (pc := 56) (tgt := 4) dX6_serve_56 rfl ?_
          refine r_drop (xs' := [some (aR 6 0), some (aI c), some (aI (i + 1)), none, none]) 3 rfl ?_
          refine r_hp (hi' := (setB hi B g)) (by rfl) ?_
          exact ih_loop (i + 1) m c B g (by omega) (by omega) h2 h3 h4 h5 (by omega)
  refine r_hp (hi' := (setB hi (fun b => hi 1 b 7) (fun k => hi 0 k 3))) (by exact setB_0.symm) ?_
  exact loop 21 0 0 0 (fun b => hi 1 b 7) (fun k => hi 0 k 3) (by omega) (by omega) rfl (by omega) (fun k a b => by have := hI.bok k a b; omega) (fun b a c => by have := hI.box b a c; omega) (by omega)

/-- a booking's boxes given back, the first n boxes gone through -/
def enH (hi : Hi) (k n : Int) : Hi := fun kk a j => if kk = 1 ∧ j = 7 ∧ 0 ≤ a ∧ a < n ∧ hi 1 a 7 = k then -1 else if kk = 1 ∧ j = 6 ∧ 0 ≤ a ∧ a < n ∧ hi 1 a 7 = k then 1 else if kk = 0 ∧ a = k ∧ j = 4 then 1 else hi kk a j
theorem enH_0 {hi : Hi} {k : Int} : up1 hi 0 k 4 1 = enH hi k 0 := by
  funext kk a j
  simp only [enH, up1]
  rw [if_neg (c := kk = 1 ∧ j = 7 ∧ 0 ≤ a ∧ a < 0 ∧ hi 1 a 7 = k) (by omega), if_neg (c := kk = 1 ∧ j = 6 ∧ 0 ≤ a ∧ a < 0 ∧ hi 1 a 7 = k) (by omega)]
theorem enH_r {hi : Hi} {k n a j : Int} {kk : Nat} (h : (kk = 1 ∧ j ≠ 7 ∧ j ≠ 6) ∨ (kk = 1 ∧ n ≤ a) ∨ (kk = 0 ∧ j ≠ 4) ∨ 2 ≤ kk) : enH hi k n kk a j = hi kk a j := by
  unfold enH
  rw [if_neg (by omega), if_neg (by omega), if_neg (by omega)]
theorem enH_s {hi : Hi} {k n : Int} (h0 : 0 ≤ n) (h : hi 1 n 7 = k) : up1 (up1 (enH hi k n) 1 n 7 (-1)) 1 n 6 1 = enH hi k (n + 1) := by
  funext kk a j
  simp only [enH, up1]
  by_cases q1 : kk = 1 ∧ a = n ∧ j = 6
  · obtain ⟨rfl, rfl, rfl⟩ := q1
    simp [h, h0]
    omega
  · rw [if_neg q1]
    by_cases q2 : kk = 1 ∧ a = n ∧ j = 7
    · obtain ⟨rfl, rfl, rfl⟩ := q2
      simp [h, h0]
      omega
    · rw [if_neg q2]
      have e1 : (kk = 1 ∧ j = 7 ∧ 0 ≤ a ∧ a < n ∧ hi 1 a 7 = k) ↔ (kk = 1 ∧ j = 7 ∧ 0 ≤ a ∧ a < n + 1 ∧ hi 1 a 7 = k) := by omega
      have e2 : (kk = 1 ∧ j = 6 ∧ 0 ≤ a ∧ a < n ∧ hi 1 a 7 = k) ↔ (kk = 1 ∧ j = 6 ∧ 0 ≤ a ∧ a < n + 1 ∧ hi 1 a 7 = k) := by omega
      simp only [e1, e2]
theorem enH_s0 {hi : Hi} {k n : Int} (h : hi 1 n 7 ≠ k) : enH hi k n = enH hi k (n + 1) := by
  funext kk a j
  simp only [enH]
  by_cases q : a = n
  · subst q
    rw [if_neg (c := kk = 1 ∧ j = 7 ∧ 0 ≤ a ∧ a < a ∧ hi 1 a 7 = k) (by omega), if_neg (c := kk = 1 ∧ j = 6 ∧ 0 ≤ a ∧ a < a ∧ hi 1 a 7 = k) (by omega), if_neg (c := kk = 1 ∧ j = 7 ∧ 0 ≤ a ∧ a < a + 1 ∧ hi 1 a 7 = k) (by omega), if_neg (c := kk = 1 ∧ j = 6 ∧ 0 ≤ a ∧ a < a + 1 ∧ hi 1 a 7 = k) (by omega)]
  · have e1 : (kk = 1 ∧ j = 7 ∧ 0 ≤ a ∧ a < n ∧ hi 1 a 7 = k) ↔ (kk = 1 ∧ j = 7 ∧ 0 ≤ a ∧ a < n + 1 ∧ hi 1 a 7 = k) := by omega
    have e2 : (kk = 1 ∧ j = 6 ∧ 0 ≤ a ∧ a < n ∧ hi 1 a 7 = k) ↔ (kk = 1 ∧ j = 6 ∧ 0 ≤ a ∧ a < n + 1 ∧ hi 1 a 7 = k) := by omega
    simp only [e1, e2]
def cC_end (hi : Hi) (nk k : Int) : Int := if ¬ (0 ≤ k ∧ k < nk) then 1 else if hi 0 k 4 ≠ 0 then 2 else 0
theorem K_X6_end {hi : Hi} {nb nk : Int} (hI : Inv hi nb nk) {k : Int}  : Op I_X6_end [aR 6 0, aI k] (hp hi nb nk) (cC_end hi nk k) (some (aI (hi 0 k 3))) (hp (enH hi k nb) nb nk) 1 99 2 := by
  have hN := hI.num
  have hD := hI.day
  unfold vNum at hN
  unfold vDay at hD
  refine st_o (xs := [some (aR 6 0), some (aI k), none, none, none, none, none]) pn_X6 rfl rfl (Nat.le_of_ble_eq_true rfl) rfl rfl (fun Q X hQ hXa hXb hXc => ?_)
  refine r_aload_n (pc := 0) dX6_end_0 rfl ?_
  refine r_iload_n (pc := 1) dX6_end_1 rfl ?_
  refine n1_V (pc := 2) (t := 6) (i := 0) (rest := []) (cs' := 1) (sl' := 6) mv_X6_212 (K_X6_bookingAt (b := k) (by omega)) rfl ⟨(Nat.le_of_ble_eq_true rfl), (Nat.le_of_ble_eq_true rfl)⟩ (Nat.le_of_ble_eq_true rfl) dX6_end_2 (show (0 : Int) ≤ 0 by omega) (show 0 < 1 by omega) ⟨rfl, (Nat.le_of_ble_eq_true rfl)⟩ ⟨rfl, (Nat.le_of_ble_eq_true rfl)⟩ rfl (fun c2 => ?_) (fun c2 => ?_)
  · refine r_astore_n (pc := 5) (xs' := [some (aR 6 0), some (aI k), some (aR 0 k), none, none, none, none]) dX6_end_5 (by decide) rfl ?_
    refine r_aload_n (pc := 6) dX6_end_6 rfl ?_
    refine q_getI (pc := 7) (jI := 4) (n9 := nk) (v := hi 0 k 4) fl_X6_216 rfl dX6_end_7 rfl rfl (by omega) (by omega) rfl ?_
    refine r_if_eq (pc := 10) (tgt := 23) dX6_end_10 rfl (fun c10 => ?_) (fun c10 => ?_)
    · refine r_aload_n (pc := 23) dX6_end_23 rfl ?_
      refine r_iconst (pc := 24) (n := 1) dX6_end_24 (by decide) ?_
      refine p_putI (pc := 25) (jI := 4) (n9 := nk) fl_X6_216 (Or.inr ⟨rfl, (by decide)⟩) (Or.inl rfl) dX6_end_25 rfl rfl (by omega) (by omega) ?_
      refine r_aload_n (pc := 28) dX6_end_28 rfl ?_
      refine p_getQ (pc := 29) (jI := 3) (n9 := 1) (r := some (13, 0)) fl_X6_23 rfl dX6_end_29 rfl rfl (by decide) (by decide) rfl ?_
      refine r_astore_n (pc := 32) (xs' := [some (aR 6 0), some (aI k), some (aR 0 k), some (aR 13 0), none, none, none]) dX6_end_32 (by decide) rfl ?_
      refine r_aload_n (pc := 33) dX6_end_33 rfl ?_
      refine p_alen (pc := 34) (kk := 13) (n9 := 1) (nI := 40) rfl ⟨(by decide), (by decide), (by decide)⟩ (by decide) dX6_end_34 rfl (by decide) (by decide) rfl ?_
      refine r_istore (pc := 35) (xs' := [some (aR 6 0), some (aI k), some (aR 0 k), some (aR 13 0), some (aI 40), none, none]) dX6_end_35 (by decide) rfl ?_
      refine r_iconst (pc := 37) (n := 0) dX6_end_37 (by decide) ?_
      refine r_istore (pc := 38) (xs' := [some (aR 6 0), some (aI k), some (aR 0 k), some (aR 13 0), some (aI 40), some (aI 0), none]) dX6_end_38 (by decide) rfl ?_
      have loop : ∀ (n9 : Nat) (i m : Int), (0 ≤ i ∧ i ≤ 40 ∧ 0 ≤ m) → ((i ≤ nb ∧ m = i) ∨ (nb ≤ i ∧ m = nb)) → 40 - i < (n9 : Int) → Run I_X6_end 40 [some (aR 6 0), some (aI k), some (aR 0 k), some (aR 13 0), some (aI 40), some (aI i), none] [] (hp (enH hi k m) nb nk) 1 6 Q X := by
        intro n9
        induction n9 with
        | zero => intro i m h0 h1 hf9; exfalso; omega
        | succ n9 ih_loop =>
          intro i m h0 h1 hf9
          refine r_iload (pc := 40) dX6_end_40 rfl ?_
          refine r_iload (pc := 42) dX6_end_42 rfl ?_
          refine r_icmp_ge (pc := 44) (tgt := 85) dX6_end_44 rfl (fun c44 => ?_) (fun c44 => ?_)
          · refine r_aload_n (pc := 85) dX6_end_85 rfl ?_
            refine q_getI (pc := 86) (jI := 3) (n9 := nk) (v := hi 0 k 3) fl_X6_221 rfl dX6_end_86 rfl rfl (by omega) (by omega) (by exact enH_r (by omega)) ?_
            refine r_iret (pc := 89) dX6_end_89 (Or.inl rfl) (Nat.le_of_ble_eq_true rfl) (Nat.le_of_ble_eq_true rfl) ?_
            exact qI (hQ (by unfold cC_end; (repeat' split) <;> omega)) rfl (by rw [show m = nb by omega])
          · refine r_aload_n (pc := 47) dX6_end_47 rfl ?_
            refine r_iload (pc := 48) dX6_end_48 rfl ?_
            rcases (show i < nb ∨ nb ≤ i by omega) with c50 | c50
            · refine p_aald (pc := 50) (n9 := 1) (nI := 40) (r := some (1, i)) rfl ⟨(by decide), (by decide)⟩ dX6_end_50 rfl (by decide) (by decide) rfl (by omega) (by omega) (hr_13 (by omega) (by omega)) ?_
              refine r_astore (pc := 51) (xs' := [some (aR 6 0), some (aI k), some (aR 0 k), some (aR 13 0), some (aI 40), some (aI i), some (aR 1 i)]) dX6_end_51 (by decide) rfl ?_
              refine r_aload (pc := 53) dX6_end_53 rfl ?_
              refine q_ifnullS (pc := 55) (tgt := 79) dX6_end_55 rfl ?_
              refine r_aload (pc := 58) dX6_end_58 rfl ?_
              refine q_getI (pc := 60) (jI := 7) (n9 := nb) (v := hi 1 i 7) fl_X6_160 rfl dX6_end_60 rfl rfl (by omega) (by omega) (by exact enH_r (by omega)) ?_
              refine r_iload_n (pc := 63) dX6_end_63 rfl ?_
              refine r_icmp_ne (pc := 64) (tgt := 79) dX6_end_64 rfl (fun c64 => ?_) (fun c64 => ?_)
              · refine r_iinc (pc := 79) (xs' := [some (aR 6 0), some (aI k), some (aR 0 k), some (aR 13 0), some (aI 40), some (aI (i + 1)), some (aR 1 i)]) dX6_end_79 rfl (by decide) (by omega) rfl ?_
                refine r_goto (pc := 82) (tgt := 40) dX6_end_82 rfl ?_
                refine r_drop (xs' := [some (aR 6 0), some (aI k), some (aR 0 k), some (aR 13 0), some (aI 40), some (aI (i + 1)), none]) 6 rfl ?_
                refine r_hp (hi' := (enH hi k (m + 1))) (by exact enH_s0 (by rw [show m = i by omega]; exact c64)) ?_
                exact ih_loop (i + 1) (m + 1) (by omega) (by omega) (by omega)
              · refine r_aload (pc := 67) dX6_end_67 rfl ?_
                refine r_iconst (pc := 69) (n := (-1)) dX6_end_69 (by decide) ?_
                refine p_putI (pc := 70) (jI := 7) (n9 := nb) fl_X6_160 (Or.inl rfl) (Or.inl rfl) dX6_end_70 rfl rfl (by omega) (by omega) ?_
                refine r_aload (pc := 73) dX6_end_73 rfl ?_
                refine r_iconst (pc := 75) (n := 1) dX6_end_75 (by decide) ?_
                refine p_putI (pc := 76) (jI := 6) (n9 := nb) fl_X6_92 (Or.inr ⟨rfl, (by decide)⟩) (Or.inl rfl) dX6_end_76 rfl rfl (by omega) (by omega) ?_
                refine r_iinc (pc := 79) (xs' := [some (aR 6 0), some (aI k), some (aR 0 k), some (aR 13 0), some (aI 40), some (aI (i + 1)), some (aR 1 i)]) dX6_end_79 rfl (by decide) (by omega) rfl ?_
                refine r_goto (pc := 82) (tgt := 40) dX6_end_82 rfl ?_
                refine r_drop (xs' := [some (aR 6 0), some (aI k), some (aR 0 k), some (aR 13 0), some (aI 40), some (aI (i + 1)), none]) 6 rfl ?_
                refine r_hp (hi' := (enH hi k (m + 1))) (by rw [show i = m by omega]; exact enH_s (by omega) (by rw [show m = i by omega]; exact c64)) ?_
                exact ih_loop (i + 1) (m + 1) (by omega) (by omega) (by omega)
            · refine p_aald (pc := 50) (n9 := 1) (nI := 40) (r := none) rfl ⟨(by decide), (by decide)⟩ dX6_end_50 rfl (by decide) (by decide) rfl (by omega) (by omega) (hr_13n (by omega)) ?_
              refine r_astore (pc := 51) (xs' := [some (aR 6 0), some (aI k), some (aR 0 k), some (aR 13 0), some (aI 40), some (aI i), some (aN)]) dX6_end_51 (by decide) rfl ?_
              refine r_aload (pc := 53) dX6_end_53 rfl ?_
              refine q_ifnullN (pc := 55) (tgt := 79) dX6_end_55 rfl ?_
              refine r_iinc (pc := 79) (xs' := [some (aR 6 0), some (aI k), some (aR 0 k), some (aR 13 0), some (aI 40), some (aI (i + 1)), some (aN)]) dX6_end_79 rfl (by decide) (by omega) rfl ?_
              refine r_goto (pc := 82) (tgt := 40) dX6_end_82 rfl ?_
              refine r_drop (xs' := [some (aR 6 0), some (aI k), some (aR 0 k), some (aR 13 0), some (aI 40), some (aI (i + 1)), none]) 6 rfl ?_
              refine r_hp (hi' := (enH hi k m)) (by rfl) ?_
              exact ih_loop (i + 1) m (by omega) (by omega) (by omega)
      refine r_hp (hi' := (enH hi k 0)) (by exact enH_0) ?_
      exact loop 41 0 0 (by omega) (by omega) (by omega)
    · refine r_throw (pc := 13) (text := "the booking is over") rfl th_X6_81 (by decide) dX6_end_13 dX6_end_16 dX6_end_17 dX6_end_19 dX6_end_22 ⟨(Nat.le_of_ble_eq_true rfl), (Nat.le_of_ble_eq_true rfl), (Nat.le_of_ble_eq_true rfl), (Nat.le_of_ble_eq_true rfl)⟩ (hXc (by unfold cC_end; (repeat' split) <;> omega))
  · exact rx_out rfl (hXa (by unfold cC_end; (repeat' split) <;> omega)) (Nat.le_of_ble_eq_true rfl) (Nat.le_of_ble_eq_true rfl)
