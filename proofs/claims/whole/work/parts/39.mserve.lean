/-! ===== the reference: serves, serve, end (walks printed by wip/whole/tools/g39.py) ===== -/
/-- the bookings of the boxes set anew -/
def setM (hi : Hi) (B : Int → Int) : Hi := fun kk a j => if kk = 36 ∧ a = 0 then B j else hi kk a j
theorem setM_0 {hi : Hi} : hi = setM hi (hi 36 0) := by
  funext kk a j
  unfold setM
  split
  next e => obtain ⟨rfl, rfl⟩ := e; rfl
  next => rfl
theorem setM_k {hi : Hi} {B : Int → Int} {kk : Nat} (h : kk ≠ 36) : setM hi B kk = hi kk := by
  funext a j
  unfold setM
  rw [if_neg (fun z => h z.1)]
theorem setM_36 {hi : Hi} {B : Int → Int} : setM hi B 36 0 = B := by
  funext j
  unfold setM
  rw [if_pos ⟨rfl, rfl⟩]
theorem MV.setM {hi : Hi} {nb nk : Int} {B : Int → Int} (h : MV hi nb nk) : MV (setM hi B) nb nk := by
  have e := fun (kk : Nat) (q : kk ≠ 36) => setM_k (hi := hi) (B := B) q
  unfold MV mNum mCst mQuo mStd mBox mBok at *
  rw [e 7 (by decide), e 30 (by decide), e 44 (by decide), e 45 (by decide), e 50 (by decide), e 32 (by decide), e 34 (by decide), e 40 (by decide), e 43 (by decide), e 49 (by decide), e 47 (by decide), e 48 (by decide), e 51 (by decide), e 52 (by decide), e 53 (by decide), e 54 (by decide)]
  exact h
def srvM (hi : Hi) (b : Int) : Prop := (0 ≤ plcM hi b (hi 7 0 1) ∧ plcM hi b (hi 7 0 1) < 6) ∧ hi 35 0 b = -1 ∧ hi 34 0 b = 0 ∧ hi 7 0 1 ≤ hi 33 0 b ∧ menM hi b = 0
theorem plcM_c {hi hi' : Hi} {b day : Int} (e1 : hi 37 = hi' 37) (e2 : hi 38 = hi' 38) (e3 : hi 39 = hi' 39) (e4 : hi 40 = hi' 40) : plcM hi b day = plcM hi' b day := by
  unfold plcM mD mE mP
  rw [e1, e2, e3, e4]
theorem menM_c {hi hi' : Hi} {b : Int} (e1 : hi 47 = hi' 47) (e2 : hi 48 = hi' 48) (e3 : hi 49 = hi' 49) (e4 : hi 50 = hi' 50) : menM hi b = menM hi' b := by
  unfold menM
  rw [e1, e2, e3, e4]
theorem plcM_s {hi : Hi} {B : Int → Int} {b day : Int} : plcM (setM hi B) b day = plcM hi b day := plcM_c (setM_k (by decide)) (setM_k (by decide)) (setM_k (by decide)) (setM_k (by decide))
theorem menM_s {hi : Hi} {B : Int → Int} {b : Int} : menM (setM hi B) b = menM hi b := menM_c (setM_k (by decide)) (setM_k (by decide)) (setM_k (by decide)) (setM_k (by decide))
theorem KT_canServe {hi : Hi} {nb nk : Int} (hM : MV hi nb nk) {B : Int → Int} {b x : Int} (h0 : 0 ≤ b) (h1 : b < nb) (hB : B b = x) : Det I_X7_canServe [aR 7 0, aI b] (hp (setM hi B) nb nk) (some (aI (bI (srvM hi b ∧ x = -1)))) (hp (setM hi B) nb nk) := by
  have e : bI (srvM hi b ∧ x = -1) = bI (canM (setM hi B) b) := bI_iff (by
    unfold srvM canM
    rw [setM_k (kk := 7) (by decide), setM_k (kk := 35) (by decide), setM_k (kk := 34) (by decide), setM_k (kk := 33) (by decide), plcM_s, menM_s, setM_36, hB]
    exact ⟨fun q => ⟨q.1.1, q.1.2.1, q.2, q.1.2.2.1, q.1.2.2.2.1, q.1.2.2.2.2⟩, fun q => ⟨⟨q.1, q.2.1, q.2.2.2.1, q.2.2.2.2.1, q.2.2.2.2.2⟩, q.2.2.1⟩⟩)
  rw [e]
  exact K_X7_canServe hM.setM h0 h1
theorem KT_placeOn {hi : Hi} {nb nk : Int} (hM : MV hi nb nk) {B : Int → Int} {b day : Int} (h0 : 0 ≤ b) (h1 : b < nb) : Det I_X7_placeOn [aR 7 0, aI b, aI day] (hp (setM hi B) nb nk) (some (aI (plcM hi b day))) (hp (setM hi B) nb nk) := by
  rw [← plcM_s (B := B)]
  exact K_X7_placeOn hM.setM h0 h1
theorem KT_lacking {hi : Hi} {nb nk : Int} (hM : MV hi nb nk) {B : Int → Int} {k : Int} (h0 : 0 ≤ k) (h1 : k < nk) : Det I_X7_lacking [aR 7 0, aI k] (hp (setM hi B) nb nk) (some (aI (if hi 54 0 k = 0 then hi 53 0 k - givI B nb k else 0))) (hp (setM hi B) nb nk) := by
  have e : (if hi 54 0 k = 0 then hi 53 0 k - givI B nb k else 0) = lacM (setM hi B) nb k := by
    unfold lacM
    rw [setM_k (kk := 54) (by decide), setM_k (kk := 53) (by decide), setM_36]
  rw [e]
  exact K_X7_lacking hM.setM h0 h1
noncomputable def okM (hi : Hi) (B : Int → Int) (po kd b : Int) : Int := bI (hi 31 0 b = kd ∧ srvM hi b ∧ B b = -1 ∧ plcM hi b (hi 7 0 1) = po)
noncomputable def swK (hi : Hi) (nb k L : Int) (B : Int → Int) : Nat → (Int → Int) × Int
  | 0 => (B, 0)
  | m + 1 => (gvB (okM hi (swK hi nb k L B m).1 (hi 51 0 k) (hi 52 0 k + m)) (L - (swK hi nb k L B m).2) k (swK hi nb k L B m).1 nb,
      (swK hi nb k L B m).2 + gvI (okM hi (swK hi nb k L B m).1 (hi 51 0 k) (hi 52 0 k + m)) (L - (swK hi nb k L B m).2) nb)
noncomputable def swO (hi : Hi) (nb k : Int) (B : Int → Int) : (Int → Int) × Int := swK hi nb k (if hi 54 0 k = 0 then hi 53 0 k - givI B nb k else 0) B (3 - hi 52 0 k).toNat
noncomputable def swS (hi : Hi) (nb : Int) (B : Int → Int) : Nat → (Int → Int) × Int
  | 0 => (B, 0)
  | k + 1 => ((swO hi nb k (swS hi nb B k).1).1, (swS hi nb B k).2 + (swO hi nb k (swS hi nb B k).1).2)
noncomputable def swI (hi : Hi) (nb : Int) (B : Int → Int) (n : Int) : (Int → Int) × Int := swS hi nb B n.toNat
theorem swI_s {hi : Hi} {nb : Int} {B : Int → Int} {n : Int} (h : 0 ≤ n) : swI hi nb B (n + 1) = ((swO hi nb n (swI hi nb B n).1).1, (swI hi nb B n).2 + (swO hi nb n (swI hi nb B n).1).2) := by
  unfold swI
  obtain ⟨m, rfl⟩ := Int.eq_ofNat_of_zero_le h
  have : ((m : Int) + 1).toNat = m + 1 := by omega
  rw [this]
  simp [swS]
theorem setM_s {hi : Hi} {ok B : Int → Int} {lack k n : Int} (h0 : 0 ≤ n) (h : ok n = 1 ∧ gvI ok lack n < lack) : up1 (setM hi (gvB ok lack k B n)) 36 0 n k = setM hi (gvB ok lack k B (n + 1)) := by
  funext kk a j
  simp only [setM, up1]
  by_cases q : kk = 36 ∧ a = 0 ∧ j = n
  · obtain ⟨rfl, rfl, rfl⟩ := q
    simp [gvB, h, h0]
    omega
  · rw [if_neg q]
    by_cases q2 : kk = 36 ∧ a = 0
    · rw [if_pos q2, if_pos q2]
      unfold gvB
      have : (0 ≤ j ∧ j < n ∧ ok j = 1 ∧ gvI ok lack j < lack) ↔ (0 ≤ j ∧ j < n + 1 ∧ ok j = 1 ∧ gvI ok lack j < lack) := by omega
      simp only [this]
    · rw [if_neg q2, if_neg q2]
theorem K_X7_serves {hi : Hi} {nb nk : Int} (hM : MV hi nb nk) {B : Int → Int} {k : Int} (hk0 : 0 ≤ k) (hk1 : k < nk) : Det I_X7_serves [aR 7 0, aI k] (hp (setM hi B) nb nk) (some (aI (swO hi nb k B).2)) (hp (setM hi (swO hi nb k B).1) nb nk) := by
  have hN := hM.num
  unfold mNum at hN
  have hK9 := hM.bok k hk0 hk1
  refine st_d (xs := [some (aR 7 0), some (aI k), none, none, none, none]) pn_X7 rfl rfl (Nat.le_of_ble_eq_true rfl) rfl rfl (fun Q X hQ => ?_)
  refine r_aload_n (pc := 0) dX7_serves_0 rfl ?_
  refine r_iload_n (pc := 1) dX7_serves_1 rfl ?_
  refine d1_V (pc := 2) (t := 7) (i := 0) (rest := []) (cs' := 0) (sl' := 0) mv_X7_192 (KT_lacking hM hk0 hk1) rfl ⟨(Nat.le_of_ble_eq_true rfl), (Nat.le_of_ble_eq_true rfl)⟩ (Nat.le_of_ble_eq_true rfl) dX7_serves_2 (show (0 : Int) ≤ 0 by omega) (show 0 < 1 by omega) ⟨rfl, (Nat.le_of_ble_eq_true rfl)⟩ ⟨rfl, (Nat.le_of_ble_eq_true rfl)⟩ rfl ?_
  refine r_istore_n (pc := 5) (xs' := [some (aR 7 0), some (aI k), some (aI (if hi 54 0 k = 0 then hi 53 0 k - givI B nb k else 0)), none, none, none]) dX7_serves_5 (by decide) rfl ?_
  obtain ⟨lk, hlk⟩ : ∃ z, z = (if hi 54 0 k = 0 then hi 53 0 k - givI B nb k else 0) := ⟨_, rfl⟩
  rw [← hlk]
  refine r_iconst (pc := 6) (n := 0) dX7_serves_6 (by decide) ?_
  refine r_istore_n (pc := 7) (xs' := [some (aR 7 0), some (aI k), some (aI lk), some (aI 0), none, none]) dX7_serves_7 (by decide) rfl ?_
  refine r_aload_n (pc := 8) dX7_serves_8 rfl ?_
  refine p_getQ (pc := 9) (jI := 27) (n9 := 1) (r := some (52, 0)) fl_X7_84 rfl dX7_serves_9 rfl rfl (by decide) (by decide) rfl ?_
  refine r_iload_n (pc := 12) dX7_serves_12 rfl ?_
  refine q_iald (pc := 13) (n9 := 1) (nI := 20) (v := hi 52 0 k) rfl dX7_serves_13 rfl (by decide) (by decide) rfl (by omega) (by omega) (by rw [setM_k (by decide)]) ?_
  refine r_istore (pc := 14) (xs' := [some (aR 7 0), some (aI k), some (aI lk), some (aI 0), some (aI (hi 52 0 k)), none]) dX7_serves_14 (by decide) rfl ?_
  have loop : ∀ (n9 : Nat) (kd n d : Int) (j : Nat) (B2 : Int → Int), (kd = hi 52 0 k + (j : Int) ∧ kd ≤ 3) → (0 ≤ d ∧ d ≤ 40 * (j : Int) ∧ n = d) → (swK hi nb k lk B j = (B2, d)) → 3 - kd < (n9 : Int) → Run I_X7_serves 16 [some (aR 7 0), some (aI k), some (aI lk), some (aI n), some (aI kd), none] [] (hp (setM hi B2) nb nk) 0 0 Q X := by
    intro n9
    induction n9 with
    | zero => intro kd n d j B2 f0 f1 f2 hf9; exfalso; omega
    | succ n9 ih_loop =>
      intro kd n d j B2 f0 f1 f2 hf9
      refine r_iload (pc := 16) dX7_serves_16 rfl ?_
      refine r_iconst (pc := 18) (n := 3) dX7_serves_18 (by decide) ?_
      refine r_icmp_ge (pc := 19) (tgt := 102) dX7_serves_19 rfl (fun c19 => ?_) (fun c19 => ?_)
      · refine r_iload_n (pc := 102) dX7_serves_102 rfl ?_
        refine r_iret (pc := 103) dX7_serves_103 (Or.inl rfl) (Nat.le_of_ble_eq_true rfl) (Nat.le_of_ble_eq_true rfl) ?_
        have e7 : swO hi nb k B = (B2, d) := by unfold swO; rw [← hlk, show (3 - hi 52 0 k).toNat = j by omega]; exact f2
        exact qI hQ (by rw [e7, f1.2.2]) (by rw [e7])
      · refine r_iconst (pc := 22) (n := 0) dX7_serves_22 (by decide) ?_
        refine r_istore (pc := 23) (xs' := [some (aR 7 0), some (aI k), some (aI lk), some (aI n), some (aI kd), some (aI 0)]) dX7_serves_23 (by decide) rfl ?_
        have loop2 : ∀ (n9 : Nat) (i c : Int), (0 ≤ i ∧ i ≤ nb) → (c = d + gvI (okM hi B2 (hi 51 0 k) kd) (lk - d) i) → nb - i < (n9 : Int) → Run I_X7_serves 25 [some (aR 7 0), some (aI k), some (aI lk), some (aI c), some (aI kd), some (aI i)] [] (hp (setM hi (gvB (okM hi B2 (hi 51 0 k) kd) (lk - d) k B2 i)) nb nk) 0 0 Q X := by
          intro n9
          induction n9 with
          | zero => intro i c g0 g1 hf9; exfalso; omega
          | succ n9 ih_loop2 =>
            intro i c g0 g1 hf9
            have hr9 := gvI_r (ok := (okM hi B2 (hi 51 0 k) kd)) (lack := lk - d) (n := i) g0.1
            refine r_iload (pc := 25) dX7_serves_25 rfl ?_
            refine r_aload_n (pc := 27) dX7_serves_27 rfl ?_
            refine q_getI (pc := 28) (jI := 9) (n9 := 1) (v := nb) fl_X7_115 rfl dX7_serves_28 rfl rfl (by decide) (by decide) (by rw [setM_k (by decide)]; omega) ?_
            refine r_icmp_ge (pc := 31) (tgt := 96) dX7_serves_31 rfl (fun c31 => ?_) (fun c31 => ?_)
            · have e8 : gvI (okM hi B2 (hi 51 0 k) kd) (lk - d) nb = gvI (okM hi B2 (hi 51 0 k) kd) (lk - d) i ∧ gvB (okM hi B2 (hi 51 0 k) kd) (lk - d) k B2 nb = gvB (okM hi B2 (hi 51 0 k) kd) (lk - d) k B2 i := by rw [show i = nb by omega]; exact ⟨rfl, rfl⟩
              refine r_iinc (pc := 96) (xs' := [some (aR 7 0), some (aI k), some (aI lk), some (aI c), some (aI (kd + 1)), some (aI i)]) dX7_serves_96 rfl (by decide) (by omega) rfl ?_
              refine r_goto (pc := 99) (tgt := 16) dX7_serves_99 rfl ?_
              refine r_drop (xs' := [some (aR 7 0), some (aI k), some (aI lk), some (aI c), some (aI (kd + 1)), none]) 5 rfl ?_
              refine r_hp (hi' := (setM hi (gvB (okM hi B2 (hi 51 0 k) kd) (lk - d) k B2 i))) (by rfl) ?_
              exact ih_loop (kd + 1) c c (j + 1) (gvB (okM hi B2 (hi 51 0 k) kd) (lk - d) k B2 i) (by omega) (by omega) (by simp only [swK]; rw [f2]; simp only []; rw [← f0.1, e8.1, e8.2, ← g1]) (by omega)
            · refine r_iload_n (pc := 34) dX7_serves_34 rfl ?_
              refine r_iload_n (pc := 35) dX7_serves_35 rfl ?_
              refine r_icmp_ge (pc := 36) (tgt := 96) dX7_serves_36 rfl (fun c36 => ?_) (fun c36 => ?_)
              · have e8 : gvI (okM hi B2 (hi 51 0 k) kd) (lk - d) nb = gvI (okM hi B2 (hi 51 0 k) kd) (lk - d) i ∧ gvB (okM hi B2 (hi 51 0 k) kd) (lk - d) k B2 nb = gvB (okM hi B2 (hi 51 0 k) kd) (lk - d) k B2 i := ⟨gvI_full (by omega) (by omega) (by omega), gvB_full (by omega) (by omega) (by omega)⟩
                refine r_iinc (pc := 96) (xs' := [some (aR 7 0), some (aI k), some (aI lk), some (aI c), some (aI (kd + 1)), some (aI i)]) dX7_serves_96 rfl (by decide) (by omega) rfl ?_
                refine r_goto (pc := 99) (tgt := 16) dX7_serves_99 rfl ?_
                refine r_drop (xs' := [some (aR 7 0), some (aI k), some (aI lk), some (aI c), some (aI (kd + 1)), none]) 5 rfl ?_
                refine r_hp (hi' := (setM hi (gvB (okM hi B2 (hi 51 0 k) kd) (lk - d) k B2 i))) (by rfl) ?_
                exact ih_loop (kd + 1) c c (j + 1) (gvB (okM hi B2 (hi 51 0 k) kd) (lk - d) k B2 i) (by omega) (by omega) (by simp only [swK]; rw [f2]; simp only []; rw [← f0.1, e8.1, e8.2, ← g1]) (by omega)
              · refine r_aload_n (pc := 39) dX7_serves_39 rfl ?_
                refine p_getQ (pc := 40) (jI := 3) (n9 := 1) (r := some (31, 0)) fl_X7_13 rfl dX7_serves_40 rfl rfl (by decide) (by decide) rfl ?_
                refine r_iload (pc := 43) dX7_serves_43 rfl ?_
                refine q_iald (pc := 45) (n9 := 1) (nI := 40) (v := hi 31 0 i) rfl dX7_serves_45 rfl (by decide) (by decide) rfl (by omega) (by omega) (by rw [setM_k (by decide)]) ?_
                refine r_iload (pc := 46) dX7_serves_46 rfl ?_
                refine r_icmp_ne (pc := 48) (tgt := 90) dX7_serves_48 rfl (fun c48 => ?_) (fun c48 => ?_)
                · have e9 : ¬ ((okM hi B2 (hi 51 0 k) kd) i = 1 ∧ gvI (okM hi B2 (hi 51 0 k) kd) (lk - d) i < lk - d) := fun z => by have q := bI_ne.mp (show okM hi B2 (hi 51 0 k) kd i ≠ 0 by rw [z.1]; decide); exact c48 q.1
                  refine r_iinc (pc := 90) (xs' := [some (aR 7 0), some (aI k), some (aI lk), some (aI c), some (aI kd), some (aI (i + 1))]) dX7_serves_90 rfl (by decide) (by omega) rfl ?_
                  refine r_goto (pc := 93) (tgt := 25) dX7_serves_93 rfl ?_
                  refine r_hp (hi' := (setM hi (gvB (okM hi B2 (hi 51 0 k) kd) (lk - d) k B2 (i + 1)))) (by rw [gvB_s0 e9]) ?_
                  exact ih_loop2 (i + 1) c (by omega) (by rw [gvI_s (by omega), if_neg e9]; omega) (by omega)
                · refine r_aload_n (pc := 51) dX7_serves_51 rfl ?_
                  refine r_iload (pc := 52) dX7_serves_52 rfl ?_
                  refine d1_V (pc := 54) (t := 7) (i := 0) (rest := []) (cs' := 0) (sl' := 0) mv_X7_195 (KT_canServe hM (x := B2 i) (by omega) (by omega) (gvB_at (by omega))) rfl ⟨(Nat.le_of_ble_eq_true rfl), (Nat.le_of_ble_eq_true rfl)⟩ (Nat.le_of_ble_eq_true rfl) dX7_serves_54 (show (0 : Int) ≤ 0 by omega) (show 0 < 1 by omega) ⟨rfl, (Nat.le_of_ble_eq_true rfl)⟩ ⟨rfl, (Nat.le_of_ble_eq_true rfl)⟩ rfl ?_
                  refine q_ifeqB (pc := 57) (tgt := 90) dX7_serves_57 rfl (fun c57 => ?_) (fun c57 => ?_)
                  · have e9 : ¬ ((okM hi B2 (hi 51 0 k) kd) i = 1 ∧ gvI (okM hi B2 (hi 51 0 k) kd) (lk - d) i < lk - d) := fun z => by have q := bI_ne.mp (show okM hi B2 (hi 51 0 k) kd i ≠ 0 by rw [z.1]; decide); exact c57 ⟨q.2.1, q.2.2.1⟩
                    refine r_iinc (pc := 90) (xs' := [some (aR 7 0), some (aI k), some (aI lk), some (aI c), some (aI kd), some (aI (i + 1))]) dX7_serves_90 rfl (by decide) (by omega) rfl ?_
                    refine r_goto (pc := 93) (tgt := 25) dX7_serves_93 rfl ?_
                    refine r_hp (hi' := (setM hi (gvB (okM hi B2 (hi 51 0 k) kd) (lk - d) k B2 (i + 1)))) (by rw [gvB_s0 e9]) ?_
                    exact ih_loop2 (i + 1) c (by omega) (by rw [gvI_s (by omega), if_neg e9]; omega) (by omega)
                  · refine r_aload_n (pc := 60) dX7_serves_60 rfl ?_
                    refine r_iload (pc := 61) dX7_serves_61 rfl ?_
                    refine r_aload_n (pc := 63) dX7_serves_63 rfl ?_
                    refine q_getI (pc := 64) (jI := 1) (n9 := 1) (v := hi 7 0 1) fl_X7_152 rfl dX7_serves_64 rfl rfl (by decide) (by decide) (by rw [setM_k (by decide)]) ?_
                    refine d1_V (pc := 67) (t := 7) (i := 0) (rest := []) (cs' := 0) (sl' := 0) mv_X7_158 (KT_placeOn hM (by omega) (by omega)) rfl ⟨(Nat.le_of_ble_eq_true rfl), (Nat.le_of_ble_eq_true rfl)⟩ (Nat.le_of_ble_eq_true rfl) dX7_serves_67 (show (0 : Int) ≤ 0 by omega) (show 0 < 1 by omega) ⟨rfl, (Nat.le_of_ble_eq_true rfl)⟩ ⟨rfl, (Nat.le_of_ble_eq_true rfl)⟩ rfl ?_
                    refine r_aload_n (pc := 70) dX7_serves_70 rfl ?_
                    refine p_getQ (pc := 71) (jI := 26) (n9 := 1) (r := some (51, 0)) fl_X7_81 rfl dX7_serves_71 rfl rfl (by decide) (by decide) rfl ?_
                    refine r_iload_n (pc := 74) dX7_serves_74 rfl ?_
                    refine q_iald (pc := 75) (n9 := 1) (nI := 20) (v := hi 51 0 k) rfl dX7_serves_75 rfl (by decide) (by decide) rfl (by omega) (by omega) (by rw [setM_k (by decide)]) ?_
                    refine r_icmp_ne (pc := 76) (tgt := 90) dX7_serves_76 rfl (fun c76 => ?_) (fun c76 => ?_)
                    · have e9 : ¬ ((okM hi B2 (hi 51 0 k) kd) i = 1 ∧ gvI (okM hi B2 (hi 51 0 k) kd) (lk - d) i < lk - d) := fun z => by have q := bI_ne.mp (show okM hi B2 (hi 51 0 k) kd i ≠ 0 by rw [z.1]; decide); exact c76 q.2.2.2
                      refine r_iinc (pc := 90) (xs' := [some (aR 7 0), some (aI k), some (aI lk), some (aI c), some (aI kd), some (aI (i + 1))]) dX7_serves_90 rfl (by decide) (by omega) rfl ?_
                      refine r_goto (pc := 93) (tgt := 25) dX7_serves_93 rfl ?_
                      refine r_hp (hi' := (setM hi (gvB (okM hi B2 (hi 51 0 k) kd) (lk - d) k B2 (i + 1)))) (by rw [gvB_s0 e9]) ?_
                      exact ih_loop2 (i + 1) c (by omega) (by rw [gvI_s (by omega), if_neg e9]; omega) (by omega)
                    · refine r_aload_n (pc := 79) dX7_serves_79 rfl ?_
                      refine p_getQ (pc := 80) (jI := 8) (n9 := 1) (r := some (36, 0)) fl_X7_29 rfl dX7_serves_80 rfl rfl (by decide) (by decide) rfl ?_
                      refine r_iload (pc := 83) dX7_serves_83 rfl ?_
                      refine r_iload_n (pc := 85) dX7_serves_85 rfl ?_
                      refine p_iast (pc := 86) (n9 := 1) (nI := 40) rfl dX7_serves_86 rfl (by decide) (by decide) rfl (by omega) (by omega) ?_
                      refine r_iinc (pc := 87) (xs' := [some (aR 7 0), some (aI k), some (aI lk), some (aI (c + 1)), some (aI kd), some (aI i)]) dX7_serves_87 rfl (by decide) (by omega) rfl ?_
                      have e9 : (okM hi B2 (hi 51 0 k) kd) i = 1 ∧ gvI (okM hi B2 (hi 51 0 k) kd) (lk - d) i < lk - d := ⟨bI_t ⟨c48, c57.1, c57.2, c76⟩, by omega⟩
                      refine r_iinc (pc := 90) (xs' := [some (aR 7 0), some (aI k), some (aI lk), some (aI (c + 1)), some (aI kd), some (aI (i + 1))]) dX7_serves_90 rfl (by decide) (by omega) rfl ?_
                      refine r_goto (pc := 93) (tgt := 25) dX7_serves_93 rfl ?_
                      refine r_hp (hi' := (setM hi (gvB (okM hi B2 (hi 51 0 k) kd) (lk - d) k B2 (i + 1)))) (by exact setM_s (by omega) e9) ?_
                      exact ih_loop2 (i + 1) (c + 1) (by omega) (by rw [gvI_s (by omega), if_pos e9]; omega) (by omega)
        refine r_hp (hi' := (setM hi (gvB (okM hi B2 (hi 51 0 k) kd) (lk - d) k B2 0))) (by rw [gvB_0]) ?_
        exact loop2 41 0 n (by omega) (by rw [gvI_0]; omega) (by omega)
  refine r_hp (hi' := (setM hi B)) (by rfl) ?_
  exact loop 4 (hi 52 0 k) 0 0 0 B (by omega) (by omega) rfl (by omega)

theorem swO_r {hi : Hi} {nb nk : Int} {B : Int → Int} (hM : MV hi nb nk) {k : Int} (h0 : 0 ≤ k) (h1 : k < nk) : 0 ≤ (swO hi nb k B).2 ∧ (swO hi nb k B).2 ≤ 120 := by
  have hN := hM.num
  unfold mNum at hN
  have key : ∀ (L : Int) (m : Nat), 0 ≤ (swK hi nb k L B m).2 ∧ (swK hi nb k L B m).2 ≤ 40 * m := by
    intro L m
    induction m with
    | zero => simp [swK]
    | succ m ih =>
      have := gvI_r (ok := okM hi (swK hi nb k L B m).1 (hi 51 0 k) (hi 52 0 k + m)) (lack := L - (swK hi nb k L B m).2) (n := nb) (by omega)
      simp only [swK]
      omega
  have h2 := hM.bok k h0 h1
  have := key (if hi 54 0 k = 0 then hi 53 0 k - givI B nb k else 0) (3 - hi 52 0 k).toNat
  unfold swO
  omega
theorem K_X7_serve {hi : Hi} {nb nk : Int} (hM : MV hi nb nk) : Det I_X7_serve [aR 7 0] (hp hi nb nk) (some (aI (swI (thr hi) nb (hi 36 0) nk).2)) (hp (setM (thr hi) (swI (thr hi) nb (hi 36 0) nk).1) nb nk) := by
  have hN := hM.num
  unfold mNum at hN
  have hT := hM.thrV
  refine st_d (xs := [some (aR 7 0), none, none]) pn_X7 rfl rfl (Nat.le_of_ble_eq_true rfl) rfl rfl (fun Q X hQ => ?_)
  refine r_aload_n (pc := 0) dX7_serve_0 rfl ?_
  refine r_iconst (pc := 1) (n := 0) dX7_serve_1 (by decide) ?_
  refine p_putI (pc := 2) (jI := 0) (n9 := 1) fl_X7_108 (Or.inl rfl) (Or.inl rfl) dX7_serve_2 rfl rfl (by decide) (by decide) ?_
  refine r_hp (hi' := thr hi) rfl ?_
  refine r_iconst (pc := 5) (n := 0) dX7_serve_5 (by decide) ?_
  refine r_istore_n (pc := 6) (xs' := [some (aR 7 0), some (aI 0), none]) dX7_serve_6 (by decide) rfl ?_
  refine r_iconst (pc := 7) (n := 0) dX7_serve_7 (by decide) ?_
  refine r_istore_n (pc := 8) (xs' := [some (aR 7 0), some (aI 0), some (aI 0)]) dX7_serve_8 (by decide) rfl ?_
  have loop : ∀ (n9 : Nat) (i c : Int) (B : Int → Int), (0 ≤ i ∧ i ≤ nk) → (0 ≤ c ∧ c ≤ 120 * i) → (swI (thr hi) nb (hi 36 0) i = (B, c)) → nk - i < (n9 : Int) → Run I_X7_serve 9 [some (aR 7 0), some (aI c), some (aI i)] [] (hp (setM (thr hi) B) nb nk) 0 0 Q X := by
    intro n9
    induction n9 with
    | zero => intro i c B h0 h1 h2 hf9; exfalso; omega
    | succ n9 ih_loop =>
      intro i c B h0 h1 h2 hf9
      have hs9 := fun z => swO_r (B := B) hT (k := i) h0.1 z
      refine r_iload_n (pc := 9) dX7_serve_9 rfl ?_
      refine r_aload_n (pc := 10) dX7_serve_10 rfl ?_
      refine q_getI (pc := 11) (jI := 30) (n9 := 1) (v := nk) fl_X7_186 rfl dX7_serve_11 rfl rfl (by decide) (by decide) (by rw [setM_k (kk := 7) (by decide)]; show hi 7 0 30 = nk; omega) ?_
      refine r_icmp_ge (pc := 14) (tgt := 31) dX7_serve_14 rfl (fun c14 => ?_) (fun c14 => ?_)
      · refine r_iload_n (pc := 31) dX7_serve_31 rfl ?_
        refine r_iret (pc := 32) dX7_serve_32 (Or.inl rfl) (Nat.le_of_ble_eq_true rfl) (Nat.le_of_ble_eq_true rfl) ?_
        have e7 : swI (thr hi) nb (hi 36 0) nk = (B, c) := by rw [show nk = i by omega]; exact h2
        exact qI hQ (by rw [e7]) (by rw [e7])
      · refine r_iload_n (pc := 17) dX7_serve_17 rfl ?_
        refine r_aload_n (pc := 18) dX7_serve_18 rfl ?_
        refine r_iload_n (pc := 19) dX7_serve_19 rfl ?_
        refine d1_V (pc := 20) (t := 7) (i := 0) (rest := [aI c]) (cs' := 0) (sl' := 0) mv_X7_198 (K_X7_serves hT (B := B) (k := i) (by omega) (by omega)) rfl ⟨(Nat.le_of_ble_eq_true rfl), (Nat.le_of_ble_eq_true rfl)⟩ (Nat.le_of_ble_eq_true rfl) dX7_serve_20 (show (0 : Int) ≤ 0 by omega) (show 0 < 1 by omega) ⟨rfl, (Nat.le_of_ble_eq_true rfl)⟩ ⟨rfl, (Nat.le_of_ble_eq_true rfl)⟩ rfl ?_
        refine r_iadd (pc := 23) dX7_serve_23 (by omega) ?_
        refine r_istore_n (pc := 24) (xs' := [some (aR 7 0), some (aI (c + ((swO (thr hi) nb i B).2))), some (aI i)]) dX7_serve_24 (by decide) rfl ?_
        refine r_iinc (pc := 25) (xs' := [some (aR 7 0), some (aI (c + ((swO (thr hi) nb i B).2))), some (aI (i + 1))]) dX7_serve_25 rfl (by decide) (by omega) rfl ?_
        refine r_goto (pc := 28) (tgt := 9) dX7_serve_28 rfl ?_
        refine r_hp (hi' := (setM (thr hi) ((swO (thr hi) nb i B).1))) (by rfl) ?_
        exact ih_loop (i + 1) (c + ((swO (thr hi) nb i B).2)) ((swO (thr hi) nb i B).1) (by omega) (by omega) (by rw [swI_s h0.1, h2]) (by omega)
  refine r_hp (hi' := (setM (thr hi) (hi 36 0))) (by exact setM_0) ?_
  exact loop 21 0 0 (hi 36 0) (by omega) (by omega) rfl (by omega)

/-- a booking's boxes given back, the first n boxes gone through -/
def emH (hi : Hi) (k n : Int) : Hi := fun kk a j => if kk = 36 ∧ a = 0 ∧ 0 ≤ j ∧ j < n ∧ hi 36 0 j = k then -1 else if kk = 34 ∧ a = 0 ∧ 0 ≤ j ∧ j < n ∧ hi 36 0 j = k then 1 else hi kk a j
theorem emH_0 {hi : Hi} {k : Int} : hi = emH hi k 0 := by
  funext kk a j
  unfold emH
  rw [if_neg (by omega), if_neg (by omega)]
theorem emH_r {hi : Hi} {k n a j : Int} {kk : Nat} (h : (kk ≠ 36 ∧ kk ≠ 34) ∨ n ≤ j) : emH hi k n kk a j = hi kk a j := by
  unfold emH
  rw [if_neg (by omega), if_neg (by omega)]
theorem emH_s {hi : Hi} {k n : Int} (h0 : 0 ≤ n) (h : hi 36 0 n = k) : up1 (up1 (emH hi k n) 36 0 n (-1)) 34 0 n 1 = emH hi k (n + 1) := by
  funext kk a j
  simp only [emH, up1]
  by_cases q1 : kk = 34 ∧ a = 0 ∧ j = n
  · obtain ⟨rfl, rfl, rfl⟩ := q1
    simp [h, h0]
    omega
  · rw [if_neg q1]
    by_cases q2 : kk = 36 ∧ a = 0 ∧ j = n
    · obtain ⟨rfl, rfl, rfl⟩ := q2
      simp [h, h0]
      omega
    · rw [if_neg q2]
      have e1 : (kk = 36 ∧ a = 0 ∧ 0 ≤ j ∧ j < n ∧ hi 36 0 j = k) ↔ (kk = 36 ∧ a = 0 ∧ 0 ≤ j ∧ j < n + 1 ∧ hi 36 0 j = k) := by omega
      have e2 : (kk = 34 ∧ a = 0 ∧ 0 ≤ j ∧ j < n ∧ hi 36 0 j = k) ↔ (kk = 34 ∧ a = 0 ∧ 0 ≤ j ∧ j < n + 1 ∧ hi 36 0 j = k) := by omega
      simp only [e1, e2]
theorem emH_s0 {hi : Hi} {k n : Int} (h : hi 36 0 n ≠ k) : emH hi k n = emH hi k (n + 1) := by
  funext kk a j
  simp only [emH]
  by_cases q : j = n
  · subst q
    rw [if_neg (c := kk = 36 ∧ a = 0 ∧ 0 ≤ j ∧ j < j ∧ hi 36 0 j = k) (by omega), if_neg (c := kk = 34 ∧ a = 0 ∧ 0 ≤ j ∧ j < j ∧ hi 36 0 j = k) (by omega), if_neg (c := kk = 36 ∧ a = 0 ∧ 0 ≤ j ∧ j < j + 1 ∧ hi 36 0 j = k) (by omega), if_neg (c := kk = 34 ∧ a = 0 ∧ 0 ≤ j ∧ j < j + 1 ∧ hi 36 0 j = k) (by omega)]
  · have e1 : (kk = 36 ∧ a = 0 ∧ 0 ≤ j ∧ j < n ∧ hi 36 0 j = k) ↔ (kk = 36 ∧ a = 0 ∧ 0 ≤ j ∧ j < n + 1 ∧ hi 36 0 j = k) := by omega
    have e2 : (kk = 34 ∧ a = 0 ∧ 0 ≤ j ∧ j < n ∧ hi 36 0 j = k) ↔ (kk = 34 ∧ a = 0 ∧ 0 ≤ j ∧ j < n + 1 ∧ hi 36 0 j = k) := by omega
    simp only [e1, e2]
def cM_end (hi : Hi) (nk k : Int) : Int := if ¬ (0 ≤ k ∧ k < nk) then 1 else if hi 54 0 k ≠ 0 then 2 else 0
theorem K_X7_end {hi : Hi} {nb nk : Int} (hM : MV hi nb nk) {k : Int}  : MOp I_X7_end [aR 7 0, aI k] hi nb nk (cM_end hi nk k) (some (aI 0)) (some (aI (givI ((thr hi) 36 0) nb k))) (hp (up1 (emH (thr hi) k nb) 54 0 k 1) nb nk) := by
  have hN := hM.num
  unfold mNum at hN
  have hT := hM.thrV
  refine st_m (xs := [some (aR 7 0), some (aI k), none, none, none]) pn_X7 rfl rfl (Nat.le_of_ble_eq_true rfl) rfl rfl (fun Q X hQ hF => ?_)
  refine r_aload_n (pc := 0) dX7_end_0 rfl ?_
  refine r_iload_n (pc := 1) dX7_end_1 rfl ?_
  refine d1_V (pc := 2) (t := 7) (i := 0) (rest := []) (cs' := 0) (sl' := 0) mv_X7_201 (K_X7_isBooking hM (b := k)) rfl ⟨(Nat.le_of_ble_eq_true rfl), (Nat.le_of_ble_eq_true rfl)⟩ (Nat.le_of_ble_eq_true rfl) dX7_end_2 (show (0 : Int) ≤ 0 by omega) (show 0 < 1 by omega) ⟨rfl, (Nat.le_of_ble_eq_true rfl)⟩ ⟨rfl, (Nat.le_of_ble_eq_true rfl)⟩ rfl ?_
  refine r_istore_n (pc := 5) (xs' := [some (aR 7 0), some (aI k), some (aI (bI (0 ≤ k ∧ k < nk))), none, none]) dX7_end_5 (by decide) rfl ?_
  refine r_aload_n (pc := 6) dX7_end_6 rfl ?_
  refine r_iload_n (pc := 7) dX7_end_7 rfl ?_
  refine q_ifneB (pc := 8) (tgt := 15) dX7_end_8 rfl (fun c8 => ?_) (fun c8 => ?_)
  · refine r_aload_n (pc := 15) dX7_end_15 rfl ?_
    refine p_getQ (pc := 16) (jI := 29) (n9 := 1) (r := some (54, 0)) fl_X7_90 rfl dX7_end_16 rfl rfl (by decide) (by decide) rfl ?_
    refine r_iload_n (pc := 19) dX7_end_19 rfl ?_
    refine q_zald (pc := 20) (n9 := 1) (nI := 20) (v := hi 54 0 k) rfl dX7_end_20 rfl (by decide) (by decide) rfl (by omega) (by omega) rfl ?_
    refine r_if_eq (pc := 21) (tgt := 28) dX7_end_21 rfl (fun c21 => ?_) (fun c21 => ?_)
    · refine r_iconst (pc := 28) (n := 0) dX7_end_28 (by decide) ?_
      refine d1_V (pc := 29) (t := 7) (i := 0) (rest := []) (cs' := 0) (sl' := 0) mv_X7_125 (K_X7_holds (hi := hi) (e := 0) (v := 1) (by decide)) rfl ⟨(Nat.le_of_ble_eq_true rfl), (Nat.le_of_ble_eq_true rfl)⟩ (Nat.le_of_ble_eq_true rfl) dX7_end_29 (show (0 : Int) ≤ 0 by omega) (show 0 < 1 by omega) ⟨rfl, (Nat.le_of_ble_eq_true rfl)⟩ ⟨rfl, (Nat.le_of_ble_eq_true rfl)⟩ rfl ?_
      refine r_hp (hi' := thr hi) rfl ?_
      refine r_if_ne (pc := 32) (tgt := 37) dX7_end_32 rfl (fun _ => ?_) (fun z => absurd z (by decide))
      refine r_aload_n (pc := 37) dX7_end_37 rfl ?_
      refine r_iload_n (pc := 38) dX7_end_38 rfl ?_
      refine d1_V (pc := 39) (t := 7) (i := 0) (rest := []) (cs' := 0) (sl' := 0) mv_X7_189 (K_X7_given hT (k := k)) rfl ⟨(Nat.le_of_ble_eq_true rfl), (Nat.le_of_ble_eq_true rfl)⟩ (Nat.le_of_ble_eq_true rfl) dX7_end_39 (show (0 : Int) ≤ 0 by omega) (show 0 < 1 by omega) ⟨rfl, (Nat.le_of_ble_eq_true rfl)⟩ ⟨rfl, (Nat.le_of_ble_eq_true rfl)⟩ rfl ?_
      refine r_istore_n (pc := 42) (xs' := [some (aR 7 0), some (aI k), some (aI (bI (0 ≤ k ∧ k < nk))), some (aI (givI ((thr hi) 36 0) nb k)), none]) dX7_end_42 (by decide) rfl ?_
      refine r_iconst (pc := 43) (n := 0) dX7_end_43 (by decide) ?_
      refine r_istore (pc := 44) (xs' := [some (aR 7 0), some (aI k), some (aI (bI (0 ≤ k ∧ k < nk))), some (aI (givI ((thr hi) 36 0) nb k)), some (aI 0)]) dX7_end_44 (by decide) rfl ?_
      have loop : ∀ (n9 : Nat) (i : Int), (0 ≤ i ∧ i ≤ nb) → nb - i < (n9 : Int) → Run I_X7_end 46 [some (aR 7 0), some (aI k), some (aI (bI (0 ≤ k ∧ k < nk))), some (aI (givI ((thr hi) 36 0) nb k)), some (aI i)] [] (hp (emH (thr hi) k i) nb nk) 0 0 Q X := by
        intro n9
        induction n9 with
        | zero => intro i h0 hf9; exfalso; omega
        | succ n9 ih_loop =>
          intro i h0 hf9
          refine r_iload (pc := 46) dX7_end_46 rfl ?_
          refine r_aload_n (pc := 48) dX7_end_48 rfl ?_
          refine q_getI (pc := 49) (jI := 9) (n9 := 1) (v := nb) fl_X7_115 rfl dX7_end_49 rfl rfl (by decide) (by decide) (by rw [emH_r (by omega)]; show hi 7 0 9 = nb; omega) ?_
          refine r_icmp_ge (pc := 52) (tgt := 88) dX7_end_52 rfl (fun c52 => ?_) (fun c52 => ?_)
          · refine r_aload_n (pc := 88) dX7_end_88 rfl ?_
            refine p_getQ (pc := 89) (jI := 29) (n9 := 1) (r := some (54, 0)) fl_X7_90 rfl dX7_end_89 rfl rfl (by decide) (by decide) rfl ?_
            refine r_iload_n (pc := 92) dX7_end_92 rfl ?_
            refine r_iconst (pc := 93) (n := 1) dX7_end_93 (by decide) ?_
            refine p_zast (pc := 94) (n9 := 1) (nI := 20) rfl (by decide) dX7_end_94 rfl (by decide) (by decide) rfl (by omega) (by omega) ?_
            refine r_iload_n (pc := 95) dX7_end_95 rfl ?_
            refine r_iret (pc := 96) dX7_end_96 (Or.inl rfl) (Nat.le_of_ble_eq_true rfl) (Nat.le_of_ble_eq_true rfl) ?_
            exact qI (hQ (by unfold cM_end; (repeat' split) <;> omega)) rfl (by rw [show i = nb by omega])
          · refine r_aload_n (pc := 55) dX7_end_55 rfl ?_
            refine p_getQ (pc := 56) (jI := 8) (n9 := 1) (r := some (36, 0)) fl_X7_29 rfl dX7_end_56 rfl rfl (by decide) (by decide) rfl ?_
            refine r_iload (pc := 59) dX7_end_59 rfl ?_
            refine q_iald (pc := 61) (n9 := 1) (nI := 40) (v := (thr hi) 36 0 i) rfl dX7_end_61 rfl (by decide) (by decide) rfl (by omega) (by omega) (by exact emH_r (by omega)) ?_
            refine r_iload_n (pc := 62) dX7_end_62 rfl ?_
            refine r_icmp_ne (pc := 63) (tgt := 82) dX7_end_63 rfl (fun c63 => ?_) (fun c63 => ?_)
            · refine r_iinc (pc := 82) (xs' := [some (aR 7 0), some (aI k), some (aI (bI (0 ≤ k ∧ k < nk))), some (aI (givI ((thr hi) 36 0) nb k)), some (aI (i + 1))]) dX7_end_82 rfl (by decide) (by omega) rfl ?_
              refine r_goto (pc := 85) (tgt := 46) dX7_end_85 rfl ?_
              refine r_hp (hi' := (emH (thr hi) k (i + 1))) (by exact emH_s0 c63) ?_
              exact ih_loop (i + 1) (by omega) (by omega)
            · refine r_aload_n (pc := 66) dX7_end_66 rfl ?_
              refine p_getQ (pc := 67) (jI := 8) (n9 := 1) (r := some (36, 0)) fl_X7_29 rfl dX7_end_67 rfl rfl (by decide) (by decide) rfl ?_
              refine r_iload (pc := 70) dX7_end_70 rfl ?_
              refine r_iconst (pc := 72) (n := (-1)) dX7_end_72 (by decide) ?_
              refine p_iast (pc := 73) (n9 := 1) (nI := 40) rfl dX7_end_73 rfl (by decide) (by decide) rfl (by omega) (by omega) ?_
              refine r_aload_n (pc := 74) dX7_end_74 rfl ?_
              refine p_getQ (pc := 75) (jI := 6) (n9 := 1) (r := some (34, 0)) fl_X7_22 rfl dX7_end_75 rfl rfl (by decide) (by decide) rfl ?_
              refine r_iload (pc := 78) dX7_end_78 rfl ?_
              refine r_iconst (pc := 80) (n := 1) dX7_end_80 (by decide) ?_
              refine p_zast (pc := 81) (n9 := 1) (nI := 40) rfl (by decide) dX7_end_81 rfl (by decide) (by decide) rfl (by omega) (by omega) ?_
              refine r_iinc (pc := 82) (xs' := [some (aR 7 0), some (aI k), some (aI (bI (0 ≤ k ∧ k < nk))), some (aI (givI ((thr hi) 36 0) nb k)), some (aI (i + 1))]) dX7_end_82 rfl (by decide) (by omega) rfl ?_
              refine r_goto (pc := 85) (tgt := 46) dX7_end_85 rfl ?_
              refine r_hp (hi' := (emH (thr hi) k (i + 1))) (by exact emH_s (by omega) c63) ?_
              exact ih_loop (i + 1) (by omega) (by omega)
      refine r_hp (hi' := (emH (thr hi) k 0)) (by exact emH_0) ?_
      exact loop 41 0 (by omega) (by omega)
    · refine r_iconst (pc := 24) (n := 2) dX7_end_24 (by decide) ?_
      refine r_goto (pc := 25) (tgt := 29) dX7_end_25 rfl ?_
      refine d1_V (pc := 29) (t := 7) (i := 0) (rest := []) (cs' := 0) (sl' := 0) mv_X7_125 (K_X7_holds (hi := hi) (e := 2) (v := 0) (by decide)) rfl ⟨(Nat.le_of_ble_eq_true rfl), (Nat.le_of_ble_eq_true rfl)⟩ (Nat.le_of_ble_eq_true rfl) dX7_end_29 (show (0 : Int) ≤ 0 by omega) (show 0 < 1 by omega) ⟨rfl, (Nat.le_of_ble_eq_true rfl)⟩ ⟨rfl, (Nat.le_of_ble_eq_true rfl)⟩ rfl ?_
      refine r_if_ne (pc := 32) (tgt := 37) dX7_end_32 rfl (fun z => absurd z (by decide)) (fun _ => ?_)
      refine r_iconst (pc := 35) (n := 0) dX7_end_35 (by decide) ?_
      refine r_iret (pc := 36) dX7_end_36 (Or.inl rfl) (Nat.le_of_ble_eq_true rfl) (Nat.le_of_ble_eq_true rfl) ?_
      exact hF 2 (by decide) (by unfold cM_end; (repeat' split) <;> omega)
  · refine r_iconst (pc := 11) (n := 1) dX7_end_11 (by decide) ?_
    refine r_goto (pc := 12) (tgt := 29) dX7_end_12 rfl ?_
    refine d1_V (pc := 29) (t := 7) (i := 0) (rest := []) (cs' := 0) (sl' := 0) mv_X7_125 (K_X7_holds (hi := hi) (e := 1) (v := 0) (by decide)) rfl ⟨(Nat.le_of_ble_eq_true rfl), (Nat.le_of_ble_eq_true rfl)⟩ (Nat.le_of_ble_eq_true rfl) dX7_end_29 (show (0 : Int) ≤ 0 by omega) (show 0 < 1 by omega) ⟨rfl, (Nat.le_of_ble_eq_true rfl)⟩ ⟨rfl, (Nat.le_of_ble_eq_true rfl)⟩ rfl ?_
    refine r_if_ne (pc := 32) (tgt := 37) dX7_end_32 rfl (fun z => absurd z (by decide)) (fun _ => ?_)
    refine r_iconst (pc := 35) (n := 0) dX7_end_35 (by decide) ?_
    refine r_iret (pc := 36) dX7_end_36 (Or.inl rfl) (Nat.le_of_ble_eq_true rfl) (Nat.le_of_ble_eq_true rfl) ?_
    exact hF 1 (by decide) (by unfold cM_end; (repeat' split) <;> omega)
