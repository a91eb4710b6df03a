/-! ===== BoxPool: makePlan, bring, brings (walks printed by wip/p27/tools/g63.py) ===== -/
theorem K_X6_makePlan {hi : Hi} {nb nk : Int} (hI : Inv hi nb nk) {kd : Int} : Con I_X6_makePlan [aR 6 0, aI kd] (hp hi nb nk) (fun r h => r = none ∧ sI (laC hi nk kd) 6 ≤ 5 ∧ ∃ g : Hi, h = hp (mix hi g) nb nk ∧ PlnC hi nb nk kd g) (fun E h => E = "java/lang/IllegalStateException" ∧ 5 < sI (laC hi nk kd) 6 ∧ ∃ g : Hi, h = hp (mix hi g) nb nk) := by
  have hN := hI.num
  have hD := hI.day
  unfold vNum at hN
  unfold vDay at hD
  refine st_r (xs := [some (aR 6 0), some (aI kd), none, none]) pn_X6 rfl rfl (Nat.le_of_ble_eq_true rfl) rfl rfl (fun Q X hQ hX => ?_)
  refine r_aload_n (pc := 0) dX6_makePlan_0 rfl ?_
  refine p_getQ (pc := 1) (jI := 5) (n9 := 1) (r := some (5, 0)) fl_X6_36 rfl dX6_makePlan_1 rfl rfl (by decide) (by decide) rfl ?_
  refine d0_V (pc := 4) (t := 5) (i := 0) (rest := []) (cs' := 0) (sl' := 0) mv_X6_277 K_X5_clear rfl ⟨(Nat.le_of_ble_eq_true rfl), (Nat.le_of_ble_eq_true rfl)⟩ (Nat.le_of_ble_eq_true rfl) dX6_makePlan_4 (show (0 : Int) ≤ 0 by omega) (show 0 < 1 by omega) ⟨rfl, (Nat.le_of_ble_eq_true rfl)⟩ ⟨rfl, (Nat.le_of_ble_eq_true rfl)⟩ rfl ?_
  refine r_iconst (pc := 7) (n := 0) dX6_makePlan_7 (by decide) ?_
  refine r_istore_n (pc := 8) (xs' := [some (aR 6 0), some (aI kd), some (aI 0), none]) dX6_makePlan_8 (by decide) rfl ?_
  have loop : ∀ (n9 : Nat) (p : Int) (g : Hi), (0 ≤ p ∧ p ≤ 6) → (plU (laC hi nk kd) g p) → 6 - p < (n9 : Int) → Run I_X6_makePlan 9 [some (aR 6 0), some (aI kd), some (aI p), none] [] (hp (mix hi g) nb nk) 0 0 Q X := by
    intro n9
    induction n9 with
    | zero => intro p g h0 hU hf9; exfalso; omega
    | succ n9 ih_loop =>
      intro p g h0 hU hf9
      have hs9 := sI_r (f := laC hi nk kd) (n := p) (a := 0) (b := 180) (fun q _ _ => laC_r hI) h0.1
      refine r_iload_n (pc := 9) dX6_makePlan_9 rfl ?_
      refine r_bipush (pc := 10) (n := 6) dX6_makePlan_10 rfl (by decide) ?_
      refine r_icmp_ge (pc := 12) (tgt := 35) dX6_makePlan_12 rfl (fun c12 => ?_) (fun c12 => ?_)
      · refine r_aload_n (pc := 35) dX6_makePlan_35 rfl ?_
        refine p_getQ (pc := 36) (jI := 5) (n9 := 1) (r := some (5, 0)) fl_X6_36 rfl dX6_makePlan_36 rfl rfl (by decide) (by decide) rfl ?_
        refine q_getI (pc := 39) (jI := 8) (n9 := 1) (v := g 5 0 8) fl_X6_284 rfl dX6_makePlan_39 rfl rfl (by decide) (by decide) (by rfl) ?_
        refine r_iconst (pc := 42) (n := 5) dX6_makePlan_42 (by decide) ?_
        refine r_icmp_le (pc := 43) (tgt := 57) dX6_makePlan_43 rfl (fun c43 => ?_) (fun c43 => ?_)
        · refine r_iconst (pc := 57) (n := 0) dX6_makePlan_57 (by decide) ?_
          refine r_istore_n (pc := 58) (xs' := [some (aR 6 0), some (aI kd), some (aI 0), none]) dX6_makePlan_58 (by decide) rfl ?_
          have loop2 : ∀ (n9 : Nat) (i m : Int) (g2 : Hi), (0 ≤ i ∧ i ≤ 40 ∧ 0 ≤ m) → ((i ≤ nb ∧ m = i) ∨ (nb ≤ i ∧ m = nb)) → (plO (ovP hi nk kd) (fun b => plcC hi b (hi 6 0 8)) (g 5 0 7) (g 5 0 8) (g 15 0) g2 m) → 40 - i < (n9 : Int) → Run I_X6_makePlan 59 [some (aR 6 0), some (aI kd), some (aI i), none] [] (hp (mix hi g2) nb nk) 0 0 Q X := by
            intro n9
            induction n9 with
            | zero => intro i m g2 h0 h1 hO hf9; exfalso; omega
            | succ n9 ih_loop2 =>
              intro i m g2 h0 h1 hO hf9
              refine r_iload_n (pc := 59) dX6_makePlan_59 rfl ?_
              refine r_aload_n (pc := 60) dX6_makePlan_60 rfl ?_
              refine p_getQ (pc := 61) (jI := 3) (n9 := 1) (r := some (13, 0)) fl_X6_23 rfl dX6_makePlan_61 rfl rfl (by decide) (by decide) rfl ?_
              refine p_alen (pc := 64) (kk := 13) (n9 := 1) (nI := 40) rfl ⟨(by decide), (by decide), (by decide)⟩ (by decide) dX6_makePlan_64 rfl (by decide) (by decide) rfl ?_
              refine r_icmp_ge (pc := 65) (tgt := 120) dX6_makePlan_65 rfl (fun c65 => ?_) (fun c65 => ?_)
              · have hm9 : m = nb := by omega
                rw [hm9] at hO
                have hT5 : sI (laC hi nk kd) 6 ≤ 5 := by have := hU.1; rw [show p = 6 by omega] at this; omega
                have hU6 : plU (laC hi nk kd) g 6 := by rw [show (6 : Int) = p by omega]; exact hU
                have hov := ovI_r (P := ovP hi nk kd) (n := nb) (by omega)
                have hT0 : 0 ≤ sI (laC hi nk kd) 6 := by have := sI_r (f := laC hi nk kd) (n := 6) (a := 0) (b := 180) (fun q _ _ => laC_r hI) (by decide); omega
                have hD9 : DatP (laC hi nk kd) (ovP hi nk kd) (fun b => plcC hi b (hi 6 0 8)) nb (g2 15 0) (g2 16 0) (g2 17 0) := by
                  refine ⟨fun q x q0 q1 x0 x1 => ?_, hO.2.2.2.2.1⟩
                  have e := sI_s (f := laC hi nk kd) q0
                  have e2 := sI_mono (f := laC hi nk kd) (a := q + 1) (b := 6) (by omega) (by omega) (fun _ _ _ => (laC_r hI).1)
                  rw [hO.2.2.1]
                  exact hU6.2.2.2.2 q x q0 q1 x0 x1 (by omega)
                have hun := hD9.unit
                have hovr := hD9.over (by omega) (fun b hb => hb.2.2.1)
                have h58 : g2 5 0 8 = sI (laC hi nk kd) 6 := by rw [hO.2.1]; exact hU6.1
                have h59 : g2 5 0 9 = ovI (ovP hi nk kd) nb := hO.2.2.2.1
                refine r_aload_n (pc := 120) dX6_makePlan_120 rfl ?_
                refine p_getQ (pc := 121) (jI := 5) (n9 := 1) (r := some (5, 0)) fl_X6_36 rfl dX6_makePlan_121 rfl rfl (by decide) (by decide) rfl ?_
                refine r_aload_n (pc := 124) dX6_makePlan_124 rfl ?_
                refine p_getQ (pc := 125) (jI := 0) (n9 := 1) (r := some (8, 0)) fl_X6_11 rfl dX6_makePlan_125 rfl rfl (by decide) (by decide) rfl ?_
                refine r_callV (pc := 128) (t := 5) (i := 0) (rest := []) (cs' := 0) (sl' := 0) mv_X6_292 (K_X5_work (hi := (mix hi g2)) (U := sI (laC hi nk kd) 6) (S := ovI (ovP hi nk kd) nb) h58 h59 (show 0 ≤ g2 5 0 8 ∧ g2 5 0 8 ≤ 5 from by omega) (fun a b a0 a1 b0 b1 => (hI.cst a b a0 a1 b0 b1).2) (show 0 ≤ g2 5 0 9 ∧ g2 5 0 9 ≤ 40 from by omega) (fun i i0 i1 => hovr i i0 (by rw [← h59]; exact i1)) (fun u u0 u1 => hun u u0 (by rw [← h58]; exact u1)) hO.2.2.2.2.2) rfl ⟨(Nat.le_of_ble_eq_true rfl), (Nat.le_of_ble_eq_true rfl)⟩ (Nat.le_of_ble_eq_true rfl) dX6_makePlan_128 (show (0 : Int) ≤ 0 by omega) (show 0 < 1 by omega) ⟨rfl, (Nat.le_of_ble_eq_true rfl)⟩ ⟨rfl, (Nat.le_of_ble_eq_true rfl)⟩ rfl (fun r9 h9 hq9 => ?_) (fun E9 h9 hx9 => hx9.elim)
                obtain ⟨rfl, hk, rfl, hkF, a, hB, hb⟩ := hq9
                show Run _ 131 _ [] (hp hk nb nk) _ _ _ _
                refine r_vret (pc := 131) dX6_makePlan_131 rfl (Nat.le_of_ble_eq_true rfl) (Nat.le_of_ble_eq_true rfl) ?_
                have e15 : hk 15 0 = g2 15 0 := funext fun j => hkF 15 0 j (by decide) (by decide) (by decide) (by omega)
                have e16 : hk 16 0 = g2 16 0 := funext fun j => hkF 16 0 j (by decide) (by decide) (by decide) (by omega)
                have e17 : hk 17 0 = g2 17 0 := funext fun j => hkF 17 0 j (by decide) (by decide) (by decide) (by omega)
                have e58 : hk 5 0 8 = g2 5 0 8 := hkF 5 0 8 (by decide) (by decide) (by decide) (by decide)
                have eh : hk = mix hi hk := mix_of (fun k i j h h7 => by
                  have n := fun (m : Nat) (hm : plK m = true) => show k ≠ m from fun z => by rw [z, hm] at h; exact absurd h (by decide)
                  rw [hkF k i j (n 19 rfl) (n 20 rfl) (n 21 rfl) (fun z => n 5 rfl z.1), mix_n h h7])
                exact hQ _ _ ⟨rfl, hT5, hk, hp_c eh, by rw [e15, e16, e17]; exact hD9, by rw [e58]; exact h58, a, by rw [e15, e17]; exact hB, fun v v0 v1 => by rw [hb v v0 v1, e16]; rfl⟩
              · refine r_aload_n (pc := 68) dX6_makePlan_68 rfl ?_
                refine p_getQ (pc := 69) (jI := 3) (n9 := 1) (r := some (13, 0)) fl_X6_23 rfl dX6_makePlan_69 rfl rfl (by decide) (by decide) rfl ?_
                refine r_iload_n (pc := 72) dX6_makePlan_72 rfl ?_
                rcases (show i < nb ∨ nb ≤ i by omega) with c73 | c73
                · refine p_aald (pc := 73) (n9 := 1) (nI := 40) (r := some (1, i)) rfl ⟨(by decide), (by decide)⟩ dX6_makePlan_73 rfl (by decide) (by decide) rfl (by omega) (by omega) (hr_13 (by omega) (by omega)) ?_
                  refine r_astore_n (pc := 74) (xs' := [some (aR 6 0), some (aI kd), some (aI i), some (aR 1 i)]) dX6_makePlan_74 (by decide) rfl ?_
                  refine r_aload_n (pc := 75) dX6_makePlan_75 rfl ?_
                  refine q_ifnullS (pc := 76) (tgt := 114) dX6_makePlan_76 rfl ?_
                  refine r_aload_n (pc := 79) dX6_makePlan_79 rfl ?_
                  refine q_getI (pc := 80) (jI := 0) (n9 := nb) (v := hi 1 i 0) fl_X6_125 rfl dX6_makePlan_80 rfl rfl (by omega) (by omega) (by rfl) ?_
                  refine r_iload_n (pc := 83) dX6_makePlan_83 rfl ?_
                  refine r_icmp_ne (pc := 84) (tgt := 114) dX6_makePlan_84 rfl (fun c84 => ?_) (fun c84 => ?_)
                  · have hO9 : plO (ovP hi nk kd) (fun b => plcC hi b (hi 6 0 8)) (g 5 0 7) (g 5 0 8) (g 15 0) g2 i := by rw [show i = m by omega]; exact hO
                    have hS9 := plO.no hO9 h0.1 (fun z => c84 z.1)
                    refine r_iinc (pc := 114) (xs' := [some (aR 6 0), some (aI kd), some (aI (i + 1)), some (aR 1 i)]) dX6_makePlan_114 rfl (by decide) (by omega) rfl ?_
                    refine r_goto (pc := 117) (tgt := 59) dX6_makePlan_117 rfl ?_
                    refine r_drop (xs' := [some (aR 6 0), some (aI kd), some (aI (i + 1)), none]) 3 rfl ?_
                    refine r_hp (hi' := (mix hi g2)) (by rfl) ?_
                    exact ih_loop2 (i + 1) (i + 1) g2 (by omega) (by omega) hS9 (by omega)
                  · refine r_aload_n (pc := 87) dX6_makePlan_87 rfl ?_
                    refine r_aload_n (pc := 88) dX6_makePlan_88 rfl ?_
                    refine d1_V (pc := 89) (t := 6) (i := 0) (rest := []) (cs' := 0) (sl' := 0) mv_X6_270 (show Det I_X6_canServe [aR 6 0, aR 1 i] (hp (mix hi g2) nb nk) (some (aI (bI (canC hi i)))) (hp (mix hi g2) nb nk) from K_X6_canServe (hI.mx (g := g2)) (by omega) (by omega)) rfl ⟨(Nat.le_of_ble_eq_true rfl), (Nat.le_of_ble_eq_true rfl)⟩ (Nat.le_of_ble_eq_true rfl) dX6_makePlan_89 (show (0 : Int) ≤ 0 by omega) (show 0 < 1 by omega) ⟨rfl, (Nat.le_of_ble_eq_true rfl)⟩ ⟨rfl, (Nat.le_of_ble_eq_true rfl)⟩ rfl ?_
                    refine q_ifeqB (pc := 92) (tgt := 114) dX6_makePlan_92 rfl (fun c92 => ?_) (fun c92 => ?_)
                    · have hO9 : plO (ovP hi nk kd) (fun b => plcC hi b (hi 6 0 8)) (g 5 0 7) (g 5 0 8) (g 15 0) g2 i := by rw [show i = m by omega]; exact hO
                      have hS9 := plO.no hO9 h0.1 (fun z => c92 z.2.1)
                      refine r_iinc (pc := 114) (xs' := [some (aR 6 0), some (aI kd), some (aI (i + 1)), some (aR 1 i)]) dX6_makePlan_114 rfl (by decide) (by omega) rfl ?_
                      refine r_goto (pc := 117) (tgt := 59) dX6_makePlan_117 rfl ?_
                      refine r_drop (xs' := [some (aR 6 0), some (aI kd), some (aI (i + 1)), none]) 3 rfl ?_
                      refine r_hp (hi' := (mix hi g2)) (by rfl) ?_
                      exact ih_loop2 (i + 1) (i + 1) g2 (by omega) (by omega) hS9 (by omega)
                    · refine r_aload_n (pc := 95) dX6_makePlan_95 rfl ?_
                      refine p_getQ (pc := 96) (jI := 5) (n9 := 1) (r := some (5, 0)) fl_X6_36 rfl dX6_makePlan_96 rfl rfl (by decide) (by decide) rfl ?_
                      refine r_iload_n (pc := 99) dX6_makePlan_99 rfl ?_
                      refine r_aload_n (pc := 100) dX6_makePlan_100 rfl ?_
                      refine p_getQ (pc := 101) (jI := 2) (n9 := nb) (r := some (4, i)) fl_X6_99 rfl dX6_makePlan_101 rfl rfl (by omega) (by omega) rfl ?_
                      refine r_aload_n (pc := 104) dX6_makePlan_104 rfl ?_
                      refine q_getI (pc := 105) (jI := 8) (n9 := 1) (v := hi 6 0 8) fl_X6_47 rfl dX6_makePlan_105 rfl rfl (by decide) (by decide) (by rfl) ?_
                      refine d1_V (pc := 108) (t := 4) (i := i) (rest := [aI i, aR 5 0]) (cs' := 0) (sl' := 0) mv_X6_121 (show Det I_X4_placeOn [aR 4 i, aI (hi 6 0 8)] (hp (mix hi g2) nb nk) (some (aI (plcC hi i (hi 6 0 8)))) (hp (mix hi g2) nb nk) from KI_placeOn (hI.mx (g := g2)) (by omega) (by omega)) rfl ⟨(Nat.le_of_ble_eq_true rfl), (Nat.le_of_ble_eq_true rfl)⟩ (Nat.le_of_ble_eq_true rfl) dX6_makePlan_108 (show (0 : Int) ≤ i by omega) (show i < nb by omega) ⟨rfl, (Nat.le_of_ble_eq_true rfl)⟩ ⟨rfl, (Nat.le_of_ble_eq_true rfl)⟩ rfl ?_
                      refine d0_V (pc := 111) (t := 5) (i := 0) (rest := []) (cs' := 0) (sl' := 0) mv_X6_289 (K_X5_offer (hi := (mix hi g2)) (b := i) (p := plcC hi i (hi 6 0 8)) (show 0 ≤ g2 5 0 7 ∧ g2 5 0 7 < 64 from by rw [hO.1]; exact hU.2.2.1) (show 0 ≤ g2 5 0 9 ∧ g2 5 0 9 < 40 from by rw [hO.2.2.2.1]; have := ovI_r (P := ovP hi nk kd) (n := m) (by omega); omega)) rfl ⟨(Nat.le_of_ble_eq_true rfl), (Nat.le_of_ble_eq_true rfl)⟩ (Nat.le_of_ble_eq_true rfl) dX6_makePlan_111 (show (0 : Int) ≤ 0 by omega) (show 0 < 1 by omega) ⟨rfl, (Nat.le_of_ble_eq_true rfl)⟩ ⟨rfl, (Nat.le_of_ble_eq_true rfl)⟩ rfl ?_
                      have hO9 : plO (ovP hi nk kd) (fun b => plcC hi b (hi 6 0 8)) (g 5 0 7) (g 5 0 8) (g 15 0) g2 i := by rw [show i = m by omega]; exact hO
                      have hP9 : ovP hi nk kd i ↔ (0 ≤ plcC hi i (hi 6 0 8) ∧ plcC hi i (hi 6 0 8) < 6) ∧ bitI (g 5 0 7) (plcC hi i (hi 6 0 8)) = 0 := by
                        have hm9 := hU.2.2.2.1 (plcC hi i (hi 6 0 8))
                        unfold ovP
                        constructor
                        · rintro ⟨_, _, z1, z2⟩
                          exact ⟨z1, (hm9 z1.1 z1.2).mpr (fun y => z2 y.2)⟩
                        · rintro ⟨z1, z2⟩
                          exact ⟨c84, c92, z1, fun y => (hm9 z1.1 z1.2).mp z2 ⟨by omega, y⟩⟩
                      have hS9 := plO.offer (g := (mix hi g2)) (show plO (ovP hi nk kd) (fun b => plcC hi b (hi 6 0 8)) (g 5 0 7) (g 5 0 8) (g 15 0) (mix hi g2) i from hO9) h0.1 hP9
                      refine r_iinc (pc := 114) (xs' := [some (aR 6 0), some (aI kd), some (aI (i + 1)), some (aR 1 i)]) dX6_makePlan_114 rfl (by decide) (by omega) rfl ?_
                      refine r_goto (pc := 117) (tgt := 59) dX6_makePlan_117 rfl ?_
                      refine r_drop (xs' := [some (aR 6 0), some (aI kd), some (aI (i + 1)), none]) 3 rfl ?_
                      refine r_hp (hi' := (mix hi (offH (mix hi g2) i (plcC hi i (hi 6 0 8))))) (by exact mix_of (fun k i j h h7 => by rw [offH_f h, mix_n h h7])) ?_
                      exact ih_loop2 (i + 1) (i + 1) (offH (mix hi g2) i (plcC hi i (hi 6 0 8))) (by omega) (by omega) hS9 (by omega)
                · refine p_aald (pc := 73) (n9 := 1) (nI := 40) (r := none) rfl ⟨(by decide), (by decide)⟩ dX6_makePlan_73 rfl (by decide) (by decide) rfl (by omega) (by omega) (hr_13n (by omega)) ?_
                  refine r_astore_n (pc := 74) (xs' := [some (aR 6 0), some (aI kd), some (aI i), some (aN)]) dX6_makePlan_74 (by decide) rfl ?_
                  refine r_aload_n (pc := 75) dX6_makePlan_75 rfl ?_
                  refine q_ifnullN (pc := 76) (tgt := 114) dX6_makePlan_76 rfl ?_
                  refine r_iinc (pc := 114) (xs' := [some (aR 6 0), some (aI kd), some (aI (i + 1)), some (aN)]) dX6_makePlan_114 rfl (by decide) (by omega) rfl ?_
                  refine r_goto (pc := 117) (tgt := 59) dX6_makePlan_117 rfl ?_
                  refine r_drop (xs' := [some (aR 6 0), some (aI kd), some (aI (i + 1)), none]) 3 rfl ?_
                  refine r_hp (hi' := (mix hi g2)) (by rfl) ?_
                  exact ih_loop2 (i + 1) m g2 (by omega) (by omega) hO (by omega)
          refine r_hp (hi' := (mix hi g)) (by rfl) ?_
          exact loop2 41 0 0 g (by omega) (by omega) ⟨rfl, rfl, fun _ => rfl, hU.2.1, fun b b0 b1 => by omega, fun i i0 i1 => by rw [ovI_0] at i1; omega⟩ (by omega)
        · refine r_throwW (pc := 46) (text := "more than 5 units lack") rfl th_X6_81 (by decide) dX6_makePlan_46 dX6_makePlan_49 dX6_makePlan_50 dX6_makePlan_53 dX6_makePlan_56 ⟨(Nat.le_of_ble_eq_true rfl), (Nat.le_of_ble_eq_true rfl), (Nat.le_of_ble_eq_true rfl), (Nat.le_of_ble_eq_true rfl)⟩ (hX _ _ ⟨rfl, by have := hU.1; rw [show p = 6 by omega] at this; omega, g, rfl⟩)
      · refine r_aload_n (pc := 15) dX6_makePlan_15 rfl ?_
        refine p_getQ (pc := 16) (jI := 5) (n9 := 1) (r := some (5, 0)) fl_X6_36 rfl dX6_makePlan_16 rfl rfl (by decide) (by decide) rfl ?_
        refine r_iload_n (pc := 19) dX6_makePlan_19 rfl ?_
        refine r_aload_n (pc := 20) dX6_makePlan_20 rfl ?_
        refine r_iload_n (pc := 21) dX6_makePlan_21 rfl ?_
        refine r_iload_n (pc := 22) dX6_makePlan_22 rfl ?_
        refine d1_V (pc := 23) (t := 6) (i := 0) (rest := [aI p, aR 5 0]) (cs' := 0) (sl' := 0) mv_X6_278 (show Det I_X6_lackingAt [aR 6 0, aI p, aI kd] (hp (mix hi g) nb nk) (some (aI (laC hi nk kd p))) (hp (mix hi g) nb nk) from K_X6_lackingAt (hI.mx (g := g))) rfl ⟨(Nat.le_of_ble_eq_true rfl), (Nat.le_of_ble_eq_true rfl)⟩ (Nat.le_of_ble_eq_true rfl) dX6_makePlan_23 (show (0 : Int) ≤ 0 by omega) (show 0 < 1 by omega) ⟨rfl, (Nat.le_of_ble_eq_true rfl)⟩ ⟨rfl, (Nat.le_of_ble_eq_true rfl)⟩ rfl ?_
        refine d0_V (pc := 26) (t := 5) (i := 0) (rest := []) (cs' := 0) (sl' := 0) mv_X6_281 (K_X5_lack (hi := (mix hi g)) (p := p) (c := laC hi nk kd p) ⟨h0.1, by omega⟩ hU.2.2.1 (show 0 ≤ g 5 0 8 ∧ g 5 0 8 ≤ 1000 from by have := hU.1; omega) (by have := laC_r (kd := kd) (p := p) hI; omega)) rfl ⟨(Nat.le_of_ble_eq_true rfl), (Nat.le_of_ble_eq_true rfl)⟩ (Nat.le_of_ble_eq_true rfl) dX6_makePlan_26 (show (0 : Int) ≤ 0 by omega) (show 0 < 1 by omega) ⟨rfl, (Nat.le_of_ble_eq_true rfl)⟩ ⟨rfl, (Nat.le_of_ble_eq_true rfl)⟩ rfl ?_
        refine r_iinc (pc := 29) (xs' := [some (aR 6 0), some (aI kd), some (aI (p + 1)), none]) dX6_makePlan_29 rfl (by decide) (by omega) rfl ?_
        refine r_goto (pc := 32) (tgt := 9) dX6_makePlan_32 rfl ?_
        refine r_hp (hi' := (mix hi (lakH (mix hi g) p (laC hi nk kd p)))) (by exact mix_of (fun k i j h h7 => by rw [lakH_f h, mix_n h h7])) ?_
        exact ih_loop (p + 1) (lakH (mix hi g) p (laC hi nk kd p)) (by omega) (plU.step (g := (mix hi g)) (show plU (laC hi nk kd) (mix hi g) p from hU) h0.1 (by omega) (fun q => (laC_r hI).1)) (by omega)
  refine r_hp (hi' := (mix hi (clrH hi))) (by exact mix_of (fun k i j h _ => clrH_f h i j)) ?_
  exact loop 7 0 (clrH hi) (by omega) plU.zero (by omega)

noncomputable def cdB (hi : Hi) (nk kd : Int) : Int := if ¬ (0 ≤ kd ∧ kd < 3) then 1 else if 5 < sI (laC hi nk kd) 6 then 2 else 0
noncomputable def cdS (hi : Hi) (nk kd u : Int) : Int := if ¬ (0 ≤ kd ∧ kd < 3) then 1 else if u < 0 then 2 else if 5 < sI (laC hi nk kd) 6 then 3 else 0
theorem K_X6_bring {hi : Hi} {nb nk : Int} (hI : Inv hi nb nk) {kd : Int} : Con I_X6_bring [aR 6 0, aI kd] (hp hi nb nk) (fun r h => cdB hi nk kd = 0 ∧ ∃ g : Hi, r = some (aI (g 5 0 10)) ∧ h = hp (mix hi g) nb nk ∧ PlnC hi nb nk kd g) (fun E h => ∃ g : Hi, h = hp (mix hi g) nb nk ∧ ((E = "java/lang/IllegalArgumentException" ∧ cdB hi nk kd = 1) ∨ (E = "java/lang/IllegalStateException" ∧ cdB hi nk kd = 2))) := by
  refine st_r (xs := [some (aR 6 0), some (aI kd)]) pn_X6 rfl rfl (Nat.le_of_ble_eq_true rfl) rfl rfl (fun Q X hQ hX => ?_)
  refine r_iload_n (pc := 0) dX6_bring_0 rfl ?_
  refine n0_S (pc := 1) (rest := []) (cs' := 1) (sl' := 6) ms_X6_74 rfl (K_X6_needKind (p := kd)) rfl ⟨(Nat.le_of_ble_eq_true rfl), (Nat.le_of_ble_eq_true rfl)⟩ (Nat.le_of_ble_eq_true rfl) dX6_bring_1 ⟨rfl, (Nat.le_of_ble_eq_true rfl)⟩ ⟨rfl, (Nat.le_of_ble_eq_true rfl)⟩ rfl (fun c1 => ?_) (fun c1 => ?_)
  · refine r_aload_n (pc := 4) dX6_bring_4 rfl ?_
    refine r_iload_n (pc := 5) dX6_bring_5 rfl ?_
    refine r_callV (pc := 6) (t := 6) (i := 0) (rest := []) (cs' := 2) (sl' := 12) mv_X6_224 (K_X6_makePlan hI) rfl ⟨(Nat.le_of_ble_eq_true rfl), (Nat.le_of_ble_eq_true rfl)⟩ (Nat.le_of_ble_eq_true rfl) dX6_bring_6 (show (0 : Int) ≤ 0 by omega) (show 0 < 1 by omega) ⟨rfl, (Nat.le_of_ble_eq_true rfl)⟩ ⟨rfl, (Nat.le_of_ble_eq_true rfl)⟩ rfl (fun r9 h9 hq9 => ?_) (fun E9 h9 hx9 => by obtain ⟨rfl, h5, g, rfl⟩ := hx9; exact rx_out rfl (hX _ _ ⟨g, rfl, Or.inr ⟨rfl, by unfold cdB; (repeat' split) <;> omega⟩⟩) (Nat.le_of_ble_eq_true rfl) (Nat.le_of_ble_eq_true rfl))
    obtain ⟨rfl, hT5, g, rfl, hP⟩ := hq9
    show Run _ 9 _ [] (hp (mix hi g) nb nk) _ _ _ _
    refine r_aload_n (pc := 9) dX6_bring_9 rfl ?_
    refine p_getQ (pc := 10) (jI := 5) (n9 := 1) (r := some (5, 0)) fl_X6_36 rfl dX6_bring_10 rfl rfl (by decide) (by decide) rfl ?_
    refine q_getI (pc := 13) (jI := 10) (n9 := 1) (v := g 5 0 10) fl_X6_227 rfl dX6_bring_13 rfl rfl (by decide) (by decide) (by rfl) ?_
    refine r_iret (pc := 16) dX6_bring_16 (Or.inl rfl) (Nat.le_of_ble_eq_true rfl) (Nat.le_of_ble_eq_true rfl) ?_
    exact hQ _ _ ⟨by unfold cdB; (repeat' split) <;> omega, g, rfl, rfl, hP⟩
  · exact rx_out rfl (hX _ _ ⟨hi, hp_c mix_self.symm, Or.inl ⟨rfl, by unfold cdB; (repeat' split) <;> omega⟩⟩) (Nat.le_of_ble_eq_true rfl) (Nat.le_of_ble_eq_true rfl)

theorem K_X6_brings {hi : Hi} {nb nk : Int} (hI : Inv hi nb nk) {kd u : Int} : Con I_X6_brings [aR 6 0, aI kd, aI u] (hp hi nb nk) (fun r h => cdS hi nk kd u = 0 ∧ ∃ g : Hi, r = some (aI (if 0 ≤ u ∧ u < g 5 0 8 ∧ u < 5 then g 20 0 u else -1)) ∧ h = hp (mix hi g) nb nk ∧ PlnC hi nb nk kd g) (fun E h => ∃ g : Hi, h = hp (mix hi g) nb nk ∧ ((E = "java/lang/IllegalArgumentException" ∧ cdS hi nk kd u = 1) ∨ (E = "java/lang/IndexOutOfBoundsException" ∧ cdS hi nk kd u = 2) ∨ (E = "java/lang/IllegalStateException" ∧ cdS hi nk kd u = 3))) := by
  refine st_r (xs := [some (aR 6 0), some (aI kd), some (aI u)]) pn_X6 rfl rfl (Nat.le_of_ble_eq_true rfl) rfl rfl (fun Q X hQ hX => ?_)
  refine r_iload_n (pc := 0) dX6_brings_0 rfl ?_
  refine n0_S (pc := 1) (rest := []) (cs' := 1) (sl' := 6) ms_X6_74 rfl (K_X6_needKind (p := kd)) rfl ⟨(Nat.le_of_ble_eq_true rfl), (Nat.le_of_ble_eq_true rfl)⟩ (Nat.le_of_ble_eq_true rfl) dX6_brings_1 ⟨rfl, (Nat.le_of_ble_eq_true rfl)⟩ ⟨rfl, (Nat.le_of_ble_eq_true rfl)⟩ rfl (fun c1 => ?_) (fun c1 => ?_)
  · refine r_iload_n (pc := 4) dX6_brings_4 rfl ?_
    refine r_if_ge (pc := 5) (tgt := 18) dX6_brings_5 rfl (fun c5 => ?_) (fun c5 => ?_)
    · refine r_aload_n (pc := 18) dX6_brings_18 rfl ?_
      refine r_iload_n (pc := 19) dX6_brings_19 rfl ?_
      refine r_callV (pc := 20) (t := 6) (i := 0) (rest := []) (cs' := 2) (sl' := 12) mv_X6_224 (K_X6_makePlan hI) rfl ⟨(Nat.le_of_ble_eq_true rfl), (Nat.le_of_ble_eq_true rfl)⟩ (Nat.le_of_ble_eq_true rfl) dX6_brings_20 (show (0 : Int) ≤ 0 by omega) (show 0 < 1 by omega) ⟨rfl, (Nat.le_of_ble_eq_true rfl)⟩ ⟨rfl, (Nat.le_of_ble_eq_true rfl)⟩ rfl (fun r9 h9 hq9 => ?_) (fun E9 h9 hx9 => by obtain ⟨rfl, h5, g, rfl⟩ := hx9; exact rx_out rfl (hX _ _ ⟨g, rfl, Or.inr <| Or.inr ⟨rfl, by unfold cdS; (repeat' split) <;> omega⟩⟩) (Nat.le_of_ble_eq_true rfl) (Nat.le_of_ble_eq_true rfl))
      obtain ⟨rfl, hT5, g, rfl, hP⟩ := hq9
      show Run _ 23 _ [] (hp (mix hi g) nb nk) _ _ _ _
      refine r_aload_n (pc := 23) dX6_brings_23 rfl ?_
      refine p_getQ (pc := 24) (jI := 5) (n9 := 1) (r := some (5, 0)) fl_X6_36 rfl dX6_brings_24 rfl rfl (by decide) (by decide) rfl ?_
      refine r_iload_n (pc := 27) dX6_brings_27 rfl ?_
      refine d1_V (pc := 28) (t := 5) (i := 0) (rest := []) (cs' := 2) (sl' := 12) mv_X6_235 (show Det I_X5_boxOf [aR 5 0, aI u] (hp (mix hi g) nb nk) (some (aI (if 0 ≤ u ∧ u < g 5 0 8 ∧ u < 5 then g 20 0 u else -1))) (hp (mix hi g) nb nk) from K_X5_boxOf (hi := mix hi g)) rfl ⟨(Nat.le_of_ble_eq_true rfl), (Nat.le_of_ble_eq_true rfl)⟩ (Nat.le_of_ble_eq_true rfl) dX6_brings_28 (show (0 : Int) ≤ 0 by omega) (show 0 < 1 by omega) ⟨rfl, (Nat.le_of_ble_eq_true rfl)⟩ ⟨rfl, (Nat.le_of_ble_eq_true rfl)⟩ rfl ?_
      refine r_iret (pc := 31) dX6_brings_31 (Or.inl rfl) (Nat.le_of_ble_eq_true rfl) (Nat.le_of_ble_eq_true rfl) ?_
      exact hQ _ _ ⟨by unfold cdS; (repeat' split) <;> omega, g, rfl, rfl, hP⟩
    · refine r_throw (pc := 8) (text := "no such unit") rfl th_X6_234 (by decide) dX6_brings_8 dX6_brings_11 dX6_brings_12 dX6_brings_14 dX6_brings_17 ⟨(Nat.le_of_ble_eq_true rfl), (Nat.le_of_ble_eq_true rfl), (Nat.le_of_ble_eq_true rfl), (Nat.le_of_ble_eq_true rfl)⟩ (hX _ _ ⟨hi, hp_c mix_self.symm, Or.inr <| Or.inl ⟨rfl, by unfold cdS; (repeat' split) <;> omega⟩⟩)
  · exact rx_out rfl (hX _ _ ⟨hi, hp_c mix_self.symm, Or.inl ⟨rfl, by unfold cdS; (repeat' split) <;> omega⟩⟩) (Nat.le_of_ble_eq_true rfl) (Nat.le_of_ble_eq_true rfl)
