/-! ===== the reference's plan: laysOut, bits, isChosen, bringing (walks printed by wip/whole/tools/g66.py) ===== -/
def lyU (lk : Int → Int) (g : Hi) (p : Int) : Prop := g 7 0 32 = sI lk p ∧ ∀ q x, 0 ≤ q → q < p → 0 ≤ x → x < lk q → g 55 0 (sI lk q + x) = q
def lyO (P : Int → Prop) (pl : Int → Int) (U : Int) (R : Int → Int) (g : Hi) (n : Int) : Prop := g 7 0 32 = U ∧ (∀ j, g 55 0 j = R j) ∧ g 7 0 35 = ovI P n ∧ ∀ b, 0 ≤ b → b < n → P b → g 56 0 (ovI P b) = b ∧ g 57 0 (ovI P b) = pl b
theorem lyO.no {P : Int → Prop} {pl : Int → Int} {U : Int} {R : Int → Int} {g : Hi} {n : Int} (h : lyO P pl U R g n) (h0 : 0 ≤ n) (hp : ¬ P n) : lyO P pl U R g (n + 1) := by
  obtain ⟨h1, h2, h3, h4⟩ := h
  refine ⟨h1, h2, by rw [ovI_f h0 hp]; exact h3, fun b b0 b1 pb => ?_⟩
  by_cases z : b = n
  · rw [z] at pb; exact absurd pb hp
  · exact h4 b b0 (by omega) pb
theorem lyO.yes {P : Int → Prop} {pl : Int → Int} {U : Int} {R : Int → Int} {g : Hi} {n : Int} (h : lyO P pl U R g n) (h0 : 0 ≤ n) (hp : P n) : lyO P pl U R (up1 (up1 (up1 g 56 0 (g 7 0 35) n) 57 0 (g 7 0 35) (pl n)) 7 0 35 (g 7 0 35 + 1)) (n + 1) := by
  obtain ⟨h1, h2, h3, h4⟩ := h
  rw [h3]
  refine ⟨h1, h2, by rw [up1_s, ovI_t h0 hp], fun b b0 b1 pb => ?_⟩
  by_cases z : b = n
  · rw [z]
    exact ⟨by rw [up1_n (by omega), up1_n (by omega), up1_s], by rw [up1_n (by omega), up1_s]⟩
  · have := ovI_l (P := P) b0 (show b < n by omega) pb
    rw [up1_n (by omega), up1_n (by omega), up1_n (by omega)]
    rw [up1_n (by omega), up1_n (by omega), up1_n (by omega)]
    exact h4 b b0 (by omega) pb
noncomputable def ovM (hi : Hi) (nb nk kd : Int) (b : Int) : Prop := hi 31 0 b = kd ∧ canM hi b ∧ laaM hi nb nk kd (plcM hi b (hi 7 0 1)) = 0
/-- what laysOut leaves -/
def LayM (hi : Hi) (nb nk kd : Int) (g : Hi) : Prop := DatP (laaM hi nb nk kd) (ovM hi nb nk kd) (fun b => plcM hi b (hi 7 0 1)) nb (g 55 0) (g 56 0) (g 57 0) ∧ g 7 0 32 = sI (laaM hi nb nk kd) 6 ∧ g 7 0 35 = ovI (ovM hi nb nk kd) nb
theorem K_X7_laysOut {hi : Hi} {nb nk : Int} (hM : MV hi nb nk) {kd : Int} (hl : ∀ p, 0 ≤ laaM hi nb nk kd p) (ht : sI (laaM hi nb nk kd) 6 ≤ 5) : Con I_X7_laysOut [aR 7 0, aI kd] (hp hi nb nk) (fun r h => r = none ∧ ∃ g : Hi, h = hp (mix hi g) nb nk ∧ LayM hi nb nk kd g) (fun _ _ => False) := by
  have hN := hM.num
  unfold mNum at hN
  refine st_r (xs := [some (aR 7 0), some (aI kd), none, none]) pn_X7 rfl rfl (Nat.le_of_ble_eq_true rfl) rfl rfl (fun Q X hQ hX => ?_)
  refine r_aload_n (pc := 0) dX7_laysOut_0 rfl ?_
  refine r_iconst (pc := 1) (n := 0) dX7_laysOut_1 (by decide) ?_
  refine p_putI (pc := 2) (jI := 32) (n9 := 1) fl_X7_207 (Or.inl rfl) (Or.inl rfl) dX7_laysOut_2 rfl rfl (by decide) (by decide) ?_
  refine r_iconst (pc := 5) (n := 0) dX7_laysOut_5 (by decide) ?_
  refine r_istore_n (pc := 6) (xs' := [some (aR 7 0), some (aI kd), some (aI 0), none]) dX7_laysOut_6 (by decide) rfl ?_
  have loop : ∀ (n9 : Nat) (p : Int) (g : Hi), (0 ≤ p ∧ p ≤ 6) → (lyU (laaM hi nb nk kd) g p) → 6 - p < (n9 : Int) → Run I_X7_laysOut 7 [some (aR 7 0), some (aI kd), some (aI p), none] [] (hp (mix hi g) nb nk) 0 0 Q X := by
    intro n9
    induction n9 with
    | zero => intro p g h0 hA hf9; exfalso; omega
    | succ n9 ih_loop =>
      intro p g h0 hA hf9
      refine r_iload_n (pc := 7) dX7_laysOut_7 rfl ?_
      refine r_bipush (pc := 8) (n := 6) dX7_laysOut_8 rfl (by decide) ?_
      refine r_icmp_ge (pc := 10) (tgt := 56) dX7_laysOut_10 rfl (fun c10 => ?_) (fun c10 => ?_)
      · refine r_aload_n (pc := 56) dX7_laysOut_56 rfl ?_
        refine r_iconst (pc := 57) (n := 0) dX7_laysOut_57 (by decide) ?_
        refine p_putI (pc := 58) (jI := 35) (n9 := 1) fl_X7_210 (Or.inl rfl) (Or.inl rfl) dX7_laysOut_58 rfl rfl (by decide) (by decide) ?_
        refine r_iconst (pc := 61) (n := 0) dX7_laysOut_61 (by decide) ?_
        refine r_istore_n (pc := 62) (xs' := [some (aR 7 0), some (aI kd), some (aI 0), none]) dX7_laysOut_62 (by decide) rfl ?_
        have loop3 : ∀ (n9 : Nat) (b : Int) (g3 : Hi), (0 ≤ b ∧ b ≤ nb) → (lyO (ovM hi nb nk kd) (fun b => plcM hi b (hi 7 0 1)) (g 7 0 32) (g 55 0) g3 b) → nb - b < (n9 : Int) → Run I_X7_laysOut 63 [some (aR 7 0), some (aI kd), some (aI b), none] [] (hp (mix hi g3) nb nk) 0 0 Q X := by
          intro n9
          induction n9 with
          | zero => intro b g3 hb hO hf9; exfalso; omega
          | succ n9 ih_loop3 =>
            intro b g3 hb hO hf9
            refine r_iload_n (pc := 63) dX7_laysOut_63 rfl ?_
            refine r_aload_n (pc := 64) dX7_laysOut_64 rfl ?_
            refine q_getI (pc := 65) (jI := 9) (n9 := 1) (v := nb) fl_X7_115 rfl dX7_laysOut_65 rfl rfl (by decide) (by decide) (by show hi 7 0 9 = nb; omega) ?_
            refine r_icmp_ge (pc := 68) (tgt := 150) dX7_laysOut_68 rfl (fun c68 => ?_) (fun c68 => ?_)
            · refine r_vret (pc := 150) dX7_laysOut_150 rfl (Nat.le_of_ble_eq_true rfl) (Nat.le_of_ble_eq_true rfl) ?_
              have hb9 : b = nb := by omega
              rw [hb9] at hO
              have hA6 : lyU (laaM hi nb nk kd) g 6 := by rw [show (6 : Int) = p by omega]; exact hA
              exact hQ _ _ ⟨rfl, g3, rfl, ⟨fun q x q0 q1 x0 x1 => by rw [hO.2.1]; exact hA6.2 q x q0 q1 x0 x1, hO.2.2.2⟩, by rw [hO.1]; exact hA6.1, hO.2.2.1⟩
            · refine r_aload_n (pc := 71) dX7_laysOut_71 rfl ?_
              refine p_getQ (pc := 72) (jI := 3) (n9 := 1) (r := some (31, 0)) fl_X7_13 rfl dX7_laysOut_72 rfl rfl (by decide) (by decide) rfl ?_
              refine r_iload_n (pc := 75) dX7_laysOut_75 rfl ?_
              refine q_iald (pc := 76) (n9 := 1) (nI := 40) (v := hi 31 0 b) rfl dX7_laysOut_76 rfl (by decide) (by decide) rfl (by omega) (by omega) (by rfl) ?_
              refine r_iload_n (pc := 77) dX7_laysOut_77 rfl ?_
              refine r_icmp_ne (pc := 78) (tgt := 144) dX7_laysOut_78 rfl (fun c78 => ?_) (fun c78 => ?_)
              · have hS9 := lyO.no hO hb.1 (fun z => c78 z.1)
                refine r_iinc (pc := 144) (xs' := [some (aR 7 0), some (aI kd), some (aI (b + 1)), none]) dX7_laysOut_144 rfl (by decide) (by omega) rfl ?_
                refine r_goto (pc := 147) (tgt := 63) dX7_laysOut_147 rfl ?_
                refine r_hp (hi' := (mix hi g3)) (by rfl) ?_
                exact ih_loop3 (b + 1) g3 (by omega) hS9 (by omega)
              · refine r_aload_n (pc := 81) dX7_laysOut_81 rfl ?_
                refine r_iload_n (pc := 82) dX7_laysOut_82 rfl ?_
                refine d1_V (pc := 83) (t := 7) (i := 0) (rest := []) (cs' := 0) (sl' := 0) mv_X7_195 (show Det I_X7_canServe [aR 7 0, aI b] (hp (mix hi g3) nb nk) (some (aI (bI (canM hi b)))) (hp (mix hi g3) nb nk) from K_X7_canServe (hM.mx (g := g3)) (by omega) (by omega)) rfl ⟨(Nat.le_of_ble_eq_true rfl), (Nat.le_of_ble_eq_true rfl)⟩ (Nat.le_of_ble_eq_true rfl) dX7_laysOut_83 (show (0 : Int) ≤ 0 by omega) (show 0 < 1 by omega) ⟨rfl, (Nat.le_of_ble_eq_true rfl)⟩ ⟨rfl, (Nat.le_of_ble_eq_true rfl)⟩ rfl ?_
                refine q_ifeqB (pc := 86) (tgt := 144) dX7_laysOut_86 rfl (fun c86 => ?_) (fun c86 => ?_)
                · have hS9 := lyO.no hO hb.1 (fun z => c86 z.2.1)
                  refine r_iinc (pc := 144) (xs' := [some (aR 7 0), some (aI kd), some (aI (b + 1)), none]) dX7_laysOut_144 rfl (by decide) (by omega) rfl ?_
                  refine r_goto (pc := 147) (tgt := 63) dX7_laysOut_147 rfl ?_
                  refine r_hp (hi' := (mix hi g3)) (by rfl) ?_
                  exact ih_loop3 (b + 1) g3 (by omega) hS9 (by omega)
                · refine r_aload_n (pc := 89) dX7_laysOut_89 rfl ?_
                  refine r_iload_n (pc := 90) dX7_laysOut_90 rfl ?_
                  refine r_aload_n (pc := 91) dX7_laysOut_91 rfl ?_
                  refine r_iload_n (pc := 92) dX7_laysOut_92 rfl ?_
                  refine r_aload_n (pc := 93) dX7_laysOut_93 rfl ?_
                  refine q_getI (pc := 94) (jI := 1) (n9 := 1) (v := hi 7 0 1) fl_X7_152 rfl dX7_laysOut_94 rfl rfl (by decide) (by decide) (by rfl) ?_
                  refine d1_V (pc := 97) (t := 7) (i := 0) (rest := [aI kd, aR 7 0]) (cs' := 0) (sl' := 0) mv_X7_158 (show Det I_X7_placeOn [aR 7 0, aI b, aI (hi 7 0 1)] (hp (mix hi g3) nb nk) (some (aI (plcM hi b (hi 7 0 1)))) (hp (mix hi g3) nb nk) from K_X7_placeOn (hM.mx (g := g3)) (by omega) (by omega)) rfl ⟨(Nat.le_of_ble_eq_true rfl), (Nat.le_of_ble_eq_true rfl)⟩ (Nat.le_of_ble_eq_true rfl) dX7_laysOut_97 (show (0 : Int) ≤ 0 by omega) (show 0 < 1 by omega) ⟨rfl, (Nat.le_of_ble_eq_true rfl)⟩ ⟨rfl, (Nat.le_of_ble_eq_true rfl)⟩ rfl ?_
                  refine d1_V (pc := 100) (t := 7) (i := 0) (rest := []) (cs' := 0) (sl' := 0) mv_X7_204 (show Det I_X7_lacksAt [aR 7 0, aI kd, aI (plcM hi b (hi 7 0 1))] (hp (mix hi g3) nb nk) (some (aI (laaM hi nb nk kd (plcM hi b (hi 7 0 1))))) (hp (mix hi g3) nb nk) from K_X7_lacksAt (hM.mx (g := g3))) rfl ⟨(Nat.le_of_ble_eq_true rfl), (Nat.le_of_ble_eq_true rfl)⟩ (Nat.le_of_ble_eq_true rfl) dX7_laysOut_100 (show (0 : Int) ≤ 0 by omega) (show 0 < 1 by omega) ⟨rfl, (Nat.le_of_ble_eq_true rfl)⟩ ⟨rfl, (Nat.le_of_ble_eq_true rfl)⟩ rfl ?_
                  refine r_if_ne (pc := 103) (tgt := 144) dX7_laysOut_103 rfl (fun c103 => ?_) (fun c103 => ?_)
                  · have hS9 := lyO.no hO hb.1 (fun z => c103 z.2.2)
                    refine r_iinc (pc := 144) (xs' := [some (aR 7 0), some (aI kd), some (aI (b + 1)), none]) dX7_laysOut_144 rfl (by decide) (by omega) rfl ?_
                    refine r_goto (pc := 147) (tgt := 63) dX7_laysOut_147 rfl ?_
                    refine r_hp (hi' := (mix hi g3)) (by rfl) ?_
                    exact ih_loop3 (b + 1) g3 (by omega) hS9 (by omega)
                  · have hov9 : 0 ≤ g3 7 0 35 ∧ g3 7 0 35 < 40 := by rw [hO.2.2.1]; have := ovI_r (P := ovM hi nb nk kd) (n := b) hb.1; omega
                    refine r_aload_n (pc := 106) dX7_laysOut_106 rfl ?_
                    refine p_getQ (pc := 107) (jI := 33) (n9 := 1) (r := some (56, 0)) fl_X7_96 rfl dX7_laysOut_107 rfl rfl (by decide) (by decide) rfl ?_
                    refine r_aload_n (pc := 110) dX7_laysOut_110 rfl ?_
                    refine q_getI (pc := 111) (jI := 35) (n9 := 1) (v := g3 7 0 35) fl_X7_210 rfl dX7_laysOut_111 rfl rfl (by decide) (by decide) (by rfl) ?_
                    refine r_iload_n (pc := 114) dX7_laysOut_114 rfl ?_
                    refine p_iast (pc := 115) (n9 := 1) (nI := 40) rfl dX7_laysOut_115 rfl (by decide) (by decide) rfl (by omega) (by omega) ?_
                    refine r_aload_n (pc := 116) dX7_laysOut_116 rfl ?_
                    refine p_getQ (pc := 117) (jI := 34) (n9 := 1) (r := some (57, 0)) fl_X7_99 rfl dX7_laysOut_117 rfl rfl (by decide) (by decide) rfl ?_
                    refine r_aload_n (pc := 120) dX7_laysOut_120 rfl ?_
                    refine q_getI (pc := 121) (jI := 35) (n9 := 1) (v := g3 7 0 35) fl_X7_210 rfl dX7_laysOut_121 rfl rfl (by decide) (by decide) (by simp only [up1]; simp; rfl) ?_
                    refine r_aload_n (pc := 124) dX7_laysOut_124 rfl ?_
                    refine r_iload_n (pc := 125) dX7_laysOut_125 rfl ?_
                    refine r_aload_n (pc := 126) dX7_laysOut_126 rfl ?_
                    refine q_getI (pc := 127) (jI := 1) (n9 := 1) (v := hi 7 0 1) fl_X7_152 rfl dX7_laysOut_127 rfl rfl (by decide) (by decide) (by simp only [up1]; simp; rfl) ?_
                    refine d1_V (pc := 130) (t := 7) (i := 0) (rest := [aI (g3 7 0 35), aR 57 0]) (cs' := 0) (sl' := 0) mv_X7_158 (show Det I_X7_placeOn [aR 7 0, aI b, aI (hi 7 0 1)] (hp (up1 (mix hi g3) 56 0 (g3 7 0 35) b) nb nk) (some (aI (plcM hi b (hi 7 0 1)))) (hp (up1 (mix hi g3) 56 0 (g3 7 0 35) b) nb nk) from K_X7_placeOn (hi := (up1 (mix hi g3) 56 0 (g3 7 0 35) b)) (hM.mx (g := g3)) (by omega) (by omega)) rfl ⟨(Nat.le_of_ble_eq_true rfl), (Nat.le_of_ble_eq_true rfl)⟩ (Nat.le_of_ble_eq_true rfl) dX7_laysOut_130 (show (0 : Int) ≤ 0 by omega) (show 0 < 1 by omega) ⟨rfl, (Nat.le_of_ble_eq_true rfl)⟩ ⟨rfl, (Nat.le_of_ble_eq_true rfl)⟩ rfl ?_
                    refine p_iast (pc := 133) (n9 := 1) (nI := 40) rfl dX7_laysOut_133 rfl (by decide) (by decide) rfl (by omega) (by omega) ?_
                    refine r_aload_n (pc := 134) dX7_laysOut_134 rfl ?_
                    refine r_dup (pc := 135) dX7_laysOut_135 (fun _ => rfl) ?_
                    refine q_getI (pc := 136) (jI := 35) (n9 := 1) (v := g3 7 0 35) fl_X7_210 rfl dX7_laysOut_136 rfl rfl (by decide) (by decide) (by simp only [up1]; simp; rfl) ?_
                    refine r_iconst (pc := 139) (n := 1) dX7_laysOut_139 (by decide) ?_
                    refine r_iadd (pc := 140) dX7_laysOut_140 (by omega) ?_
                    refine p_putI (pc := 141) (jI := 35) (n9 := 1) fl_X7_210 (Or.inl rfl) (Or.inl rfl) dX7_laysOut_141 rfl rfl (by decide) (by decide) ?_
                    have hS9 := lyO.yes (g := (mix hi g3)) (show lyO (ovM hi nb nk kd) (fun b => plcM hi b (hi 7 0 1)) (g 7 0 32) (g 55 0) (mix hi g3) b from hO) hb.1 ⟨c78, c86, c103⟩
                    refine r_iinc (pc := 144) (xs' := [some (aR 7 0), some (aI kd), some (aI (b + 1)), none]) dX7_laysOut_144 rfl (by decide) (by omega) rfl ?_
                    refine r_goto (pc := 147) (tgt := 63) dX7_laysOut_147 rfl ?_
                    refine r_hp (hi' := (mix hi (up1 (up1 (up1 (mix hi g3) 56 0 (g3 7 0 35) b) 57 0 (g3 7 0 35) (plcM hi b (hi 7 0 1))) 7 0 35 (g3 7 0 35 + 1)))) (by exact mix_of (fun k i j h h7 => by rw [up1_n (fun z => h7 ⟨z.1, z.2.1, by omega⟩), up1_n (fun z => by rw [z.1] at h; exact absurd h (by decide)), up1_n (fun z => by rw [z.1] at h; exact absurd h (by decide)), mix_n h h7])) ?_
                    exact ih_loop3 (b + 1) (up1 (up1 (up1 (mix hi g3) 56 0 (g3 7 0 35) b) 57 0 (g3 7 0 35) (plcM hi b (hi 7 0 1))) 7 0 35 (g3 7 0 35 + 1)) (by omega) hS9 (by omega)
        refine r_hp (hi' := (mix hi (up1 (mix hi g) 7 0 35 0))) (by exact mix_of (fun k i j h h7 => by rw [up1_n (fun z => h7 ⟨z.1, z.2.1, by omega⟩), mix_n h h7])) ?_
        exact loop3 41 0 (up1 (mix hi g) 7 0 35 0) (by omega) ⟨rfl, fun _ => rfl, up1_s, fun b b0 b1 => by omega⟩ (by omega)
      · refine r_aload_n (pc := 13) dX7_laysOut_13 rfl ?_
        refine r_iload_n (pc := 14) dX7_laysOut_14 rfl ?_
        refine r_iload_n (pc := 15) dX7_laysOut_15 rfl ?_
        refine d1_V (pc := 16) (t := 7) (i := 0) (rest := []) (cs' := 0) (sl' := 0) mv_X7_204 (show Det I_X7_lacksAt [aR 7 0, aI kd, aI p] (hp (mix hi g) nb nk) (some (aI (laaM hi nb nk kd p))) (hp (mix hi g) nb nk) from K_X7_lacksAt (hM.mx (g := g))) rfl ⟨(Nat.le_of_ble_eq_true rfl), (Nat.le_of_ble_eq_true rfl)⟩ (Nat.le_of_ble_eq_true rfl) dX7_laysOut_16 (show (0 : Int) ≤ 0 by omega) (show 0 < 1 by omega) ⟨rfl, (Nat.le_of_ble_eq_true rfl)⟩ ⟨rfl, (Nat.le_of_ble_eq_true rfl)⟩ rfl ?_
        refine r_istore_n (pc := 19) (xs' := [some (aR 7 0), some (aI kd), some (aI p), some (aI (laaM hi nb nk kd p))]) dX7_laysOut_19 (by decide) rfl ?_
        have hT9 : laaM hi nb nk kd p ≤ 5 := by
          have e := sI_s (f := laaM hi nb nk kd) h0.1
          have e2 := sI_mono (f := laaM hi nb nk kd) (a := p + 1) (b := 6) (by omega) (by omega) (fun i _ _ => hl i)
          have e3 := sI_mono (f := laaM hi nb nk kd) (a := 0) (b := p) (by omega) (by omega) (fun i _ _ => hl i)
          rw [sI_0] at e3
          omega
        have loop2 : ∀ (n9 : Nat) (k : Int) (g2 : Hi), (0 ≤ k ∧ k ≤ laaM hi nb nk kd p) → (g2 7 0 32 = sI (laaM hi nb nk kd) p + (laaM hi nb nk kd p - k) ∧ (∀ q x, 0 ≤ q → q < p → 0 ≤ x → x < laaM hi nb nk kd q → g2 55 0 (sI (laaM hi nb nk kd) q + x) = q) ∧ ∀ x, 0 ≤ x → x < laaM hi nb nk kd p - k → g2 55 0 (sI (laaM hi nb nk kd) p + x) = p) → k < (n9 : Int) → Run I_X7_laysOut 20 [some (aR 7 0), some (aI kd), some (aI p), some (aI k)] [] (hp (mix hi g2) nb nk) 0 0 Q X := by
          intro n9
          induction n9 with
          | zero => intro k g2 hk hB hf9; exfalso; omega
          | succ n9 ih_loop2 =>
            intro k g2 hk hB hf9
            refine r_iload_n (pc := 20) dX7_laysOut_20 rfl ?_
            refine r_if_le (pc := 21) (tgt := 50) dX7_laysOut_21 rfl (fun c21 => ?_) (fun c21 => ?_)
            · have hA9 : lyU (laaM hi nb nk kd) g2 (p + 1) := by
                refine ⟨by rw [sI_s h0.1, hB.1]; omega, fun q x q0 q1 x0 x1 => ?_⟩
                by_cases z : q = p
                · rw [z]; rw [z] at x1; exact hB.2.2 x x0 (by omega)
                · exact hB.2.1 q x q0 (by omega) x0 x1
              refine r_iinc (pc := 50) (xs' := [some (aR 7 0), some (aI kd), some (aI (p + 1)), some (aI k)]) dX7_laysOut_50 rfl (by decide) (by omega) rfl ?_
              refine r_goto (pc := 53) (tgt := 7) dX7_laysOut_53 rfl ?_
              refine r_drop (xs' := [some (aR 7 0), some (aI kd), some (aI (p + 1)), none]) 3 rfl ?_
              refine r_hp (hi' := (mix hi g2)) (by rfl) ?_
              exact ih_loop (p + 1) g2 (by omega) hA9 (by omega)
            · have hT8 : sI (laaM hi nb nk kd) p + laaM hi nb nk kd p ≤ 5 ∧ 0 ≤ sI (laaM hi nb nk kd) p := by
                have e := sI_s (f := laaM hi nb nk kd) h0.1
                have e2 := sI_mono (f := laaM hi nb nk kd) (a := p + 1) (b := 6) (by omega) (by omega) (fun i _ _ => hl i)
                have e3 := sI_mono (f := laaM hi nb nk kd) (a := 0) (b := p) (by omega) (by omega) (fun i _ _ => hl i)
                rw [sI_0] at e3
                omega
              have hB1 := hB.1
              have hB9 : (up1 (up1 (mix hi g2) 55 0 (g2 7 0 32) p) 7 0 32 (g2 7 0 32 + 1)) 7 0 32 = sI (laaM hi nb nk kd) p + (laaM hi nb nk kd p - (k + (-1))) ∧ (∀ q x, 0 ≤ q → q < p → 0 ≤ x → x < laaM hi nb nk kd q → (up1 (up1 (mix hi g2) 55 0 (g2 7 0 32) p) 7 0 32 (g2 7 0 32 + 1)) 55 0 (sI (laaM hi nb nk kd) q + x) = q) ∧ ∀ x, 0 ≤ x → x < laaM hi nb nk kd p - (k + (-1)) → (up1 (up1 (mix hi g2) 55 0 (g2 7 0 32) p) 7 0 32 (g2 7 0 32 + 1)) 55 0 (sI (laaM hi nb nk kd) p + x) = p := by
                refine ⟨by rw [up1_s]; omega, fun q x q0 q1 x0 x1 => ?_, fun x x0 x1 => ?_⟩
                · have e := sI_s (f := laaM hi nb nk kd) q0
                  have e2 := sI_mono (f := laaM hi nb nk kd) (a := q + 1) (b := p) (by omega) (by omega) (fun i _ _ => hl i)
                  rw [up1_n (by omega), up1_n (by omega)]
                  exact hB.2.1 q x q0 q1 x0 x1
                · rw [up1_n (by omega)]
                  by_cases z : x = laaM hi nb nk kd p - k
                  · rw [show sI (laaM hi nb nk kd) p + x = g2 7 0 32 by omega, up1_s]
                  · rw [up1_n (by omega)]
                    exact hB.2.2 x x0 (by omega)
              refine r_aload_n (pc := 24) dX7_laysOut_24 rfl ?_
              refine p_getQ (pc := 25) (jI := 31) (n9 := 1) (r := some (55, 0)) fl_X7_93 rfl dX7_laysOut_25 rfl rfl (by decide) (by decide) rfl ?_
              refine r_aload_n (pc := 28) dX7_laysOut_28 rfl ?_
              refine q_getI (pc := 29) (jI := 32) (n9 := 1) (v := g2 7 0 32) fl_X7_207 rfl dX7_laysOut_29 rfl rfl (by decide) (by decide) (by rfl) ?_
              refine r_iload_n (pc := 32) dX7_laysOut_32 rfl ?_
              refine p_iast (pc := 33) (n9 := 1) (nI := 5) rfl dX7_laysOut_33 rfl (by decide) (by decide) rfl (by omega) (by omega) ?_
              refine r_aload_n (pc := 34) dX7_laysOut_34 rfl ?_
              refine r_dup (pc := 35) dX7_laysOut_35 (fun _ => rfl) ?_
              refine q_getI (pc := 36) (jI := 32) (n9 := 1) (v := g2 7 0 32) fl_X7_207 rfl dX7_laysOut_36 rfl rfl (by decide) (by decide) (by simp only [up1]; simp; rfl) ?_
              refine r_iconst (pc := 39) (n := 1) dX7_laysOut_39 (by decide) ?_
              refine r_iadd (pc := 40) dX7_laysOut_40 (by omega) ?_
              refine p_putI (pc := 41) (jI := 32) (n9 := 1) fl_X7_207 (Or.inl rfl) (Or.inl rfl) dX7_laysOut_41 rfl rfl (by decide) (by decide) ?_
              refine r_iinc (pc := 44) (xs' := [some (aR 7 0), some (aI kd), some (aI p), some (aI (k + (-1)))]) dX7_laysOut_44 rfl (by decide) (by omega) rfl ?_
              refine r_goto (pc := 47) (tgt := 20) dX7_laysOut_47 rfl ?_
              refine r_hp (hi' := (mix hi (up1 (up1 (mix hi g2) 55 0 (g2 7 0 32) p) 7 0 32 (g2 7 0 32 + 1)))) (by exact mix_of (fun k i j h h7 => by rw [up1_n (fun z => h7 ⟨z.1, z.2.1, by omega⟩), up1_n (fun z => by rw [z.1] at h; exact absurd h (by decide)), mix_n h h7])) ?_
              exact ih_loop2 (k + (-1)) (up1 (up1 (mix hi g2) 55 0 (g2 7 0 32) p) 7 0 32 (g2 7 0 32 + 1)) (by omega) hB9 (by omega)
        refine r_hp (hi' := (mix hi g)) (by rfl) ?_
        exact loop2 6 (laaM hi nb nk kd p) g (by have := hl p; omega) ⟨by rw [hA.1]; omega, hA.2, fun x x0 x1 => by omega⟩ (by have := hT9; omega)
  refine r_hp (hi' := (mix hi (up1 hi 7 0 32 0))) (by exact mix_of (fun k i j h h7 => up1_n (fun z => h7 ⟨z.1, z.2.1, by omega⟩))) ?_
  exact loop 7 0 (up1 hi 7 0 32 0) (by decide) ⟨rfl, fun q x q0 q1 => by omega⟩ (by decide)

theorem K_X7_bits {hi : Hi} {nb nk : Int} {s : Int} (hs : 0 ≤ s ∧ s < 32) : Det I_X7_bits [aI s] (hp hi nb nk) (some (aI (btI s))) (hp hi nb nk) := by
  refine st_d (xs := [some (aI s), none, none]) pn_X7 rfl rfl (Nat.le_of_ble_eq_true rfl) rfl rfl (fun Q X hQ => ?_)
  refine r_iconst (pc := 0) (n := 0) dX7_bits_0 (by decide) ?_
  refine r_istore_n (pc := 1) (xs' := [some (aI s), some (aI 0), none]) dX7_bits_1 (by decide) rfl ?_
  refine r_iload_n (pc := 2) dX7_bits_2 rfl ?_
  refine r_istore_n (pc := 3) (xs' := [some (aI s), some (aI 0), some (aI s)]) dX7_bits_3 (by decide) rfl ?_
  have loop : ∀ (n9 : Nat) (n v : Int), (0 ≤ v ∧ v < 32) → (0 ≤ n ∧ n + btI v = btI s) → v < (n9 : Int) → Run I_X7_bits 4 [some (aI s), some (aI n), some (aI v)] [] (hp hi nb nk) 0 0 Q X := by
    intro n9
    induction n9 with
    | zero => intro n v h0 h1 hf9; exfalso; omega
    | succ n9 ih_loop =>
      intro n v h0 h1 hf9
      have hv9 := btI_half h0
      have hr9 := btI_r (s := v)
      have hr8 := btI_r (s := s)
      refine r_iload_n (pc := 4) dX7_bits_4 rfl ?_
      refine r_if_le (pc := 5) (tgt := 21) dX7_bits_5 rfl (fun c5 => ?_) (fun c5 => ?_)
      · refine r_iload_n (pc := 21) dX7_bits_21 rfl ?_
        refine r_iret (pc := 22) dX7_bits_22 (Or.inl rfl) (Nat.le_of_ble_eq_true rfl) (Nat.le_of_ble_eq_true rfl) ?_
        exact qI hQ (by rw [show v = 0 by omega, btI_0] at h1; omega) rfl
      · refine r_iload_n (pc := 8) dX7_bits_8 rfl ?_
        refine r_iload_n (pc := 9) dX7_bits_9 rfl ?_
        refine r_iconst (pc := 10) (n := 1) dX7_bits_10 (by decide) ?_
        refine r_iand (pc := 11) (z := v % 2) dX7_bits_11 (bt_and1 (s := v) (by omega)) (by omega) ?_
        refine r_iadd (pc := 12) dX7_bits_12 (by omega) ?_
        refine r_istore_n (pc := 13) (xs' := [some (aI s), some (aI (n + (v % 2))), some (aI v)]) dX7_bits_13 (by decide) rfl ?_
        refine r_iload_n (pc := 14) dX7_bits_14 rfl ?_
        refine r_iconst (pc := 15) (n := 1) dX7_bits_15 (by decide) ?_
        refine r_ishr (pc := 16) (z := v / 2) dX7_bits_16 (bt_shr (s := v) (u := 1) (by omega) (by decide)).1 (by omega) ?_
        refine r_istore_n (pc := 17) (xs' := [some (aI s), some (aI (n + (v % 2))), some (aI (v / 2))]) dX7_bits_17 (by decide) rfl ?_
        refine r_goto (pc := 18) (tgt := 4) dX7_bits_18 rfl ?_
        exact ih_loop (n + (v % 2)) (v / 2) (by omega) (by omega) (by omega)
  exact loop 33 0 s (by omega) (by omega) (by omega)

theorem K_X7_isChosen {hi : Hi} {nb nk : Int} {k m : Int} (hm : 0 ≤ m ∧ m ≤ 5) : Det I_X7_isChosen [aR 7 0, aI k, aI m] (hp hi nb nk) (some (aI (bI (∃ u, 0 ≤ u ∧ u < m ∧ hi 58 0 u = k)))) (hp hi nb nk) := by
  refine st_d (xs := [some (aR 7 0), some (aI k), some (aI m), none, none]) pn_X7 rfl rfl (Nat.le_of_ble_eq_true rfl) rfl rfl (fun Q X hQ => ?_)
  refine r_iconst (pc := 0) (n := 0) dX7_isChosen_0 (by decide) ?_
  refine r_istore_n (pc := 1) (xs' := [some (aR 7 0), some (aI k), some (aI m), some (aI 0), none]) dX7_isChosen_1 (by decide) rfl ?_
  refine r_iconst (pc := 2) (n := 0) dX7_isChosen_2 (by decide) ?_
  refine r_istore (pc := 3) (xs' := [some (aR 7 0), some (aI k), some (aI m), some (aI 0), some (aI 0)]) dX7_isChosen_3 (by decide) rfl ?_
  have loop : ∀ (n9 : Nat) (i w : Int), (0 ≤ i ∧ i ≤ m) → ((w = 1 ∧ ∃ u, 0 ≤ u ∧ u < i ∧ hi 58 0 u = k) ∨ (w = 0 ∧ ∀ u, 0 ≤ u → u < i → ¬ hi 58 0 u = k)) → m - i < (n9 : Int) → Run I_X7_isChosen 5 [some (aR 7 0), some (aI k), some (aI m), some (aI w), some (aI i)] [] (hp hi nb nk) 0 0 Q X := by
    intro n9
    induction n9 with
    | zero => intro i w h0 h2 hf9; exfalso; omega
    | succ n9 ih_loop =>
      intro i w h0 h2 hf9
      refine r_iload (pc := 5) dX7_isChosen_5 rfl ?_
      refine r_iload_n (pc := 7) dX7_isChosen_7 rfl ?_
      refine r_icmp_ge (pc := 8) (tgt := 38) dX7_isChosen_8 rfl (fun c8 => ?_) (fun c8 => ?_)
      · refine r_iload_n (pc := 38) dX7_isChosen_38 rfl ?_
        refine r_iret (pc := 39) dX7_isChosen_39 (Or.inr ⟨rfl, (by omega)⟩) (Nat.le_of_ble_eq_true rfl) (Nat.le_of_ble_eq_true rfl) ?_
        exact qI hQ (by rcases h2 with q2 | q2; (rw [q2.1]; exact (bI_t (by obtain ⟨u, x1, x2, x3⟩ := q2.2; exact ⟨u, x1, by omega, x3⟩)).symm); (rw [q2.1]; exact (bI_f (fun ⟨u, x1, x2, x3⟩ => q2.2 u x1 (by omega) x3)).symm)) rfl
      · refine r_iload_n (pc := 11) dX7_isChosen_11 rfl ?_
        refine r_if_ne (pc := 12) (tgt := 26) dX7_isChosen_12 rfl (fun c12 => ?_) (fun c12 => ?_)
        · refine r_iconst (pc := 26) (n := 1) dX7_isChosen_26 (by decide) ?_
          refine r_goto (pc := 27) (tgt := 31) dX7_isChosen_27 rfl ?_
          refine r_istore_n (pc := 31) (xs' := [some (aR 7 0), some (aI k), some (aI m), some (aI 1), some (aI i)]) dX7_isChosen_31 (by decide) rfl ?_
          refine r_iinc (pc := 32) (xs' := [some (aR 7 0), some (aI k), some (aI m), some (aI 1), some (aI (i + 1))]) dX7_isChosen_32 rfl (by decide) (by omega) rfl ?_
          refine r_goto (pc := 35) (tgt := 5) dX7_isChosen_35 rfl ?_
          exact ih_loop (i + 1) 1 (by omega) (Or.inl ⟨rfl, by rcases h2 with q | q; (obtain ⟨u, x1, x2, x3⟩ := q.2; exact ⟨u, x1, by omega, x3⟩); exact ⟨i, by omega, by omega, by omega⟩⟩) (by omega)
        · refine r_aload_n (pc := 15) dX7_isChosen_15 rfl ?_
          refine p_getQ (pc := 16) (jI := 36) (n9 := 1) (r := some (58, 0)) fl_X7_102 rfl dX7_isChosen_16 rfl rfl (by decide) (by decide) rfl ?_
          refine r_iload (pc := 19) dX7_isChosen_19 rfl ?_
          refine q_iald (pc := 21) (n9 := 1) (nI := 5) (v := hi 58 0 i) rfl dX7_isChosen_21 rfl (by decide) (by decide) rfl (by omega) (by omega) rfl ?_
          refine r_iload_n (pc := 22) dX7_isChosen_22 rfl ?_
          refine r_icmp_ne (pc := 23) (tgt := 30) dX7_isChosen_23 rfl (fun c23 => ?_) (fun c23 => ?_)
          · refine r_iconst (pc := 30) (n := 0) dX7_isChosen_30 (by decide) ?_
            refine r_istore_n (pc := 31) (xs' := [some (aR 7 0), some (aI k), some (aI m), some (aI 0), some (aI i)]) dX7_isChosen_31 (by decide) rfl ?_
            refine r_iinc (pc := 32) (xs' := [some (aR 7 0), some (aI k), some (aI m), some (aI 0), some (aI (i + 1))]) dX7_isChosen_32 rfl (by decide) (by omega) rfl ?_
            refine r_goto (pc := 35) (tgt := 5) dX7_isChosen_35 rfl ?_
            exact ih_loop (i + 1) 0 (by omega) (Or.inr ⟨rfl, fun u x1 x2 x3 => by rcases h2 with q | q; omega; by_cases e : u = i; (rw [e] at x3; omega); exact q.2 u x1 (by omega) x3⟩) (by omega)
          · refine r_iconst (pc := 26) (n := 1) dX7_isChosen_26 (by decide) ?_
            refine r_goto (pc := 27) (tgt := 31) dX7_isChosen_27 rfl ?_
            refine r_istore_n (pc := 31) (xs' := [some (aR 7 0), some (aI k), some (aI m), some (aI 1), some (aI i)]) dX7_isChosen_31 (by decide) rfl ?_
            refine r_iinc (pc := 32) (xs' := [some (aR 7 0), some (aI k), some (aI m), some (aI 1), some (aI (i + 1))]) dX7_isChosen_32 rfl (by decide) (by omega) rfl ?_
            refine r_goto (pc := 35) (tgt := 5) dX7_isChosen_35 rfl ?_
            exact ih_loop (i + 1) 1 (by omega) (Or.inl ⟨rfl, by rcases h2 with q | q; (obtain ⟨u, x1, x2, x3⟩ := q.2; exact ⟨u, x1, by omega, x3⟩); exact ⟨i, by omega, by omega, by omega⟩⟩) (by omega)
  exact loop 6 0 0 (by omega) (Or.inr ⟨rfl, fun u x1 x2 => by omega⟩) (by omega)

def brM (hi : Hi) (i u : Int) : Int := hi 30 0 (6 * hi 57 0 i + hi 55 0 u)
theorem K_X7_bringing {hi : Hi} {nb nk : Int} {i u : Int} (hi9 : 0 ≤ i ∧ i < 40) (hu9 : 0 ≤ u ∧ u < 5) (hp9 : 0 ≤ hi 57 0 i ∧ hi 57 0 i < 6) (hq9 : 0 ≤ hi 55 0 u ∧ hi 55 0 u < 6) : Det I_X7_bringing [aR 7 0, aI i, aI u] (hp hi nb nk) (some (aI (brM hi i u))) (hp hi nb nk) := by
  refine st_d (xs := [some (aR 7 0), some (aI i), some (aI u)]) pn_X7 rfl rfl (Nat.le_of_ble_eq_true rfl) rfl rfl (fun Q X hQ => ?_)
  refine r_aload_n (pc := 0) dX7_bringing_0 rfl ?_
  refine p_getQ (pc := 1) (jI := 2) (n9 := 1) (r := some (30, 0)) fl_X7_7 rfl dX7_bringing_1 rfl rfl (by decide) (by decide) rfl ?_
  refine r_bipush (pc := 4) (n := 6) dX7_bringing_4 rfl (by decide) ?_
  refine r_aload_n (pc := 6) dX7_bringing_6 rfl ?_
  refine p_getQ (pc := 7) (jI := 34) (n9 := 1) (r := some (57, 0)) fl_X7_99 rfl dX7_bringing_7 rfl rfl (by decide) (by decide) rfl ?_
  refine r_iload_n (pc := 10) dX7_bringing_10 rfl ?_
  refine q_iald (pc := 11) (n9 := 1) (nI := 40) (v := hi 57 0 i) rfl dX7_bringing_11 rfl (by decide) (by decide) rfl (by omega) (by omega) rfl ?_
  refine r_imul (pc := 12) dX7_bringing_12 (by omega) ?_
  refine r_aload_n (pc := 13) dX7_bringing_13 rfl ?_
  refine p_getQ (pc := 14) (jI := 31) (n9 := 1) (r := some (55, 0)) fl_X7_93 rfl dX7_bringing_14 rfl rfl (by decide) (by decide) rfl ?_
  refine r_iload_n (pc := 17) dX7_bringing_17 rfl ?_
  refine q_iald (pc := 18) (n9 := 1) (nI := 5) (v := hi 55 0 u) rfl dX7_bringing_18 rfl (by decide) (by decide) rfl (by omega) (by omega) rfl ?_
  refine r_iadd (pc := 19) dX7_bringing_19 (by omega) ?_
  refine q_iald (pc := 20) (n9 := 1) (nI := 36) (v := hi 30 0 ((6 * (hi 57 0 i)) + (hi 55 0 u))) rfl dX7_bringing_20 rfl (by decide) (by decide) rfl (by omega) (by omega) rfl ?_
  refine r_iret (pc := 21) dX7_bringing_21 (Or.inl rfl) (Nat.le_of_ble_eq_true rfl) (Nat.le_of_ble_eq_true rfl) ?_
  exact qI hQ rfl rfl
