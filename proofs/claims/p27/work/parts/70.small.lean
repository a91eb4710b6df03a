/-! ===== the law: draw, arePlaces, areBookings (walks printed by wip/p27/tools/g70.py) ===== -/
theorem K_L_draw {hi : Hi} {nb nk k : Int} {L : Nat} {sc : Nat → Int32} (h0 : 0 ≤ k) (hL : L ≤ 260) : ConS (I_L_draw L sc) [aR 99 0, aI k] (hp hi nb nk) (fun r h => ∃ v : Int, r = some (aI v) ∧ ax_32 v ∧ h = hp hi nb nk) (fun _ _ => False) := by
  refine ax_startS (xs := [some (aR 99 0), some (aI k)]) rfl pn_L rfl (Nat.le_of_ble_eq_true rfl) rfl rfl ?_
  have hQ : ∀ v : Int, ax_32 v → (fun (r : Option Av) (h : Hp) => ∃ v : Int, r = some (aI v) ∧ ax_32 v ∧ h = hp hi nb nk) (some (aI v)) (hp hi nb nk) := fun v hv => ⟨v, rfl, hv, rfl⟩
  refine r_iload_n (pc := 0) dL_draw_0 rfl ?_
  refine r_aload_n (pc := 1) dL_draw_1 rfl ?_
  refine r_slen (pc := 2) (L := L) (sc := sc) rfl (by omega) dL_draw_2 ?_
  refine r_icmp_ge (pc := 3) (tgt := 12) dL_draw_3 rfl (fun c3 => ?_) (fun c3 => ?_)
  · refine r_ldc (pc := 12) (n := 3790017) dL_draw_12 lc_L_64 rfl (by decide) ?_
    refine r_iload_n (pc := 14) dL_draw_14 rfl ?_
    refine r_imulX (pc := 15) dL_draw_15 (fun s15 t15 => ?_)
    refine r_iload_n (pc := 16) dL_draw_16 rfl ?_
    refine r_imulX (pc := 17) dL_draw_17 (fun s17 t17 => ?_)
    refine r_ldc (pc := 18) (n := 160073) dL_draw_18 lc_L_65 rfl (by decide) ?_
    refine r_iload_n (pc := 20) dL_draw_20 rfl ?_
    refine r_imulX (pc := 21) dL_draw_21 (fun s21 t21 => ?_)
    refine r_iaddX (pc := 22) dL_draw_22 (fun s22 t22 => ?_)
    refine r_sipush (pc := 23) (n := 341) dL_draw_23 rfl (by decide) ?_
    refine r_iaddX (pc := 26) dL_draw_26 (fun s26 t26 => ?_)
    refine r_iret (pc := 27) dL_draw_27 (Or.inl rfl) (by show _ ≤ 0; omega) (by show _ ≤ 0; omega) ?_
    exact hQ _ (t26)
  · refine r_aload_n (pc := 6) dL_draw_6 rfl ?_
    refine r_iload_n (pc := 7) dL_draw_7 rfl ?_
    refine r_sld (pc := 8) (L := L) (sc := sc) rfl dL_draw_8 (by omega) (by omega) ?_
    refine r_goto (pc := 9) (tgt := 27) dL_draw_9 rfl ?_
    refine r_iret (pc := 27) dL_draw_27 (Or.inl rfl) (by show _ ≤ 0; omega) (by show _ ≤ 0; omega) ?_
    exact hQ _ (ax_32t _)

theorem giv_s {B : Int → Int} {i k : Int} (h : 0 ≤ i) : givI B (i + 1) k = givI B i k + bI (B i = k) := sI_s h
theorem K_L_arePlaces {hi : Hi} {nb nk : Int} {dy b : Int} (hI : Inv hi nb nk) (hd : 0 ≤ dy ∧ dy ≤ 9000) (hb : 0 ≤ b ∧ b < nb) : Det I_L_arePlaces [aR 6 0, aI nb, aI dy, aI b] (hp hi nb nk) (some (aI 1)) (hp hi nb nk) := by
  have hN := hI.num
  unfold vNum at hN
  refine st_d (xs := [some (aR 6 0), some (aI nb), some (aI dy), some (aI b), none, none, none, none, none]) pn_L rfl rfl (Nat.le_of_ble_eq_true rfl) rfl rfl (fun Q X hQ => ?_)
  refine r_iconst (pc := 0) (n := 0) dL_arePlaces_0 (by decide) ?_
  refine r_istore (pc := 1) (xs' := [some (aR 6 0), some (aI nb), some (aI dy), some (aI b), some (aI 0), none, none, none, none]) dL_arePlaces_1 (by decide) rfl ?_
  refine r_iconst (pc := 3) (n := 1) dL_arePlaces_3 (by decide) ?_
  refine r_istore (pc := 4) (xs' := [some (aR 6 0), some (aI nb), some (aI dy), some (aI b), some (aI 0), some (aI 1), none, none, none]) dL_arePlaces_4 (by decide) rfl ?_
  refine r_iconst (pc := 6) (n := 0) dL_arePlaces_6 (by decide) ?_
  refine r_istore (pc := 7) (xs' := [some (aR 6 0), some (aI nb), some (aI dy), some (aI b), some (aI 0), some (aI 1), some (aI 0), none, none]) dL_arePlaces_7 (by decide) rfl ?_
  have loop : ∀ (n9 : Nat) (i t : Int) (c_loop s_loop : Nat), (0 ≤ i ∧ i ≤ nb) → (t = sI (fun b => bI (plcC hi b dy < 6)) i) → (0 ≤ t ∧ t ≤ i) → nb - i + 1 < (n9 : Int) → ((c_loop : Nat) : Int) + 2 * (nb - i + 1) ≤ 90 → ((s_loop : Nat) : Int) + 12 * (nb - i + 1) ≤ 540 → Run I_L_arePlaces 9 [some (aR 6 0), some (aI nb), some (aI dy), some (aI b), some (aI t), some (aI 1), some (aI i), none, none] [] (hp hi nb nk) c_loop s_loop Q X := by
    intro n9
    induction n9 with
    | zero => intro i t c_loop s_loop h0 h1 h2 hf9 hc9 hs9; exfalso; omega
    | succ n9 ih_loop =>
      intro i t c_loop s_loop h0 h1 h2 hf9 hc9 hs9
      have p9 := fun q0 q1 => plc_r hI (b := i) (d := dy) q0 q1
      unfold plOk at p9
      refine r_iload (pc := 9) dL_arePlaces_9 rfl ?_
      refine r_iload_n (pc := 11) dL_arePlaces_11 rfl ?_
      refine r_icmp_ge (pc := 12) (tgt := 85) dL_arePlaces_12 rfl (fun c12 => ?_) (fun c12 => ?_)
      · refine r_iconst (pc := 85) (n := 0) dL_arePlaces_85 (by decide) ?_
        refine r_istore (pc := 86) (xs' := [some (aR 6 0), some (aI nb), some (aI dy), some (aI b), some (aI t), some (aI 1), some (aI 0), none, none]) dL_arePlaces_86 (by decide) rfl ?_
        refine r_iconst (pc := 88) (n := 0) dL_arePlaces_88 (by decide) ?_
        refine r_istore (pc := 89) (xs' := [some (aR 6 0), some (aI nb), some (aI dy), some (aI b), some (aI t), some (aI 1), some (aI 0), some (aI 0), none]) dL_arePlaces_89 (by decide) rfl ?_
        have loop2 : ∀ (n9 : Nat) (p u : Int) (c_loop2 s_loop2 : Nat), (0 ≤ p ∧ p ≤ 6) → (u = sI (fun p => cntI hi nb dy p) p) → (0 ≤ u ∧ u ≤ 40 * p) → 6 - p + 1 < (n9 : Int) → ((c_loop2 : Nat) : Int) + 12 * (6 - p + 1) ≤ 200 → ((s_loop2 : Nat) : Int) + 72 * (6 - p + 1) ≤ 1200 → Run I_L_arePlaces 91 [some (aR 6 0), some (aI nb), some (aI dy), some (aI b), some (aI t), some (aI 1), some (aI u), some (aI p), none] [] (hp hi nb nk) c_loop2 s_loop2 Q X := by
          intro n9
          induction n9 with
          | zero => intro p u c_loop2 s_loop2 g0 g1 g2 hf9 hc9 hs9; exfalso; omega
          | succ n9 ih_loop2 =>
            intro p u c_loop2 s_loop2 g0 g1 g2 hf9 hc9 hs9
            have a9 := cnt_r (hi := hi) (d := dy) (p := p) hN.1
            have a0 := cntK_r (hi := hi) (d := dy) (p := p) (k := 0) hN.1
            have a1 := cntK_r (hi := hi) (d := dy) (p := p) (k := 1) hN.1
            have a2 := cntK_r (hi := hi) (d := dy) (p := p) (k := 2) hN.1
            refine r_iload (pc := 91) dL_arePlaces_91 rfl ?_
            refine r_bipush (pc := 93) (n := 6) dL_arePlaces_93 rfl (by decide) ?_
            refine r_icmp_ge (pc := 95) (tgt := 164) dL_arePlaces_95 rfl (fun c95 => ?_) (fun c95 => ?_)
            · refine r_iconst (pc := 164) (n := 0) dL_arePlaces_164 (by decide) ?_
              refine r_istore (pc := 165) (xs' := [some (aR 6 0), some (aI nb), some (aI dy), some (aI b), some (aI t), some (aI 1), some (aI u), some (aI 0), none]) dL_arePlaces_165 (by decide) rfl ?_
              refine r_iconst (pc := 167) (n := 0) dL_arePlaces_167 (by decide) ?_
              refine r_istore (pc := 168) (xs' := [some (aR 6 0), some (aI nb), some (aI dy), some (aI b), some (aI t), some (aI 1), some (aI u), some (aI 0), some (aI 0)]) dL_arePlaces_168 (by decide) rfl ?_
              have loop3 : ∀ (n9 : Nat) (q z : Int) (c_loop3 s_loop3 : Nat), (0 ≤ q ∧ q ≤ 13) → (z = sI (fun q => dayI hi b dy q) q) → (0 ≤ z ∧ z ≤ 8 * q) → 13 - q + 1 < (n9 : Int) → ((c_loop3 : Nat) : Int) + 4 * (13 - q + 1) ≤ 300 → ((s_loop3 : Nat) : Int) + 24 * (13 - q + 1) ≤ 1600 → Run I_L_arePlaces 170 [some (aR 6 0), some (aI nb), some (aI dy), some (aI b), some (aI t), some (aI 1), some (aI u), some (aI z), some (aI q)] [] (hp hi nb nk) c_loop3 s_loop3 Q X := by
                intro n9
                induction n9 with
                | zero => intro q z c_loop3 s_loop3 k0 k1 k2 hf9 hc9 hs9; exfalso; omega
                | succ n9 ih_loop3 =>
                  intro q z c_loop3 s_loop3 k0 k1 k2 hf9 hc9 hs9
                  have d9 := day_r (hi := hi) (b := b) (d := dy) (pl := q)
                  refine r_iload (pc := 170) dL_arePlaces_170 rfl ?_
                  refine r_bipush (pc := 172) (n := 13) dL_arePlaces_172 rfl (by decide) ?_
                  refine r_icmp_ge (pc := 174) (tgt := 223) dL_arePlaces_174 rfl (fun c174 => ?_) (fun c174 => ?_)
                  · refine r_iload (pc := 223) dL_arePlaces_223 rfl ?_
                    refine r_if_eq (pc := 225) (tgt := 246) dL_arePlaces_225 rfl (fun z => absurd z (by decide)) (fun _ => ?_)
                    refine r_iload (pc := 228) dL_arePlaces_228 rfl ?_
                    refine r_iload (pc := 230) dL_arePlaces_230 rfl ?_
                    refine r_icmp_ne (pc := 232) (tgt := 246) dL_arePlaces_232 rfl (fun c232 => absurd (by rw [g1, h1, show p = 6 by omega, show i = nb by omega]; exact cnt_sum hI) c232) (fun c232 => ?_)
                    refine r_iload (pc := 235) dL_arePlaces_235 rfl ?_
                    refine r_bipush (pc := 237) (n := 8) dL_arePlaces_237 rfl (by decide) ?_
                    refine r_icmp_ne (pc := 239) (tgt := 246) dL_arePlaces_239 rfl (fun c239 => absurd (by rw [k1, show q = 13 by omega]; exact day_sum hI hb.1 hb.2) c239) (fun c239 => ?_)
                    refine r_iconst (pc := 242) (n := 1) dL_arePlaces_242 (by decide) ?_
                    refine r_goto (pc := 243) (tgt := 247) dL_arePlaces_243 rfl ?_
                    refine r_iret (pc := 247) dL_arePlaces_247 (Or.inr ⟨rfl, Or.inr rfl⟩) (by show _ ≤ 400; omega) (by show _ ≤ 3000; omega) ?_
                    exact hQ
                  · refine r_iload (pc := 177) dL_arePlaces_177 rfl ?_
                    refine r_if_eq (pc := 179) (tgt := 223) dL_arePlaces_179 rfl (fun z => absurd z (by decide)) (fun _ => ?_)
                    refine r_iload (pc := 182) dL_arePlaces_182 rfl ?_
                    refine r_iload (pc := 184) dL_arePlaces_184 rfl ?_
                    refine r_bipush (pc := 186) (n := 6) dL_arePlaces_186 rfl (by decide) ?_
                    refine r_icmp_lt (pc := 188) (tgt := 198) dL_arePlaces_188 rfl (fun c188 => ?_) (fun c188 => ?_)
                    · refine r_aload_n (pc := 198) dL_arePlaces_198 rfl ?_
                      refine r_iload_n (pc := 199) dL_arePlaces_199 rfl ?_
                      refine r_iload_n (pc := 200) dL_arePlaces_200 rfl ?_
                      refine r_iload_n (pc := 201) dL_arePlaces_201 rfl ?_
                      refine r_bipush (pc := 202) (n := 7) dL_arePlaces_202 rfl (by decide) ?_
                      refine r_iadd (pc := 204) dL_arePlaces_204 (by omega) ?_
                      refine r_iload (pc := 205) dL_arePlaces_205 rfl ?_
                      refine d1_V (pc := 207) (t := 6) (i := 0) (rest := [aI z]) (cs' := (c_loop3 + 4)) (sl' := (s_loop3 + 24)) mv_L_72 (KL_days hI (b := b) (d := dy) (q := q) (by omega) (by omega) (by omega) (by omega) (by omega)) rfl ⟨(Nat.le_of_ble_eq_true rfl), (Nat.le_of_ble_eq_true rfl)⟩ (Nat.le_of_ble_eq_true rfl) dL_arePlaces_207 (show (0 : Int) ≤ 0 by omega) (show 0 < 1 by omega) ⟨rfl, (by show _ ≤ 400; omega)⟩ ⟨rfl, (by show _ ≤ 3000; omega)⟩ rfl ?_
                      refine r_goto (pc := 210) (tgt := 214) dL_arePlaces_210 rfl ?_
                      refine r_iadd (pc := 214) dL_arePlaces_214 (by omega) ?_
                      refine r_istore (pc := 215) (xs' := [some (aR 6 0), some (aI nb), some (aI dy), some (aI b), some (aI t), some (aI 1), some (aI u), some (aI (z + (dayI hi b dy q))), some (aI q)]) dL_arePlaces_215 (by decide) rfl ?_
                      refine r_iinc (pc := 217) (xs' := [some (aR 6 0), some (aI nb), some (aI dy), some (aI b), some (aI t), some (aI 1), some (aI u), some (aI (z + (dayI hi b dy q))), some (aI (q + 1))]) dL_arePlaces_217 rfl (by decide) (by omega) rfl ?_
                      refine r_goto (pc := 220) (tgt := 170) dL_arePlaces_220 rfl ?_
                      exact ih_loop3 (q + 1) (z + (dayI hi b dy q)) (c_loop3 + 4) (s_loop3 + 24) (by omega) (by rw [sI_s (by omega), ← k1]) (by omega) (by omega) (by omega) (by omega)
                    · refine r_iload (pc := 191) dL_arePlaces_191 rfl ?_
                      refine r_bipush (pc := 193) (n := 9) dL_arePlaces_193 rfl (by decide) ?_
                      refine r_icmp_le (pc := 195) (tgt := 213) dL_arePlaces_195 rfl (fun c195 => ?_) (fun c195 => ?_)
                      · refine r_iconst (pc := 213) (n := 0) dL_arePlaces_213 (by decide) ?_
                        refine r_iadd (pc := 214) dL_arePlaces_214 (by omega) ?_
                        refine r_istore (pc := 215) (xs' := [some (aR 6 0), some (aI nb), some (aI dy), some (aI b), some (aI t), some (aI 1), some (aI u), some (aI (z + 0)), some (aI q)]) dL_arePlaces_215 (by decide) rfl ?_
                        refine r_iinc (pc := 217) (xs' := [some (aR 6 0), some (aI nb), some (aI dy), some (aI b), some (aI t), some (aI 1), some (aI u), some (aI (z + 0)), some (aI (q + 1))]) dL_arePlaces_217 rfl (by decide) (by omega) rfl ?_
                        refine r_goto (pc := 220) (tgt := 170) dL_arePlaces_220 rfl ?_
                        exact ih_loop3 (q + 1) (z + 0) c_loop3 s_loop3 (by omega) (by rw [sI_s (by omega), ← k1]; unfold dayI; rw [if_neg (by omega)]) (by omega) (by omega) (by omega) (by omega)
                      · refine r_aload_n (pc := 198) dL_arePlaces_198 rfl ?_
                        refine r_iload_n (pc := 199) dL_arePlaces_199 rfl ?_
                        refine r_iload_n (pc := 200) dL_arePlaces_200 rfl ?_
                        refine r_iload_n (pc := 201) dL_arePlaces_201 rfl ?_
                        refine r_bipush (pc := 202) (n := 7) dL_arePlaces_202 rfl (by decide) ?_
                        refine r_iadd (pc := 204) dL_arePlaces_204 (by omega) ?_
                        refine r_iload (pc := 205) dL_arePlaces_205 rfl ?_
                        refine d1_V (pc := 207) (t := 6) (i := 0) (rest := [aI z]) (cs' := (c_loop3 + 4)) (sl' := (s_loop3 + 24)) mv_L_72 (KL_days hI (b := b) (d := dy) (q := q) (by omega) (by omega) (by omega) (by omega) (by omega)) rfl ⟨(Nat.le_of_ble_eq_true rfl), (Nat.le_of_ble_eq_true rfl)⟩ (Nat.le_of_ble_eq_true rfl) dL_arePlaces_207 (show (0 : Int) ≤ 0 by omega) (show 0 < 1 by omega) ⟨rfl, (by show _ ≤ 400; omega)⟩ ⟨rfl, (by show _ ≤ 3000; omega)⟩ rfl ?_
                        refine r_goto (pc := 210) (tgt := 214) dL_arePlaces_210 rfl ?_
                        refine r_iadd (pc := 214) dL_arePlaces_214 (by omega) ?_
                        refine r_istore (pc := 215) (xs' := [some (aR 6 0), some (aI nb), some (aI dy), some (aI b), some (aI t), some (aI 1), some (aI u), some (aI (z + (dayI hi b dy q))), some (aI q)]) dL_arePlaces_215 (by decide) rfl ?_
                        refine r_iinc (pc := 217) (xs' := [some (aR 6 0), some (aI nb), some (aI dy), some (aI b), some (aI t), some (aI 1), some (aI u), some (aI (z + (dayI hi b dy q))), some (aI (q + 1))]) dL_arePlaces_217 rfl (by decide) (by omega) rfl ?_
                        refine r_goto (pc := 220) (tgt := 170) dL_arePlaces_220 rfl ?_
                        exact ih_loop3 (q + 1) (z + (dayI hi b dy q)) (c_loop3 + 4) (s_loop3 + 24) (by omega) (by rw [sI_s (by omega), ← k1]) (by omega) (by omega) (by omega) (by omega)
              exact loop3 15 0 0 c_loop2 s_loop2 (by omega) rfl (by omega) (by omega) (by omega) (by omega)
            · refine r_iload (pc := 98) dL_arePlaces_98 rfl ?_
              refine r_if_eq (pc := 100) (tgt := 164) dL_arePlaces_100 rfl (fun z => absurd z (by decide)) (fun _ => ?_)
              refine r_aload_n (pc := 103) dL_arePlaces_103 rfl ?_
              refine r_iload (pc := 104) dL_arePlaces_104 rfl ?_
              refine r_iconst (pc := 106) (n := (-1)) dL_arePlaces_106 (by decide) ?_
              refine r_iload_n (pc := 107) dL_arePlaces_107 rfl ?_
              refine d1_V (pc := 108) (t := 6) (i := 0) (rest := []) (cs' := (c_loop2 + 3)) (sl' := (s_loop2 + 18)) mv_L_69 (KL_cntA hI (p := p) (d := dy) (by omega) (by omega)) rfl ⟨(Nat.le_of_ble_eq_true rfl), (Nat.le_of_ble_eq_true rfl)⟩ (Nat.le_of_ble_eq_true rfl) dL_arePlaces_108 (show (0 : Int) ≤ 0 by omega) (show 0 < 1 by omega) ⟨rfl, (by show _ ≤ 400; omega)⟩ ⟨rfl, (by show _ ≤ 3000; omega)⟩ rfl ?_
              refine r_istore (pc := 111) (xs' := [some (aR 6 0), some (aI nb), some (aI dy), some (aI b), some (aI t), some (aI 1), some (aI u), some (aI p), some (aI (cntI hi nb dy p))]) dL_arePlaces_111 (by decide) rfl ?_
              refine r_iload (pc := 113) dL_arePlaces_113 rfl ?_
              refine r_iload (pc := 115) dL_arePlaces_115 rfl ?_
              refine r_iadd (pc := 117) dL_arePlaces_117 (by omega) ?_
              refine r_istore (pc := 118) (xs' := [some (aR 6 0), some (aI nb), some (aI dy), some (aI b), some (aI t), some (aI 1), some (aI (u + (cntI hi nb dy p))), some (aI p), some (aI (cntI hi nb dy p))]) dL_arePlaces_118 (by decide) rfl ?_
              refine r_iload (pc := 120) dL_arePlaces_120 rfl ?_
              refine r_aload_n (pc := 122) dL_arePlaces_122 rfl ?_
              refine r_iload (pc := 123) dL_arePlaces_123 rfl ?_
              refine r_iconst (pc := 125) (n := 0) dL_arePlaces_125 (by decide) ?_
              refine r_iload_n (pc := 126) dL_arePlaces_126 rfl ?_
              refine d1_V (pc := 127) (t := 6) (i := 0) (rest := [aI (cntI hi nb dy p)]) (cs' := (c_loop2 + 6)) (sl' := (s_loop2 + 36)) mv_L_69 (KL_cntK hI (p := p) (k := 0) (d := dy) (by omega) (by omega) (by omega)) rfl ⟨(Nat.le_of_ble_eq_true rfl), (Nat.le_of_ble_eq_true rfl)⟩ (Nat.le_of_ble_eq_true rfl) dL_arePlaces_127 (show (0 : Int) ≤ 0 by omega) (show 0 < 1 by omega) ⟨rfl, (by show _ ≤ 400; omega)⟩ ⟨rfl, (by show _ ≤ 3000; omega)⟩ rfl ?_
              refine r_aload_n (pc := 130) dL_arePlaces_130 rfl ?_
              refine r_iload (pc := 131) dL_arePlaces_131 rfl ?_
              refine r_iconst (pc := 133) (n := 1) dL_arePlaces_133 (by decide) ?_
              refine r_iload_n (pc := 134) dL_arePlaces_134 rfl ?_
              refine d1_V (pc := 135) (t := 6) (i := 0) (rest := [aI (cntK hi nb dy p 0), aI (cntI hi nb dy p)]) (cs' := (c_loop2 + 9)) (sl' := (s_loop2 + 54)) mv_L_69 (KL_cntK hI (p := p) (k := 1) (d := dy) (by omega) (by omega) (by omega)) rfl ⟨(Nat.le_of_ble_eq_true rfl), (Nat.le_of_ble_eq_true rfl)⟩ (Nat.le_of_ble_eq_true rfl) dL_arePlaces_135 (show (0 : Int) ≤ 0 by omega) (show 0 < 1 by omega) ⟨rfl, (by show _ ≤ 400; omega)⟩ ⟨rfl, (by show _ ≤ 3000; omega)⟩ rfl ?_
              refine r_iadd (pc := 138) dL_arePlaces_138 (by omega) ?_
              refine r_aload_n (pc := 139) dL_arePlaces_139 rfl ?_
              refine r_iload (pc := 140) dL_arePlaces_140 rfl ?_
              refine r_iconst (pc := 142) (n := 2) dL_arePlaces_142 (by decide) ?_
              refine r_iload_n (pc := 143) dL_arePlaces_143 rfl ?_
              refine d1_V (pc := 144) (t := 6) (i := 0) (rest := [aI ((cntK hi nb dy p 0) + (cntK hi nb dy p 1)), aI (cntI hi nb dy p)]) (cs' := (c_loop2 + 12)) (sl' := (s_loop2 + 72)) mv_L_69 (KL_cntK hI (p := p) (k := 2) (d := dy) (by omega) (by omega) (by omega)) rfl ⟨(Nat.le_of_ble_eq_true rfl), (Nat.le_of_ble_eq_true rfl)⟩ (Nat.le_of_ble_eq_true rfl) dL_arePlaces_144 (show (0 : Int) ≤ 0 by omega) (show 0 < 1 by omega) ⟨rfl, (by show _ ≤ 400; omega)⟩ ⟨rfl, (by show _ ≤ 3000; omega)⟩ rfl ?_
              refine r_iadd (pc := 147) dL_arePlaces_147 (by omega) ?_
              refine r_icmp_ne (pc := 148) (tgt := 155) dL_arePlaces_148 rfl (fun c148 => absurd (cnt_kinds hI) c148) (fun c148 => ?_)
              refine r_iconst (pc := 151) (n := 1) dL_arePlaces_151 (by decide) ?_
              refine r_goto (pc := 152) (tgt := 156) dL_arePlaces_152 rfl ?_
              refine r_istore (pc := 156) (xs' := [some (aR 6 0), some (aI nb), some (aI dy), some (aI b), some (aI t), some (aI 1), some (aI (u + (cntI hi nb dy p))), some (aI p), some (aI (cntI hi nb dy p))]) dL_arePlaces_156 (by decide) rfl ?_
              refine r_iinc (pc := 158) (xs' := [some (aR 6 0), some (aI nb), some (aI dy), some (aI b), some (aI t), some (aI 1), some (aI (u + (cntI hi nb dy p))), some (aI (p + 1)), some (aI (cntI hi nb dy p))]) dL_arePlaces_158 rfl (by decide) (by omega) rfl ?_
              refine r_goto (pc := 161) (tgt := 91) dL_arePlaces_161 rfl ?_
              refine r_drop (xs' := [some (aR 6 0), some (aI nb), some (aI dy), some (aI b), some (aI t), some (aI 1), some (aI (u + (cntI hi nb dy p))), some (aI (p + 1)), none]) 8 rfl ?_
              exact ih_loop2 (p + 1) (u + (cntI hi nb dy p)) (c_loop2 + 12) (s_loop2 + 72) (by omega) (by rw [sI_s (by omega), ← g1]) (by omega) (by omega) (by omega) (by omega)
        exact loop2 8 0 0 c_loop s_loop (by omega) rfl (by omega) (by omega) (by omega) (by omega)
      · refine r_iload (pc := 15) dL_arePlaces_15 rfl ?_
        refine r_if_eq (pc := 17) (tgt := 85) dL_arePlaces_17 rfl (fun z => absurd z (by decide)) (fun _ => ?_)
        refine r_aload_n (pc := 20) dL_arePlaces_20 rfl ?_
        refine r_iload (pc := 21) dL_arePlaces_21 rfl ?_
        refine r_iload_n (pc := 23) dL_arePlaces_23 rfl ?_
        refine d1_V (pc := 24) (t := 6) (i := 0) (rest := []) (cs' := (c_loop + 2)) (sl' := (s_loop + 12)) mv_L_66 (KL_place hI (b := i) (d := dy) (by omega) (by omega) (by omega)) rfl ⟨(Nat.le_of_ble_eq_true rfl), (Nat.le_of_ble_eq_true rfl)⟩ (Nat.le_of_ble_eq_true rfl) dL_arePlaces_24 (show (0 : Int) ≤ 0 by omega) (show 0 < 1 by omega) ⟨rfl, (by show _ ≤ 400; omega)⟩ ⟨rfl, (by show _ ≤ 3000; omega)⟩ rfl ?_
        refine r_istore (pc := 27) (xs' := [some (aR 6 0), some (aI nb), some (aI dy), some (aI b), some (aI t), some (aI 1), some (aI i), some (aI (plcC hi i dy)), none]) dL_arePlaces_27 (by decide) rfl ?_
        refine r_iload (pc := 29) dL_arePlaces_29 rfl ?_
        refine r_iload (pc := 31) dL_arePlaces_31 rfl ?_
        refine r_bipush (pc := 33) (n := 6) dL_arePlaces_33 rfl (by decide) ?_
        refine r_icmp_ge (pc := 35) (tgt := 42) dL_arePlaces_35 rfl (fun c35 => ?_) (fun c35 => ?_)
        · refine r_iconst (pc := 42) (n := 0) dL_arePlaces_42 (by decide) ?_
          refine r_iadd (pc := 43) dL_arePlaces_43 (by omega) ?_
          refine r_istore (pc := 44) (xs' := [some (aR 6 0), some (aI nb), some (aI dy), some (aI b), some (aI (t + 0)), some (aI 1), some (aI i), some (aI (plcC hi i dy)), none]) dL_arePlaces_44 (by decide) rfl ?_
          refine r_iload (pc := 46) dL_arePlaces_46 rfl ?_
          refine r_if_lt (pc := 48) (tgt := 76) dL_arePlaces_48 rfl (fun c48 => (by exfalso; have := p9 h0.1 (by omega); omega)) (fun c48 => ?_)
          refine r_iload (pc := 51) dL_arePlaces_51 rfl ?_
          refine r_bipush (pc := 53) (n := 6) dL_arePlaces_53 rfl (by decide) ?_
          refine r_icmp_lt (pc := 55) (tgt := 72) dL_arePlaces_55 rfl (fun c55 => (by exfalso; omega)) (fun c55 => ?_)
          refine r_iload (pc := 58) dL_arePlaces_58 rfl ?_
          refine r_bipush (pc := 60) (n := 9) dL_arePlaces_60 rfl (by decide) ?_
          refine r_icmp_le (pc := 62) (tgt := 76) dL_arePlaces_62 rfl (fun c62 => (by exfalso; have := p9 h0.1 (by omega); omega)) (fun c62 => ?_)
          refine r_iload (pc := 65) dL_arePlaces_65 rfl ?_
          refine r_bipush (pc := 67) (n := 13) dL_arePlaces_67 rfl (by decide) ?_
          refine r_icmp_ge (pc := 69) (tgt := 76) dL_arePlaces_69 rfl (fun c69 => (by exfalso; have := p9 h0.1 (by omega); omega)) (fun c69 => ?_)
          refine r_iconst (pc := 72) (n := 1) dL_arePlaces_72 (by decide) ?_
          refine r_goto (pc := 73) (tgt := 77) dL_arePlaces_73 rfl ?_
          refine r_istore (pc := 77) (xs' := [some (aR 6 0), some (aI nb), some (aI dy), some (aI b), some (aI (t + 0)), some (aI 1), some (aI i), some (aI (plcC hi i dy)), none]) dL_arePlaces_77 (by decide) rfl ?_
          refine r_iinc (pc := 79) (xs' := [some (aR 6 0), some (aI nb), some (aI dy), some (aI b), some (aI (t + 0)), some (aI 1), some (aI (i + 1)), some (aI (plcC hi i dy)), none]) dL_arePlaces_79 rfl (by decide) (by omega) rfl ?_
          refine r_goto (pc := 82) (tgt := 9) dL_arePlaces_82 rfl ?_
          refine r_drop (xs' := [some (aR 6 0), some (aI nb), some (aI dy), some (aI b), some (aI (t + 0)), some (aI 1), some (aI (i + 1)), none, none]) 7 rfl ?_
          exact ih_loop (i + 1) (t + 0) (c_loop + 2) (s_loop + 12) (by omega) (by rw [sI_s (by omega), ← h1, bI_f (by omega)]) (by omega) (by omega) (by omega) (by omega)
        · refine r_iconst (pc := 38) (n := 1) dL_arePlaces_38 (by decide) ?_
          refine r_goto (pc := 39) (tgt := 43) dL_arePlaces_39 rfl ?_
          refine r_iadd (pc := 43) dL_arePlaces_43 (by omega) ?_
          refine r_istore (pc := 44) (xs' := [some (aR 6 0), some (aI nb), some (aI dy), some (aI b), some (aI (t + 1)), some (aI 1), some (aI i), some (aI (plcC hi i dy)), none]) dL_arePlaces_44 (by decide) rfl ?_
          refine r_iload (pc := 46) dL_arePlaces_46 rfl ?_
          refine r_if_lt (pc := 48) (tgt := 76) dL_arePlaces_48 rfl (fun c48 => (by exfalso; have := p9 h0.1 (by omega); omega)) (fun c48 => ?_)
          refine r_iload (pc := 51) dL_arePlaces_51 rfl ?_
          refine r_bipush (pc := 53) (n := 6) dL_arePlaces_53 rfl (by decide) ?_
          refine r_icmp_lt (pc := 55) (tgt := 72) dL_arePlaces_55 rfl (fun c55 => ?_) (fun c55 => (by exfalso; omega))
          refine r_iconst (pc := 72) (n := 1) dL_arePlaces_72 (by decide) ?_
          refine r_goto (pc := 73) (tgt := 77) dL_arePlaces_73 rfl ?_
          refine r_istore (pc := 77) (xs' := [some (aR 6 0), some (aI nb), some (aI dy), some (aI b), some (aI (t + 1)), some (aI 1), some (aI i), some (aI (plcC hi i dy)), none]) dL_arePlaces_77 (by decide) rfl ?_
          refine r_iinc (pc := 79) (xs' := [some (aR 6 0), some (aI nb), some (aI dy), some (aI b), some (aI (t + 1)), some (aI 1), some (aI (i + 1)), some (aI (plcC hi i dy)), none]) dL_arePlaces_79 rfl (by decide) (by omega) rfl ?_
          refine r_goto (pc := 82) (tgt := 9) dL_arePlaces_82 rfl ?_
          refine r_drop (xs' := [some (aR 6 0), some (aI nb), some (aI dy), some (aI b), some (aI (t + 1)), some (aI 1), some (aI (i + 1)), none, none]) 7 rfl ?_
          exact ih_loop (i + 1) (t + 1) (c_loop + 2) (s_loop + 12) (by omega) (by rw [sI_s (by omega), ← h1, bI_t (by omega)]) (by omega) (by omega) (by omega) (by omega)
  exact loop 50 0 0 0 0 (by omega) rfl (by omega) (by omega) (by omega) (by omega)

theorem K_L_areBookings {hi : Hi} {nb nk : Int} (hI : Inv hi nb nk) (hw : vWan hi nk) (hG : 0 ≤ hi 98 0 0 ∧ hi 98 0 0 ≤ 1000) : Con I_L_areBookings [aR 6 0, aI nb, aR 60 0, aI nk] (hp hi nb nk) (fun r h => r = some (aI 1) ∧ ∃ g : Hi, h = hp (gvn hi g) nb nk ∧ g 98 0 0 = hi 98 0 0 + 1) (fun _ _ => False) := by
  have hN := hI.num
  unfold vNum at hN
  refine st_r (xs := [some (aR 6 0), some (aI nb), some (aR 60 0), some (aI nk), none, none, none, none]) pn_L rfl rfl (Nat.le_of_ble_eq_true rfl) rfl rfl (fun Q X hQ hX => ?_)
  refine r_bipush (pc := 0) (n := 20) dL_areBookings_0 rfl (by decide) ?_
  refine c_newa (pc := 2) (kk := 61) (N9 := (hi 98 0 0)) (cs' := 1) (sl' := 20) rfl rfl (by decide) ⟨rfl, (by decide), (by decide)⟩ gt_83 dL_areBookings_2 rfl ⟨rfl, (Nat.le_of_ble_eq_true rfl)⟩ ⟨rfl, (Nat.le_of_ble_eq_true rfl)⟩ ?_
  refine c_r zr_61 ?_
  refine c_n CN_61 ?_
  refine r_gh (f' := up1 (zf hi 61 (hi 98 0 0)) 98 0 0 ((hi 98 0 0) + 1)) (fun k hk => ?_) (fun k i j hz => ?_) ?_
  · have h98 : k ≠ 98 := fun z => by rw [z] at hk; exact absurd hk (by decide)
    funext i j
    exact up1_n (fun z => h98 z.1)
  · unfold up1
    split
    · unfold ax_32; omega
    · exact hz
  show Run _ 4 _ _ (hp (up1 (zf hi 61 (hi 98 0 0)) 98 0 0 ((hi 98 0 0) + 1)) nb nk) _ _ _ _
  refine r_astore (pc := 4) (xs' := [some (aR 6 0), some (aI nb), some (aR 60 0), some (aI nk), some (aR 61 (hi 98 0 0)), none, none, none]) dL_areBookings_4 (by decide) rfl ?_
  refine r_iconst (pc := 6) (n := 1) dL_areBookings_6 (by decide) ?_
  refine r_istore (pc := 7) (xs' := [some (aR 6 0), some (aI nb), some (aR 60 0), some (aI nk), some (aR 61 (hi 98 0 0)), some (aI 1), none, none]) dL_areBookings_7 (by decide) rfl ?_
  refine r_iconst (pc := 9) (n := 0) dL_areBookings_9 (by decide) ?_
  refine r_istore (pc := 10) (xs' := [some (aR 6 0), some (aI nb), some (aR 60 0), some (aI nk), some (aR 61 (hi 98 0 0)), some (aI 1), some (aI 0), none]) dL_areBookings_10 (by decide) rfl ?_
  have loopa : ∀ (n9 : Nat) (i : Int) (g : Hi) (c_loopa s_loopa : Nat), (0 ≤ i ∧ i ≤ nb) → (g 98 0 0 = (hi 98 0 0) + 1) → (∀ k, 0 ≤ k → k < 20 → g 61 (hi 98 0 0) k = givI (fun b => hi 1 b 7) i k) → nb - i + 1 < (n9 : Int) → ((c_loopa : Nat) : Int) + 4 * (nb - i + 1) ≤ 200 → ((s_loopa : Nat) : Int) + 24 * (nb - i + 1) ≤ 1500 → Run I_L_areBookings 12 [some (aR 6 0), some (aI nb), some (aR 60 0), some (aI nk), some (aR 61 (hi 98 0 0)), some (aI 1), some (aI i), none] [] (hp (gvn hi g) nb nk) c_loopa s_loopa Q X := by
    intro n9
    induction n9 with
    | zero => intro i g c_loopa s_loopa h0 hg hv hf9 hc9 hs9; exfalso; omega
    | succ n9 ih_loopa =>
      intro i g c_loopa s_loopa h0 hg hv hf9 hc9 hs9
      refine r_iload (pc := 12) dL_areBookings_12 rfl ?_
      refine r_iload_n (pc := 14) dL_areBookings_14 rfl ?_
      refine r_icmp_ge (pc := 15) (tgt := 93) dL_areBookings_15 rfl (fun c15 => ?_) (fun c15 => ?_)
      · refine r_iconst (pc := 93) (n := 0) dL_areBookings_93 (by decide) ?_
        refine r_istore (pc := 94) (xs' := [some (aR 6 0), some (aI nb), some (aR 60 0), some (aI nk), some (aR 61 (hi 98 0 0)), some (aI 1), some (aI 0), none]) dL_areBookings_94 (by decide) rfl ?_
        have loopb : ∀ (n9 : Nat) (k : Int) (c_loopb s_loopb : Nat), (0 ≤ k ∧ k ≤ nk) → nk - k + 1 < (n9 : Int) → ((c_loopb : Nat) : Int) + 2 * (nk - k + 1) ≤ 300 → ((s_loopb : Nat) : Int) + 12 * (nk - k + 1) ≤ 2400 → Run I_L_areBookings 96 [some (aR 6 0), some (aI nb), some (aR 60 0), some (aI nk), some (aR 61 (hi 98 0 0)), some (aI 1), some (aI k), none] [] (hp (gvn hi g) nb nk) c_loopb s_loopb Q X := by
          intro n9
          induction n9 with
          | zero => intro k c_loopb s_loopb k0 hf9 hc9 hs9; exfalso; omega
          | succ n9 ih_loopb =>
            intro k c_loopb s_loopb k0 hf9 hc9 hs9
            have w9 := fun q0 q1 => wan_lac hI hw (k := k) q0 q1
            have l9 := fun q0 q1 => lacC_r hI (k := k) q0 q1
            refine r_iload (pc := 96) dL_areBookings_96 rfl ?_
            refine r_iload_n (pc := 98) dL_areBookings_98 rfl ?_
            refine r_icmp_ge (pc := 99) (tgt := 148) dL_areBookings_99 rfl (fun c99 => ?_) (fun c99 => ?_)
            · refine r_iload (pc := 148) dL_areBookings_148 rfl ?_
              refine r_iret (pc := 150) dL_areBookings_150 (Or.inr ⟨rfl, Or.inr rfl⟩) (by show _ ≤ 500; omega) (by show _ ≤ 4000; omega) ?_
              exact hQ _ _ ⟨rfl, g, rfl, hg⟩
            · refine r_iload (pc := 102) dL_areBookings_102 rfl ?_
              refine r_if_eq (pc := 104) (tgt := 148) dL_areBookings_104 rfl (fun z => absurd z (by decide)) (fun _ => ?_)
              refine r_aload_n (pc := 107) dL_areBookings_107 rfl ?_
              refine r_iload (pc := 108) dL_areBookings_108 rfl ?_
              refine d1_V (pc := 110) (t := 6) (i := 0) (rest := []) (cs' := (c_loopb + 1)) (sl' := (s_loopb + 6)) mv_L_78 (show Det I_X6_lacks [aR 6 0, aI k] (hp (gvn hi g) nb nk) (some (aI (lacC hi k))) (hp (gvn hi g) nb nk) from KL_lacks (hI.gv (g := g)) (by omega) (by omega)) rfl ⟨(Nat.le_of_ble_eq_true rfl), (Nat.le_of_ble_eq_true rfl)⟩ (Nat.le_of_ble_eq_true rfl) dL_areBookings_110 (show (0 : Int) ≤ 0 by omega) (show 0 < 1 by omega) ⟨rfl, (by show _ ≤ 500; omega)⟩ ⟨rfl, (by show _ ≤ 4000; omega)⟩ rfl ?_
              refine r_aload_n (pc := 113) dL_areBookings_113 rfl ?_
              refine r_iload (pc := 114) dL_areBookings_114 rfl ?_
              refine q_iald (pc := 116) (n9 := 1) (nI := 20) (v := hi 60 0 k) rfl dL_areBookings_116 rfl (by decide) (by decide) rfl (by omega) (by omega) rfl ?_
              refine r_aload (pc := 117) dL_areBookings_117 rfl ?_
              refine r_iload (pc := 119) dL_areBookings_119 rfl ?_
              refine q_iald (pc := 121) (n9 := (hi 98 0 0) + 1) (nI := 20) (v := givI (fun b => hi 1 b 7) nb k) rfl dL_areBookings_121 hg hG.1 (by omega) rfl (by omega) (by omega) (by rw [show nb = i by omega]; exact hv _ (by omega) (by omega)) ?_
              refine r_isub (pc := 122) dL_areBookings_122 (by have := w9 (by omega) (by omega); omega) ?_
              refine r_icmp_ne (pc := 123) (tgt := 139) dL_areBookings_123 rfl (fun c123 => absurd (w9 (by omega) (by omega)).1 c123) (fun c123 => ?_)
              refine r_aload_n (pc := 126) dL_areBookings_126 rfl ?_
              refine r_iload (pc := 127) dL_areBookings_127 rfl ?_
              refine d1_V (pc := 129) (t := 6) (i := 0) (rest := []) (cs' := (c_loopb + 2)) (sl' := (s_loopb + 12)) mv_L_78 (show Det I_X6_lacks [aR 6 0, aI k] (hp (gvn hi g) nb nk) (some (aI (lacC hi k))) (hp (gvn hi g) nb nk) from KL_lacks (hI.gv (g := g)) (by omega) (by omega)) rfl ⟨(Nat.le_of_ble_eq_true rfl), (Nat.le_of_ble_eq_true rfl)⟩ (Nat.le_of_ble_eq_true rfl) dL_areBookings_129 (show (0 : Int) ≤ 0 by omega) (show 0 < 1 by omega) ⟨rfl, (by show _ ≤ 500; omega)⟩ ⟨rfl, (by show _ ≤ 4000; omega)⟩ rfl ?_
              refine r_if_lt (pc := 132) (tgt := 139) dL_areBookings_132 rfl (fun c132 => (by exfalso; have := l9 (by omega) (by omega); omega)) (fun c132 => ?_)
              refine r_iconst (pc := 135) (n := 1) dL_areBookings_135 (by decide) ?_
              refine r_goto (pc := 136) (tgt := 140) dL_areBookings_136 rfl ?_
              refine r_istore (pc := 140) (xs' := [some (aR 6 0), some (aI nb), some (aR 60 0), some (aI nk), some (aR 61 (hi 98 0 0)), some (aI 1), some (aI k), none]) dL_areBookings_140 (by decide) rfl ?_
              refine r_iinc (pc := 142) (xs' := [some (aR 6 0), some (aI nb), some (aR 60 0), some (aI nk), some (aR 61 (hi 98 0 0)), some (aI 1), some (aI (k + 1)), none]) dL_areBookings_142 rfl (by decide) (by omega) rfl ?_
              refine r_goto (pc := 145) (tgt := 96) dL_areBookings_145 rfl ?_
              exact ih_loopb (k + 1) (c_loopb + 2) (s_loopb + 12) (by omega) (by omega) (by omega) (by omega)
        exact loopb 30 0 c_loopa s_loopa (by omega) (by omega) (by omega) (by omega)
      · refine r_iload (pc := 18) dL_areBookings_18 rfl ?_
        refine r_if_eq (pc := 20) (tgt := 93) dL_areBookings_20 rfl (fun z => absurd z (by decide)) (fun _ => ?_)
        have x9 := (hI.box i h0.1 (by omega)).2.2.2.2.2
        rcases (show hi 1 i 7 < 0 ∨ 0 ≤ hi 1 i 7 by omega) with cb | cb
        · refine r_aload_n (pc := 23) dL_areBookings_23 rfl ?_
          refine r_iload (pc := 24) dL_areBookings_24 rfl ?_
          refine r_iconst (pc := 26) (n := 4) dL_areBookings_26 (by decide) ?_
          refine d1_V (pc := 27) (t := 6) (i := 0) (rest := []) (cs' := (c_loopa + 2)) (sl' := (s_loopa + 12)) mv_L_75 (KL_boxIs (hI.gv (g := g)) (b := i) (w := 4) (v := hi 1 i 7) (by omega) (by omega) (by omega) is_4) rfl ⟨(Nat.le_of_ble_eq_true rfl), (Nat.le_of_ble_eq_true rfl)⟩ (Nat.le_of_ble_eq_true rfl) dL_areBookings_27 (show (0 : Int) ≤ 0 by omega) (show 0 < 1 by omega) ⟨rfl, (by show _ ≤ 500; omega)⟩ ⟨rfl, (by show _ ≤ 4000; omega)⟩ rfl ?_
          refine r_istore (pc := 30) (xs' := [some (aR 6 0), some (aI nb), some (aR 60 0), some (aI nk), some (aR 61 (hi 98 0 0)), some (aI 1), some (aI i), some (aI (hi 1 i 7))]) dL_areBookings_30 (by decide) rfl ?_
          refine r_iload (pc := 32) dL_areBookings_32 rfl ?_
          refine r_iconst (pc := 34) (n := (-1)) dL_areBookings_34 (by decide) ?_
          refine r_icmp_lt (pc := 35) (tgt := 70) dL_areBookings_35 rfl (fun c35 => (by exfalso; omega)) (fun c35 => ?_)
          refine r_iload (pc := 38) dL_areBookings_38 rfl ?_
          refine r_iload_n (pc := 40) dL_areBookings_40 rfl ?_
          refine r_icmp_ge (pc := 41) (tgt := 70) dL_areBookings_41 rfl (fun c41 => (by exfalso; omega)) (fun c41 => ?_)
          refine r_iload (pc := 44) dL_areBookings_44 rfl ?_
          refine r_if_lt (pc := 46) (tgt := 66) dL_areBookings_46 rfl (fun c46 => ?_) (fun c46 => (by exfalso; omega))
          refine r_iconst (pc := 66) (n := 1) dL_areBookings_66 (by decide) ?_
          refine r_goto (pc := 67) (tgt := 71) dL_areBookings_67 rfl ?_
          refine r_istore (pc := 71) (xs' := [some (aR 6 0), some (aI nb), some (aR 60 0), some (aI nk), some (aR 61 (hi 98 0 0)), some (aI 1), some (aI i), some (aI (hi 1 i 7))]) dL_areBookings_71 (by decide) rfl ?_
          refine r_iload (pc := 73) dL_areBookings_73 rfl ?_
          refine r_if_lt (pc := 75) (tgt := 87) dL_areBookings_75 rfl (fun c75 => ?_) (fun c75 => (by exfalso; omega))
          refine r_iinc (pc := 87) (xs' := [some (aR 6 0), some (aI nb), some (aR 60 0), some (aI nk), some (aR 61 (hi 98 0 0)), some (aI 1), some (aI (i + 1)), some (aI (hi 1 i 7))]) dL_areBookings_87 rfl (by decide) (by omega) rfl ?_
          refine r_goto (pc := 90) (tgt := 12) dL_areBookings_90 rfl ?_
          refine r_drop (xs' := [some (aR 6 0), some (aI nb), some (aR 60 0), some (aI nk), some (aR 61 (hi 98 0 0)), some (aI 1), some (aI (i + 1)), none]) 7 rfl ?_
          refine r_hp (hi' := (gvn hi g)) (by rfl) ?_
          exact ih_loopa (i + 1) g (c_loopa + 2) (s_loopa + 12) (by omega) hg (fun k k0 k1 => by rw [giv_s h0.1, bI_f (P := (fun b => hi 1 b 7) i = k) (fun z => by have z' : hi 1 i 7 = k := z; omega), Int.add_zero]; exact hv k k0 k1) (by omega) (by omega) (by omega)
        · have y9 := wan_ex hI hw h0.1 (show i < nb by omega) cb
          refine r_aload_n (pc := 23) dL_areBookings_23 rfl ?_
          refine r_iload (pc := 24) dL_areBookings_24 rfl ?_
          refine r_iconst (pc := 26) (n := 4) dL_areBookings_26 (by decide) ?_
          refine d1_V (pc := 27) (t := 6) (i := 0) (rest := []) (cs' := (c_loopa + 2)) (sl' := (s_loopa + 12)) mv_L_75 (KL_boxIs (hI.gv (g := g)) (b := i) (w := 4) (v := hi 1 i 7) (by omega) (by omega) (by omega) is_4) rfl ⟨(Nat.le_of_ble_eq_true rfl), (Nat.le_of_ble_eq_true rfl)⟩ (Nat.le_of_ble_eq_true rfl) dL_areBookings_27 (show (0 : Int) ≤ 0 by omega) (show 0 < 1 by omega) ⟨rfl, (by show _ ≤ 500; omega)⟩ ⟨rfl, (by show _ ≤ 4000; omega)⟩ rfl ?_
          refine r_istore (pc := 30) (xs' := [some (aR 6 0), some (aI nb), some (aR 60 0), some (aI nk), some (aR 61 (hi 98 0 0)), some (aI 1), some (aI i), some (aI (hi 1 i 7))]) dL_areBookings_30 (by decide) rfl ?_
          refine r_iload (pc := 32) dL_areBookings_32 rfl ?_
          refine r_iconst (pc := 34) (n := (-1)) dL_areBookings_34 (by decide) ?_
          refine r_icmp_lt (pc := 35) (tgt := 70) dL_areBookings_35 rfl (fun c35 => (by exfalso; omega)) (fun c35 => ?_)
          refine r_iload (pc := 38) dL_areBookings_38 rfl ?_
          refine r_iload_n (pc := 40) dL_areBookings_40 rfl ?_
          refine r_icmp_ge (pc := 41) (tgt := 70) dL_areBookings_41 rfl (fun c41 => (by exfalso; omega)) (fun c41 => ?_)
          refine r_iload (pc := 44) dL_areBookings_44 rfl ?_
          refine r_if_lt (pc := 46) (tgt := 66) dL_areBookings_46 rfl (fun c46 => (by exfalso; omega)) (fun c46 => ?_)
          refine r_aload_n (pc := 49) dL_areBookings_49 rfl ?_
          refine r_iload (pc := 50) dL_areBookings_50 rfl ?_
          refine r_iconst (pc := 52) (n := 2) dL_areBookings_52 (by decide) ?_
          refine d1_V (pc := 53) (t := 6) (i := 0) (rest := []) (cs' := (c_loopa + 4)) (sl' := (s_loopa + 24)) mv_L_75 (KL_boxIs (hI.gv (g := g)) (b := i) (w := 2) (v := 0) (by omega) (by omega) (by omega) (is_2z (wan_ex hI hw (by omega) (by omega) (by omega)).1)) rfl ⟨(Nat.le_of_ble_eq_true rfl), (Nat.le_of_ble_eq_true rfl)⟩ (Nat.le_of_ble_eq_true rfl) dL_areBookings_53 (show (0 : Int) ≤ 0 by omega) (show 0 < 1 by omega) ⟨rfl, (by show _ ≤ 500; omega)⟩ ⟨rfl, (by show _ ≤ 4000; omega)⟩ rfl ?_
          refine r_if_ne (pc := 56) (tgt := 70) dL_areBookings_56 rfl (fun z => absurd z (by decide)) (fun _ => ?_)
          refine r_aload_n (pc := 59) dL_areBookings_59 rfl ?_
          refine r_iload (pc := 60) dL_areBookings_60 rfl ?_
          refine q_iald (pc := 62) (n9 := 1) (nI := 20) (v := hi 60 0 (hi 1 i 7)) rfl dL_areBookings_62 rfl (by decide) (by decide) rfl (by omega) (by omega) rfl ?_
          refine r_if_le (pc := 63) (tgt := 70) dL_areBookings_63 rfl (fun c63 => (by exfalso; have := y9.2; omega)) (fun c63 => ?_)
          refine r_iconst (pc := 66) (n := 1) dL_areBookings_66 (by decide) ?_
          refine r_goto (pc := 67) (tgt := 71) dL_areBookings_67 rfl ?_
          refine r_istore (pc := 71) (xs' := [some (aR 6 0), some (aI nb), some (aR 60 0), some (aI nk), some (aR 61 (hi 98 0 0)), some (aI 1), some (aI i), some (aI (hi 1 i 7))]) dL_areBookings_71 (by decide) rfl ?_
          refine r_iload (pc := 73) dL_areBookings_73 rfl ?_
          refine r_if_lt (pc := 75) (tgt := 87) dL_areBookings_75 rfl (fun c75 => (by exfalso; omega)) (fun c75 => ?_)
          refine r_aload (pc := 78) dL_areBookings_78 rfl ?_
          refine r_iload (pc := 80) dL_areBookings_80 rfl ?_
          refine r_dup2 (pc := 82) dL_areBookings_82 (fun _ => rfl) (fun _ => rfl) ?_
          refine q_iald (pc := 83) (n9 := (hi 98 0 0) + 1) (nI := 20) (v := givI (fun b => hi 1 b 7) i (hi 1 i 7)) rfl dL_areBookings_83 hg hG.1 (by omega) rfl (by omega) (by omega) (hv _ (by omega) (by omega)) ?_
          refine r_iconst (pc := 84) (n := 1) dL_areBookings_84 (by decide) ?_
          refine r_iadd (pc := 85) dL_areBookings_85 (by have := givI_r (B := fun b => hi 1 b 7) (nb := i) (k := hi 1 i 7) (by omega); omega) ?_
          refine p_iast (pc := 86) (n9 := (hi 98 0 0) + 1) (nI := 20) rfl dL_areBookings_86 hg hG.1 (by omega) rfl (by omega) (by omega) ?_
          refine r_iinc (pc := 87) (xs' := [some (aR 6 0), some (aI nb), some (aR 60 0), some (aI nk), some (aR 61 (hi 98 0 0)), some (aI 1), some (aI (i + 1)), some (aI (hi 1 i 7))]) dL_areBookings_87 rfl (by decide) (by omega) rfl ?_
          refine r_goto (pc := 90) (tgt := 12) dL_areBookings_90 rfl ?_
          refine r_drop (xs' := [some (aR 6 0), some (aI nb), some (aR 60 0), some (aI nk), some (aR 61 (hi 98 0 0)), some (aI 1), some (aI (i + 1)), none]) 7 rfl ?_
          refine r_hp (hi' := (gvn hi (up1 g 61 (hi 98 0 0) (hi 1 i 7) (givI (fun b => hi 1 b 7) i (hi 1 i 7) + 1)))) (by exact gvn_up (Or.inl rfl)) ?_
          exact ih_loopa (i + 1) (up1 g 61 (hi 98 0 0) (hi 1 i 7) (givI (fun b => hi 1 b 7) i (hi 1 i 7) + 1)) (c_loopa + 4) (s_loopa + 24) (by omega) (by rw [up1_n (by omega)]; exact hg) (fun k k0 k1 => by by_cases e : k = hi 1 i 7; (rw [e, up1_s, giv_s h0.1, bI_t (P := (fun b => hi 1 b 7) i = hi 1 i 7) rfl]); (rw [up1_n (by omega), giv_s h0.1, bI_f (P := (fun b => hi 1 b 7) i = k) (fun z => e z.symm), Int.add_zero]; exact hv k k0 k1)) (by omega) (by omega) (by omega)
  refine r_hp (hi' := (gvn hi (up1 (zf hi 61 (hi 98 0 0)) 98 0 0 ((hi 98 0 0) + 1)))) (by refine gvn_of (fun k i j h1 h2 => ?_); rw [up1_n (by omega)]; exact if_neg (by omega)) ?_
  exact loopa 50 0 (up1 (zf hi 61 (hi 98 0 0)) 98 0 0 ((hi 98 0 0) + 1)) 1 20 (by omega) up1_s (fun k k0 k1 => by rw [up1_n (by omega)]; exact if_pos ⟨rfl, rfl⟩) (by omega) (by omega) (by omega)

