/-! ===== the law: arePlans (its walk printed by wip/p27/tools/g71.py) ===== -/
theorem cmp_eq {x y : Int} (h : x = y) : ax_cmp x y = 0 := by
  subst h
  unfold ax_cmp
  rw [if_neg (Int.lt_irrefl _), if_pos rfl]
theorem cmp_ne {x y : Int} (h : x ≠ y) : ax_cmp x y ≠ 0 := by
  unfold ax_cmp
  split
  · decide
  · (try rw [if_neg h]); decide
section BS
variable {g : Hi}
theorem bs_lt (hF : ∀ v, brF g v < 40) (n : Nat) : setN (brF g) n < 2 ^ 62 := Nat.lt_trans (setN_lt hF n) (by decide)
theorem bs_pw {b : Int} (h1 : b < 40) : 2 ^ b.toNat < 2 ^ 62 := Nat.pow_lt_pow_right (by decide) (by omega)
theorem bs_shr (hF : ∀ v, brF g v < 40) {n : Nat} {b : Int} (h0 : 0 ≤ b) (h1 : b < 40) : Int64.ofInt ((setN (brF g) n : Nat) : Int) >>> ((Int32.ofInt b).toInt64 &&& 63) = Int64.ofInt ((setN (brF g) n / 2 ^ b.toNat : Nat) : Int) ∧ ax_64 ((setN (brF g) n / 2 ^ b.toNat : Nat) : Int) :=
  ⟨b_shr (bs_lt hF n) h0 (by omega), b_64 (Nat.lt_of_le_of_lt (Nat.div_le_self _ _) (bs_lt hF n))⟩
theorem bs_and (hF : ∀ v, brF g v < 40) {n : Nat} {b : Int} : Int64.ofInt ((setN (brF g) n / 2 ^ b.toNat : Nat) : Int) &&& Int64.ofInt 1 = Int64.ofInt ((setN (brF g) n / 2 ^ b.toNat % 2 : Nat) : Int) ∧ ax_64 ((setN (brF g) n / 2 ^ b.toNat % 2 : Nat) : Int) :=
  ⟨b_and1 (Nat.lt_of_le_of_lt (Nat.div_le_self _ _) (bs_lt hF n)), b_64 (Nat.lt_of_lt_of_le (Nat.mod_lt _ (by decide)) (by decide))⟩
theorem bs_shl {b : Int} (h0 : 0 ≤ b) (h1 : b < 40) : Int64.ofInt 1 <<< ((Int32.ofInt b).toInt64 &&& 63) = Int64.ofInt ((2 ^ b.toNat : Nat) : Int) ∧ ax_64 ((2 ^ b.toNat : Nat) : Int) := ⟨b_shl h0 (by omega), b_64 (bs_pw h1)⟩
theorem bs_s {u : Int} (h : 0 ≤ u) : setN (brF g) (u + 1).toNat = setN (brF g) u.toNat ||| (if brF g u < 0 then 0 else 2 ^ (brF g u).toNat) := by
  obtain ⟨m, rfl⟩ := Int.eq_ofNat_of_zero_le h
  have e : ((m : Int) + 1).toNat = m + 1 := by omega
  rw [e]
  rfl
theorem bs_or1 (hF : ∀ v, brF g v < 40) {u : Int} (h : 0 ≤ u) (h0 : 0 ≤ brF g u) : Int64.ofInt ((setN (brF g) u.toNat : Nat) : Int) ||| Int64.ofInt ((2 ^ (brF g u).toNat : Nat) : Int) = Int64.ofInt ((setN (brF g) (u + 1).toNat : Nat) : Int) ∧ ax_64 ((setN (brF g) (u + 1).toNat : Nat) : Int) := by
  refine ⟨?_, b_64 (bs_lt hF _)⟩
  rw [b_or (bs_lt hF _) (bs_pw (hF u)), bs_s h, if_neg (by omega)]
theorem bs_or0 (hF : ∀ v, brF g v < 40) {u : Int} (h : 0 ≤ u) (h0 : brF g u < 0) : Int64.ofInt ((setN (brF g) u.toNat : Nat) : Int) ||| Int64.ofInt 0 = Int64.ofInt ((setN (brF g) (u + 1).toNat : Nat) : Int) ∧ ax_64 ((setN (brF g) (u + 1).toNat : Nat) : Int) := by
  refine ⟨?_, b_64 (bs_lt hF _)⟩
  rw [show (0 : Int) = ((0 : Nat) : Int) from rfl, b_or (bs_lt hF _) (by decide), bs_s h, if_pos h0]
end BS
theorem brF_40 {hi : Hi} {nb nk kd : Int} (hI : Inv hi nb nk) {g : Hi} (P : PlnC hi nb nk kd g) : ∀ v, brF g v < 40 := fun v => by
  have hn := hI.num
  unfold vNum at hn
  rcases pln_at hI P (u := v) with q | q <;> omega
theorem K_L_arePlans {hi : Hi} {nb nk : Int} {kd : Int} (hI : Inv hi nb nk) (hdy : 0 ≤ hi 6 0 8 ∧ hi 6 0 8 ≤ 9000) (hk : 0 ≤ kd ∧ kd ≤ 2) : Con I_L_arePlans [aR 6 0, aI (hi 6 0 8), aI kd] (hp hi nb nk) (fun r h => r = some (aI 1) ∧ ∃ g : Hi, h = hp (mix hi g) nb nk) (fun _ _ => False) := by
  have hN := hI.num
  unfold vNum at hN
  refine st_r (xs := [some (aR 6 0), some (aI (hi 6 0 8)), some (aI kd), none, none, none, none, none, none]) pn_L rfl rfl (Nat.le_of_ble_eq_true rfl) rfl rfl (fun Q X hQ hX => ?_)
  refine r_aload_n (pc := 0) dL_arePlans_0 rfl ?_
  refine r_bipush (pc := 1) (n := 9) dL_arePlans_1 rfl (by decide) ?_
  refine r_iload_n (pc := 3) dL_arePlans_3 rfl ?_
  refine r_iconst (pc := 4) (n := 0) dL_arePlans_4 (by decide) ?_
  refine r_iconst (pc := 5) (n := 0) dL_arePlans_5 (by decide) ?_
  refine r_iconst (pc := 6) (n := 0) dL_arePlans_6 (by decide) ?_
  refine r_callSX (pc := 7) (rest := []) (cs' := 58) (sl' := 461) ms_L_81 (by simp [I_L_ask]) (A_bring hI (b := 0) (c := 0) (d := 0) hk) rfl ⟨(Nat.le_of_ble_eq_true rfl), (Nat.le_of_ble_eq_true rfl)⟩ (Nat.le_of_ble_eq_true rfl) dL_arePlans_7 ⟨rfl, (by show _ ≤ 1000; omega)⟩ ⟨rfl, (by show _ ≤ 9000; omega)⟩ rfl (fun r9 h9 hq9 => ?_) (fun E9 h9 hx9 => hx9.elim)
  obtain ⟨g, rfl, h9c⟩ := hq9
  rcases h9c with ⟨u5, rfl, P⟩ | ⟨u5, rfl⟩
  · have cA := pln_c0 hI P
    have hF := brF_40 hI P
    show Run _ 10 _ [aI (g 5 0 10)] (hp (mix hi g) nb nk) _ _ _ _
    refine r_istore_n (pc := 10) (xs' := [some (aR 6 0), some (aI (hi 6 0 8)), some (aI kd), some (aI (g 5 0 10)), none, none, none, none, none]) dL_arePlans_10 (by decide) rfl ?_
    refine r_iload_n (pc := 11) dL_arePlans_11 rfl ?_
    refine r_if_ge (pc := 12) (tgt := 38) dL_arePlans_12 rfl (fun c12 => ?_) (fun c12 => (by exfalso; have := cA.1; omega))
    refine r_iconst (pc := 38) (n := 1) dL_arePlans_38 (by decide) ?_
    refine r_goto (pc := 39) (tgt := 43) dL_arePlans_39 rfl ?_
    refine r_istore (pc := 43) (xs' := [some (aR 6 0), some (aI (hi 6 0 8)), some (aI kd), some (aI (g 5 0 10)), some (aI 1), none, none, none, none]) dL_arePlans_43 (by decide) rfl ?_
    refine r_lconst (pc := 45) (v := 0) dL_arePlans_45 rfl (by decide) ?_
    refine r_lstore (pc := 46) (xs' := [some (aR 6 0), some (aI (hi 6 0 8)), some (aI kd), some (aI (g 5 0 10)), some (aI 1), some (aL 0), some (aL 0), none, none]) dL_arePlans_46 (Nat.le_of_ble_eq_true rfl) (fun w h => by first | (cases h; rfl) | cases h) (fun j w e h => by obtain rfl : j = 4 := (by omega); first | (cases h; rfl) | cases h) rfl ?_
    refine r_iconst (pc := 48) (n := 0) dL_arePlans_48 (by decide) ?_
    refine r_istore (pc := 49) (xs' := [some (aR 6 0), some (aI (hi 6 0 8)), some (aI kd), some (aI (g 5 0 10)), some (aI 1), some (aL 0), some (aL 0), some (aI 0), none]) dL_arePlans_49 (by decide) rfl ?_
    have loop : ∀ (n9 : Nat) (u : Int) (g2 : Hi) (c_loop s_loop : Nat), (0 ≤ u ∧ u ≤ 6) → 6 - u + 1 < (n9 : Int) → ((c_loop : Nat) : Int) + 70 * (6 - u + 1) ≤ 700 → ((s_loop : Nat) : Int) + 533 * (6 - u + 1) ≤ 5000 → Run I_L_arePlans 51 [some (aR 6 0), some (aI (hi 6 0 8)), some (aI kd), some (aI (g 5 0 10)), some (aI 1), some (aL ((setN (brF g) (u).toNat : Nat) : Int)), some (aL ((setN (brF g) (u).toNat : Nat) : Int)), some (aI u), none] [] (hp (mix hi g2) nb nk) c_loop s_loop Q X := by
      intro n9
      induction n9 with
      | zero => intro u g2 c_loop s_loop h0 hf9 hc9 hs9; exfalso; omega
      | succ n9 ih_loop =>
        intro u g2 c_loop s_loop h0 hf9 hc9 hs9
        refine r_iload (pc := 51) dL_arePlans_51 rfl ?_
        refine r_bipush (pc := 53) (n := 6) dL_arePlans_53 rfl (by decide) ?_
        refine r_icmp_ge (pc := 55) (tgt := 204) dL_arePlans_55 rfl (fun c55 => ?_) (fun c55 => ?_)
        · refine r_iload (pc := 204) dL_arePlans_204 rfl ?_
          refine r_if_eq (pc := 206) (tgt := 224) dL_arePlans_206 rfl (fun z => absurd z (by decide)) (fun _ => ?_)
          refine r_iload_n (pc := 209) dL_arePlans_209 rfl ?_
          refine r_if_le (pc := 210) (tgt := 220) dL_arePlans_210 rfl (fun c210 => ?_) (fun c210 => ?_)
          · refine r_iconst (pc := 220) (n := 1) dL_arePlans_220 (by decide) ?_
            refine r_goto (pc := 221) (tgt := 225) dL_arePlans_221 rfl ?_
            refine r_iret (pc := 225) dL_arePlans_225 (Or.inr ⟨rfl, Or.inr rfl⟩) (by show _ ≤ 1000; omega) (by show _ ≤ 9000; omega) ?_
            exact hQ _ _ ⟨rfl, g2, rfl⟩
          · refine r_lload (pc := 213) dL_arePlans_213 rfl rfl ?_
            refine r_lconst (pc := 215) (v := 0) dL_arePlans_215 rfl (by decide) ?_
            refine r_lcmp (pc := 216) dL_arePlans_216 ?_
            refine r_if_eq (pc := 217) (tgt := 224) dL_arePlans_217 rfl (fun c217 => (by exfalso; obtain ⟨v, v0, v1, v2⟩ := cA.2 (by omega) u5; exact cmp_ne (fun z => setN_ne (f := brF g) (u := u.toNat) (v := v.toNat) (by omega) (by rw [show ((v.toNat : Nat) : Int) = v by omega]; exact v2) (by exact_mod_cast z)) c217)) (fun c217 => ?_)
            refine r_iconst (pc := 220) (n := 1) dL_arePlans_220 (by decide) ?_
            refine r_goto (pc := 221) (tgt := 225) dL_arePlans_221 rfl ?_
            refine r_iret (pc := 225) dL_arePlans_225 (Or.inr ⟨rfl, Or.inr rfl⟩) (by show _ ≤ 1000; omega) (by show _ ≤ 9000; omega) ?_
            exact hQ _ _ ⟨rfl, g2, rfl⟩
        · refine r_iload (pc := 58) dL_arePlans_58 rfl ?_
          refine r_if_eq (pc := 60) (tgt := 204) dL_arePlans_60 rfl (fun z => absurd z (by decide)) (fun _ => ?_)
          refine r_iload_n (pc := 63) dL_arePlans_63 rfl ?_
          refine r_if_lt (pc := 64) (tgt := 204) dL_arePlans_64 rfl (fun c64 => (by exfalso; have := cA.1; omega)) (fun c64 => ?_)
          refine r_aload_n (pc := 67) dL_arePlans_67 rfl ?_
          refine r_bipush (pc := 68) (n := 10) dL_arePlans_68 rfl (by decide) ?_
          refine r_iload_n (pc := 70) dL_arePlans_70 rfl ?_
          refine r_iload (pc := 71) dL_arePlans_71 rfl ?_
          refine r_iconst (pc := 73) (n := 0) dL_arePlans_73 (by decide) ?_
          refine r_iconst (pc := 74) (n := 0) dL_arePlans_74 (by decide) ?_
          refine r_callSX (pc := 75) (rest := []) (cs' := (c_loop + 58)) (sl' := (s_loop + 461)) ms_L_81 (by simp [I_L_ask]) (A_brings (hI.mx (g := g2)) (u := u) (c := 0) (d := 0) hk h0.1) rfl ⟨(Nat.le_of_ble_eq_true rfl), (Nat.le_of_ble_eq_true rfl)⟩ (Nat.le_of_ble_eq_true rfl) dL_arePlans_75 ⟨rfl, (by show _ ≤ 1000; omega)⟩ ⟨rfl, (by show _ ≤ 9000; omega)⟩ rfl (fun r9 h9 hq9 => ?_) (fun E9 h9 hx9 => hx9.elim)
          obtain ⟨g3, rfl, h9c⟩ := hq9
          rcases h9c with ⟨u6, rfl, P3⟩ | ⟨u6, rfl⟩
          · have e9 : (if 0 ≤ u ∧ u < g3 5 0 8 ∧ u < 5 then g3 20 0 u else -1) = brF g u := pln_same hI P (show PlnC hi nb nk kd g3 from P3)
            rw [e9]
            show Run _ 78 _ [aI (brF g u)] (hp (mix (mix hi g2) g3) nb nk) _ _ _ _
            refine r_hp (hi' := mix hi g3) mix_mix ?_
            have h40 := hF u
            rcases pln_at hI P (u := u) with e1 | ⟨v1, v2, v3, v4, hP⟩
            · refine r_istore (pc := 78) (xs' := [some (aR 6 0), some (aI (hi 6 0 8)), some (aI kd), some (aI (g 5 0 10)), some (aI 1), some (aL ((setN (brF g) (u).toNat : Nat) : Int)), some (aL ((setN (brF g) (u).toNat : Nat) : Int)), some (aI u), some (aI (brF g u))]) dL_arePlans_78 (by decide) rfl ?_
              refine r_iload (pc := 80) dL_arePlans_80 rfl ?_
              refine r_iconst (pc := 82) (n := (-1)) dL_arePlans_82 (by decide) ?_
              refine r_icmp_lt (pc := 83) (tgt := 177) dL_arePlans_83 rfl (fun c83 => (by exfalso; omega)) (fun c83 => ?_)
              refine r_iload (pc := 86) dL_arePlans_86 rfl ?_
              refine r_if_lt (pc := 88) (tgt := 173) dL_arePlans_88 rfl (fun c88 => ?_) (fun c88 => (by exfalso; omega))
              refine r_iconst (pc := 173) (n := 1) dL_arePlans_173 (by decide) ?_
              refine r_goto (pc := 174) (tgt := 178) dL_arePlans_174 rfl ?_
              refine r_istore (pc := 178) (xs' := [some (aR 6 0), some (aI (hi 6 0 8)), some (aI kd), some (aI (g 5 0 10)), some (aI 1), some (aL ((setN (brF g) (u).toNat : Nat) : Int)), some (aL ((setN (brF g) (u).toNat : Nat) : Int)), some (aI u), some (aI (brF g u))]) dL_arePlans_178 (by decide) rfl ?_
              refine r_lload (pc := 180) dL_arePlans_180 rfl rfl ?_
              refine r_iload (pc := 182) dL_arePlans_182 rfl ?_
              refine r_if_ge (pc := 184) (tgt := 191) dL_arePlans_184 rfl (fun c184 => (by exfalso; omega)) (fun c184 => ?_)
              refine r_lconst (pc := 187) (v := 0) dL_arePlans_187 rfl (by decide) ?_
              refine r_goto (pc := 188) (tgt := 195) dL_arePlans_188 rfl ?_
              refine r_lor (pc := 195) (z := ((setN (brF g) (u + 1).toNat : Nat) : Int)) dL_arePlans_195 (bs_or0 hF h0.1 (by omega)).1 (bs_or0 hF h0.1 (by omega)).2 ?_
              refine r_lstore (pc := 196) (xs' := [some (aR 6 0), some (aI (hi 6 0 8)), some (aI kd), some (aI (g 5 0 10)), some (aI 1), some (aL ((setN (brF g) (u + 1).toNat : Nat) : Int)), some (aL ((setN (brF g) (u + 1).toNat : Nat) : Int)), some (aI u), some (aI (brF g u))]) dL_arePlans_196 (Nat.le_of_ble_eq_true rfl) (fun w h => by first | (cases h; rfl) | cases h) (fun j w e h => by obtain rfl : j = 4 := (by omega); first | (cases h; rfl) | cases h) rfl ?_
              refine r_iinc (pc := 198) (xs' := [some (aR 6 0), some (aI (hi 6 0 8)), some (aI kd), some (aI (g 5 0 10)), some (aI 1), some (aL ((setN (brF g) (u + 1).toNat : Nat) : Int)), some (aL ((setN (brF g) (u + 1).toNat : Nat) : Int)), some (aI (u + 1)), some (aI (brF g u))]) dL_arePlans_198 rfl (by decide) (by omega) rfl ?_
              refine r_goto (pc := 201) (tgt := 51) dL_arePlans_201 rfl ?_
              refine r_drop (xs' := [some (aR 6 0), some (aI (hi 6 0 8)), some (aI kd), some (aI (g 5 0 10)), some (aI 1), some (aL ((setN (brF g) (u + 1).toNat : Nat) : Int)), some (aL ((setN (brF g) (u + 1).toNat : Nat) : Int)), some (aI (u + 1)), none]) 8 rfl ?_
              refine r_hp (hi' := (mix hi g3)) (by rfl) ?_
              exact ih_loop (u + 1) g3 (c_loop + 58) (s_loop + 461) (by omega) (by omega) (by omega) (by omega)
            · refine r_istore (pc := 78) (xs' := [some (aR 6 0), some (aI (hi 6 0 8)), some (aI kd), some (aI (g 5 0 10)), some (aI 1), some (aL ((setN (brF g) (u).toNat : Nat) : Int)), some (aL ((setN (brF g) (u).toNat : Nat) : Int)), some (aI u), some (aI (brF g u))]) dL_arePlans_78 (by decide) rfl ?_
              refine r_iload (pc := 80) dL_arePlans_80 rfl ?_
              refine r_iconst (pc := 82) (n := (-1)) dL_arePlans_82 (by decide) ?_
              refine r_icmp_lt (pc := 83) (tgt := 177) dL_arePlans_83 rfl (fun c83 => (by exfalso; omega)) (fun c83 => ?_)
              refine r_iload (pc := 86) dL_arePlans_86 rfl ?_
              refine r_if_lt (pc := 88) (tgt := 173) dL_arePlans_88 rfl (fun c88 => (by exfalso; omega)) (fun c88 => ?_)
              refine r_lload (pc := 91) dL_arePlans_91 rfl rfl ?_
              refine r_iload (pc := 93) dL_arePlans_93 rfl ?_
              refine r_lshr (pc := 95) (z := ((setN (brF g) (u).toNat / 2 ^ (brF g u).toNat : Nat) : Int)) dL_arePlans_95 (bs_shr hF v3 h40).1 (bs_shr hF v3 h40).2 ?_
              refine r_lconst (pc := 96) (v := 1) dL_arePlans_96 rfl (by decide) ?_
              refine r_land (pc := 97) (z := ((setN (brF g) (u).toNat / 2 ^ (brF g u).toNat % 2 : Nat) : Int)) dL_arePlans_97 (bs_and hF (b := brF g u)).1 (bs_and hF (b := brF g u)).2 ?_
              refine r_lconst (pc := 98) (v := 0) dL_arePlans_98 rfl (by decide) ?_
              refine r_lcmp (pc := 99) dL_arePlans_99 ?_
              refine r_if_ne (pc := 100) (tgt := 177) dL_arePlans_100 rfl (fun c100 => absurd (cmp_eq (by rw [setN_no v3 (fun v hv => pln_inj hI P (by omega) v3)]; rfl)) c100) (fun c100 => ?_)
              refine r_aload_n (pc := 103) dL_arePlans_103 rfl ?_
              refine r_iload (pc := 104) dL_arePlans_104 rfl ?_
              refine r_iconst (pc := 106) (n := 0) dL_arePlans_106 (by decide) ?_
              refine d1_V (pc := 107) (t := 6) (i := 0) (rest := []) (cs' := (c_loop + 60)) (sl' := (s_loop + 473)) mv_L_75 (KL_boxIs (hI.mx (g := g3)) (b := brF g u) (w := 0) (v := hi 1 (brF g u) 0) (by omega) (by omega) (by omega) is_0) rfl ⟨(Nat.le_of_ble_eq_true rfl), (Nat.le_of_ble_eq_true rfl)⟩ (Nat.le_of_ble_eq_true rfl) dL_arePlans_107 (show (0 : Int) ≤ 0 by omega) (show 0 < 1 by omega) ⟨rfl, (by show _ ≤ 1000; omega)⟩ ⟨rfl, (by show _ ≤ 9000; omega)⟩ rfl ?_
              refine r_iload_n (pc := 110) dL_arePlans_110 rfl ?_
              refine r_icmp_ne (pc := 111) (tgt := 177) dL_arePlans_111 rfl (fun c111 => absurd hP.1 c111) (fun c111 => ?_)
              refine r_aload_n (pc := 114) dL_arePlans_114 rfl ?_
              refine r_iload (pc := 115) dL_arePlans_115 rfl ?_
              refine r_iconst (pc := 117) (n := 2) dL_arePlans_117 (by decide) ?_
              refine d1_V (pc := 118) (t := 6) (i := 0) (rest := []) (cs' := (c_loop + 62)) (sl' := (s_loop + 485)) mv_L_75 (KL_boxIs (hI.mx (g := g3)) (b := brF g u) (w := 2) (v := 0) (by omega) (by omega) (by omega) (is_2z (hi := mix hi g3) hP.2.1.1)) rfl ⟨(Nat.le_of_ble_eq_true rfl), (Nat.le_of_ble_eq_true rfl)⟩ (Nat.le_of_ble_eq_true rfl) dL_arePlans_118 (show (0 : Int) ≤ 0 by omega) (show 0 < 1 by omega) ⟨rfl, (by show _ ≤ 1000; omega)⟩ ⟨rfl, (by show _ ≤ 9000; omega)⟩ rfl ?_
              refine r_if_ne (pc := 121) (tgt := 177) dL_arePlans_121 rfl (fun z => absurd z (by decide)) (fun _ => ?_)
              refine r_aload_n (pc := 124) dL_arePlans_124 rfl ?_
              refine r_iload (pc := 125) dL_arePlans_125 rfl ?_
              refine r_iconst (pc := 127) (n := 3) dL_arePlans_127 (by decide) ?_
              refine d1_V (pc := 128) (t := 6) (i := 0) (rest := []) (cs' := (c_loop + 64)) (sl' := (s_loop + 497)) mv_L_75 (KL_boxIs (hI.mx (g := g3)) (b := brF g u) (w := 3) (v := 0) (by omega) (by omega) (by omega) ((is_3 (hi := mix hi g3)).trans hP.2.1.2.2.1)) rfl ⟨(Nat.le_of_ble_eq_true rfl), (Nat.le_of_ble_eq_true rfl)⟩ (Nat.le_of_ble_eq_true rfl) dL_arePlans_128 (show (0 : Int) ≤ 0 by omega) (show 0 < 1 by omega) ⟨rfl, (by show _ ≤ 1000; omega)⟩ ⟨rfl, (by show _ ≤ 9000; omega)⟩ rfl ?_
              refine r_if_ne (pc := 131) (tgt := 177) dL_arePlans_131 rfl (fun z => absurd z (by decide)) (fun _ => ?_)
              refine r_aload_n (pc := 134) dL_arePlans_134 rfl ?_
              refine r_iload (pc := 135) dL_arePlans_135 rfl ?_
              refine r_iconst (pc := 137) (n := 4) dL_arePlans_137 (by decide) ?_
              refine d1_V (pc := 138) (t := 6) (i := 0) (rest := []) (cs' := (c_loop + 66)) (sl' := (s_loop + 509)) mv_L_75 (KL_boxIs (hI.mx (g := g3)) (b := brF g u) (w := 4) (v := (-1)) (by omega) (by omega) (by omega) ((is_4 (hi := mix hi g3)).trans hP.2.1.2.1)) rfl ⟨(Nat.le_of_ble_eq_true rfl), (Nat.le_of_ble_eq_true rfl)⟩ (Nat.le_of_ble_eq_true rfl) dL_arePlans_138 (show (0 : Int) ≤ 0 by omega) (show 0 < 1 by omega) ⟨rfl, (by show _ ≤ 1000; omega)⟩ ⟨rfl, (by show _ ≤ 9000; omega)⟩ rfl ?_
              refine r_iconst (pc := 141) (n := (-1)) dL_arePlans_141 (by decide) ?_
              refine r_icmp_ne (pc := 142) (tgt := 177) dL_arePlans_142 rfl (fun z => absurd z (by decide)) (fun _ => ?_)
              refine r_aload_n (pc := 145) dL_arePlans_145 rfl ?_
              refine r_iload (pc := 146) dL_arePlans_146 rfl ?_
              refine r_iconst (pc := 148) (n := 5) dL_arePlans_148 (by decide) ?_
              refine d1_V (pc := 149) (t := 6) (i := 0) (rest := []) (cs' := (c_loop + 68)) (sl' := (s_loop + 521)) mv_L_75 (KL_boxIs (hI.mx (g := g3)) (b := brF g u) (w := 5) (v := 0) (by omega) (by omega) (by omega) ((is_5 (hi := mix hi g3)).trans hP.2.1.2.2.2.2)) rfl ⟨(Nat.le_of_ble_eq_true rfl), (Nat.le_of_ble_eq_true rfl)⟩ (Nat.le_of_ble_eq_true rfl) dL_arePlans_149 (show (0 : Int) ≤ 0 by omega) (show 0 < 1 by omega) ⟨rfl, (by show _ ≤ 1000; omega)⟩ ⟨rfl, (by show _ ≤ 9000; omega)⟩ rfl ?_
              refine r_if_ne (pc := 152) (tgt := 177) dL_arePlans_152 rfl (fun z => absurd z (by decide)) (fun _ => ?_)
              refine r_aload_n (pc := 155) dL_arePlans_155 rfl ?_
              refine r_iload (pc := 156) dL_arePlans_156 rfl ?_
              refine r_iload_n (pc := 158) dL_arePlans_158 rfl ?_
              refine d1_V (pc := 159) (t := 6) (i := 0) (rest := []) (cs' := (c_loop + 70)) (sl' := (s_loop + 533)) mv_L_66 (show Det I_X6_place [aR 6 0, aI (brF g u), aI (hi 6 0 8)] (hp (mix hi g3) nb nk) (some (aI (plcC hi (brF g u) (hi 6 0 8)))) (hp (mix hi g3) nb nk) from KL_place (hI.mx (g := g3)) (by omega) (by omega) (by omega)) rfl ⟨(Nat.le_of_ble_eq_true rfl), (Nat.le_of_ble_eq_true rfl)⟩ (Nat.le_of_ble_eq_true rfl) dL_arePlans_159 (show (0 : Int) ≤ 0 by omega) (show 0 < 1 by omega) ⟨rfl, (by show _ ≤ 1000; omega)⟩ ⟨rfl, (by show _ ≤ 9000; omega)⟩ rfl ?_
              refine r_bipush (pc := 162) (n := 6) dL_arePlans_162 rfl (by decide) ?_
              refine r_icmp_ge (pc := 164) (tgt := 177) dL_arePlans_164 rfl (fun c164 => (by exfalso; have := hP.2.2.1; omega)) (fun c164 => ?_)
              refine r_iload (pc := 167) dL_arePlans_167 rfl ?_
              refine r_iconst (pc := 169) (n := 5) dL_arePlans_169 (by decide) ?_
              refine r_icmp_ge (pc := 170) (tgt := 177) dL_arePlans_170 rfl (fun c170 => (by exfalso; omega)) (fun c170 => ?_)
              refine r_iconst (pc := 173) (n := 1) dL_arePlans_173 (by decide) ?_
              refine r_goto (pc := 174) (tgt := 178) dL_arePlans_174 rfl ?_
              refine r_istore (pc := 178) (xs' := [some (aR 6 0), some (aI (hi 6 0 8)), some (aI kd), some (aI (g 5 0 10)), some (aI 1), some (aL ((setN (brF g) (u).toNat : Nat) : Int)), some (aL ((setN (brF g) (u).toNat : Nat) : Int)), some (aI u), some (aI (brF g u))]) dL_arePlans_178 (by decide) rfl ?_
              refine r_lload (pc := 180) dL_arePlans_180 rfl rfl ?_
              refine r_iload (pc := 182) dL_arePlans_182 rfl ?_
              refine r_if_ge (pc := 184) (tgt := 191) dL_arePlans_184 rfl (fun c184 => ?_) (fun c184 => (by exfalso; omega))
              refine r_lconst (pc := 191) (v := 1) dL_arePlans_191 rfl (by decide) ?_
              refine r_iload (pc := 192) dL_arePlans_192 rfl ?_
              refine r_lshl (pc := 194) (z := ((2 ^ (brF g u).toNat : Nat) : Int)) dL_arePlans_194 (bs_shl v3 h40).1 (bs_shl v3 h40).2 ?_
              refine r_lor (pc := 195) (z := ((setN (brF g) (u + 1).toNat : Nat) : Int)) dL_arePlans_195 (bs_or1 hF h0.1 v3).1 (bs_or1 hF h0.1 v3).2 ?_
              refine r_lstore (pc := 196) (xs' := [some (aR 6 0), some (aI (hi 6 0 8)), some (aI kd), some (aI (g 5 0 10)), some (aI 1), some (aL ((setN (brF g) (u + 1).toNat : Nat) : Int)), some (aL ((setN (brF g) (u + 1).toNat : Nat) : Int)), some (aI u), some (aI (brF g u))]) dL_arePlans_196 (Nat.le_of_ble_eq_true rfl) (fun w h => by first | (cases h; rfl) | cases h) (fun j w e h => by obtain rfl : j = 4 := (by omega); first | (cases h; rfl) | cases h) rfl ?_
              refine r_iinc (pc := 198) (xs' := [some (aR 6 0), some (aI (hi 6 0 8)), some (aI kd), some (aI (g 5 0 10)), some (aI 1), some (aL ((setN (brF g) (u + 1).toNat : Nat) : Int)), some (aL ((setN (brF g) (u + 1).toNat : Nat) : Int)), some (aI (u + 1)), some (aI (brF g u))]) dL_arePlans_198 rfl (by decide) (by omega) rfl ?_
              refine r_goto (pc := 201) (tgt := 51) dL_arePlans_201 rfl ?_
              refine r_drop (xs' := [some (aR 6 0), some (aI (hi 6 0 8)), some (aI kd), some (aI (g 5 0 10)), some (aI 1), some (aL ((setN (brF g) (u + 1).toNat : Nat) : Int)), some (aL ((setN (brF g) (u + 1).toNat : Nat) : Int)), some (aI (u + 1)), none]) 8 rfl ?_
              refine r_hp (hi' := (mix hi g3)) (by rfl) ?_
              exact ih_loop (u + 1) g3 (c_loop + 70) (s_loop + 533) (by omega) (by omega) (by omega) (by omega)
          · exact absurd (show 5 < sI (laC hi nk kd) 6 from u6) (by omega)
    refine r_hp (hi' := (mix hi g)) (by rfl) ?_
    exact loop 8 0 g 58 461 (by omega) (by omega) (by omega) (by omega)
  · show Run _ 10 _ [aI (-1013)] (hp (mix hi g) nb nk) _ _ _ _
    refine r_istore_n (pc := 10) (xs' := [some (aR 6 0), some (aI (hi 6 0 8)), some (aI kd), some (aI (-1013)), none, none, none, none, none]) dL_arePlans_10 (by decide) rfl ?_
    refine r_iload_n (pc := 11) dL_arePlans_11 rfl ?_
    refine r_if_ge (pc := 12) (tgt := 38) dL_arePlans_12 rfl (fun z => absurd z (by decide)) (fun _ => ?_)
    refine r_iload_n (pc := 15) dL_arePlans_15 rfl ?_
    refine r_sipush (pc := 16) (n := (-1013)) dL_arePlans_16 rfl (by decide) ?_
    refine r_icmp_ne (pc := 19) (tgt := 42) dL_arePlans_19 rfl (fun z => absurd z (by decide)) (fun _ => ?_)
    refine r_aload_n (pc := 22) dL_arePlans_22 rfl ?_
    refine r_bipush (pc := 23) (n := 10) dL_arePlans_23 rfl (by decide) ?_
    refine r_iload_n (pc := 25) dL_arePlans_25 rfl ?_
    refine r_iconst (pc := 26) (n := 0) dL_arePlans_26 (by decide) ?_
    refine r_iconst (pc := 27) (n := 0) dL_arePlans_27 (by decide) ?_
    refine r_iconst (pc := 28) (n := 0) dL_arePlans_28 (by decide) ?_
    refine r_callSX (pc := 29) (rest := []) (cs' := 116) (sl' := 922) ms_L_81 (by simp [I_L_ask]) (A_brings (hI.mx (g := g)) (u := 0) (c := 0) (d := 0) hk (by decide)) rfl ⟨(Nat.le_of_ble_eq_true rfl), (Nat.le_of_ble_eq_true rfl)⟩ (Nat.le_of_ble_eq_true rfl) dL_arePlans_29 ⟨rfl, (by show _ ≤ 1000; omega)⟩ ⟨rfl, (by show _ ≤ 9000; omega)⟩ rfl (fun r9 h9 hq9 => ?_) (fun E9 h9 hx9 => hx9.elim)
    obtain ⟨g2, rfl, h9c⟩ := hq9
    rcases h9c with ⟨u6, rfl, P2⟩ | ⟨u6, rfl⟩
    · exact absurd (show sI (laC hi nk kd) 6 ≤ 5 from u6) (by omega)
    · show Run _ 32 _ [aI (-1013)] (hp (mix (mix hi g) g2) nb nk) _ _ _ _
      refine r_hp (hi' := mix hi g2) mix_mix ?_
      refine r_sipush (pc := 32) (n := (-1013)) dL_arePlans_32 rfl (by decide) ?_
      refine r_icmp_ne (pc := 35) (tgt := 42) dL_arePlans_35 rfl (fun z => absurd z (by decide)) (fun _ => ?_)
      refine r_iconst (pc := 38) (n := 1) dL_arePlans_38 (by decide) ?_
      refine r_goto (pc := 39) (tgt := 43) dL_arePlans_39 rfl ?_
      refine r_istore (pc := 43) (xs' := [some (aR 6 0), some (aI (hi 6 0 8)), some (aI kd), some (aI (-1013)), some (aI 1), none, none, none, none]) dL_arePlans_43 (by decide) rfl ?_
      refine r_lconst (pc := 45) (v := 0) dL_arePlans_45 rfl (by decide) ?_
      refine r_lstore (pc := 46) (xs' := [some (aR 6 0), some (aI (hi 6 0 8)), some (aI kd), some (aI (-1013)), some (aI 1), some (aL 0), some (aL 0), none, none]) dL_arePlans_46 (Nat.le_of_ble_eq_true rfl) (fun w h => by first | (cases h; rfl) | cases h) (fun j w e h => by obtain rfl : j = 4 := (by omega); first | (cases h; rfl) | cases h) rfl ?_
      refine r_iconst (pc := 48) (n := 0) dL_arePlans_48 (by decide) ?_
      refine r_istore (pc := 49) (xs' := [some (aR 6 0), some (aI (hi 6 0 8)), some (aI kd), some (aI (-1013)), some (aI 1), some (aL 0), some (aL 0), some (aI 0), none]) dL_arePlans_49 (by decide) rfl ?_
      refine r_iload (pc := 51) dL_arePlans_51 rfl ?_
      refine r_bipush (pc := 53) (n := 6) dL_arePlans_53 rfl (by decide) ?_
      refine r_icmp_ge (pc := 55) (tgt := 204) dL_arePlans_55 rfl (fun z => absurd z (by decide)) (fun _ => ?_)
      refine r_iload (pc := 58) dL_arePlans_58 rfl ?_
      refine r_if_eq (pc := 60) (tgt := 204) dL_arePlans_60 rfl (fun z => absurd z (by decide)) (fun _ => ?_)
      refine r_iload_n (pc := 63) dL_arePlans_63 rfl ?_
      refine r_if_lt (pc := 64) (tgt := 204) dL_arePlans_64 rfl (fun _ => ?_) (fun z => absurd z (by decide))
      refine r_iload (pc := 204) dL_arePlans_204 rfl ?_
      refine r_if_eq (pc := 206) (tgt := 224) dL_arePlans_206 rfl (fun z => absurd z (by decide)) (fun _ => ?_)
      refine r_iload_n (pc := 209) dL_arePlans_209 rfl ?_
      refine r_if_le (pc := 210) (tgt := 220) dL_arePlans_210 rfl (fun _ => ?_) (fun z => absurd z (by decide))
      refine r_iconst (pc := 220) (n := 1) dL_arePlans_220 (by decide) ?_
      refine r_goto (pc := 221) (tgt := 225) dL_arePlans_221 rfl ?_
      refine r_iret (pc := 225) dL_arePlans_225 (Or.inr ⟨rfl, Or.inr rfl⟩) (by show _ ≤ 1000; omega) (by show _ ≤ 9000; omega) ?_
      exact hQ _ _ ⟨rfl, g2, rfl⟩

