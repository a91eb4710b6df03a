/-! ===== the reference: its public methods (walks printed by wip/whole/tools/g38.py) ===== -/
/-- nothing thrown -/
def thr (hi : Hi) : Hi := up1 hi 7 0 0 0
theorem MV.thrV {hi : Hi} {nb nk : Int} (h : MV hi nb nk) : MV (thr hi) nb nk := h.cong (fun k _ => ⟨fun _ j hj => by unfold thr; exact up1_n (fun z => hj z.2.2), fun hk => by funext i j; exact up1_n (fun z => hk z.1)⟩)
theorem K_X7_cost {hi : Hi} {nb nk : Int} (hM : MV hi nb nk) {a b c : Int}  : MOp I_X7_cost [aR 7 0, aI a, aI b, aI c] hi nb nk (cC_cost a b c) (some (aI 0)) (some (aI ((thr hi) 30 0 (6 * a + b)))) (hp (up1 (thr hi) 30 0 (6 * a + b) c) nb nk) := by
  have hN := hM.num
  unfold mNum at hN
  have hT := hM.thrV
  refine st_m (xs := [some (aR 7 0), some (aI a), some (aI b), some (aI c), none, none]) pn_X7 rfl rfl (Nat.le_of_ble_eq_true rfl) rfl rfl (fun Q X hQ hF => ?_)
  refine r_iload_n (pc := 0) dX7_cost_0 rfl ?_
  refine d1_S (pc := 1) (rest := []) (cs' := 0) (sl' := 0) ms_X7_118 rfl (K_X7_isPort (p := a)) rfl ⟨(Nat.le_of_ble_eq_true rfl), (Nat.le_of_ble_eq_true rfl)⟩ (Nat.le_of_ble_eq_true rfl) dX7_cost_1 ⟨rfl, (Nat.le_of_ble_eq_true rfl)⟩ ⟨rfl, (Nat.le_of_ble_eq_true rfl)⟩ rfl ?_
  refine q_ifeqB (pc := 4) (tgt := 18) dX7_cost_4 rfl (fun c4 => ?_) (fun c4 => ?_)
  · refine r_iconst (pc := 18) (n := 0) dX7_cost_18 (by decide) ?_
    refine r_istore (pc := 19) (xs' := [some (aR 7 0), some (aI a), some (aI b), some (aI c), some (aI 0), none]) dX7_cost_19 (by decide) rfl ?_
    refine r_aload_n (pc := 21) dX7_cost_21 rfl ?_
    refine r_iload (pc := 22) dX7_cost_22 rfl ?_
    refine r_if_ne (pc := 24) (tgt := 31) dX7_cost_24 rfl (fun z => absurd z (by decide)) (fun _ => ?_)
    refine r_iconst (pc := 27) (n := 1) dX7_cost_27 (by decide) ?_
    refine r_goto (pc := 28) (tgt := 48) dX7_cost_28 rfl ?_
    refine d1_V (pc := 48) (t := 7) (i := 0) (rest := []) (cs' := 0) (sl' := 0) mv_X7_125 (K_X7_holds (hi := hi) (e := 1) (v := 0) (by decide)) rfl ⟨(Nat.le_of_ble_eq_true rfl), (Nat.le_of_ble_eq_true rfl)⟩ (Nat.le_of_ble_eq_true rfl) dX7_cost_48 (show (0 : Int) ≤ 0 by omega) (show 0 < 1 by omega) ⟨rfl, (Nat.le_of_ble_eq_true rfl)⟩ ⟨rfl, (Nat.le_of_ble_eq_true rfl)⟩ rfl ?_
    refine r_if_ne (pc := 51) (tgt := 56) dX7_cost_51 rfl (fun z => absurd z (by decide)) (fun _ => ?_)
    refine r_iconst (pc := 54) (n := 0) dX7_cost_54 (by decide) ?_
    refine r_iret (pc := 55) dX7_cost_55 (Or.inl rfl) (Nat.le_of_ble_eq_true rfl) (Nat.le_of_ble_eq_true rfl) ?_
    exact hF 1 (by decide) (by unfold cC_cost; (repeat' split) <;> omega)
  · refine r_iload_n (pc := 7) dX7_cost_7 rfl ?_
    refine d1_S (pc := 8) (rest := []) (cs' := 0) (sl' := 0) ms_X7_118 rfl (K_X7_isPort (p := b)) rfl ⟨(Nat.le_of_ble_eq_true rfl), (Nat.le_of_ble_eq_true rfl)⟩ (Nat.le_of_ble_eq_true rfl) dX7_cost_8 ⟨rfl, (Nat.le_of_ble_eq_true rfl)⟩ ⟨rfl, (Nat.le_of_ble_eq_true rfl)⟩ rfl ?_
    refine q_ifeqB (pc := 11) (tgt := 18) dX7_cost_11 rfl (fun c11 => ?_) (fun c11 => ?_)
    · refine r_iconst (pc := 18) (n := 0) dX7_cost_18 (by decide) ?_
      refine r_istore (pc := 19) (xs' := [some (aR 7 0), some (aI a), some (aI b), some (aI c), some (aI 0), none]) dX7_cost_19 (by decide) rfl ?_
      refine r_aload_n (pc := 21) dX7_cost_21 rfl ?_
      refine r_iload (pc := 22) dX7_cost_22 rfl ?_
      refine r_if_ne (pc := 24) (tgt := 31) dX7_cost_24 rfl (fun z => absurd z (by decide)) (fun _ => ?_)
      refine r_iconst (pc := 27) (n := 1) dX7_cost_27 (by decide) ?_
      refine r_goto (pc := 28) (tgt := 48) dX7_cost_28 rfl ?_
      refine d1_V (pc := 48) (t := 7) (i := 0) (rest := []) (cs' := 0) (sl' := 0) mv_X7_125 (K_X7_holds (hi := hi) (e := 1) (v := 0) (by decide)) rfl ⟨(Nat.le_of_ble_eq_true rfl), (Nat.le_of_ble_eq_true rfl)⟩ (Nat.le_of_ble_eq_true rfl) dX7_cost_48 (show (0 : Int) ≤ 0 by omega) (show 0 < 1 by omega) ⟨rfl, (Nat.le_of_ble_eq_true rfl)⟩ ⟨rfl, (Nat.le_of_ble_eq_true rfl)⟩ rfl ?_
      refine r_if_ne (pc := 51) (tgt := 56) dX7_cost_51 rfl (fun z => absurd z (by decide)) (fun _ => ?_)
      refine r_iconst (pc := 54) (n := 0) dX7_cost_54 (by decide) ?_
      refine r_iret (pc := 55) dX7_cost_55 (Or.inl rfl) (Nat.le_of_ble_eq_true rfl) (Nat.le_of_ble_eq_true rfl) ?_
      exact hF 1 (by decide) (by unfold cC_cost; (repeat' split) <;> omega)
    · refine r_iconst (pc := 14) (n := 1) dX7_cost_14 (by decide) ?_
      refine r_goto (pc := 15) (tgt := 19) dX7_cost_15 rfl ?_
      refine r_istore (pc := 19) (xs' := [some (aR 7 0), some (aI a), some (aI b), some (aI c), some (aI 1), none]) dX7_cost_19 (by decide) rfl ?_
      refine r_aload_n (pc := 21) dX7_cost_21 rfl ?_
      refine r_iload (pc := 22) dX7_cost_22 rfl ?_
      refine r_if_ne (pc := 24) (tgt := 31) dX7_cost_24 rfl (fun _ => ?_) (fun z => absurd z (by decide))
      refine r_iload_n (pc := 31) dX7_cost_31 rfl ?_
      refine r_iload_n (pc := 32) dX7_cost_32 rfl ?_
      refine r_icmp_eq (pc := 33) (tgt := 43) dX7_cost_33 rfl (fun c33 => ?_) (fun c33 => ?_)
      · refine r_iconst (pc := 43) (n := 2) dX7_cost_43 (by decide) ?_
        refine r_goto (pc := 44) (tgt := 48) dX7_cost_44 rfl ?_
        refine d1_V (pc := 48) (t := 7) (i := 0) (rest := []) (cs' := 0) (sl' := 0) mv_X7_125 (K_X7_holds (hi := hi) (e := 2) (v := 0) (by decide)) rfl ⟨(Nat.le_of_ble_eq_true rfl), (Nat.le_of_ble_eq_true rfl)⟩ (Nat.le_of_ble_eq_true rfl) dX7_cost_48 (show (0 : Int) ≤ 0 by omega) (show 0 < 1 by omega) ⟨rfl, (Nat.le_of_ble_eq_true rfl)⟩ ⟨rfl, (Nat.le_of_ble_eq_true rfl)⟩ rfl ?_
        refine r_if_ne (pc := 51) (tgt := 56) dX7_cost_51 rfl (fun z => absurd z (by decide)) (fun _ => ?_)
        refine r_iconst (pc := 54) (n := 0) dX7_cost_54 (by decide) ?_
        refine r_iret (pc := 55) dX7_cost_55 (Or.inl rfl) (Nat.le_of_ble_eq_true rfl) (Nat.le_of_ble_eq_true rfl) ?_
        exact hF 2 (by decide) (by unfold cC_cost; (repeat' split) <;> omega)
      · refine r_iload_n (pc := 36) dX7_cost_36 rfl ?_
        refine d1_S (pc := 37) (rest := [aR 7 0]) (cs' := 0) (sl' := 0) ms_X7_122 rfl (K_X7_isDay (p := c)) rfl ⟨(Nat.le_of_ble_eq_true rfl), (Nat.le_of_ble_eq_true rfl)⟩ (Nat.le_of_ble_eq_true rfl) dX7_cost_37 ⟨rfl, (Nat.le_of_ble_eq_true rfl)⟩ ⟨rfl, (Nat.le_of_ble_eq_true rfl)⟩ rfl ?_
        refine q_ifneB (pc := 40) (tgt := 47) dX7_cost_40 rfl (fun c40 => ?_) (fun c40 => ?_)
        · refine r_iconst (pc := 47) (n := 0) dX7_cost_47 (by decide) ?_
          refine d1_V (pc := 48) (t := 7) (i := 0) (rest := []) (cs' := 0) (sl' := 0) mv_X7_125 (K_X7_holds (hi := hi) (e := 0) (v := 1) (by decide)) rfl ⟨(Nat.le_of_ble_eq_true rfl), (Nat.le_of_ble_eq_true rfl)⟩ (Nat.le_of_ble_eq_true rfl) dX7_cost_48 (show (0 : Int) ≤ 0 by omega) (show 0 < 1 by omega) ⟨rfl, (Nat.le_of_ble_eq_true rfl)⟩ ⟨rfl, (Nat.le_of_ble_eq_true rfl)⟩ rfl ?_
          refine r_hp (hi' := thr hi) rfl ?_
          refine r_if_ne (pc := 51) (tgt := 56) dX7_cost_51 rfl (fun _ => ?_) (fun z => absurd z (by decide))
          refine r_aload_n (pc := 56) dX7_cost_56 rfl ?_
          refine p_getQ (pc := 57) (jI := 2) (n9 := 1) (r := some (30, 0)) fl_X7_7 rfl dX7_cost_57 rfl rfl (by decide) (by decide) rfl ?_
          refine r_bipush (pc := 60) (n := 6) dX7_cost_60 rfl (by decide) ?_
          refine r_iload_n (pc := 62) dX7_cost_62 rfl ?_
          refine r_imul (pc := 63) dX7_cost_63 (by omega) ?_
          refine r_iload_n (pc := 64) dX7_cost_64 rfl ?_
          refine r_iadd (pc := 65) dX7_cost_65 (by omega) ?_
          refine q_iald (pc := 66) (n9 := 1) (nI := 36) (v := (thr hi) 30 0 ((6 * a) + b)) rfl dX7_cost_66 rfl (by decide) (by decide) rfl (by omega) (by omega) rfl ?_
          refine r_istore (pc := 67) (xs' := [some (aR 7 0), some (aI a), some (aI b), some (aI c), some (aI 1), some (aI ((thr hi) 30 0 ((6 * a) + b)))]) dX7_cost_67 (by decide) rfl ?_
          refine r_aload_n (pc := 69) dX7_cost_69 rfl ?_
          refine p_getQ (pc := 70) (jI := 2) (n9 := 1) (r := some (30, 0)) fl_X7_7 rfl dX7_cost_70 rfl rfl (by decide) (by decide) rfl ?_
          refine r_bipush (pc := 73) (n := 6) dX7_cost_73 rfl (by decide) ?_
          refine r_iload_n (pc := 75) dX7_cost_75 rfl ?_
          refine r_imul (pc := 76) dX7_cost_76 (by omega) ?_
          refine r_iload_n (pc := 77) dX7_cost_77 rfl ?_
          refine r_iadd (pc := 78) dX7_cost_78 (by omega) ?_
          refine r_iload_n (pc := 79) dX7_cost_79 rfl ?_
          refine p_iast (pc := 80) (n9 := 1) (nI := 36) rfl dX7_cost_80 rfl (by decide) (by decide) rfl (by omega) (by omega) ?_
          refine r_iload (pc := 81) dX7_cost_81 rfl ?_
          refine r_iret (pc := 83) dX7_cost_83 (Or.inl rfl) (Nat.le_of_ble_eq_true rfl) (Nat.le_of_ble_eq_true rfl) ?_
          exact hQ (by unfold cC_cost; (repeat' split) <;> omega)
        · refine r_iconst (pc := 43) (n := 2) dX7_cost_43 (by decide) ?_
          refine r_goto (pc := 44) (tgt := 48) dX7_cost_44 rfl ?_
          refine d1_V (pc := 48) (t := 7) (i := 0) (rest := []) (cs' := 0) (sl' := 0) mv_X7_125 (K_X7_holds (hi := hi) (e := 2) (v := 0) (by decide)) rfl ⟨(Nat.le_of_ble_eq_true rfl), (Nat.le_of_ble_eq_true rfl)⟩ (Nat.le_of_ble_eq_true rfl) dX7_cost_48 (show (0 : Int) ≤ 0 by omega) (show 0 < 1 by omega) ⟨rfl, (Nat.le_of_ble_eq_true rfl)⟩ ⟨rfl, (Nat.le_of_ble_eq_true rfl)⟩ rfl ?_
          refine r_if_ne (pc := 51) (tgt := 56) dX7_cost_51 rfl (fun z => absurd z (by decide)) (fun _ => ?_)
          refine r_iconst (pc := 54) (n := 0) dX7_cost_54 (by decide) ?_
          refine r_iret (pc := 55) dX7_cost_55 (Or.inl rfl) (Nat.le_of_ble_eq_true rfl) (Nat.le_of_ble_eq_true rfl) ?_
          exact hF 2 (by decide) (by unfold cC_cost; (repeat' split) <;> omega)

def mbxH (hi : Hi) (nb kd ls un : Int) : Hi := up1 (up1 (up1 (up1 (up1 (up1 (thr hi) 31 0 nb kd) 32 0 nb ls) 33 0 nb un) 35 0 nb (-1)) 36 0 nb (-1)) 7 0 9 (nb + 1)
theorem K_X7_box {hi : Hi} {nb nk : Int} (hM : MV hi nb nk) {kd ls un : Int} {na nc : Int}  : MOp I_X7_box [aR 7 0, aI kd, aI ls, aI un] hi na nc (cC_box nb kd ls un) (some (aI 0)) (some (aI nb)) (hp (mbxH hi nb kd ls un) na nc) := by
  have hN := hM.num
  unfold mNum at hN
  have hT := hM.thrV
  refine st_m (xs := [some (aR 7 0), some (aI kd), some (aI ls), some (aI un), none]) pn_X7 rfl rfl (Nat.le_of_ble_eq_true rfl) rfl rfl (fun Q X hQ hF => ?_)
  refine r_iload_n (pc := 0) dX7_box_0 rfl ?_
  refine r_iconst (pc := 1) (n := (-1)) dX7_box_1 (by decide) ?_
  refine r_iconst (pc := 2) (n := 2) dX7_box_2 (by decide) ?_
  refine d1_S (pc := 3) (rest := []) (cs' := 0) (sl' := 0) ms_X7_111 rfl (K_X7_isIn (v := ls) (lo := (-1)) (up := 2)) rfl ⟨(Nat.le_of_ble_eq_true rfl), (Nat.le_of_ble_eq_true rfl)⟩ (Nat.le_of_ble_eq_true rfl) dX7_box_3 ⟨rfl, (Nat.le_of_ble_eq_true rfl)⟩ ⟨rfl, (Nat.le_of_ble_eq_true rfl)⟩ rfl ?_
  refine r_istore (pc := 6) (xs' := [some (aR 7 0), some (aI kd), some (aI ls), some (aI un), some (aI (bI ((-1) ≤ ls ∧ ls ≤ 2)))]) dX7_box_6 (by decide) rfl ?_
  refine r_aload_n (pc := 8) dX7_box_8 rfl ?_
  refine r_iload (pc := 9) dX7_box_9 rfl ?_
  refine q_ifneB (pc := 11) (tgt := 18) dX7_box_11 rfl (fun c11 => ?_) (fun c11 => ?_)
  · refine r_iload_n (pc := 18) dX7_box_18 rfl ?_
    refine d1_S (pc := 19) (rest := [aR 7 0]) (cs' := 0) (sl' := 0) ms_X7_128 rfl (K_X7_isKind (p := kd)) rfl ⟨(Nat.le_of_ble_eq_true rfl), (Nat.le_of_ble_eq_true rfl)⟩ (Nat.le_of_ble_eq_true rfl) dX7_box_19 ⟨rfl, (Nat.le_of_ble_eq_true rfl)⟩ ⟨rfl, (Nat.le_of_ble_eq_true rfl)⟩ rfl ?_
    refine q_ifeqB (pc := 22) (tgt := 32) dX7_box_22 rfl (fun c22 => ?_) (fun c22 => ?_)
    · refine r_iconst (pc := 32) (n := 2) dX7_box_32 (by decide) ?_
      refine r_goto (pc := 33) (tgt := 50) dX7_box_33 rfl ?_
      refine d1_V (pc := 50) (t := 7) (i := 0) (rest := []) (cs' := 0) (sl' := 0) mv_X7_125 (K_X7_holds (hi := hi) (e := 2) (v := 0) (by decide)) rfl ⟨(Nat.le_of_ble_eq_true rfl), (Nat.le_of_ble_eq_true rfl)⟩ (Nat.le_of_ble_eq_true rfl) dX7_box_50 (show (0 : Int) ≤ 0 by omega) (show 0 < 1 by omega) ⟨rfl, (Nat.le_of_ble_eq_true rfl)⟩ ⟨rfl, (Nat.le_of_ble_eq_true rfl)⟩ rfl ?_
      refine r_if_ne (pc := 53) (tgt := 58) dX7_box_53 rfl (fun z => absurd z (by decide)) (fun _ => ?_)
      refine r_iconst (pc := 56) (n := 0) dX7_box_56 (by decide) ?_
      refine r_iret (pc := 57) dX7_box_57 (Or.inl rfl) (Nat.le_of_ble_eq_true rfl) (Nat.le_of_ble_eq_true rfl) ?_
      exact hF 2 (by decide) (by unfold cC_box; (repeat' split) <;> omega)
    · refine r_iload_n (pc := 25) dX7_box_25 rfl ?_
      refine d1_S (pc := 26) (rest := [aR 7 0]) (cs' := 0) (sl' := 0) ms_X7_122 rfl (K_X7_isDay (p := un)) rfl ⟨(Nat.le_of_ble_eq_true rfl), (Nat.le_of_ble_eq_true rfl)⟩ (Nat.le_of_ble_eq_true rfl) dX7_box_26 ⟨rfl, (Nat.le_of_ble_eq_true rfl)⟩ ⟨rfl, (Nat.le_of_ble_eq_true rfl)⟩ rfl ?_
      refine q_ifneB (pc := 29) (tgt := 36) dX7_box_29 rfl (fun c29 => ?_) (fun c29 => ?_)
      · refine r_aload_n (pc := 36) dX7_box_36 rfl ?_
        refine q_getI (pc := 37) (jI := 9) (n9 := 1) (v := hi 7 0 9) fl_X7_115 rfl dX7_box_37 rfl rfl (by decide) (by decide) rfl ?_
        refine r_bipush (pc := 40) (n := 40) dX7_box_40 rfl (by decide) ?_
        refine r_icmp_ne (pc := 42) (tgt := 49) dX7_box_42 rfl (fun c42 => ?_) (fun c42 => ?_)
        · refine r_iconst (pc := 49) (n := 0) dX7_box_49 (by decide) ?_
          refine d1_V (pc := 50) (t := 7) (i := 0) (rest := []) (cs' := 0) (sl' := 0) mv_X7_125 (K_X7_holds (hi := hi) (e := 0) (v := 1) (by decide)) rfl ⟨(Nat.le_of_ble_eq_true rfl), (Nat.le_of_ble_eq_true rfl)⟩ (Nat.le_of_ble_eq_true rfl) dX7_box_50 (show (0 : Int) ≤ 0 by omega) (show 0 < 1 by omega) ⟨rfl, (Nat.le_of_ble_eq_true rfl)⟩ ⟨rfl, (Nat.le_of_ble_eq_true rfl)⟩ rfl ?_
          refine r_hp (hi' := thr hi) rfl ?_
          refine r_if_ne (pc := 53) (tgt := 58) dX7_box_53 rfl (fun _ => ?_) (fun z => absurd z (by decide))
          refine r_aload_n (pc := 58) dX7_box_58 rfl ?_
          refine p_getQ (pc := 59) (jI := 3) (n9 := 1) (r := some (31, 0)) fl_X7_13 rfl dX7_box_59 rfl rfl (by decide) (by decide) rfl ?_
          refine r_aload_n (pc := 62) dX7_box_62 rfl ?_
          refine q_getI (pc := 63) (jI := 9) (n9 := 1) (v := nb) fl_X7_115 rfl dX7_box_63 rfl rfl (by decide) (by decide) (by show hi 7 0 9 = nb; omega) ?_
          refine r_iload_n (pc := 66) dX7_box_66 rfl ?_
          refine p_iast (pc := 67) (n9 := 1) (nI := 40) rfl dX7_box_67 rfl (by decide) (by decide) rfl (by omega) (by omega) ?_
          refine r_aload_n (pc := 68) dX7_box_68 rfl ?_
          refine p_getQ (pc := 69) (jI := 4) (n9 := 1) (r := some (32, 0)) fl_X7_16 rfl dX7_box_69 rfl rfl (by decide) (by decide) rfl ?_
          refine r_aload_n (pc := 72) dX7_box_72 rfl ?_
          refine q_getI (pc := 73) (jI := 9) (n9 := 1) (v := nb) fl_X7_115 rfl dX7_box_73 rfl rfl (by decide) (by decide) (by simp only [up1]; simp; show hi 7 0 9 = nb; omega) ?_
          refine r_iload_n (pc := 76) dX7_box_76 rfl ?_
          refine p_iast (pc := 77) (n9 := 1) (nI := 40) rfl dX7_box_77 rfl (by decide) (by decide) rfl (by omega) (by omega) ?_
          refine r_aload_n (pc := 78) dX7_box_78 rfl ?_
          refine p_getQ (pc := 79) (jI := 5) (n9 := 1) (r := some (33, 0)) fl_X7_19 rfl dX7_box_79 rfl rfl (by decide) (by decide) rfl ?_
          refine r_aload_n (pc := 82) dX7_box_82 rfl ?_
          refine q_getI (pc := 83) (jI := 9) (n9 := 1) (v := nb) fl_X7_115 rfl dX7_box_83 rfl rfl (by decide) (by decide) (by simp only [up1]; simp; show hi 7 0 9 = nb; omega) ?_
          refine r_iload_n (pc := 86) dX7_box_86 rfl ?_
          refine p_iast (pc := 87) (n9 := 1) (nI := 40) rfl dX7_box_87 rfl (by decide) (by decide) rfl (by omega) (by omega) ?_
          refine r_aload_n (pc := 88) dX7_box_88 rfl ?_
          refine p_getQ (pc := 89) (jI := 7) (n9 := 1) (r := some (35, 0)) fl_X7_26 rfl dX7_box_89 rfl rfl (by decide) (by decide) rfl ?_
          refine r_aload_n (pc := 92) dX7_box_92 rfl ?_
          refine q_getI (pc := 93) (jI := 9) (n9 := 1) (v := nb) fl_X7_115 rfl dX7_box_93 rfl rfl (by decide) (by decide) (by simp only [up1]; simp; show hi 7 0 9 = nb; omega) ?_
          refine r_iconst (pc := 96) (n := (-1)) dX7_box_96 (by decide) ?_
          refine p_iast (pc := 97) (n9 := 1) (nI := 40) rfl dX7_box_97 rfl (by decide) (by decide) rfl (by omega) (by omega) ?_
          refine r_aload_n (pc := 98) dX7_box_98 rfl ?_
          refine p_getQ (pc := 99) (jI := 8) (n9 := 1) (r := some (36, 0)) fl_X7_29 rfl dX7_box_99 rfl rfl (by decide) (by decide) rfl ?_
          refine r_aload_n (pc := 102) dX7_box_102 rfl ?_
          refine q_getI (pc := 103) (jI := 9) (n9 := 1) (v := nb) fl_X7_115 rfl dX7_box_103 rfl rfl (by decide) (by decide) (by simp only [up1]; simp; show hi 7 0 9 = nb; omega) ?_
          refine r_iconst (pc := 106) (n := (-1)) dX7_box_106 (by decide) ?_
          refine p_iast (pc := 107) (n9 := 1) (nI := 40) rfl dX7_box_107 rfl (by decide) (by decide) rfl (by omega) (by omega) ?_
          refine r_aload_n (pc := 108) dX7_box_108 rfl ?_
          refine r_dup (pc := 109) dX7_box_109 (fun _ => rfl) ?_
          refine q_getI (pc := 110) (jI := 9) (n9 := 1) (v := nb) fl_X7_115 rfl dX7_box_110 rfl rfl (by decide) (by decide) (by simp only [up1]; simp; show hi 7 0 9 = nb; omega) ?_
          refine r_iconst (pc := 113) (n := 1) dX7_box_113 (by decide) ?_
          refine r_iadd (pc := 114) dX7_box_114 (by omega) ?_
          refine p_putI (pc := 115) (jI := 9) (n9 := 1) fl_X7_115 (Or.inl rfl) (Or.inl rfl) dX7_box_115 rfl rfl (by decide) (by decide) ?_
          refine r_aload_n (pc := 118) dX7_box_118 rfl ?_
          refine q_getI (pc := 119) (jI := 9) (n9 := 1) (v := nb + 1) fl_X7_115 rfl dX7_box_119 rfl rfl (by decide) (by decide) (by simp [up1]) ?_
          refine r_iconst (pc := 122) (n := 1) dX7_box_122 (by decide) ?_
          refine r_isub (pc := 123) dX7_box_123 (by omega) ?_
          refine r_iret (pc := 124) dX7_box_124 (Or.inl rfl) (Nat.le_of_ble_eq_true rfl) (Nat.le_of_ble_eq_true rfl) ?_
          exact qI (hQ (by unfold cC_box; (repeat' split) <;> omega)) (by omega) rfl
        · refine r_iconst (pc := 45) (n := 3) dX7_box_45 (by decide) ?_
          refine r_goto (pc := 46) (tgt := 50) dX7_box_46 rfl ?_
          refine d1_V (pc := 50) (t := 7) (i := 0) (rest := []) (cs' := 0) (sl' := 0) mv_X7_125 (K_X7_holds (hi := hi) (e := 3) (v := 0) (by decide)) rfl ⟨(Nat.le_of_ble_eq_true rfl), (Nat.le_of_ble_eq_true rfl)⟩ (Nat.le_of_ble_eq_true rfl) dX7_box_50 (show (0 : Int) ≤ 0 by omega) (show 0 < 1 by omega) ⟨rfl, (Nat.le_of_ble_eq_true rfl)⟩ ⟨rfl, (Nat.le_of_ble_eq_true rfl)⟩ rfl ?_
          refine r_if_ne (pc := 53) (tgt := 58) dX7_box_53 rfl (fun z => absurd z (by decide)) (fun _ => ?_)
          refine r_iconst (pc := 56) (n := 0) dX7_box_56 (by decide) ?_
          refine r_iret (pc := 57) dX7_box_57 (Or.inl rfl) (Nat.le_of_ble_eq_true rfl) (Nat.le_of_ble_eq_true rfl) ?_
          exact hF 3 (by decide) (by unfold cC_box; (repeat' split) <;> omega)
      · refine r_iconst (pc := 32) (n := 2) dX7_box_32 (by decide) ?_
        refine r_goto (pc := 33) (tgt := 50) dX7_box_33 rfl ?_
        refine d1_V (pc := 50) (t := 7) (i := 0) (rest := []) (cs' := 0) (sl' := 0) mv_X7_125 (K_X7_holds (hi := hi) (e := 2) (v := 0) (by decide)) rfl ⟨(Nat.le_of_ble_eq_true rfl), (Nat.le_of_ble_eq_true rfl)⟩ (Nat.le_of_ble_eq_true rfl) dX7_box_50 (show (0 : Int) ≤ 0 by omega) (show 0 < 1 by omega) ⟨rfl, (Nat.le_of_ble_eq_true rfl)⟩ ⟨rfl, (Nat.le_of_ble_eq_true rfl)⟩ rfl ?_
        refine r_if_ne (pc := 53) (tgt := 58) dX7_box_53 rfl (fun z => absurd z (by decide)) (fun _ => ?_)
        refine r_iconst (pc := 56) (n := 0) dX7_box_56 (by decide) ?_
        refine r_iret (pc := 57) dX7_box_57 (Or.inl rfl) (Nat.le_of_ble_eq_true rfl) (Nat.le_of_ble_eq_true rfl) ?_
        exact hF 2 (by decide) (by unfold cC_box; (repeat' split) <;> omega)
  · refine r_iconst (pc := 14) (n := 1) dX7_box_14 (by decide) ?_
    refine r_goto (pc := 15) (tgt := 50) dX7_box_15 rfl ?_
    refine d1_V (pc := 50) (t := 7) (i := 0) (rest := []) (cs' := 0) (sl' := 0) mv_X7_125 (K_X7_holds (hi := hi) (e := 1) (v := 0) (by decide)) rfl ⟨(Nat.le_of_ble_eq_true rfl), (Nat.le_of_ble_eq_true rfl)⟩ (Nat.le_of_ble_eq_true rfl) dX7_box_50 (show (0 : Int) ≤ 0 by omega) (show 0 < 1 by omega) ⟨rfl, (Nat.le_of_ble_eq_true rfl)⟩ ⟨rfl, (Nat.le_of_ble_eq_true rfl)⟩ rfl ?_
    refine r_if_ne (pc := 53) (tgt := 58) dX7_box_53 rfl (fun z => absurd z (by decide)) (fun _ => ?_)
    refine r_iconst (pc := 56) (n := 0) dX7_box_56 (by decide) ?_
    refine r_iret (pc := 57) dX7_box_57 (Or.inl rfl) (Nat.le_of_ble_eq_true rfl) (Nat.le_of_ble_eq_true rfl) ?_
    exact hF 1 (by decide) (by unfold cC_box; (repeat' split) <;> omega)

def mbkH (hi : Hi) (nk po kd wa : Int) : Hi := up1 (up1 (up1 (up1 (thr hi) 51 0 nk po) 52 0 nk kd) 53 0 nk wa) 7 0 30 (nk + 1)
theorem K_X7_book {hi : Hi} {nb nk : Int} (hM : MV hi nb nk) {po kd wa : Int} {na nc : Int}  : MOp I_X7_book [aR 7 0, aI po, aI kd, aI wa] hi na nc (cC_book nk po kd wa) (some (aI 0)) (some (aI nk)) (hp (mbkH hi nk po kd wa) na nc) := by
  have hN := hM.num
  unfold mNum at hN
  have hT := hM.thrV
  refine st_m (xs := [some (aR 7 0), some (aI po), some (aI kd), some (aI wa)]) pn_X7 rfl rfl (Nat.le_of_ble_eq_true rfl) rfl rfl (fun Q X hQ hF => ?_)
  refine r_aload_n (pc := 0) dX7_book_0 rfl ?_
  refine r_iload_n (pc := 1) dX7_book_1 rfl ?_
  refine d1_S (pc := 2) (rest := [aR 7 0]) (cs' := 0) (sl' := 0) ms_X7_118 rfl (K_X7_isPort (p := po)) rfl ⟨(Nat.le_of_ble_eq_true rfl), (Nat.le_of_ble_eq_true rfl)⟩ (Nat.le_of_ble_eq_true rfl) dX7_book_2 ⟨rfl, (Nat.le_of_ble_eq_true rfl)⟩ ⟨rfl, (Nat.le_of_ble_eq_true rfl)⟩ rfl ?_
  refine q_ifneB (pc := 5) (tgt := 12) dX7_book_5 rfl (fun c5 => ?_) (fun c5 => ?_)
  · refine r_iload_n (pc := 12) dX7_book_12 rfl ?_
    refine d1_S (pc := 13) (rest := [aR 7 0]) (cs' := 0) (sl' := 0) ms_X7_128 rfl (K_X7_isKind (p := kd)) rfl ⟨(Nat.le_of_ble_eq_true rfl), (Nat.le_of_ble_eq_true rfl)⟩ (Nat.le_of_ble_eq_true rfl) dX7_book_13 ⟨rfl, (Nat.le_of_ble_eq_true rfl)⟩ ⟨rfl, (Nat.le_of_ble_eq_true rfl)⟩ rfl ?_
    refine q_ifeqB (pc := 16) (tgt := 29) dX7_book_16 rfl (fun c16 => ?_) (fun c16 => ?_)
    · refine r_iconst (pc := 29) (n := 2) dX7_book_29 (by decide) ?_
      refine r_goto (pc := 30) (tgt := 47) dX7_book_30 rfl ?_
      refine d1_V (pc := 47) (t := 7) (i := 0) (rest := []) (cs' := 0) (sl' := 0) mv_X7_125 (K_X7_holds (hi := hi) (e := 2) (v := 0) (by decide)) rfl ⟨(Nat.le_of_ble_eq_true rfl), (Nat.le_of_ble_eq_true rfl)⟩ (Nat.le_of_ble_eq_true rfl) dX7_book_47 (show (0 : Int) ≤ 0 by omega) (show 0 < 1 by omega) ⟨rfl, (Nat.le_of_ble_eq_true rfl)⟩ ⟨rfl, (Nat.le_of_ble_eq_true rfl)⟩ rfl ?_
      refine r_if_ne (pc := 50) (tgt := 55) dX7_book_50 rfl (fun z => absurd z (by decide)) (fun _ => ?_)
      refine r_iconst (pc := 53) (n := 0) dX7_book_53 (by decide) ?_
      refine r_iret (pc := 54) dX7_book_54 (Or.inl rfl) (Nat.le_of_ble_eq_true rfl) (Nat.le_of_ble_eq_true rfl) ?_
      exact hF 2 (by decide) (by unfold cC_book; (repeat' split) <;> omega)
    · refine r_iload_n (pc := 19) dX7_book_19 rfl ?_
      refine r_iconst (pc := 20) (n := 1) dX7_book_20 (by decide) ?_
      refine r_bipush (pc := 21) (n := 9) dX7_book_21 rfl (by decide) ?_
      refine d1_S (pc := 23) (rest := [aR 7 0]) (cs' := 0) (sl' := 0) ms_X7_111 rfl (K_X7_isIn (v := wa) (lo := 1) (up := 9)) rfl ⟨(Nat.le_of_ble_eq_true rfl), (Nat.le_of_ble_eq_true rfl)⟩ (Nat.le_of_ble_eq_true rfl) dX7_book_23 ⟨rfl, (Nat.le_of_ble_eq_true rfl)⟩ ⟨rfl, (Nat.le_of_ble_eq_true rfl)⟩ rfl ?_
      refine q_ifneB (pc := 26) (tgt := 33) dX7_book_26 rfl (fun c26 => ?_) (fun c26 => ?_)
      · refine r_aload_n (pc := 33) dX7_book_33 rfl ?_
        refine q_getI (pc := 34) (jI := 30) (n9 := 1) (v := hi 7 0 30) fl_X7_186 rfl dX7_book_34 rfl rfl (by decide) (by decide) rfl ?_
        refine r_bipush (pc := 37) (n := 20) dX7_book_37 rfl (by decide) ?_
        refine r_icmp_ne (pc := 39) (tgt := 46) dX7_book_39 rfl (fun c39 => ?_) (fun c39 => ?_)
        · refine r_iconst (pc := 46) (n := 0) dX7_book_46 (by decide) ?_
          refine d1_V (pc := 47) (t := 7) (i := 0) (rest := []) (cs' := 0) (sl' := 0) mv_X7_125 (K_X7_holds (hi := hi) (e := 0) (v := 1) (by decide)) rfl ⟨(Nat.le_of_ble_eq_true rfl), (Nat.le_of_ble_eq_true rfl)⟩ (Nat.le_of_ble_eq_true rfl) dX7_book_47 (show (0 : Int) ≤ 0 by omega) (show 0 < 1 by omega) ⟨rfl, (Nat.le_of_ble_eq_true rfl)⟩ ⟨rfl, (Nat.le_of_ble_eq_true rfl)⟩ rfl ?_
          refine r_hp (hi' := thr hi) rfl ?_
          refine r_if_ne (pc := 50) (tgt := 55) dX7_book_50 rfl (fun _ => ?_) (fun z => absurd z (by decide))
          refine r_aload_n (pc := 55) dX7_book_55 rfl ?_
          refine p_getQ (pc := 56) (jI := 26) (n9 := 1) (r := some (51, 0)) fl_X7_81 rfl dX7_book_56 rfl rfl (by decide) (by decide) rfl ?_
          refine r_aload_n (pc := 59) dX7_book_59 rfl ?_
          refine q_getI (pc := 60) (jI := 30) (n9 := 1) (v := nk) fl_X7_186 rfl dX7_book_60 rfl rfl (by decide) (by decide) (by show hi 7 0 30 = nk; omega) ?_
          refine r_iload_n (pc := 63) dX7_book_63 rfl ?_
          refine p_iast (pc := 64) (n9 := 1) (nI := 20) rfl dX7_book_64 rfl (by decide) (by decide) rfl (by omega) (by omega) ?_
          refine r_aload_n (pc := 65) dX7_book_65 rfl ?_
          refine p_getQ (pc := 66) (jI := 27) (n9 := 1) (r := some (52, 0)) fl_X7_84 rfl dX7_book_66 rfl rfl (by decide) (by decide) rfl ?_
          refine r_aload_n (pc := 69) dX7_book_69 rfl ?_
          refine q_getI (pc := 70) (jI := 30) (n9 := 1) (v := nk) fl_X7_186 rfl dX7_book_70 rfl rfl (by decide) (by decide) (by simp only [up1]; simp; show hi 7 0 30 = nk; omega) ?_
          refine r_iload_n (pc := 73) dX7_book_73 rfl ?_
          refine p_iast (pc := 74) (n9 := 1) (nI := 20) rfl dX7_book_74 rfl (by decide) (by decide) rfl (by omega) (by omega) ?_
          refine r_aload_n (pc := 75) dX7_book_75 rfl ?_
          refine p_getQ (pc := 76) (jI := 28) (n9 := 1) (r := some (53, 0)) fl_X7_87 rfl dX7_book_76 rfl rfl (by decide) (by decide) rfl ?_
          refine r_aload_n (pc := 79) dX7_book_79 rfl ?_
          refine q_getI (pc := 80) (jI := 30) (n9 := 1) (v := nk) fl_X7_186 rfl dX7_book_80 rfl rfl (by decide) (by decide) (by simp only [up1]; simp; show hi 7 0 30 = nk; omega) ?_
          refine r_iload_n (pc := 83) dX7_book_83 rfl ?_
          refine p_iast (pc := 84) (n9 := 1) (nI := 20) rfl dX7_book_84 rfl (by decide) (by decide) rfl (by omega) (by omega) ?_
          refine r_aload_n (pc := 85) dX7_book_85 rfl ?_
          refine r_dup (pc := 86) dX7_book_86 (fun _ => rfl) ?_
          refine q_getI (pc := 87) (jI := 30) (n9 := 1) (v := nk) fl_X7_186 rfl dX7_book_87 rfl rfl (by decide) (by decide) (by simp only [up1]; simp; show hi 7 0 30 = nk; omega) ?_
          refine r_iconst (pc := 90) (n := 1) dX7_book_90 (by decide) ?_
          refine r_iadd (pc := 91) dX7_book_91 (by omega) ?_
          refine p_putI (pc := 92) (jI := 30) (n9 := 1) fl_X7_186 (Or.inl rfl) (Or.inl rfl) dX7_book_92 rfl rfl (by decide) (by decide) ?_
          refine r_aload_n (pc := 95) dX7_book_95 rfl ?_
          refine q_getI (pc := 96) (jI := 30) (n9 := 1) (v := nk + 1) fl_X7_186 rfl dX7_book_96 rfl rfl (by decide) (by decide) (by simp [up1]) ?_
          refine r_iconst (pc := 99) (n := 1) dX7_book_99 (by decide) ?_
          refine r_isub (pc := 100) dX7_book_100 (by omega) ?_
          refine r_iret (pc := 101) dX7_book_101 (Or.inl rfl) (Nat.le_of_ble_eq_true rfl) (Nat.le_of_ble_eq_true rfl) ?_
          exact qI (hQ (by unfold cC_book; (repeat' split) <;> omega)) (by omega) rfl
        · refine r_iconst (pc := 42) (n := 3) dX7_book_42 (by decide) ?_
          refine r_goto (pc := 43) (tgt := 47) dX7_book_43 rfl ?_
          refine d1_V (pc := 47) (t := 7) (i := 0) (rest := []) (cs' := 0) (sl' := 0) mv_X7_125 (K_X7_holds (hi := hi) (e := 3) (v := 0) (by decide)) rfl ⟨(Nat.le_of_ble_eq_true rfl), (Nat.le_of_ble_eq_true rfl)⟩ (Nat.le_of_ble_eq_true rfl) dX7_book_47 (show (0 : Int) ≤ 0 by omega) (show 0 < 1 by omega) ⟨rfl, (Nat.le_of_ble_eq_true rfl)⟩ ⟨rfl, (Nat.le_of_ble_eq_true rfl)⟩ rfl ?_
          refine r_if_ne (pc := 50) (tgt := 55) dX7_book_50 rfl (fun z => absurd z (by decide)) (fun _ => ?_)
          refine r_iconst (pc := 53) (n := 0) dX7_book_53 (by decide) ?_
          refine r_iret (pc := 54) dX7_book_54 (Or.inl rfl) (Nat.le_of_ble_eq_true rfl) (Nat.le_of_ble_eq_true rfl) ?_
          exact hF 3 (by decide) (by unfold cC_book; (repeat' split) <;> omega)
      · refine r_iconst (pc := 29) (n := 2) dX7_book_29 (by decide) ?_
        refine r_goto (pc := 30) (tgt := 47) dX7_book_30 rfl ?_
        refine d1_V (pc := 47) (t := 7) (i := 0) (rest := []) (cs' := 0) (sl' := 0) mv_X7_125 (K_X7_holds (hi := hi) (e := 2) (v := 0) (by decide)) rfl ⟨(Nat.le_of_ble_eq_true rfl), (Nat.le_of_ble_eq_true rfl)⟩ (Nat.le_of_ble_eq_true rfl) dX7_book_47 (show (0 : Int) ≤ 0 by omega) (show 0 < 1 by omega) ⟨rfl, (Nat.le_of_ble_eq_true rfl)⟩ ⟨rfl, (Nat.le_of_ble_eq_true rfl)⟩ rfl ?_
        refine r_if_ne (pc := 50) (tgt := 55) dX7_book_50 rfl (fun z => absurd z (by decide)) (fun _ => ?_)
        refine r_iconst (pc := 53) (n := 0) dX7_book_53 (by decide) ?_
        refine r_iret (pc := 54) dX7_book_54 (Or.inl rfl) (Nat.le_of_ble_eq_true rfl) (Nat.le_of_ble_eq_true rfl) ?_
        exact hF 2 (by decide) (by unfold cC_book; (repeat' split) <;> omega)
  · refine r_iconst (pc := 8) (n := 1) dX7_book_8 (by decide) ?_
    refine r_goto (pc := 9) (tgt := 47) dX7_book_9 rfl ?_
    refine d1_V (pc := 47) (t := 7) (i := 0) (rest := []) (cs' := 0) (sl' := 0) mv_X7_125 (K_X7_holds (hi := hi) (e := 1) (v := 0) (by decide)) rfl ⟨(Nat.le_of_ble_eq_true rfl), (Nat.le_of_ble_eq_true rfl)⟩ (Nat.le_of_ble_eq_true rfl) dX7_book_47 (show (0 : Int) ≤ 0 by omega) (show 0 < 1 by omega) ⟨rfl, (Nat.le_of_ble_eq_true rfl)⟩ ⟨rfl, (Nat.le_of_ble_eq_true rfl)⟩ rfl ?_
    refine r_if_ne (pc := 50) (tgt := 55) dX7_book_50 rfl (fun z => absurd z (by decide)) (fun _ => ?_)
    refine r_iconst (pc := 53) (n := 0) dX7_book_53 (by decide) ?_
    refine r_iret (pc := 54) dX7_book_54 (Or.inl rfl) (Nat.le_of_ble_eq_true rfl) (Nat.le_of_ble_eq_true rfl) ?_
    exact hF 1 (by decide) (by unfold cC_book; (repeat' split) <;> omega)

def cM_wash (hi : Hi) (nb b u : Int) : Int := if ¬ (0 ≤ b ∧ b < nb) then 1 else if ¬ (0 ≤ u ∧ u ≤ 9999) then 2 else if hi 35 0 b ≠ -1 then 3 else 0
theorem K_X7_wash {hi : Hi} {nb nk : Int} (hM : MV hi nb nk) {b u : Int}  : MOp I_X7_wash [aR 7 0, aI b, aI u] hi nb nk (cM_wash hi nb b u) (some (aI 0)) (some (aI ((thr hi) 34 0 b))) (hp (up1 (up1 (thr hi) 34 0 b 0) 33 0 b u) nb nk) := by
  have hN := hM.num
  unfold mNum at hN
  have hT := hM.thrV
  refine st_m (xs := [some (aR 7 0), some (aI b), some (aI u), none, none]) pn_X7 rfl rfl (Nat.le_of_ble_eq_true rfl) rfl rfl (fun Q X hQ hF => ?_)
  refine r_aload_n (pc := 0) dX7_wash_0 rfl ?_
  refine r_iload_n (pc := 1) dX7_wash_1 rfl ?_
  refine d1_V (pc := 2) (t := 7) (i := 0) (rest := []) (cs' := 0) (sl' := 0) mv_X7_131 (K_X7_isBox hM (b := b)) rfl ⟨(Nat.le_of_ble_eq_true rfl), (Nat.le_of_ble_eq_true rfl)⟩ (Nat.le_of_ble_eq_true rfl) dX7_wash_2 (show (0 : Int) ≤ 0 by omega) (show 0 < 1 by omega) ⟨rfl, (Nat.le_of_ble_eq_true rfl)⟩ ⟨rfl, (Nat.le_of_ble_eq_true rfl)⟩ rfl ?_
  refine r_istore_n (pc := 5) (xs' := [some (aR 7 0), some (aI b), some (aI u), some (aI (bI (0 ≤ b ∧ b < nb))), none]) dX7_wash_5 (by decide) rfl ?_
  refine r_aload_n (pc := 6) dX7_wash_6 rfl ?_
  refine r_iload_n (pc := 7) dX7_wash_7 rfl ?_
  refine q_ifneB (pc := 8) (tgt := 15) dX7_wash_8 rfl (fun c8 => ?_) (fun c8 => ?_)
  · refine r_iload_n (pc := 15) dX7_wash_15 rfl ?_
    refine d1_S (pc := 16) (rest := [aR 7 0]) (cs' := 0) (sl' := 0) ms_X7_122 rfl (K_X7_isDay (p := u)) rfl ⟨(Nat.le_of_ble_eq_true rfl), (Nat.le_of_ble_eq_true rfl)⟩ (Nat.le_of_ble_eq_true rfl) dX7_wash_16 ⟨rfl, (Nat.le_of_ble_eq_true rfl)⟩ ⟨rfl, (Nat.le_of_ble_eq_true rfl)⟩ rfl ?_
    refine q_ifneB (pc := 19) (tgt := 26) dX7_wash_19 rfl (fun c19 => ?_) (fun c19 => ?_)
    · refine r_aload_n (pc := 26) dX7_wash_26 rfl ?_
      refine r_iload_n (pc := 27) dX7_wash_27 rfl ?_
      refine d1_V (pc := 28) (t := 7) (i := 0) (rest := [aR 7 0]) (cs' := 0) (sl' := 0) mv_X7_134 (K_X7_isGone (b := b) (by omega) (by omega)) rfl ⟨(Nat.le_of_ble_eq_true rfl), (Nat.le_of_ble_eq_true rfl)⟩ (Nat.le_of_ble_eq_true rfl) dX7_wash_28 (show (0 : Int) ≤ 0 by omega) (show 0 < 1 by omega) ⟨rfl, (Nat.le_of_ble_eq_true rfl)⟩ ⟨rfl, (Nat.le_of_ble_eq_true rfl)⟩ rfl ?_
      refine q_ifeqB (pc := 31) (tgt := 38) dX7_wash_31 rfl (fun c31 => ?_) (fun c31 => ?_)
      · refine r_iconst (pc := 38) (n := 0) dX7_wash_38 (by decide) ?_
        refine d1_V (pc := 39) (t := 7) (i := 0) (rest := []) (cs' := 0) (sl' := 0) mv_X7_125 (K_X7_holds (hi := hi) (e := 0) (v := 1) (by decide)) rfl ⟨(Nat.le_of_ble_eq_true rfl), (Nat.le_of_ble_eq_true rfl)⟩ (Nat.le_of_ble_eq_true rfl) dX7_wash_39 (show (0 : Int) ≤ 0 by omega) (show 0 < 1 by omega) ⟨rfl, (Nat.le_of_ble_eq_true rfl)⟩ ⟨rfl, (Nat.le_of_ble_eq_true rfl)⟩ rfl ?_
        refine r_hp (hi' := thr hi) rfl ?_
        refine r_if_ne (pc := 42) (tgt := 47) dX7_wash_42 rfl (fun _ => ?_) (fun z => absurd z (by decide))
        refine r_aload_n (pc := 47) dX7_wash_47 rfl ?_
        refine p_getQ (pc := 48) (jI := 6) (n9 := 1) (r := some (34, 0)) fl_X7_22 rfl dX7_wash_48 rfl rfl (by decide) (by decide) rfl ?_
        refine r_iload_n (pc := 51) dX7_wash_51 rfl ?_
        refine q_zald (pc := 52) (n9 := 1) (nI := 40) (v := (thr hi) 34 0 b) rfl dX7_wash_52 rfl (by decide) (by decide) rfl (by omega) (by omega) rfl ?_
        refine r_istore (pc := 53) (xs' := [some (aR 7 0), some (aI b), some (aI u), some (aI (bI (0 ≤ b ∧ b < nb))), some (aI ((thr hi) 34 0 b))]) dX7_wash_53 (by decide) rfl ?_
        refine r_aload_n (pc := 55) dX7_wash_55 rfl ?_
        refine p_getQ (pc := 56) (jI := 6) (n9 := 1) (r := some (34, 0)) fl_X7_22 rfl dX7_wash_56 rfl rfl (by decide) (by decide) rfl ?_
        refine r_iload_n (pc := 59) dX7_wash_59 rfl ?_
        refine r_iconst (pc := 60) (n := 0) dX7_wash_60 (by decide) ?_
        refine p_zast (pc := 61) (n9 := 1) (nI := 40) rfl (by decide) dX7_wash_61 rfl (by decide) (by decide) rfl (by omega) (by omega) ?_
        refine r_aload_n (pc := 62) dX7_wash_62 rfl ?_
        refine p_getQ (pc := 63) (jI := 5) (n9 := 1) (r := some (33, 0)) fl_X7_19 rfl dX7_wash_63 rfl rfl (by decide) (by decide) rfl ?_
        refine r_iload_n (pc := 66) dX7_wash_66 rfl ?_
        refine r_iload_n (pc := 67) dX7_wash_67 rfl ?_
        refine p_iast (pc := 68) (n9 := 1) (nI := 40) rfl dX7_wash_68 rfl (by decide) (by decide) rfl (by omega) (by omega) ?_
        refine r_iload (pc := 69) dX7_wash_69 rfl ?_
        refine r_iret (pc := 71) dX7_wash_71 (Or.inr ⟨rfl, (by have := (hM.box b (by omega) (by omega)).2.1; exact this)⟩) (Nat.le_of_ble_eq_true rfl) (Nat.le_of_ble_eq_true rfl) ?_
        exact hQ (by unfold cM_wash; (repeat' split) <;> omega)
      · refine r_iconst (pc := 34) (n := 3) dX7_wash_34 (by decide) ?_
        refine r_goto (pc := 35) (tgt := 39) dX7_wash_35 rfl ?_
        refine d1_V (pc := 39) (t := 7) (i := 0) (rest := []) (cs' := 0) (sl' := 0) mv_X7_125 (K_X7_holds (hi := hi) (e := 3) (v := 0) (by decide)) rfl ⟨(Nat.le_of_ble_eq_true rfl), (Nat.le_of_ble_eq_true rfl)⟩ (Nat.le_of_ble_eq_true rfl) dX7_wash_39 (show (0 : Int) ≤ 0 by omega) (show 0 < 1 by omega) ⟨rfl, (Nat.le_of_ble_eq_true rfl)⟩ ⟨rfl, (Nat.le_of_ble_eq_true rfl)⟩ rfl ?_
        refine r_if_ne (pc := 42) (tgt := 47) dX7_wash_42 rfl (fun z => absurd z (by decide)) (fun _ => ?_)
        refine r_iconst (pc := 45) (n := 0) dX7_wash_45 (by decide) ?_
        refine r_iret (pc := 46) dX7_wash_46 (Or.inr ⟨rfl, (by decide)⟩) (Nat.le_of_ble_eq_true rfl) (Nat.le_of_ble_eq_true rfl) ?_
        exact hF 3 (by decide) (by unfold cM_wash; (repeat' split) <;> omega)
    · refine r_iconst (pc := 22) (n := 2) dX7_wash_22 (by decide) ?_
      refine r_goto (pc := 23) (tgt := 39) dX7_wash_23 rfl ?_
      refine d1_V (pc := 39) (t := 7) (i := 0) (rest := []) (cs' := 0) (sl' := 0) mv_X7_125 (K_X7_holds (hi := hi) (e := 2) (v := 0) (by decide)) rfl ⟨(Nat.le_of_ble_eq_true rfl), (Nat.le_of_ble_eq_true rfl)⟩ (Nat.le_of_ble_eq_true rfl) dX7_wash_39 (show (0 : Int) ≤ 0 by omega) (show 0 < 1 by omega) ⟨rfl, (Nat.le_of_ble_eq_true rfl)⟩ ⟨rfl, (Nat.le_of_ble_eq_true rfl)⟩ rfl ?_
      refine r_if_ne (pc := 42) (tgt := 47) dX7_wash_42 rfl (fun z => absurd z (by decide)) (fun _ => ?_)
      refine r_iconst (pc := 45) (n := 0) dX7_wash_45 (by decide) ?_
      refine r_iret (pc := 46) dX7_wash_46 (Or.inr ⟨rfl, (by decide)⟩) (Nat.le_of_ble_eq_true rfl) (Nat.le_of_ble_eq_true rfl) ?_
      exact hF 2 (by decide) (by unfold cM_wash; (repeat' split) <;> omega)
  · refine r_iconst (pc := 11) (n := 1) dX7_wash_11 (by decide) ?_
    refine r_goto (pc := 12) (tgt := 39) dX7_wash_12 rfl ?_
    refine d1_V (pc := 39) (t := 7) (i := 0) (rest := []) (cs' := 0) (sl' := 0) mv_X7_125 (K_X7_holds (hi := hi) (e := 1) (v := 0) (by decide)) rfl ⟨(Nat.le_of_ble_eq_true rfl), (Nat.le_of_ble_eq_true rfl)⟩ (Nat.le_of_ble_eq_true rfl) dX7_wash_39 (show (0 : Int) ≤ 0 by omega) (show 0 < 1 by omega) ⟨rfl, (Nat.le_of_ble_eq_true rfl)⟩ ⟨rfl, (Nat.le_of_ble_eq_true rfl)⟩ rfl ?_
    refine r_if_ne (pc := 42) (tgt := 47) dX7_wash_42 rfl (fun z => absurd z (by decide)) (fun _ => ?_)
    refine r_iconst (pc := 45) (n := 0) dX7_wash_45 (by decide) ?_
    refine r_iret (pc := 46) dX7_wash_46 (Or.inr ⟨rfl, (by decide)⟩) (Nat.le_of_ble_eq_true rfl) (Nat.le_of_ble_eq_true rfl) ?_
    exact hF 1 (by decide) (by unfold cM_wash; (repeat' split) <;> omega)

def shM (hi : Hi) (b a n : Int) : Hi := fun k i j => if (k = 37 ∨ k = 38 ∨ k = 39) ∧ i = 0 ∧ 30 * b + a < j ∧ j ≤ 30 * b + n then hi k i (j - 1) else hi k i j
theorem shM_0 {hi : Hi} {b n : Int} : hi = shM hi b n n := by
  funext k i j
  unfold shM
  rw [if_neg (by omega)]
theorem shM_r {hi : Hi} {b a n : Int} {k : Nat} {i j : Int} (h : j ≤ 30 * b + a ∨ (k ≠ 37 ∧ k ≠ 38 ∧ k ≠ 39)) : shM hi b a n k i j = hi k i j := by
  unfold shM
  rw [if_neg (by omega)]
theorem shM_s {hi : Hi} {b a n q : Int} (hq : q = 30 * b + a) (h : a ≤ n) : up1 (up1 (up1 (shM hi b a n) 37 0 q (hi 37 0 (q - 1))) 38 0 q (hi 38 0 (q - 1))) 39 0 q (hi 39 0 (q - 1)) = shM hi b (a - 1) n := by
  subst hq
  funext k i j
  simp only [shM, up1]
  by_cases e : (k = 37 ∨ k = 38 ∨ k = 39) ∧ i = 0 ∧ j = 30 * b + a
  · obtain ⟨e1, rfl, rfl⟩ := e
    rw [if_pos (c := (k = 37 ∨ k = 38 ∨ k = 39) ∧ (0 : Int) = 0 ∧ 30 * b + (a - 1) < 30 * b + a ∧ 30 * b + a ≤ 30 * b + n) ⟨e1, rfl, by omega, by omega⟩]
    rcases e1 with rfl | rfl | rfl <;> simp
  · have e1 : ((k = 37 ∨ k = 38 ∨ k = 39) ∧ i = 0 ∧ 30 * b + a < j ∧ j ≤ 30 * b + n) ↔ ((k = 37 ∨ k = 38 ∨ k = 39) ∧ i = 0 ∧ 30 * b + (a - 1) < j ∧ j ≤ 30 * b + n) := by omega
    rw [if_neg (c := k = 39 ∧ i = 0 ∧ j = 30 * b + a) (by omega), if_neg (c := k = 38 ∧ i = 0 ∧ j = 30 * b + a) (by omega), if_neg (c := k = 37 ∧ i = 0 ∧ j = 30 * b + a) (by omega)]
    simp only [e1]
def repH (hi : Hi) (b day ev po : Int) : Hi := up1 (up1 (up1 (up1 (shM hi b (posI (mD hi b) day (hi 40 0 b)) (hi 40 0 b)) 37 0 (30 * b + posI (mD hi b) day (hi 40 0 b)) day) 38 0 (30 * b + posI (mD hi b) day (hi 40 0 b)) ev) 39 0 (30 * b + posI (mD hi b) day (hi 40 0 b)) po) 40 0 b (hi 40 0 b + 1)
theorem K_X7_reports {hi : Hi} {nb nk : Int} (hM : MV hi nb nk) {b : Int} (hb0 : 0 ≤ b) (hb1 : b < nb) {day ev po : Int} (ht : hi 40 0 b < 30) : Con I_X7_reports [aR 7 0, aI b, aI day, aI ev, aI po] (hp hi nb nk) (fun r h => (knoM hi b day ev po ∧ r = some (aI (-1)) ∧ h = hp hi nb nk) ∨ (¬ knoM hi b day ev po ∧ r = some (aI (dbtM (repH hi b day ev po) b)) ∧ h = hp (repH hi b day ev po) nb nk)) (fun _ _ => False) := by
  have hN := hM.num
  unfold mNum at hN
  have hB9 := hM.box b hb0 hb1
  refine st_r (xs := [some (aR 7 0), some (aI b), some (aI day), some (aI ev), some (aI po), none]) pn_X7 rfl rfl (Nat.le_of_ble_eq_true rfl) rfl rfl (fun Q X hQ hX => ?_)
  have hQ1 : knoM hi b day ev po → Q (some (aI (-1))) (hp hi nb nk) := fun z => hQ _ _ (Or.inl ⟨z, rfl, rfl⟩)
  have hQ2 : ¬ knoM hi b day ev po → Q (some (aI (dbtM (repH hi b day ev po) b))) (hp (repH hi b day ev po) nb nk) := fun z => hQ _ _ (Or.inr ⟨z, rfl, rfl⟩)
  refine r_aload_n (pc := 0) dX7_reports_0 rfl ?_
  refine r_iload_n (pc := 1) dX7_reports_1 rfl ?_
  refine r_iload_n (pc := 2) dX7_reports_2 rfl ?_
  refine r_iload_n (pc := 3) dX7_reports_3 rfl ?_
  refine r_iload (pc := 4) dX7_reports_4 rfl ?_
  refine d1_V (pc := 6) (t := 7) (i := 0) (rest := []) (cs' := 0) (sl' := 0) mv_X7_144 (K_X7_wasTold hM hb0 hb1) rfl ⟨(Nat.le_of_ble_eq_true rfl), (Nat.le_of_ble_eq_true rfl)⟩ (Nat.le_of_ble_eq_true rfl) dX7_reports_6 (show (0 : Int) ≤ 0 by omega) (show 0 < 1 by omega) ⟨rfl, (Nat.le_of_ble_eq_true rfl)⟩ ⟨rfl, (Nat.le_of_ble_eq_true rfl)⟩ rfl ?_
  refine q_ifeqB (pc := 9) (tgt := 14) dX7_reports_9 rfl (fun c9 => ?_) (fun c9 => ?_)
  · refine r_bipush (pc := 14) (n := 30) dX7_reports_14 rfl (by decide) ?_
    refine r_iload_n (pc := 16) dX7_reports_16 rfl ?_
    refine r_imul (pc := 17) dX7_reports_17 (by omega) ?_
    refine r_aload_n (pc := 18) dX7_reports_18 rfl ?_
    refine p_getQ (pc := 19) (jI := 13) (n9 := 1) (r := some (40, 0)) fl_X7_41 rfl dX7_reports_19 rfl rfl (by decide) (by decide) rfl ?_
    refine r_iload_n (pc := 22) dX7_reports_22 rfl ?_
    refine q_iald (pc := 23) (n9 := 1) (nI := 40) (v := hi 40 0 b) rfl dX7_reports_23 rfl (by decide) (by decide) rfl (by omega) (by omega) rfl ?_
    refine r_iadd (pc := 24) dX7_reports_24 (by omega) ?_
    refine r_istore (pc := 25) (xs' := [some (aR 7 0), some (aI b), some (aI day), some (aI ev), some (aI po), some (aI ((30 * b) + (hi 40 0 b)))]) dX7_reports_25 (by decide) rfl ?_
    have loop : ∀ (n9 : Nat) (q a : Int), (q = 30 * b + a) → (0 ≤ a ∧ a ≤ hi 40 0 b) → (posI (mD hi b) day (hi 40 0 b) = posI (mD hi b) day a) → a < (n9 : Int) → Run I_X7_reports 27 [some (aR 7 0), some (aI b), some (aI day), some (aI ev), some (aI po), some (aI q)] [] (hp (shM hi b a (hi 40 0 b)) nb nk) 0 0 Q X := by
      intro n9
      induction n9 with
      | zero => intro q a h3 h0 h1 hf9; exfalso; omega
      | succ n9 ih_loop =>
        intro q a h3 h0 h1 hf9
        refine r_iload (pc := 27) dX7_reports_27 rfl ?_
        refine r_bipush (pc := 29) (n := 30) dX7_reports_29 rfl (by decide) ?_
        refine r_iload_n (pc := 31) dX7_reports_31 rfl ?_
        refine r_imul (pc := 32) dX7_reports_32 (by omega) ?_
        refine r_icmp_le (pc := 33) (tgt := 103) dX7_reports_33 rfl (fun c33 => ?_) (fun c33 => ?_)
        · have e9 : posI (mD hi b) day (hi 40 0 b) = a := by rw [h1, show a = 0 by omega]; rfl
          have e7 : q = 30 * b + posI (mD hi b) day (hi 40 0 b) := by omega
          refine r_aload_n (pc := 103) dX7_reports_103 rfl ?_
          refine p_getQ (pc := 104) (jI := 10) (n9 := 1) (r := some (37, 0)) fl_X7_32 rfl dX7_reports_104 rfl rfl (by decide) (by decide) rfl ?_
          refine r_iload (pc := 107) dX7_reports_107 rfl ?_
          refine r_iload_n (pc := 109) dX7_reports_109 rfl ?_
          refine p_iast (pc := 110) (n9 := 1) (nI := 1200) rfl dX7_reports_110 rfl (by decide) (by decide) rfl (by omega) (by omega) ?_
          refine r_aload_n (pc := 111) dX7_reports_111 rfl ?_
          refine p_getQ (pc := 112) (jI := 11) (n9 := 1) (r := some (38, 0)) fl_X7_35 rfl dX7_reports_112 rfl rfl (by decide) (by decide) rfl ?_
          refine r_iload (pc := 115) dX7_reports_115 rfl ?_
          refine r_iload_n (pc := 117) dX7_reports_117 rfl ?_
          refine p_iast (pc := 118) (n9 := 1) (nI := 1200) rfl dX7_reports_118 rfl (by decide) (by decide) rfl (by omega) (by omega) ?_
          refine r_aload_n (pc := 119) dX7_reports_119 rfl ?_
          refine p_getQ (pc := 120) (jI := 12) (n9 := 1) (r := some (39, 0)) fl_X7_38 rfl dX7_reports_120 rfl rfl (by decide) (by decide) rfl ?_
          refine r_iload (pc := 123) dX7_reports_123 rfl ?_
          refine r_iload (pc := 125) dX7_reports_125 rfl ?_
          refine p_iast (pc := 127) (n9 := 1) (nI := 1200) rfl dX7_reports_127 rfl (by decide) (by decide) rfl (by omega) (by omega) ?_
          refine r_aload_n (pc := 128) dX7_reports_128 rfl ?_
          refine p_getQ (pc := 129) (jI := 13) (n9 := 1) (r := some (40, 0)) fl_X7_41 rfl dX7_reports_129 rfl rfl (by decide) (by decide) rfl ?_
          refine r_iload_n (pc := 132) dX7_reports_132 rfl ?_
          refine r_dup2 (pc := 133) dX7_reports_133 (fun _ => rfl) (fun _ => rfl) ?_
          refine q_iald (pc := 134) (n9 := 1) (nI := 40) (v := hi 40 0 b) rfl dX7_reports_134 rfl (by decide) (by decide) rfl (by omega) (by omega) (by simp only [up1]; simp; exact shM_r (by omega)) ?_
          refine r_iconst (pc := 135) (n := 1) dX7_reports_135 (by decide) ?_
          refine r_iadd (pc := 136) dX7_reports_136 (by omega) ?_
          refine p_iast (pc := 137) (n9 := 1) (nI := 40) rfl dX7_reports_137 rfl (by decide) (by decide) rfl (by omega) (by omega) ?_
          refine r_aload_n (pc := 138) dX7_reports_138 rfl ?_
          refine r_iload_n (pc := 139) dX7_reports_139 rfl ?_
          refine d1_V (pc := 140) (t := 7) (i := 0) (rest := []) (cs' := 0) (sl' := 0) mv_X7_148 (KR_X7_doubtful (hi := (up1 (up1 (up1 (up1 (shM hi b a (hi 40 0 b)) 37 0 q day) 38 0 q ev) 39 0 q po) 40 0 b ((hi 40 0 b) + 1))) hb0 (by omega) (by simp [up1]; omega)) rfl ⟨(Nat.le_of_ble_eq_true rfl), (Nat.le_of_ble_eq_true rfl)⟩ (Nat.le_of_ble_eq_true rfl) dX7_reports_140 (show (0 : Int) ≤ 0 by omega) (show 0 < 1 by omega) ⟨rfl, (Nat.le_of_ble_eq_true rfl)⟩ ⟨rfl, (Nat.le_of_ble_eq_true rfl)⟩ rfl ?_
          refine r_iret (pc := 143) dX7_reports_143 (Or.inl rfl) (Nat.le_of_ble_eq_true rfl) (Nat.le_of_ble_eq_true rfl) ?_
          have g9 : (up1 (up1 (up1 (up1 (shM hi b a (hi 40 0 b)) 37 0 q day) 38 0 q ev) 39 0 q po) 40 0 b ((hi 40 0 b) + 1)) = repH hi b day ev po := by unfold repH; rw [← e7, e9]
          exact qI (hQ2 c9) (by rw [g9]) (hp_c g9)
        · refine r_aload_n (pc := 36) dX7_reports_36 rfl ?_
          refine p_getQ (pc := 37) (jI := 10) (n9 := 1) (r := some (37, 0)) fl_X7_32 rfl dX7_reports_37 rfl rfl (by decide) (by decide) rfl ?_
          refine r_iload (pc := 40) dX7_reports_40 rfl ?_
          refine r_iconst (pc := 42) (n := 1) dX7_reports_42 (by decide) ?_
          refine r_isub (pc := 43) dX7_reports_43 (by omega) ?_
          refine q_iald (pc := 44) (n9 := 1) (nI := 1200) (v := hi 37 0 (q - 1)) rfl dX7_reports_44 rfl (by decide) (by decide) rfl (by omega) (by omega) (by exact shM_r (by omega)) ?_
          refine r_iload_n (pc := 45) dX7_reports_45 rfl ?_
          refine r_icmp_le (pc := 46) (tgt := 103) dX7_reports_46 rfl (fun c46 => ?_) (fun c46 => ?_)
          · have e9 : posI (mD hi b) day (hi 40 0 b) = a := by rw [h1, posI_s (by omega), if_neg (by unfold mD; rw [show 30 * b + (a - 1) = q - 1 by omega]; omega)]
            have e7 : q = 30 * b + posI (mD hi b) day (hi 40 0 b) := by omega
            refine r_aload_n (pc := 103) dX7_reports_103 rfl ?_
            refine p_getQ (pc := 104) (jI := 10) (n9 := 1) (r := some (37, 0)) fl_X7_32 rfl dX7_reports_104 rfl rfl (by decide) (by decide) rfl ?_
            refine r_iload (pc := 107) dX7_reports_107 rfl ?_
            refine r_iload_n (pc := 109) dX7_reports_109 rfl ?_
            refine p_iast (pc := 110) (n9 := 1) (nI := 1200) rfl dX7_reports_110 rfl (by decide) (by decide) rfl (by omega) (by omega) ?_
            refine r_aload_n (pc := 111) dX7_reports_111 rfl ?_
            refine p_getQ (pc := 112) (jI := 11) (n9 := 1) (r := some (38, 0)) fl_X7_35 rfl dX7_reports_112 rfl rfl (by decide) (by decide) rfl ?_
            refine r_iload (pc := 115) dX7_reports_115 rfl ?_
            refine r_iload_n (pc := 117) dX7_reports_117 rfl ?_
            refine p_iast (pc := 118) (n9 := 1) (nI := 1200) rfl dX7_reports_118 rfl (by decide) (by decide) rfl (by omega) (by omega) ?_
            refine r_aload_n (pc := 119) dX7_reports_119 rfl ?_
            refine p_getQ (pc := 120) (jI := 12) (n9 := 1) (r := some (39, 0)) fl_X7_38 rfl dX7_reports_120 rfl rfl (by decide) (by decide) rfl ?_
            refine r_iload (pc := 123) dX7_reports_123 rfl ?_
            refine r_iload (pc := 125) dX7_reports_125 rfl ?_
            refine p_iast (pc := 127) (n9 := 1) (nI := 1200) rfl dX7_reports_127 rfl (by decide) (by decide) rfl (by omega) (by omega) ?_
            refine r_aload_n (pc := 128) dX7_reports_128 rfl ?_
            refine p_getQ (pc := 129) (jI := 13) (n9 := 1) (r := some (40, 0)) fl_X7_41 rfl dX7_reports_129 rfl rfl (by decide) (by decide) rfl ?_
            refine r_iload_n (pc := 132) dX7_reports_132 rfl ?_
            refine r_dup2 (pc := 133) dX7_reports_133 (fun _ => rfl) (fun _ => rfl) ?_
            refine q_iald (pc := 134) (n9 := 1) (nI := 40) (v := hi 40 0 b) rfl dX7_reports_134 rfl (by decide) (by decide) rfl (by omega) (by omega) (by simp only [up1]; simp; exact shM_r (by omega)) ?_
            refine r_iconst (pc := 135) (n := 1) dX7_reports_135 (by decide) ?_
            refine r_iadd (pc := 136) dX7_reports_136 (by omega) ?_
            refine p_iast (pc := 137) (n9 := 1) (nI := 40) rfl dX7_reports_137 rfl (by decide) (by decide) rfl (by omega) (by omega) ?_
            refine r_aload_n (pc := 138) dX7_reports_138 rfl ?_
            refine r_iload_n (pc := 139) dX7_reports_139 rfl ?_
            refine d1_V (pc := 140) (t := 7) (i := 0) (rest := []) (cs' := 0) (sl' := 0) mv_X7_148 (KR_X7_doubtful (hi := (up1 (up1 (up1 (up1 (shM hi b a (hi 40 0 b)) 37 0 q day) 38 0 q ev) 39 0 q po) 40 0 b ((hi 40 0 b) + 1))) hb0 (by omega) (by simp [up1]; omega)) rfl ⟨(Nat.le_of_ble_eq_true rfl), (Nat.le_of_ble_eq_true rfl)⟩ (Nat.le_of_ble_eq_true rfl) dX7_reports_140 (show (0 : Int) ≤ 0 by omega) (show 0 < 1 by omega) ⟨rfl, (Nat.le_of_ble_eq_true rfl)⟩ ⟨rfl, (Nat.le_of_ble_eq_true rfl)⟩ rfl ?_
            refine r_iret (pc := 143) dX7_reports_143 (Or.inl rfl) (Nat.le_of_ble_eq_true rfl) (Nat.le_of_ble_eq_true rfl) ?_
            have g9 : (up1 (up1 (up1 (up1 (shM hi b a (hi 40 0 b)) 37 0 q day) 38 0 q ev) 39 0 q po) 40 0 b ((hi 40 0 b) + 1)) = repH hi b day ev po := by unfold repH; rw [← e7, e9]
            exact qI (hQ2 c9) (by rw [g9]) (hp_c g9)
          · refine r_aload_n (pc := 49) dX7_reports_49 rfl ?_
            refine p_getQ (pc := 50) (jI := 10) (n9 := 1) (r := some (37, 0)) fl_X7_32 rfl dX7_reports_50 rfl rfl (by decide) (by decide) rfl ?_
            refine r_iload (pc := 53) dX7_reports_53 rfl ?_
            refine r_aload_n (pc := 55) dX7_reports_55 rfl ?_
            refine p_getQ (pc := 56) (jI := 10) (n9 := 1) (r := some (37, 0)) fl_X7_32 rfl dX7_reports_56 rfl rfl (by decide) (by decide) rfl ?_
            refine r_iload (pc := 59) dX7_reports_59 rfl ?_
            refine r_iconst (pc := 61) (n := 1) dX7_reports_61 (by decide) ?_
            refine r_isub (pc := 62) dX7_reports_62 (by omega) ?_
            refine q_iald (pc := 63) (n9 := 1) (nI := 1200) (v := hi 37 0 (q - 1)) rfl dX7_reports_63 rfl (by decide) (by decide) rfl (by omega) (by omega) (by exact shM_r (by omega)) ?_
            refine p_iast (pc := 64) (n9 := 1) (nI := 1200) rfl dX7_reports_64 rfl (by decide) (by decide) rfl (by omega) (by omega) ?_
            refine r_aload_n (pc := 65) dX7_reports_65 rfl ?_
            refine p_getQ (pc := 66) (jI := 11) (n9 := 1) (r := some (38, 0)) fl_X7_35 rfl dX7_reports_66 rfl rfl (by decide) (by decide) rfl ?_
            refine r_iload (pc := 69) dX7_reports_69 rfl ?_
            refine r_aload_n (pc := 71) dX7_reports_71 rfl ?_
            refine p_getQ (pc := 72) (jI := 11) (n9 := 1) (r := some (38, 0)) fl_X7_35 rfl dX7_reports_72 rfl rfl (by decide) (by decide) rfl ?_
            refine r_iload (pc := 75) dX7_reports_75 rfl ?_
            refine r_iconst (pc := 77) (n := 1) dX7_reports_77 (by decide) ?_
            refine r_isub (pc := 78) dX7_reports_78 (by omega) ?_
            refine q_iald (pc := 79) (n9 := 1) (nI := 1200) (v := hi 38 0 (q - 1)) rfl dX7_reports_79 rfl (by decide) (by decide) rfl (by omega) (by omega) (by simp only [up1]; simp; exact shM_r (by omega)) ?_
            refine p_iast (pc := 80) (n9 := 1) (nI := 1200) rfl dX7_reports_80 rfl (by decide) (by decide) rfl (by omega) (by omega) ?_
            refine r_aload_n (pc := 81) dX7_reports_81 rfl ?_
            refine p_getQ (pc := 82) (jI := 12) (n9 := 1) (r := some (39, 0)) fl_X7_38 rfl dX7_reports_82 rfl rfl (by decide) (by decide) rfl ?_
            refine r_iload (pc := 85) dX7_reports_85 rfl ?_
            refine r_aload_n (pc := 87) dX7_reports_87 rfl ?_
            refine p_getQ (pc := 88) (jI := 12) (n9 := 1) (r := some (39, 0)) fl_X7_38 rfl dX7_reports_88 rfl rfl (by decide) (by decide) rfl ?_
            refine r_iload (pc := 91) dX7_reports_91 rfl ?_
            refine r_iconst (pc := 93) (n := 1) dX7_reports_93 (by decide) ?_
            refine r_isub (pc := 94) dX7_reports_94 (by omega) ?_
            refine q_iald (pc := 95) (n9 := 1) (nI := 1200) (v := hi 39 0 (q - 1)) rfl dX7_reports_95 rfl (by decide) (by decide) rfl (by omega) (by omega) (by simp only [up1]; simp; exact shM_r (by omega)) ?_
            refine p_iast (pc := 96) (n9 := 1) (nI := 1200) rfl dX7_reports_96 rfl (by decide) (by decide) rfl (by omega) (by omega) ?_
            refine r_iinc (pc := 97) (xs' := [some (aR 7 0), some (aI b), some (aI day), some (aI ev), some (aI po), some (aI (q + (-1)))]) dX7_reports_97 rfl (by decide) (by omega) rfl ?_
            refine r_goto (pc := 100) (tgt := 27) dX7_reports_100 rfl ?_
            refine r_hp (hi' := (shM hi b (a - 1) (hi 40 0 b))) (by exact shM_s h3 h0.2) ?_
            exact ih_loop (q + (-1)) (a - 1) (by omega) (by omega) (by rw [h1, posI_s (by omega), if_pos (by unfold mD; rw [show 30 * b + (a - 1) = q - 1 by omega]; omega)]) (by omega)
    refine r_hp (hi' := (shM hi b (hi 40 0 b) (hi 40 0 b))) (by exact shM_0) ?_
    exact loop 31 (30 * b + hi 40 0 b) (hi 40 0 b) (by omega) (by omega) rfl (by omega)
  · refine r_iconst (pc := 12) (n := (-1)) dX7_reports_12 (by decide) ?_
    refine r_iret (pc := 13) dX7_reports_13 (Or.inl rfl) (Nat.le_of_ble_eq_true rfl) (Nat.le_of_ble_eq_true rfl) ?_
    exact qI (hQ1 c9) rfl rfl

def cM_report (hi : Hi) (nb b d e p : Int) : Int := if ¬ (0 ≤ b ∧ b < nb ∧ 0 ≤ p ∧ p < 6) then 1 else if ¬ (0 ≤ d ∧ d ≤ hi 7 0 1 ∧ 0 ≤ e ∧ e ≤ 3) then 2 else if hi 35 0 b ≠ -1 ∨ hi 40 0 b = 30 then 3 else 0
theorem K_X7_report {hi : Hi} {nb nk : Int} (hM : MV hi nb nk) {b d e p : Int}  : MOp I_X7_report [aR 7 0, aI b, aI d, aI e, aI p] hi nb nk (cM_report hi nb b d e p) (some (aI 0)) (some (aI (if bI (knoM (thr hi) b d e p) = 1 then -1 else dbtM (repH (thr hi) b d e p) b))) (hp (if bI (knoM (thr hi) b d e p) = 1 then thr hi else repH (thr hi) b d e p) nb nk) := by
  have hN := hM.num
  unfold mNum at hN
  have hT := hM.thrV
  refine st_m (xs := [some (aR 7 0), some (aI b), some (aI d), some (aI e), some (aI p), none, none]) pn_X7 rfl rfl (Nat.le_of_ble_eq_true rfl) rfl rfl (fun Q X hQ hF => ?_)
  refine r_aload_n (pc := 0) dX7_report_0 rfl ?_
  refine r_iload_n (pc := 1) dX7_report_1 rfl ?_
  refine d1_V (pc := 2) (t := 7) (i := 0) (rest := []) (cs' := 0) (sl' := 0) mv_X7_131 (K_X7_isBox hM (b := b)) rfl ⟨(Nat.le_of_ble_eq_true rfl), (Nat.le_of_ble_eq_true rfl)⟩ (Nat.le_of_ble_eq_true rfl) dX7_report_2 (show (0 : Int) ≤ 0 by omega) (show 0 < 1 by omega) ⟨rfl, (Nat.le_of_ble_eq_true rfl)⟩ ⟨rfl, (Nat.le_of_ble_eq_true rfl)⟩ rfl ?_
  refine q_ifeqB (pc := 5) (tgt := 20) dX7_report_5 rfl (fun c5 => ?_) (fun c5 => ?_)
  · refine r_iconst (pc := 20) (n := 0) dX7_report_20 (by decide) ?_
    refine r_istore (pc := 21) (xs' := [some (aR 7 0), some (aI b), some (aI d), some (aI e), some (aI p), some (aI 0), none]) dX7_report_21 (by decide) rfl ?_
    refine r_iload_n (pc := 23) dX7_report_23 rfl ?_
    refine r_iconst (pc := 24) (n := 0) dX7_report_24 (by decide) ?_
    refine r_aload_n (pc := 25) dX7_report_25 rfl ?_
    refine q_getI (pc := 26) (jI := 1) (n9 := 1) (v := hi 7 0 1) fl_X7_152 rfl dX7_report_26 rfl rfl (by decide) (by decide) rfl ?_
    refine d1_S (pc := 29) (rest := []) (cs' := 0) (sl' := 0) ms_X7_111 rfl (K_X7_isIn (v := d) (lo := 0) (up := hi 7 0 1)) rfl ⟨(Nat.le_of_ble_eq_true rfl), (Nat.le_of_ble_eq_true rfl)⟩ (Nat.le_of_ble_eq_true rfl) dX7_report_29 ⟨rfl, (Nat.le_of_ble_eq_true rfl)⟩ ⟨rfl, (Nat.le_of_ble_eq_true rfl)⟩ rfl ?_
    refine q_ifeqB (pc := 32) (tgt := 48) dX7_report_32 rfl (fun c32 => ?_) (fun c32 => ?_)
    · refine r_iconst (pc := 48) (n := 0) dX7_report_48 (by decide) ?_
      refine r_istore (pc := 49) (xs' := [some (aR 7 0), some (aI b), some (aI d), some (aI e), some (aI p), some (aI 0), some (aI 0)]) dX7_report_49 (by decide) rfl ?_
      refine r_aload_n (pc := 51) dX7_report_51 rfl ?_
      refine r_iload (pc := 52) dX7_report_52 rfl ?_
      refine r_if_ne (pc := 54) (tgt := 61) dX7_report_54 rfl (fun z => absurd z (by decide)) (fun _ => ?_)
      refine r_iconst (pc := 57) (n := 1) dX7_report_57 (by decide) ?_
      refine r_goto (pc := 58) (tgt := 94) dX7_report_58 rfl ?_
      refine d1_V (pc := 94) (t := 7) (i := 0) (rest := []) (cs' := 0) (sl' := 0) mv_X7_125 (K_X7_holds (hi := hi) (e := 1) (v := 0) (by decide)) rfl ⟨(Nat.le_of_ble_eq_true rfl), (Nat.le_of_ble_eq_true rfl)⟩ (Nat.le_of_ble_eq_true rfl) dX7_report_94 (show (0 : Int) ≤ 0 by omega) (show 0 < 1 by omega) ⟨rfl, (Nat.le_of_ble_eq_true rfl)⟩ ⟨rfl, (Nat.le_of_ble_eq_true rfl)⟩ rfl ?_
      refine r_if_eq (pc := 97) (tgt := 112) dX7_report_97 rfl (fun _ => ?_) (fun z => absurd z (by decide))
      refine r_iconst (pc := 112) (n := 0) dX7_report_112 (by decide) ?_
      refine r_iret (pc := 113) dX7_report_113 (Or.inl rfl) (Nat.le_of_ble_eq_true rfl) (Nat.le_of_ble_eq_true rfl) ?_
      exact hF 1 (by decide) (by unfold cM_report; (repeat' split) <;> omega)
    · refine r_iload_n (pc := 35) dX7_report_35 rfl ?_
      refine r_iconst (pc := 36) (n := 0) dX7_report_36 (by decide) ?_
      refine r_iconst (pc := 37) (n := 3) dX7_report_37 (by decide) ?_
      refine d1_S (pc := 38) (rest := []) (cs' := 0) (sl' := 0) ms_X7_111 rfl (K_X7_isIn (v := e) (lo := 0) (up := 3)) rfl ⟨(Nat.le_of_ble_eq_true rfl), (Nat.le_of_ble_eq_true rfl)⟩ (Nat.le_of_ble_eq_true rfl) dX7_report_38 ⟨rfl, (Nat.le_of_ble_eq_true rfl)⟩ ⟨rfl, (Nat.le_of_ble_eq_true rfl)⟩ rfl ?_
      refine q_ifeqB (pc := 41) (tgt := 48) dX7_report_41 rfl (fun c41 => ?_) (fun c41 => ?_)
      · refine r_iconst (pc := 48) (n := 0) dX7_report_48 (by decide) ?_
        refine r_istore (pc := 49) (xs' := [some (aR 7 0), some (aI b), some (aI d), some (aI e), some (aI p), some (aI 0), some (aI 0)]) dX7_report_49 (by decide) rfl ?_
        refine r_aload_n (pc := 51) dX7_report_51 rfl ?_
        refine r_iload (pc := 52) dX7_report_52 rfl ?_
        refine r_if_ne (pc := 54) (tgt := 61) dX7_report_54 rfl (fun z => absurd z (by decide)) (fun _ => ?_)
        refine r_iconst (pc := 57) (n := 1) dX7_report_57 (by decide) ?_
        refine r_goto (pc := 58) (tgt := 94) dX7_report_58 rfl ?_
        refine d1_V (pc := 94) (t := 7) (i := 0) (rest := []) (cs' := 0) (sl' := 0) mv_X7_125 (K_X7_holds (hi := hi) (e := 1) (v := 0) (by decide)) rfl ⟨(Nat.le_of_ble_eq_true rfl), (Nat.le_of_ble_eq_true rfl)⟩ (Nat.le_of_ble_eq_true rfl) dX7_report_94 (show (0 : Int) ≤ 0 by omega) (show 0 < 1 by omega) ⟨rfl, (Nat.le_of_ble_eq_true rfl)⟩ ⟨rfl, (Nat.le_of_ble_eq_true rfl)⟩ rfl ?_
        refine r_if_eq (pc := 97) (tgt := 112) dX7_report_97 rfl (fun _ => ?_) (fun z => absurd z (by decide))
        refine r_iconst (pc := 112) (n := 0) dX7_report_112 (by decide) ?_
        refine r_iret (pc := 113) dX7_report_113 (Or.inl rfl) (Nat.le_of_ble_eq_true rfl) (Nat.le_of_ble_eq_true rfl) ?_
        exact hF 1 (by decide) (by unfold cM_report; (repeat' split) <;> omega)
      · refine r_iconst (pc := 44) (n := 1) dX7_report_44 (by decide) ?_
        refine r_goto (pc := 45) (tgt := 49) dX7_report_45 rfl ?_
        refine r_istore (pc := 49) (xs' := [some (aR 7 0), some (aI b), some (aI d), some (aI e), some (aI p), some (aI 0), some (aI 1)]) dX7_report_49 (by decide) rfl ?_
        refine r_aload_n (pc := 51) dX7_report_51 rfl ?_
        refine r_iload (pc := 52) dX7_report_52 rfl ?_
        refine r_if_ne (pc := 54) (tgt := 61) dX7_report_54 rfl (fun z => absurd z (by decide)) (fun _ => ?_)
        refine r_iconst (pc := 57) (n := 1) dX7_report_57 (by decide) ?_
        refine r_goto (pc := 58) (tgt := 94) dX7_report_58 rfl ?_
        refine d1_V (pc := 94) (t := 7) (i := 0) (rest := []) (cs' := 0) (sl' := 0) mv_X7_125 (K_X7_holds (hi := hi) (e := 1) (v := 0) (by decide)) rfl ⟨(Nat.le_of_ble_eq_true rfl), (Nat.le_of_ble_eq_true rfl)⟩ (Nat.le_of_ble_eq_true rfl) dX7_report_94 (show (0 : Int) ≤ 0 by omega) (show 0 < 1 by omega) ⟨rfl, (Nat.le_of_ble_eq_true rfl)⟩ ⟨rfl, (Nat.le_of_ble_eq_true rfl)⟩ rfl ?_
        refine r_if_eq (pc := 97) (tgt := 112) dX7_report_97 rfl (fun _ => ?_) (fun z => absurd z (by decide))
        refine r_iconst (pc := 112) (n := 0) dX7_report_112 (by decide) ?_
        refine r_iret (pc := 113) dX7_report_113 (Or.inl rfl) (Nat.le_of_ble_eq_true rfl) (Nat.le_of_ble_eq_true rfl) ?_
        exact hF 1 (by decide) (by unfold cM_report; (repeat' split) <;> omega)
  · refine r_iload (pc := 8) dX7_report_8 rfl ?_
    refine d1_S (pc := 10) (rest := []) (cs' := 0) (sl' := 0) ms_X7_118 rfl (K_X7_isPort (p := p)) rfl ⟨(Nat.le_of_ble_eq_true rfl), (Nat.le_of_ble_eq_true rfl)⟩ (Nat.le_of_ble_eq_true rfl) dX7_report_10 ⟨rfl, (Nat.le_of_ble_eq_true rfl)⟩ ⟨rfl, (Nat.le_of_ble_eq_true rfl)⟩ rfl ?_
    refine q_ifeqB (pc := 13) (tgt := 20) dX7_report_13 rfl (fun c13 => ?_) (fun c13 => ?_)
    · refine r_iconst (pc := 20) (n := 0) dX7_report_20 (by decide) ?_
      refine r_istore (pc := 21) (xs' := [some (aR 7 0), some (aI b), some (aI d), some (aI e), some (aI p), some (aI 0), none]) dX7_report_21 (by decide) rfl ?_
      refine r_iload_n (pc := 23) dX7_report_23 rfl ?_
      refine r_iconst (pc := 24) (n := 0) dX7_report_24 (by decide) ?_
      refine r_aload_n (pc := 25) dX7_report_25 rfl ?_
      refine q_getI (pc := 26) (jI := 1) (n9 := 1) (v := hi 7 0 1) fl_X7_152 rfl dX7_report_26 rfl rfl (by decide) (by decide) rfl ?_
      refine d1_S (pc := 29) (rest := []) (cs' := 0) (sl' := 0) ms_X7_111 rfl (K_X7_isIn (v := d) (lo := 0) (up := hi 7 0 1)) rfl ⟨(Nat.le_of_ble_eq_true rfl), (Nat.le_of_ble_eq_true rfl)⟩ (Nat.le_of_ble_eq_true rfl) dX7_report_29 ⟨rfl, (Nat.le_of_ble_eq_true rfl)⟩ ⟨rfl, (Nat.le_of_ble_eq_true rfl)⟩ rfl ?_
      refine q_ifeqB (pc := 32) (tgt := 48) dX7_report_32 rfl (fun c32 => ?_) (fun c32 => ?_)
      · refine r_iconst (pc := 48) (n := 0) dX7_report_48 (by decide) ?_
        refine r_istore (pc := 49) (xs' := [some (aR 7 0), some (aI b), some (aI d), some (aI e), some (aI p), some (aI 0), some (aI 0)]) dX7_report_49 (by decide) rfl ?_
        refine r_aload_n (pc := 51) dX7_report_51 rfl ?_
        refine r_iload (pc := 52) dX7_report_52 rfl ?_
        refine r_if_ne (pc := 54) (tgt := 61) dX7_report_54 rfl (fun z => absurd z (by decide)) (fun _ => ?_)
        refine r_iconst (pc := 57) (n := 1) dX7_report_57 (by decide) ?_
        refine r_goto (pc := 58) (tgt := 94) dX7_report_58 rfl ?_
        refine d1_V (pc := 94) (t := 7) (i := 0) (rest := []) (cs' := 0) (sl' := 0) mv_X7_125 (K_X7_holds (hi := hi) (e := 1) (v := 0) (by decide)) rfl ⟨(Nat.le_of_ble_eq_true rfl), (Nat.le_of_ble_eq_true rfl)⟩ (Nat.le_of_ble_eq_true rfl) dX7_report_94 (show (0 : Int) ≤ 0 by omega) (show 0 < 1 by omega) ⟨rfl, (Nat.le_of_ble_eq_true rfl)⟩ ⟨rfl, (Nat.le_of_ble_eq_true rfl)⟩ rfl ?_
        refine r_if_eq (pc := 97) (tgt := 112) dX7_report_97 rfl (fun _ => ?_) (fun z => absurd z (by decide))
        refine r_iconst (pc := 112) (n := 0) dX7_report_112 (by decide) ?_
        refine r_iret (pc := 113) dX7_report_113 (Or.inl rfl) (Nat.le_of_ble_eq_true rfl) (Nat.le_of_ble_eq_true rfl) ?_
        exact hF 1 (by decide) (by unfold cM_report; (repeat' split) <;> omega)
      · refine r_iload_n (pc := 35) dX7_report_35 rfl ?_
        refine r_iconst (pc := 36) (n := 0) dX7_report_36 (by decide) ?_
        refine r_iconst (pc := 37) (n := 3) dX7_report_37 (by decide) ?_
        refine d1_S (pc := 38) (rest := []) (cs' := 0) (sl' := 0) ms_X7_111 rfl (K_X7_isIn (v := e) (lo := 0) (up := 3)) rfl ⟨(Nat.le_of_ble_eq_true rfl), (Nat.le_of_ble_eq_true rfl)⟩ (Nat.le_of_ble_eq_true rfl) dX7_report_38 ⟨rfl, (Nat.le_of_ble_eq_true rfl)⟩ ⟨rfl, (Nat.le_of_ble_eq_true rfl)⟩ rfl ?_
        refine q_ifeqB (pc := 41) (tgt := 48) dX7_report_41 rfl (fun c41 => ?_) (fun c41 => ?_)
        · refine r_iconst (pc := 48) (n := 0) dX7_report_48 (by decide) ?_
          refine r_istore (pc := 49) (xs' := [some (aR 7 0), some (aI b), some (aI d), some (aI e), some (aI p), some (aI 0), some (aI 0)]) dX7_report_49 (by decide) rfl ?_
          refine r_aload_n (pc := 51) dX7_report_51 rfl ?_
          refine r_iload (pc := 52) dX7_report_52 rfl ?_
          refine r_if_ne (pc := 54) (tgt := 61) dX7_report_54 rfl (fun z => absurd z (by decide)) (fun _ => ?_)
          refine r_iconst (pc := 57) (n := 1) dX7_report_57 (by decide) ?_
          refine r_goto (pc := 58) (tgt := 94) dX7_report_58 rfl ?_
          refine d1_V (pc := 94) (t := 7) (i := 0) (rest := []) (cs' := 0) (sl' := 0) mv_X7_125 (K_X7_holds (hi := hi) (e := 1) (v := 0) (by decide)) rfl ⟨(Nat.le_of_ble_eq_true rfl), (Nat.le_of_ble_eq_true rfl)⟩ (Nat.le_of_ble_eq_true rfl) dX7_report_94 (show (0 : Int) ≤ 0 by omega) (show 0 < 1 by omega) ⟨rfl, (Nat.le_of_ble_eq_true rfl)⟩ ⟨rfl, (Nat.le_of_ble_eq_true rfl)⟩ rfl ?_
          refine r_if_eq (pc := 97) (tgt := 112) dX7_report_97 rfl (fun _ => ?_) (fun z => absurd z (by decide))
          refine r_iconst (pc := 112) (n := 0) dX7_report_112 (by decide) ?_
          refine r_iret (pc := 113) dX7_report_113 (Or.inl rfl) (Nat.le_of_ble_eq_true rfl) (Nat.le_of_ble_eq_true rfl) ?_
          exact hF 1 (by decide) (by unfold cM_report; (repeat' split) <;> omega)
        · refine r_iconst (pc := 44) (n := 1) dX7_report_44 (by decide) ?_
          refine r_goto (pc := 45) (tgt := 49) dX7_report_45 rfl ?_
          refine r_istore (pc := 49) (xs' := [some (aR 7 0), some (aI b), some (aI d), some (aI e), some (aI p), some (aI 0), some (aI 1)]) dX7_report_49 (by decide) rfl ?_
          refine r_aload_n (pc := 51) dX7_report_51 rfl ?_
          refine r_iload (pc := 52) dX7_report_52 rfl ?_
          refine r_if_ne (pc := 54) (tgt := 61) dX7_report_54 rfl (fun z => absurd z (by decide)) (fun _ => ?_)
          refine r_iconst (pc := 57) (n := 1) dX7_report_57 (by decide) ?_
          refine r_goto (pc := 58) (tgt := 94) dX7_report_58 rfl ?_
          refine d1_V (pc := 94) (t := 7) (i := 0) (rest := []) (cs' := 0) (sl' := 0) mv_X7_125 (K_X7_holds (hi := hi) (e := 1) (v := 0) (by decide)) rfl ⟨(Nat.le_of_ble_eq_true rfl), (Nat.le_of_ble_eq_true rfl)⟩ (Nat.le_of_ble_eq_true rfl) dX7_report_94 (show (0 : Int) ≤ 0 by omega) (show 0 < 1 by omega) ⟨rfl, (Nat.le_of_ble_eq_true rfl)⟩ ⟨rfl, (Nat.le_of_ble_eq_true rfl)⟩ rfl ?_
          refine r_if_eq (pc := 97) (tgt := 112) dX7_report_97 rfl (fun _ => ?_) (fun z => absurd z (by decide))
          refine r_iconst (pc := 112) (n := 0) dX7_report_112 (by decide) ?_
          refine r_iret (pc := 113) dX7_report_113 (Or.inl rfl) (Nat.le_of_ble_eq_true rfl) (Nat.le_of_ble_eq_true rfl) ?_
          exact hF 1 (by decide) (by unfold cM_report; (repeat' split) <;> omega)
    · refine r_iconst (pc := 16) (n := 1) dX7_report_16 (by decide) ?_
      refine r_goto (pc := 17) (tgt := 21) dX7_report_17 rfl ?_
      refine r_istore (pc := 21) (xs' := [some (aR 7 0), some (aI b), some (aI d), some (aI e), some (aI p), some (aI 1), none]) dX7_report_21 (by decide) rfl ?_
      refine r_iload_n (pc := 23) dX7_report_23 rfl ?_
      refine r_iconst (pc := 24) (n := 0) dX7_report_24 (by decide) ?_
      refine r_aload_n (pc := 25) dX7_report_25 rfl ?_
      refine q_getI (pc := 26) (jI := 1) (n9 := 1) (v := hi 7 0 1) fl_X7_152 rfl dX7_report_26 rfl rfl (by decide) (by decide) rfl ?_
      refine d1_S (pc := 29) (rest := []) (cs' := 0) (sl' := 0) ms_X7_111 rfl (K_X7_isIn (v := d) (lo := 0) (up := hi 7 0 1)) rfl ⟨(Nat.le_of_ble_eq_true rfl), (Nat.le_of_ble_eq_true rfl)⟩ (Nat.le_of_ble_eq_true rfl) dX7_report_29 ⟨rfl, (Nat.le_of_ble_eq_true rfl)⟩ ⟨rfl, (Nat.le_of_ble_eq_true rfl)⟩ rfl ?_
      refine q_ifeqB (pc := 32) (tgt := 48) dX7_report_32 rfl (fun c32 => ?_) (fun c32 => ?_)
      · refine r_iconst (pc := 48) (n := 0) dX7_report_48 (by decide) ?_
        refine r_istore (pc := 49) (xs' := [some (aR 7 0), some (aI b), some (aI d), some (aI e), some (aI p), some (aI 1), some (aI 0)]) dX7_report_49 (by decide) rfl ?_
        refine r_aload_n (pc := 51) dX7_report_51 rfl ?_
        refine r_iload (pc := 52) dX7_report_52 rfl ?_
        refine r_if_ne (pc := 54) (tgt := 61) dX7_report_54 rfl (fun _ => ?_) (fun z => absurd z (by decide))
        refine r_iload (pc := 61) dX7_report_61 rfl ?_
        refine r_if_ne (pc := 63) (tgt := 70) dX7_report_63 rfl (fun z => absurd z (by decide)) (fun _ => ?_)
        refine r_iconst (pc := 66) (n := 2) dX7_report_66 (by decide) ?_
        refine r_goto (pc := 67) (tgt := 94) dX7_report_67 rfl ?_
        refine d1_V (pc := 94) (t := 7) (i := 0) (rest := []) (cs' := 0) (sl' := 0) mv_X7_125 (K_X7_holds (hi := hi) (e := 2) (v := 0) (by decide)) rfl ⟨(Nat.le_of_ble_eq_true rfl), (Nat.le_of_ble_eq_true rfl)⟩ (Nat.le_of_ble_eq_true rfl) dX7_report_94 (show (0 : Int) ≤ 0 by omega) (show 0 < 1 by omega) ⟨rfl, (Nat.le_of_ble_eq_true rfl)⟩ ⟨rfl, (Nat.le_of_ble_eq_true rfl)⟩ rfl ?_
        refine r_if_eq (pc := 97) (tgt := 112) dX7_report_97 rfl (fun _ => ?_) (fun z => absurd z (by decide))
        refine r_iconst (pc := 112) (n := 0) dX7_report_112 (by decide) ?_
        refine r_iret (pc := 113) dX7_report_113 (Or.inl rfl) (Nat.le_of_ble_eq_true rfl) (Nat.le_of_ble_eq_true rfl) ?_
        exact hF 2 (by decide) (by unfold cM_report; (repeat' split) <;> omega)
      · refine r_iload_n (pc := 35) dX7_report_35 rfl ?_
        refine r_iconst (pc := 36) (n := 0) dX7_report_36 (by decide) ?_
        refine r_iconst (pc := 37) (n := 3) dX7_report_37 (by decide) ?_
        refine d1_S (pc := 38) (rest := []) (cs' := 0) (sl' := 0) ms_X7_111 rfl (K_X7_isIn (v := e) (lo := 0) (up := 3)) rfl ⟨(Nat.le_of_ble_eq_true rfl), (Nat.le_of_ble_eq_true rfl)⟩ (Nat.le_of_ble_eq_true rfl) dX7_report_38 ⟨rfl, (Nat.le_of_ble_eq_true rfl)⟩ ⟨rfl, (Nat.le_of_ble_eq_true rfl)⟩ rfl ?_
        refine q_ifeqB (pc := 41) (tgt := 48) dX7_report_41 rfl (fun c41 => ?_) (fun c41 => ?_)
        · refine r_iconst (pc := 48) (n := 0) dX7_report_48 (by decide) ?_
          refine r_istore (pc := 49) (xs' := [some (aR 7 0), some (aI b), some (aI d), some (aI e), some (aI p), some (aI 1), some (aI 0)]) dX7_report_49 (by decide) rfl ?_
          refine r_aload_n (pc := 51) dX7_report_51 rfl ?_
          refine r_iload (pc := 52) dX7_report_52 rfl ?_
          refine r_if_ne (pc := 54) (tgt := 61) dX7_report_54 rfl (fun _ => ?_) (fun z => absurd z (by decide))
          refine r_iload (pc := 61) dX7_report_61 rfl ?_
          refine r_if_ne (pc := 63) (tgt := 70) dX7_report_63 rfl (fun z => absurd z (by decide)) (fun _ => ?_)
          refine r_iconst (pc := 66) (n := 2) dX7_report_66 (by decide) ?_
          refine r_goto (pc := 67) (tgt := 94) dX7_report_67 rfl ?_
          refine d1_V (pc := 94) (t := 7) (i := 0) (rest := []) (cs' := 0) (sl' := 0) mv_X7_125 (K_X7_holds (hi := hi) (e := 2) (v := 0) (by decide)) rfl ⟨(Nat.le_of_ble_eq_true rfl), (Nat.le_of_ble_eq_true rfl)⟩ (Nat.le_of_ble_eq_true rfl) dX7_report_94 (show (0 : Int) ≤ 0 by omega) (show 0 < 1 by omega) ⟨rfl, (Nat.le_of_ble_eq_true rfl)⟩ ⟨rfl, (Nat.le_of_ble_eq_true rfl)⟩ rfl ?_
          refine r_if_eq (pc := 97) (tgt := 112) dX7_report_97 rfl (fun _ => ?_) (fun z => absurd z (by decide))
          refine r_iconst (pc := 112) (n := 0) dX7_report_112 (by decide) ?_
          refine r_iret (pc := 113) dX7_report_113 (Or.inl rfl) (Nat.le_of_ble_eq_true rfl) (Nat.le_of_ble_eq_true rfl) ?_
          exact hF 2 (by decide) (by unfold cM_report; (repeat' split) <;> omega)
        · refine r_iconst (pc := 44) (n := 1) dX7_report_44 (by decide) ?_
          refine r_goto (pc := 45) (tgt := 49) dX7_report_45 rfl ?_
          refine r_istore (pc := 49) (xs' := [some (aR 7 0), some (aI b), some (aI d), some (aI e), some (aI p), some (aI 1), some (aI 1)]) dX7_report_49 (by decide) rfl ?_
          refine r_aload_n (pc := 51) dX7_report_51 rfl ?_
          refine r_iload (pc := 52) dX7_report_52 rfl ?_
          refine r_if_ne (pc := 54) (tgt := 61) dX7_report_54 rfl (fun _ => ?_) (fun z => absurd z (by decide))
          refine r_iload (pc := 61) dX7_report_61 rfl ?_
          refine r_if_ne (pc := 63) (tgt := 70) dX7_report_63 rfl (fun _ => ?_) (fun z => absurd z (by decide))
          refine r_aload_n (pc := 70) dX7_report_70 rfl ?_
          refine r_iload_n (pc := 71) dX7_report_71 rfl ?_
          refine d1_V (pc := 72) (t := 7) (i := 0) (rest := [aR 7 0]) (cs' := 0) (sl' := 0) mv_X7_134 (K_X7_isGone (b := b) (by omega) (by omega)) rfl ⟨(Nat.le_of_ble_eq_true rfl), (Nat.le_of_ble_eq_true rfl)⟩ (Nat.le_of_ble_eq_true rfl) dX7_report_72 (show (0 : Int) ≤ 0 by omega) (show 0 < 1 by omega) ⟨rfl, (Nat.le_of_ble_eq_true rfl)⟩ ⟨rfl, (Nat.le_of_ble_eq_true rfl)⟩ rfl ?_
          refine q_ifneB (pc := 75) (tgt := 89) dX7_report_75 rfl (fun c75 => ?_) (fun c75 => ?_)
          · refine r_iconst (pc := 89) (n := 3) dX7_report_89 (by decide) ?_
            refine r_goto (pc := 90) (tgt := 94) dX7_report_90 rfl ?_
            refine d1_V (pc := 94) (t := 7) (i := 0) (rest := []) (cs' := 0) (sl' := 0) mv_X7_125 (K_X7_holds (hi := hi) (e := 3) (v := 0) (by decide)) rfl ⟨(Nat.le_of_ble_eq_true rfl), (Nat.le_of_ble_eq_true rfl)⟩ (Nat.le_of_ble_eq_true rfl) dX7_report_94 (show (0 : Int) ≤ 0 by omega) (show 0 < 1 by omega) ⟨rfl, (Nat.le_of_ble_eq_true rfl)⟩ ⟨rfl, (Nat.le_of_ble_eq_true rfl)⟩ rfl ?_
            refine r_if_eq (pc := 97) (tgt := 112) dX7_report_97 rfl (fun _ => ?_) (fun z => absurd z (by decide))
            refine r_iconst (pc := 112) (n := 0) dX7_report_112 (by decide) ?_
            refine r_iret (pc := 113) dX7_report_113 (Or.inl rfl) (Nat.le_of_ble_eq_true rfl) (Nat.le_of_ble_eq_true rfl) ?_
            exact hF 3 (by decide) (by unfold cM_report; (repeat' split) <;> omega)
          · refine r_aload_n (pc := 78) dX7_report_78 rfl ?_
            refine p_getQ (pc := 79) (jI := 13) (n9 := 1) (r := some (40, 0)) fl_X7_41 rfl dX7_report_79 rfl rfl (by decide) (by decide) rfl ?_
            refine r_iload_n (pc := 82) dX7_report_82 rfl ?_
            refine q_iald (pc := 83) (n9 := 1) (nI := 40) (v := hi 40 0 b) rfl dX7_report_83 rfl (by decide) (by decide) rfl (by omega) (by omega) rfl ?_
            refine r_bipush (pc := 84) (n := 30) dX7_report_84 rfl (by decide) ?_
            refine r_icmp_ne (pc := 86) (tgt := 93) dX7_report_86 rfl (fun c86 => ?_) (fun c86 => ?_)
            · refine r_iconst (pc := 93) (n := 0) dX7_report_93 (by decide) ?_
              refine d1_V (pc := 94) (t := 7) (i := 0) (rest := []) (cs' := 0) (sl' := 0) mv_X7_125 (K_X7_holds (hi := hi) (e := 0) (v := 1) (by decide)) rfl ⟨(Nat.le_of_ble_eq_true rfl), (Nat.le_of_ble_eq_true rfl)⟩ (Nat.le_of_ble_eq_true rfl) dX7_report_94 (show (0 : Int) ≤ 0 by omega) (show 0 < 1 by omega) ⟨rfl, (Nat.le_of_ble_eq_true rfl)⟩ ⟨rfl, (Nat.le_of_ble_eq_true rfl)⟩ rfl ?_
              refine r_hp (hi' := thr hi) rfl ?_
              refine r_if_eq (pc := 97) (tgt := 112) dX7_report_97 rfl (fun z => absurd z (by decide)) (fun _ => ?_)
              refine r_aload_n (pc := 100) dX7_report_100 rfl ?_
              refine r_iload_n (pc := 101) dX7_report_101 rfl ?_
              refine r_iload_n (pc := 102) dX7_report_102 rfl ?_
              refine r_iload_n (pc := 103) dX7_report_103 rfl ?_
              refine r_iload (pc := 104) dX7_report_104 rfl ?_
              refine r_callV (pc := 106) (t := 7) (i := 0) (rest := []) (cs' := 0) (sl' := 0) mv_X7_155 (K_X7_reports hT (b := b) (day := d) (ev := e) (po := p) (by omega) (by omega) (by show hi 40 0 b < 30; have := (hM.box b (by omega) (by omega)).2.2.1; omega)) rfl ⟨(Nat.le_of_ble_eq_true rfl), (Nat.le_of_ble_eq_true rfl)⟩ (Nat.le_of_ble_eq_true rfl) dX7_report_106 (show (0 : Int) ≤ 0 by omega) (show 0 < 1 by omega) ⟨rfl, (Nat.le_of_ble_eq_true rfl)⟩ ⟨rfl, (Nat.le_of_ble_eq_true rfl)⟩ rfl (fun r9 h9 hq9 => ?_) (fun E9 h9 hx9 => hx9.elim)
              have r8 : r9 = some (aI (if bI (knoM (thr hi) b d e p) = 1 then -1 else dbtM (repH (thr hi) b d e p) b)) ∧ h9 = hp (if bI (knoM (thr hi) b d e p) = 1 then thr hi else repH (thr hi) b d e p) nb nk := by
                rcases hq9 with z | z
                · rw [if_pos (bI_t z.1), if_pos (bI_t z.1)]; exact z.2
                · rw [if_neg (by rw [bI_f z.1]; decide), if_neg (by rw [bI_f z.1]; decide)]; exact z.2
              obtain ⟨rfl, rfl⟩ := r8
              show Run _ 109 _ [aI (if bI (knoM (thr hi) b d e p) = 1 then -1 else dbtM (repH (thr hi) b d e p) b)] _ _ _ _ _
              refine r_goto (pc := 109) (tgt := 113) dX7_report_109 rfl ?_
              refine r_iret (pc := 113) dX7_report_113 (Or.inl rfl) (Nat.le_of_ble_eq_true rfl) (Nat.le_of_ble_eq_true rfl) ?_
              exact hQ (by unfold cM_report; (repeat' split) <;> omega)
            · refine r_iconst (pc := 89) (n := 3) dX7_report_89 (by decide) ?_
              refine r_goto (pc := 90) (tgt := 94) dX7_report_90 rfl ?_
              refine d1_V (pc := 94) (t := 7) (i := 0) (rest := []) (cs' := 0) (sl' := 0) mv_X7_125 (K_X7_holds (hi := hi) (e := 3) (v := 0) (by decide)) rfl ⟨(Nat.le_of_ble_eq_true rfl), (Nat.le_of_ble_eq_true rfl)⟩ (Nat.le_of_ble_eq_true rfl) dX7_report_94 (show (0 : Int) ≤ 0 by omega) (show 0 < 1 by omega) ⟨rfl, (Nat.le_of_ble_eq_true rfl)⟩ ⟨rfl, (Nat.le_of_ble_eq_true rfl)⟩ rfl ?_
              refine r_if_eq (pc := 97) (tgt := 112) dX7_report_97 rfl (fun _ => ?_) (fun z => absurd z (by decide))
              refine r_iconst (pc := 112) (n := 0) dX7_report_112 (by decide) ?_
              refine r_iret (pc := 113) dX7_report_113 (Or.inl rfl) (Nat.le_of_ble_eq_true rfl) (Nat.le_of_ble_eq_true rfl) ?_
              exact hF 3 (by decide) (by unfold cM_report; (repeat' split) <;> omega)

theorem K_X7_place {hi : Hi} {nb nk : Int} (hM : MV hi nb nk) {b d : Int}  : MOp I_X7_place [aR 7 0, aI b, aI d] hi nb nk (cC_place nb b d) (some (aI 0)) (some (aI (plcM (thr hi) b d))) (hp (thr hi) nb nk) := by
  have hN := hM.num
  unfold mNum at hN
  have hT := hM.thrV
  refine st_m (xs := [some (aR 7 0), some (aI b), some (aI d), none]) pn_X7 rfl rfl (Nat.le_of_ble_eq_true rfl) rfl rfl (fun Q X hQ hF => ?_)
  refine r_aload_n (pc := 0) dX7_place_0 rfl ?_
  refine r_iload_n (pc := 1) dX7_place_1 rfl ?_
  refine d1_V (pc := 2) (t := 7) (i := 0) (rest := []) (cs' := 0) (sl' := 0) mv_X7_131 (K_X7_isBox hM (b := b)) rfl ⟨(Nat.le_of_ble_eq_true rfl), (Nat.le_of_ble_eq_true rfl)⟩ (Nat.le_of_ble_eq_true rfl) dX7_place_2 (show (0 : Int) ≤ 0 by omega) (show 0 < 1 by omega) ⟨rfl, (Nat.le_of_ble_eq_true rfl)⟩ ⟨rfl, (Nat.le_of_ble_eq_true rfl)⟩ rfl ?_
  refine r_istore_n (pc := 5) (xs' := [some (aR 7 0), some (aI b), some (aI d), some (aI (bI (0 ≤ b ∧ b < nb)))]) dX7_place_5 (by decide) rfl ?_
  refine r_aload_n (pc := 6) dX7_place_6 rfl ?_
  refine r_iload_n (pc := 7) dX7_place_7 rfl ?_
  refine q_ifneB (pc := 8) (tgt := 15) dX7_place_8 rfl (fun c8 => ?_) (fun c8 => ?_)
  · refine r_iload_n (pc := 15) dX7_place_15 rfl ?_
    refine d1_S (pc := 16) (rest := [aR 7 0]) (cs' := 0) (sl' := 0) ms_X7_122 rfl (K_X7_isDay (p := d)) rfl ⟨(Nat.le_of_ble_eq_true rfl), (Nat.le_of_ble_eq_true rfl)⟩ (Nat.le_of_ble_eq_true rfl) dX7_place_16 ⟨rfl, (Nat.le_of_ble_eq_true rfl)⟩ ⟨rfl, (Nat.le_of_ble_eq_true rfl)⟩ rfl ?_
    refine q_ifneB (pc := 19) (tgt := 26) dX7_place_19 rfl (fun c19 => ?_) (fun c19 => ?_)
    · refine r_iconst (pc := 26) (n := 0) dX7_place_26 (by decide) ?_
      refine d1_V (pc := 27) (t := 7) (i := 0) (rest := []) (cs' := 0) (sl' := 0) mv_X7_125 (K_X7_holds (hi := hi) (e := 0) (v := 1) (by decide)) rfl ⟨(Nat.le_of_ble_eq_true rfl), (Nat.le_of_ble_eq_true rfl)⟩ (Nat.le_of_ble_eq_true rfl) dX7_place_27 (show (0 : Int) ≤ 0 by omega) (show 0 < 1 by omega) ⟨rfl, (Nat.le_of_ble_eq_true rfl)⟩ ⟨rfl, (Nat.le_of_ble_eq_true rfl)⟩ rfl ?_
      refine r_hp (hi' := thr hi) rfl ?_
      refine r_if_eq (pc := 30) (tgt := 42) dX7_place_30 rfl (fun z => absurd z (by decide)) (fun _ => ?_)
      refine r_aload_n (pc := 33) dX7_place_33 rfl ?_
      refine r_iload_n (pc := 34) dX7_place_34 rfl ?_
      refine r_iload_n (pc := 35) dX7_place_35 rfl ?_
      refine d1_V (pc := 36) (t := 7) (i := 0) (rest := []) (cs' := 0) (sl' := 0) mv_X7_158 (K_X7_placeOn hT (by omega) (by omega)) rfl ⟨(Nat.le_of_ble_eq_true rfl), (Nat.le_of_ble_eq_true rfl)⟩ (Nat.le_of_ble_eq_true rfl) dX7_place_36 (show (0 : Int) ≤ 0 by omega) (show 0 < 1 by omega) ⟨rfl, (Nat.le_of_ble_eq_true rfl)⟩ ⟨rfl, (Nat.le_of_ble_eq_true rfl)⟩ rfl ?_
      refine r_goto (pc := 39) (tgt := 43) dX7_place_39 rfl ?_
      refine r_iret (pc := 43) dX7_place_43 (Or.inl rfl) (Nat.le_of_ble_eq_true rfl) (Nat.le_of_ble_eq_true rfl) ?_
      exact hQ (by unfold cC_place; (repeat' split) <;> omega)
    · refine r_iconst (pc := 22) (n := 2) dX7_place_22 (by decide) ?_
      refine r_goto (pc := 23) (tgt := 27) dX7_place_23 rfl ?_
      refine d1_V (pc := 27) (t := 7) (i := 0) (rest := []) (cs' := 0) (sl' := 0) mv_X7_125 (K_X7_holds (hi := hi) (e := 2) (v := 0) (by decide)) rfl ⟨(Nat.le_of_ble_eq_true rfl), (Nat.le_of_ble_eq_true rfl)⟩ (Nat.le_of_ble_eq_true rfl) dX7_place_27 (show (0 : Int) ≤ 0 by omega) (show 0 < 1 by omega) ⟨rfl, (Nat.le_of_ble_eq_true rfl)⟩ ⟨rfl, (Nat.le_of_ble_eq_true rfl)⟩ rfl ?_
      refine r_if_eq (pc := 30) (tgt := 42) dX7_place_30 rfl (fun _ => ?_) (fun z => absurd z (by decide))
      refine r_iconst (pc := 42) (n := 0) dX7_place_42 (by decide) ?_
      refine r_iret (pc := 43) dX7_place_43 (Or.inl rfl) (Nat.le_of_ble_eq_true rfl) (Nat.le_of_ble_eq_true rfl) ?_
      exact hF 2 (by decide) (by unfold cC_place; (repeat' split) <;> omega)
  · refine r_iconst (pc := 11) (n := 1) dX7_place_11 (by decide) ?_
    refine r_goto (pc := 12) (tgt := 27) dX7_place_12 rfl ?_
    refine d1_V (pc := 27) (t := 7) (i := 0) (rest := []) (cs' := 0) (sl' := 0) mv_X7_125 (K_X7_holds (hi := hi) (e := 1) (v := 0) (by decide)) rfl ⟨(Nat.le_of_ble_eq_true rfl), (Nat.le_of_ble_eq_true rfl)⟩ (Nat.le_of_ble_eq_true rfl) dX7_place_27 (show (0 : Int) ≤ 0 by omega) (show 0 < 1 by omega) ⟨rfl, (Nat.le_of_ble_eq_true rfl)⟩ ⟨rfl, (Nat.le_of_ble_eq_true rfl)⟩ rfl ?_
    refine r_if_eq (pc := 30) (tgt := 42) dX7_place_30 rfl (fun _ => ?_) (fun z => absurd z (by decide))
    refine r_iconst (pc := 42) (n := 0) dX7_place_42 (by decide) ?_
    refine r_iret (pc := 43) dX7_place_43 (Or.inl rfl) (Nat.le_of_ble_eq_true rfl) (Nat.le_of_ble_eq_true rfl) ?_
    exact hF 1 (by decide) (by unfold cC_place; (repeat' split) <;> omega)

theorem K_X7_count {hi : Hi} {nb nk : Int} (hM : MV hi nb nk) {p kd d : Int}  : MOp I_X7_count [aR 7 0, aI p, aI kd, aI d] hi nb nk (cC_count p kd d) (some (aI 0)) (some (aI (sI (fun b => bI ((kd = -1 ∨ (thr hi) 31 0 b = kd) ∧ plcM (thr hi) b d = p)) nb))) (hp (thr hi) nb nk) := by
  have hN := hM.num
  unfold mNum at hN
  have hT := hM.thrV
  refine st_m (xs := [some (aR 7 0), some (aI p), some (aI kd), some (aI d), none, none]) pn_X7 rfl rfl (Nat.le_of_ble_eq_true rfl) rfl rfl (fun Q X hQ hF => ?_)
  refine r_aload_n (pc := 0) dX7_count_0 rfl ?_
  refine r_iload_n (pc := 1) dX7_count_1 rfl ?_
  refine d1_S (pc := 2) (rest := [aR 7 0]) (cs' := 0) (sl' := 0) ms_X7_118 rfl (K_X7_isPort (p := p)) rfl ⟨(Nat.le_of_ble_eq_true rfl), (Nat.le_of_ble_eq_true rfl)⟩ (Nat.le_of_ble_eq_true rfl) dX7_count_2 ⟨rfl, (Nat.le_of_ble_eq_true rfl)⟩ ⟨rfl, (Nat.le_of_ble_eq_true rfl)⟩ rfl ?_
  refine q_ifneB (pc := 5) (tgt := 12) dX7_count_5 rfl (fun c5 => ?_) (fun c5 => ?_)
  · refine r_iload_n (pc := 12) dX7_count_12 rfl ?_
    refine r_iconst (pc := 13) (n := (-1)) dX7_count_13 (by decide) ?_
    refine r_iconst (pc := 14) (n := 2) dX7_count_14 (by decide) ?_
    refine d1_S (pc := 15) (rest := [aR 7 0]) (cs' := 0) (sl' := 0) ms_X7_111 rfl (K_X7_isIn (v := kd) (lo := (-1)) (up := 2)) rfl ⟨(Nat.le_of_ble_eq_true rfl), (Nat.le_of_ble_eq_true rfl)⟩ (Nat.le_of_ble_eq_true rfl) dX7_count_15 ⟨rfl, (Nat.le_of_ble_eq_true rfl)⟩ ⟨rfl, (Nat.le_of_ble_eq_true rfl)⟩ rfl ?_
    refine q_ifeqB (pc := 18) (tgt := 28) dX7_count_18 rfl (fun c18 => ?_) (fun c18 => ?_)
    · refine r_iconst (pc := 28) (n := 2) dX7_count_28 (by decide) ?_
      refine r_goto (pc := 29) (tgt := 33) dX7_count_29 rfl ?_
      refine d1_V (pc := 33) (t := 7) (i := 0) (rest := []) (cs' := 0) (sl' := 0) mv_X7_125 (K_X7_holds (hi := hi) (e := 2) (v := 0) (by decide)) rfl ⟨(Nat.le_of_ble_eq_true rfl), (Nat.le_of_ble_eq_true rfl)⟩ (Nat.le_of_ble_eq_true rfl) dX7_count_33 (show (0 : Int) ≤ 0 by omega) (show 0 < 1 by omega) ⟨rfl, (Nat.le_of_ble_eq_true rfl)⟩ ⟨rfl, (Nat.le_of_ble_eq_true rfl)⟩ rfl ?_
      refine r_if_ne (pc := 36) (tgt := 41) dX7_count_36 rfl (fun z => absurd z (by decide)) (fun _ => ?_)
      refine r_iconst (pc := 39) (n := 0) dX7_count_39 (by decide) ?_
      refine r_iret (pc := 40) dX7_count_40 (Or.inl rfl) (Nat.le_of_ble_eq_true rfl) (Nat.le_of_ble_eq_true rfl) ?_
      exact hF 2 (by decide) (by unfold cC_count; (repeat' split) <;> omega)
    · refine r_iload_n (pc := 21) dX7_count_21 rfl ?_
      refine d1_S (pc := 22) (rest := [aR 7 0]) (cs' := 0) (sl' := 0) ms_X7_122 rfl (K_X7_isDay (p := d)) rfl ⟨(Nat.le_of_ble_eq_true rfl), (Nat.le_of_ble_eq_true rfl)⟩ (Nat.le_of_ble_eq_true rfl) dX7_count_22 ⟨rfl, (Nat.le_of_ble_eq_true rfl)⟩ ⟨rfl, (Nat.le_of_ble_eq_true rfl)⟩ rfl ?_
      refine q_ifneB (pc := 25) (tgt := 32) dX7_count_25 rfl (fun c25 => ?_) (fun c25 => ?_)
      · refine r_iconst (pc := 32) (n := 0) dX7_count_32 (by decide) ?_
        refine d1_V (pc := 33) (t := 7) (i := 0) (rest := []) (cs' := 0) (sl' := 0) mv_X7_125 (K_X7_holds (hi := hi) (e := 0) (v := 1) (by decide)) rfl ⟨(Nat.le_of_ble_eq_true rfl), (Nat.le_of_ble_eq_true rfl)⟩ (Nat.le_of_ble_eq_true rfl) dX7_count_33 (show (0 : Int) ≤ 0 by omega) (show 0 < 1 by omega) ⟨rfl, (Nat.le_of_ble_eq_true rfl)⟩ ⟨rfl, (Nat.le_of_ble_eq_true rfl)⟩ rfl ?_
        refine r_hp (hi' := thr hi) rfl ?_
        refine r_if_ne (pc := 36) (tgt := 41) dX7_count_36 rfl (fun _ => ?_) (fun z => absurd z (by decide))
        refine r_iconst (pc := 41) (n := 0) dX7_count_41 (by decide) ?_
        refine r_istore (pc := 42) (xs' := [some (aR 7 0), some (aI p), some (aI kd), some (aI d), some (aI 0), none]) dX7_count_42 (by decide) rfl ?_
        refine r_iconst (pc := 44) (n := 0) dX7_count_44 (by decide) ?_
        refine r_istore (pc := 45) (xs' := [some (aR 7 0), some (aI p), some (aI kd), some (aI d), some (aI 0), some (aI 0)]) dX7_count_45 (by decide) rfl ?_
        have loop : ∀ (n9 : Nat) (i c : Int), (0 ≤ i ∧ i ≤ nb) → (0 ≤ c ∧ c ≤ i) → (c = sI (fun b => bI ((kd = -1 ∨ (thr hi) 31 0 b = kd) ∧ plcM (thr hi) b d = p)) i) → nb - i < (n9 : Int) → Run I_X7_count 47 [some (aR 7 0), some (aI p), some (aI kd), some (aI d), some (aI c), some (aI i)] [] (hp (thr hi) nb nk) 0 0 Q X := by
          intro n9
          induction n9 with
          | zero => intro i c h0 h1 h2 hf9; exfalso; omega
          | succ n9 ih_loop =>
            intro i c h0 h1 h2 hf9
            refine r_iload (pc := 47) dX7_count_47 rfl ?_
            refine r_aload_n (pc := 49) dX7_count_49 rfl ?_
            refine q_getI (pc := 50) (jI := 9) (n9 := 1) (v := nb) fl_X7_115 rfl dX7_count_50 rfl rfl (by decide) (by decide) (by show hi 7 0 9 = nb; omega) ?_
            refine r_icmp_ge (pc := 53) (tgt := 99) dX7_count_53 rfl (fun c53 => ?_) (fun c53 => ?_)
            · refine r_iload (pc := 99) dX7_count_99 rfl ?_
              refine r_iret (pc := 101) dX7_count_101 (Or.inl rfl) (Nat.le_of_ble_eq_true rfl) (Nat.le_of_ble_eq_true rfl) ?_
              exact qI (hQ (by unfold cC_count; (repeat' split) <;> omega)) (by rw [h2, show i = nb by omega]) rfl
            · refine r_iload (pc := 56) dX7_count_56 rfl ?_
              refine r_iload_n (pc := 58) dX7_count_58 rfl ?_
              refine r_iconst (pc := 59) (n := (-1)) dX7_count_59 (by decide) ?_
              refine r_icmp_eq (pc := 60) (tgt := 74) dX7_count_60 rfl (fun c60 => ?_) (fun c60 => ?_)
              · refine r_aload_n (pc := 74) dX7_count_74 rfl ?_
                refine r_iload (pc := 75) dX7_count_75 rfl ?_
                refine r_iload_n (pc := 77) dX7_count_77 rfl ?_
                refine d1_V (pc := 78) (t := 7) (i := 0) (rest := [aI c]) (cs' := 0) (sl' := 0) mv_X7_158 (K_X7_placeOn hT (by omega) (by omega)) rfl ⟨(Nat.le_of_ble_eq_true rfl), (Nat.le_of_ble_eq_true rfl)⟩ (Nat.le_of_ble_eq_true rfl) dX7_count_78 (show (0 : Int) ≤ 0 by omega) (show 0 < 1 by omega) ⟨rfl, (Nat.le_of_ble_eq_true rfl)⟩ ⟨rfl, (Nat.le_of_ble_eq_true rfl)⟩ rfl ?_
                refine r_iload_n (pc := 81) dX7_count_81 rfl ?_
                refine r_icmp_ne (pc := 82) (tgt := 89) dX7_count_82 rfl (fun c82 => ?_) (fun c82 => ?_)
                · refine r_iconst (pc := 89) (n := 0) dX7_count_89 (by decide) ?_
                  refine r_iadd (pc := 90) dX7_count_90 (by omega) ?_
                  refine r_istore (pc := 91) (xs' := [some (aR 7 0), some (aI p), some (aI kd), some (aI d), some (aI (c + 0)), some (aI i)]) dX7_count_91 (by decide) rfl ?_
                  refine r_iinc (pc := 93) (xs' := [some (aR 7 0), some (aI p), some (aI kd), some (aI d), some (aI (c + 0)), some (aI (i + 1))]) dX7_count_93 rfl (by decide) (by omega) rfl ?_
                  refine r_goto (pc := 96) (tgt := 47) dX7_count_96 rfl ?_
                  exact ih_loop (i + 1) (c + 0) (by omega) (by omega) (by rw [h2, sI_s (by omega), bI_f (by omega)]) (by omega)
                · refine r_iconst (pc := 85) (n := 1) dX7_count_85 (by decide) ?_
                  refine r_goto (pc := 86) (tgt := 90) dX7_count_86 rfl ?_
                  refine r_iadd (pc := 90) dX7_count_90 (by omega) ?_
                  refine r_istore (pc := 91) (xs' := [some (aR 7 0), some (aI p), some (aI kd), some (aI d), some (aI (c + 1)), some (aI i)]) dX7_count_91 (by decide) rfl ?_
                  refine r_iinc (pc := 93) (xs' := [some (aR 7 0), some (aI p), some (aI kd), some (aI d), some (aI (c + 1)), some (aI (i + 1))]) dX7_count_93 rfl (by decide) (by omega) rfl ?_
                  refine r_goto (pc := 96) (tgt := 47) dX7_count_96 rfl ?_
                  exact ih_loop (i + 1) (c + 1) (by omega) (by omega) (by rw [h2, sI_s (by omega), bI_t (by omega)]) (by omega)
              · refine r_aload_n (pc := 63) dX7_count_63 rfl ?_
                refine p_getQ (pc := 64) (jI := 3) (n9 := 1) (r := some (31, 0)) fl_X7_13 rfl dX7_count_64 rfl rfl (by decide) (by decide) rfl ?_
                refine r_iload (pc := 67) dX7_count_67 rfl ?_
                refine q_iald (pc := 69) (n9 := 1) (nI := 40) (v := (thr hi) 31 0 i) rfl dX7_count_69 rfl (by decide) (by decide) rfl (by omega) (by omega) rfl ?_
                refine r_iload_n (pc := 70) dX7_count_70 rfl ?_
                refine r_icmp_ne (pc := 71) (tgt := 89) dX7_count_71 rfl (fun c71 => ?_) (fun c71 => ?_)
                · refine r_iconst (pc := 89) (n := 0) dX7_count_89 (by decide) ?_
                  refine r_iadd (pc := 90) dX7_count_90 (by omega) ?_
                  refine r_istore (pc := 91) (xs' := [some (aR 7 0), some (aI p), some (aI kd), some (aI d), some (aI (c + 0)), some (aI i)]) dX7_count_91 (by decide) rfl ?_
                  refine r_iinc (pc := 93) (xs' := [some (aR 7 0), some (aI p), some (aI kd), some (aI d), some (aI (c + 0)), some (aI (i + 1))]) dX7_count_93 rfl (by decide) (by omega) rfl ?_
                  refine r_goto (pc := 96) (tgt := 47) dX7_count_96 rfl ?_
                  exact ih_loop (i + 1) (c + 0) (by omega) (by omega) (by rw [h2, sI_s (by omega), bI_f (by omega)]) (by omega)
                · refine r_aload_n (pc := 74) dX7_count_74 rfl ?_
                  refine r_iload (pc := 75) dX7_count_75 rfl ?_
                  refine r_iload_n (pc := 77) dX7_count_77 rfl ?_
                  refine d1_V (pc := 78) (t := 7) (i := 0) (rest := [aI c]) (cs' := 0) (sl' := 0) mv_X7_158 (K_X7_placeOn hT (by omega) (by omega)) rfl ⟨(Nat.le_of_ble_eq_true rfl), (Nat.le_of_ble_eq_true rfl)⟩ (Nat.le_of_ble_eq_true rfl) dX7_count_78 (show (0 : Int) ≤ 0 by omega) (show 0 < 1 by omega) ⟨rfl, (Nat.le_of_ble_eq_true rfl)⟩ ⟨rfl, (Nat.le_of_ble_eq_true rfl)⟩ rfl ?_
                  refine r_iload_n (pc := 81) dX7_count_81 rfl ?_
                  refine r_icmp_ne (pc := 82) (tgt := 89) dX7_count_82 rfl (fun c82 => ?_) (fun c82 => ?_)
                  · refine r_iconst (pc := 89) (n := 0) dX7_count_89 (by decide) ?_
                    refine r_iadd (pc := 90) dX7_count_90 (by omega) ?_
                    refine r_istore (pc := 91) (xs' := [some (aR 7 0), some (aI p), some (aI kd), some (aI d), some (aI (c + 0)), some (aI i)]) dX7_count_91 (by decide) rfl ?_
                    refine r_iinc (pc := 93) (xs' := [some (aR 7 0), some (aI p), some (aI kd), some (aI d), some (aI (c + 0)), some (aI (i + 1))]) dX7_count_93 rfl (by decide) (by omega) rfl ?_
                    refine r_goto (pc := 96) (tgt := 47) dX7_count_96 rfl ?_
                    exact ih_loop (i + 1) (c + 0) (by omega) (by omega) (by rw [h2, sI_s (by omega), bI_f (by omega)]) (by omega)
                  · refine r_iconst (pc := 85) (n := 1) dX7_count_85 (by decide) ?_
                    refine r_goto (pc := 86) (tgt := 90) dX7_count_86 rfl ?_
                    refine r_iadd (pc := 90) dX7_count_90 (by omega) ?_
                    refine r_istore (pc := 91) (xs' := [some (aR 7 0), some (aI p), some (aI kd), some (aI d), some (aI (c + 1)), some (aI i)]) dX7_count_91 (by decide) rfl ?_
                    refine r_iinc (pc := 93) (xs' := [some (aR 7 0), some (aI p), some (aI kd), some (aI d), some (aI (c + 1)), some (aI (i + 1))]) dX7_count_93 rfl (by decide) (by omega) rfl ?_
                    refine r_goto (pc := 96) (tgt := 47) dX7_count_96 rfl ?_
                    exact ih_loop (i + 1) (c + 1) (by omega) (by omega) (by rw [h2, sI_s (by omega), bI_t (by omega)]) (by omega)
        exact loop 41 0 0 (by omega) (by omega) rfl (by omega)
      · refine r_iconst (pc := 28) (n := 2) dX7_count_28 (by decide) ?_
        refine r_goto (pc := 29) (tgt := 33) dX7_count_29 rfl ?_
        refine d1_V (pc := 33) (t := 7) (i := 0) (rest := []) (cs' := 0) (sl' := 0) mv_X7_125 (K_X7_holds (hi := hi) (e := 2) (v := 0) (by decide)) rfl ⟨(Nat.le_of_ble_eq_true rfl), (Nat.le_of_ble_eq_true rfl)⟩ (Nat.le_of_ble_eq_true rfl) dX7_count_33 (show (0 : Int) ≤ 0 by omega) (show 0 < 1 by omega) ⟨rfl, (Nat.le_of_ble_eq_true rfl)⟩ ⟨rfl, (Nat.le_of_ble_eq_true rfl)⟩ rfl ?_
        refine r_if_ne (pc := 36) (tgt := 41) dX7_count_36 rfl (fun z => absurd z (by decide)) (fun _ => ?_)
        refine r_iconst (pc := 39) (n := 0) dX7_count_39 (by decide) ?_
        refine r_iret (pc := 40) dX7_count_40 (Or.inl rfl) (Nat.le_of_ble_eq_true rfl) (Nat.le_of_ble_eq_true rfl) ?_
        exact hF 2 (by decide) (by unfold cC_count; (repeat' split) <;> omega)
  · refine r_iconst (pc := 8) (n := 1) dX7_count_8 (by decide) ?_
    refine r_goto (pc := 9) (tgt := 33) dX7_count_9 rfl ?_
    refine d1_V (pc := 33) (t := 7) (i := 0) (rest := []) (cs' := 0) (sl' := 0) mv_X7_125 (K_X7_holds (hi := hi) (e := 1) (v := 0) (by decide)) rfl ⟨(Nat.le_of_ble_eq_true rfl), (Nat.le_of_ble_eq_true rfl)⟩ (Nat.le_of_ble_eq_true rfl) dX7_count_33 (show (0 : Int) ≤ 0 by omega) (show 0 < 1 by omega) ⟨rfl, (Nat.le_of_ble_eq_true rfl)⟩ ⟨rfl, (Nat.le_of_ble_eq_true rfl)⟩ rfl ?_
    refine r_if_ne (pc := 36) (tgt := 41) dX7_count_36 rfl (fun z => absurd z (by decide)) (fun _ => ?_)
    refine r_iconst (pc := 39) (n := 0) dX7_count_39 (by decide) ?_
    refine r_iret (pc := 40) dX7_count_40 (Or.inl rfl) (Nat.le_of_ble_eq_true rfl) (Nat.le_of_ble_eq_true rfl) ?_
    exact hF 1 (by decide) (by unfold cC_count; (repeat' split) <;> omega)

theorem K_X7_days {hi : Hi} {nb nk : Int} (hM : MV hi nb nk) {b fr to pl : Int}  : MOp I_X7_days [aR 7 0, aI b, aI fr, aI to, aI pl] hi nb nk (cC_days nb b fr to pl) (some (aI 0)) (some (aI (sI (fun t => bI (plcM (thr hi) b (fr + t) = pl)) (to - fr + 1)))) (hp (thr hi) nb nk) := by
  have hN := hM.num
  unfold mNum at hN
  have hT := hM.thrV
  refine st_m (xs := [some (aR 7 0), some (aI b), some (aI fr), some (aI to), some (aI pl), none, none, none, none]) pn_X7 rfl rfl (Nat.le_of_ble_eq_true rfl) rfl rfl (fun Q X hQ hF => ?_)
  refine r_aload_n (pc := 0) dX7_days_0 rfl ?_
  refine r_iload_n (pc := 1) dX7_days_1 rfl ?_
  refine d1_V (pc := 2) (t := 7) (i := 0) (rest := []) (cs' := 0) (sl' := 0) mv_X7_131 (K_X7_isBox hM (b := b)) rfl ⟨(Nat.le_of_ble_eq_true rfl), (Nat.le_of_ble_eq_true rfl)⟩ (Nat.le_of_ble_eq_true rfl) dX7_days_2 (show (0 : Int) ≤ 0 by omega) (show 0 < 1 by omega) ⟨rfl, (Nat.le_of_ble_eq_true rfl)⟩ ⟨rfl, (Nat.le_of_ble_eq_true rfl)⟩ rfl ?_
  refine r_istore (pc := 5) (xs' := [some (aR 7 0), some (aI b), some (aI fr), some (aI to), some (aI pl), some (aI (bI (0 ≤ b ∧ b < nb))), none, none, none]) dX7_days_5 (by decide) rfl ?_
  refine r_iload_n (pc := 7) dX7_days_7 rfl ?_
  refine d1_S (pc := 8) (rest := []) (cs' := 0) (sl' := 0) ms_X7_122 rfl (K_X7_isDay (p := fr)) rfl ⟨(Nat.le_of_ble_eq_true rfl), (Nat.le_of_ble_eq_true rfl)⟩ (Nat.le_of_ble_eq_true rfl) dX7_days_8 ⟨rfl, (Nat.le_of_ble_eq_true rfl)⟩ ⟨rfl, (Nat.le_of_ble_eq_true rfl)⟩ rfl ?_
  refine q_ifeqB (pc := 11) (tgt := 51) dX7_days_11 rfl (fun c11 => ?_) (fun c11 => ?_)
  · refine r_iconst (pc := 51) (n := 0) dX7_days_51 (by decide) ?_
    refine r_istore (pc := 52) (xs' := [some (aR 7 0), some (aI b), some (aI fr), some (aI to), some (aI pl), some (aI (bI (0 ≤ b ∧ b < nb))), some (aI 0), none, none]) dX7_days_52 (by decide) rfl ?_
    refine r_aload_n (pc := 54) dX7_days_54 rfl ?_
    refine r_iload (pc := 55) dX7_days_55 rfl ?_
    refine q_ifneB (pc := 57) (tgt := 64) dX7_days_57 rfl (fun c57 => ?_) (fun c57 => ?_)
    · refine r_iload (pc := 64) dX7_days_64 rfl ?_
      refine r_if_ne (pc := 66) (tgt := 73) dX7_days_66 rfl (fun z => absurd z (by decide)) (fun _ => ?_)
      refine r_iconst (pc := 69) (n := 2) dX7_days_69 (by decide) ?_
      refine r_goto (pc := 70) (tgt := 74) dX7_days_70 rfl ?_
      refine d1_V (pc := 74) (t := 7) (i := 0) (rest := []) (cs' := 0) (sl' := 0) mv_X7_125 (K_X7_holds (hi := hi) (e := 2) (v := 0) (by decide)) rfl ⟨(Nat.le_of_ble_eq_true rfl), (Nat.le_of_ble_eq_true rfl)⟩ (Nat.le_of_ble_eq_true rfl) dX7_days_74 (show (0 : Int) ≤ 0 by omega) (show 0 < 1 by omega) ⟨rfl, (Nat.le_of_ble_eq_true rfl)⟩ ⟨rfl, (Nat.le_of_ble_eq_true rfl)⟩ rfl ?_
      refine r_if_ne (pc := 77) (tgt := 82) dX7_days_77 rfl (fun z => absurd z (by decide)) (fun _ => ?_)
      refine r_iconst (pc := 80) (n := 0) dX7_days_80 (by decide) ?_
      refine r_iret (pc := 81) dX7_days_81 (Or.inl rfl) (Nat.le_of_ble_eq_true rfl) (Nat.le_of_ble_eq_true rfl) ?_
      exact hF 2 (by decide) (by unfold cC_days; (repeat' split) <;> omega)
    · refine r_iconst (pc := 60) (n := 1) dX7_days_60 (by decide) ?_
      refine r_goto (pc := 61) (tgt := 74) dX7_days_61 rfl ?_
      refine d1_V (pc := 74) (t := 7) (i := 0) (rest := []) (cs' := 0) (sl' := 0) mv_X7_125 (K_X7_holds (hi := hi) (e := 1) (v := 0) (by decide)) rfl ⟨(Nat.le_of_ble_eq_true rfl), (Nat.le_of_ble_eq_true rfl)⟩ (Nat.le_of_ble_eq_true rfl) dX7_days_74 (show (0 : Int) ≤ 0 by omega) (show 0 < 1 by omega) ⟨rfl, (Nat.le_of_ble_eq_true rfl)⟩ ⟨rfl, (Nat.le_of_ble_eq_true rfl)⟩ rfl ?_
      refine r_if_ne (pc := 77) (tgt := 82) dX7_days_77 rfl (fun z => absurd z (by decide)) (fun _ => ?_)
      refine r_iconst (pc := 80) (n := 0) dX7_days_80 (by decide) ?_
      refine r_iret (pc := 81) dX7_days_81 (Or.inl rfl) (Nat.le_of_ble_eq_true rfl) (Nat.le_of_ble_eq_true rfl) ?_
      exact hF 1 (by decide) (by unfold cC_days; (repeat' split) <;> omega)
  · refine r_iload_n (pc := 14) dX7_days_14 rfl ?_
    refine r_iload_n (pc := 15) dX7_days_15 rfl ?_
    refine r_iload_n (pc := 16) dX7_days_16 rfl ?_
    refine r_sipush (pc := 17) (n := 400) dX7_days_17 rfl (by decide) ?_
    refine r_iadd (pc := 20) dX7_days_20 (by omega) ?_
    refine d1_S (pc := 21) (rest := []) (cs' := 0) (sl' := 0) ms_X7_111 rfl (K_X7_isIn (v := to) (lo := fr) (up := fr + 400)) rfl ⟨(Nat.le_of_ble_eq_true rfl), (Nat.le_of_ble_eq_true rfl)⟩ (Nat.le_of_ble_eq_true rfl) dX7_days_21 ⟨rfl, (Nat.le_of_ble_eq_true rfl)⟩ ⟨rfl, (Nat.le_of_ble_eq_true rfl)⟩ rfl ?_
    refine q_ifeqB (pc := 24) (tgt := 51) dX7_days_24 rfl (fun c24 => ?_) (fun c24 => ?_)
    · refine r_iconst (pc := 51) (n := 0) dX7_days_51 (by decide) ?_
      refine r_istore (pc := 52) (xs' := [some (aR 7 0), some (aI b), some (aI fr), some (aI to), some (aI pl), some (aI (bI (0 ≤ b ∧ b < nb))), some (aI 0), none, none]) dX7_days_52 (by decide) rfl ?_
      refine r_aload_n (pc := 54) dX7_days_54 rfl ?_
      refine r_iload (pc := 55) dX7_days_55 rfl ?_
      refine q_ifneB (pc := 57) (tgt := 64) dX7_days_57 rfl (fun c57 => ?_) (fun c57 => ?_)
      · refine r_iload (pc := 64) dX7_days_64 rfl ?_
        refine r_if_ne (pc := 66) (tgt := 73) dX7_days_66 rfl (fun z => absurd z (by decide)) (fun _ => ?_)
        refine r_iconst (pc := 69) (n := 2) dX7_days_69 (by decide) ?_
        refine r_goto (pc := 70) (tgt := 74) dX7_days_70 rfl ?_
        refine d1_V (pc := 74) (t := 7) (i := 0) (rest := []) (cs' := 0) (sl' := 0) mv_X7_125 (K_X7_holds (hi := hi) (e := 2) (v := 0) (by decide)) rfl ⟨(Nat.le_of_ble_eq_true rfl), (Nat.le_of_ble_eq_true rfl)⟩ (Nat.le_of_ble_eq_true rfl) dX7_days_74 (show (0 : Int) ≤ 0 by omega) (show 0 < 1 by omega) ⟨rfl, (Nat.le_of_ble_eq_true rfl)⟩ ⟨rfl, (Nat.le_of_ble_eq_true rfl)⟩ rfl ?_
        refine r_if_ne (pc := 77) (tgt := 82) dX7_days_77 rfl (fun z => absurd z (by decide)) (fun _ => ?_)
        refine r_iconst (pc := 80) (n := 0) dX7_days_80 (by decide) ?_
        refine r_iret (pc := 81) dX7_days_81 (Or.inl rfl) (Nat.le_of_ble_eq_true rfl) (Nat.le_of_ble_eq_true rfl) ?_
        exact hF 2 (by decide) (by unfold cC_days; (repeat' split) <;> omega)
      · refine r_iconst (pc := 60) (n := 1) dX7_days_60 (by decide) ?_
        refine r_goto (pc := 61) (tgt := 74) dX7_days_61 rfl ?_
        refine d1_V (pc := 74) (t := 7) (i := 0) (rest := []) (cs' := 0) (sl' := 0) mv_X7_125 (K_X7_holds (hi := hi) (e := 1) (v := 0) (by decide)) rfl ⟨(Nat.le_of_ble_eq_true rfl), (Nat.le_of_ble_eq_true rfl)⟩ (Nat.le_of_ble_eq_true rfl) dX7_days_74 (show (0 : Int) ≤ 0 by omega) (show 0 < 1 by omega) ⟨rfl, (Nat.le_of_ble_eq_true rfl)⟩ ⟨rfl, (Nat.le_of_ble_eq_true rfl)⟩ rfl ?_
        refine r_if_ne (pc := 77) (tgt := 82) dX7_days_77 rfl (fun z => absurd z (by decide)) (fun _ => ?_)
        refine r_iconst (pc := 80) (n := 0) dX7_days_80 (by decide) ?_
        refine r_iret (pc := 81) dX7_days_81 (Or.inl rfl) (Nat.le_of_ble_eq_true rfl) (Nat.le_of_ble_eq_true rfl) ?_
        exact hF 1 (by decide) (by unfold cC_days; (repeat' split) <;> omega)
    · refine r_iload (pc := 27) dX7_days_27 rfl ?_
      refine d1_S (pc := 29) (rest := []) (cs' := 0) (sl' := 0) ms_X7_118 rfl (K_X7_isPort (p := pl)) rfl ⟨(Nat.le_of_ble_eq_true rfl), (Nat.le_of_ble_eq_true rfl)⟩ (Nat.le_of_ble_eq_true rfl) dX7_days_29 ⟨rfl, (Nat.le_of_ble_eq_true rfl)⟩ ⟨rfl, (Nat.le_of_ble_eq_true rfl)⟩ rfl ?_
      refine q_ifneB (pc := 32) (tgt := 47) dX7_days_32 rfl (fun c32 => ?_) (fun c32 => ?_)
      · refine r_iconst (pc := 47) (n := 1) dX7_days_47 (by decide) ?_
        refine r_goto (pc := 48) (tgt := 52) dX7_days_48 rfl ?_
        refine r_istore (pc := 52) (xs' := [some (aR 7 0), some (aI b), some (aI fr), some (aI to), some (aI pl), some (aI (bI (0 ≤ b ∧ b < nb))), some (aI 1), none, none]) dX7_days_52 (by decide) rfl ?_
        refine r_aload_n (pc := 54) dX7_days_54 rfl ?_
        refine r_iload (pc := 55) dX7_days_55 rfl ?_
        refine q_ifneB (pc := 57) (tgt := 64) dX7_days_57 rfl (fun c57 => ?_) (fun c57 => ?_)
        · refine r_iload (pc := 64) dX7_days_64 rfl ?_
          refine r_if_ne (pc := 66) (tgt := 73) dX7_days_66 rfl (fun _ => ?_) (fun z => absurd z (by decide))
          refine r_iconst (pc := 73) (n := 0) dX7_days_73 (by decide) ?_
          refine d1_V (pc := 74) (t := 7) (i := 0) (rest := []) (cs' := 0) (sl' := 0) mv_X7_125 (K_X7_holds (hi := hi) (e := 0) (v := 1) (by decide)) rfl ⟨(Nat.le_of_ble_eq_true rfl), (Nat.le_of_ble_eq_true rfl)⟩ (Nat.le_of_ble_eq_true rfl) dX7_days_74 (show (0 : Int) ≤ 0 by omega) (show 0 < 1 by omega) ⟨rfl, (Nat.le_of_ble_eq_true rfl)⟩ ⟨rfl, (Nat.le_of_ble_eq_true rfl)⟩ rfl ?_
          refine r_hp (hi' := thr hi) rfl ?_
          refine r_if_ne (pc := 77) (tgt := 82) dX7_days_77 rfl (fun _ => ?_) (fun z => absurd z (by decide))
          refine r_iconst (pc := 82) (n := 0) dX7_days_82 (by decide) ?_
          refine r_istore (pc := 83) (xs' := [some (aR 7 0), some (aI b), some (aI fr), some (aI to), some (aI pl), some (aI (bI (0 ≤ b ∧ b < nb))), some (aI 1), some (aI 0), none]) dX7_days_83 (by decide) rfl ?_
          refine r_iload_n (pc := 85) dX7_days_85 rfl ?_
          refine r_istore (pc := 86) (xs' := [some (aR 7 0), some (aI b), some (aI fr), some (aI to), some (aI pl), some (aI (bI (0 ≤ b ∧ b < nb))), some (aI 1), some (aI 0), some (aI fr)]) dX7_days_86 (by decide) rfl ?_
          have loop : ∀ (n9 : Nat) (q c : Int), (fr ≤ q ∧ q ≤ to + 1) → (0 ≤ c ∧ c ≤ q - fr) → (c = sI (fun t => bI (plcM (thr hi) b (fr + t) = pl)) (q - fr)) → to + 1 - q < (n9 : Int) → Run I_X7_days 88 [some (aR 7 0), some (aI b), some (aI fr), some (aI to), some (aI pl), some (aI (bI (0 ≤ b ∧ b < nb))), some (aI 1), some (aI c), some (aI q)] [] (hp (thr hi) nb nk) 0 0 Q X := by
            intro n9
            induction n9 with
            | zero => intro q c h0 h1 h2 hf9; exfalso; omega
            | succ n9 ih_loop =>
              intro q c h0 h1 h2 hf9
              refine r_iload (pc := 88) dX7_days_88 rfl ?_
              refine r_iload_n (pc := 90) dX7_days_90 rfl ?_
              refine r_icmp_gt (pc := 91) (tgt := 122) dX7_days_91 rfl (fun c91 => ?_) (fun c91 => ?_)
              · refine r_iload (pc := 122) dX7_days_122 rfl ?_
                refine r_iret (pc := 124) dX7_days_124 (Or.inl rfl) (Nat.le_of_ble_eq_true rfl) (Nat.le_of_ble_eq_true rfl) ?_
                exact qI (hQ (by unfold cC_days; (repeat' split) <;> omega)) (by rw [h2, show q - fr = to - fr + 1 by omega]) rfl
              · refine r_iload (pc := 94) dX7_days_94 rfl ?_
                refine r_aload_n (pc := 96) dX7_days_96 rfl ?_
                refine r_iload_n (pc := 97) dX7_days_97 rfl ?_
                refine r_iload (pc := 98) dX7_days_98 rfl ?_
                refine d1_V (pc := 100) (t := 7) (i := 0) (rest := [aI c]) (cs' := 0) (sl' := 0) mv_X7_158 (K_X7_placeOn hT (by omega) (by omega)) rfl ⟨(Nat.le_of_ble_eq_true rfl), (Nat.le_of_ble_eq_true rfl)⟩ (Nat.le_of_ble_eq_true rfl) dX7_days_100 (show (0 : Int) ≤ 0 by omega) (show 0 < 1 by omega) ⟨rfl, (Nat.le_of_ble_eq_true rfl)⟩ ⟨rfl, (Nat.le_of_ble_eq_true rfl)⟩ rfl ?_
                refine r_iload (pc := 103) dX7_days_103 rfl ?_
                refine r_icmp_ne (pc := 105) (tgt := 112) dX7_days_105 rfl (fun c105 => ?_) (fun c105 => ?_)
                · refine r_iconst (pc := 112) (n := 0) dX7_days_112 (by decide) ?_
                  refine r_iadd (pc := 113) dX7_days_113 (by omega) ?_
                  refine r_istore (pc := 114) (xs' := [some (aR 7 0), some (aI b), some (aI fr), some (aI to), some (aI pl), some (aI (bI (0 ≤ b ∧ b < nb))), some (aI 1), some (aI (c + 0)), some (aI q)]) dX7_days_114 (by decide) rfl ?_
                  refine r_iinc (pc := 116) (xs' := [some (aR 7 0), some (aI b), some (aI fr), some (aI to), some (aI pl), some (aI (bI (0 ≤ b ∧ b < nb))), some (aI 1), some (aI (c + 0)), some (aI (q + 1))]) dX7_days_116 rfl (by decide) (by omega) rfl ?_
                  refine r_goto (pc := 119) (tgt := 88) dX7_days_119 rfl ?_
                  exact ih_loop (q + 1) (c + 0) (by omega) (by omega) (by rw [h2, show q + 1 - fr = q - fr + 1 by omega, sI_s (by omega), show fr + (q - fr) = q by omega, bI_f c105]) (by omega)
                · refine r_iconst (pc := 108) (n := 1) dX7_days_108 (by decide) ?_
                  refine r_goto (pc := 109) (tgt := 113) dX7_days_109 rfl ?_
                  refine r_iadd (pc := 113) dX7_days_113 (by omega) ?_
                  refine r_istore (pc := 114) (xs' := [some (aR 7 0), some (aI b), some (aI fr), some (aI to), some (aI pl), some (aI (bI (0 ≤ b ∧ b < nb))), some (aI 1), some (aI (c + 1)), some (aI q)]) dX7_days_114 (by decide) rfl ?_
                  refine r_iinc (pc := 116) (xs' := [some (aR 7 0), some (aI b), some (aI fr), some (aI to), some (aI pl), some (aI (bI (0 ≤ b ∧ b < nb))), some (aI 1), some (aI (c + 1)), some (aI (q + 1))]) dX7_days_116 rfl (by decide) (by omega) rfl ?_
                  refine r_goto (pc := 119) (tgt := 88) dX7_days_119 rfl ?_
                  exact ih_loop (q + 1) (c + 1) (by omega) (by omega) (by rw [h2, show q + 1 - fr = q - fr + 1 by omega, sI_s (by omega), show fr + (q - fr) = q by omega, bI_t c105]) (by omega)
          exact loop 402 fr 0 (by omega) (by omega) (by rw [Int.sub_self]; rfl) (by omega)
        · refine r_iconst (pc := 60) (n := 1) dX7_days_60 (by decide) ?_
          refine r_goto (pc := 61) (tgt := 74) dX7_days_61 rfl ?_
          refine d1_V (pc := 74) (t := 7) (i := 0) (rest := []) (cs' := 0) (sl' := 0) mv_X7_125 (K_X7_holds (hi := hi) (e := 1) (v := 0) (by decide)) rfl ⟨(Nat.le_of_ble_eq_true rfl), (Nat.le_of_ble_eq_true rfl)⟩ (Nat.le_of_ble_eq_true rfl) dX7_days_74 (show (0 : Int) ≤ 0 by omega) (show 0 < 1 by omega) ⟨rfl, (Nat.le_of_ble_eq_true rfl)⟩ ⟨rfl, (Nat.le_of_ble_eq_true rfl)⟩ rfl ?_
          refine r_if_ne (pc := 77) (tgt := 82) dX7_days_77 rfl (fun z => absurd z (by decide)) (fun _ => ?_)
          refine r_iconst (pc := 80) (n := 0) dX7_days_80 (by decide) ?_
          refine r_iret (pc := 81) dX7_days_81 (Or.inl rfl) (Nat.le_of_ble_eq_true rfl) (Nat.le_of_ble_eq_true rfl) ?_
          exact hF 1 (by decide) (by unfold cC_days; (repeat' split) <;> omega)
      · refine r_iload (pc := 35) dX7_days_35 rfl ?_
        refine r_bipush (pc := 37) (n := 10) dX7_days_37 rfl (by decide) ?_
        refine r_bipush (pc := 39) (n := 12) dX7_days_39 rfl (by decide) ?_
        refine d1_S (pc := 41) (rest := []) (cs' := 0) (sl' := 0) ms_X7_111 rfl (K_X7_isIn (v := pl) (lo := 10) (up := 12)) rfl ⟨(Nat.le_of_ble_eq_true rfl), (Nat.le_of_ble_eq_true rfl)⟩ (Nat.le_of_ble_eq_true rfl) dX7_days_41 ⟨rfl, (Nat.le_of_ble_eq_true rfl)⟩ ⟨rfl, (Nat.le_of_ble_eq_true rfl)⟩ rfl ?_
        refine q_ifeqB (pc := 44) (tgt := 51) dX7_days_44 rfl (fun c44 => ?_) (fun c44 => ?_)
        · refine r_iconst (pc := 51) (n := 0) dX7_days_51 (by decide) ?_
          refine r_istore (pc := 52) (xs' := [some (aR 7 0), some (aI b), some (aI fr), some (aI to), some (aI pl), some (aI (bI (0 ≤ b ∧ b < nb))), some (aI 0), none, none]) dX7_days_52 (by decide) rfl ?_
          refine r_aload_n (pc := 54) dX7_days_54 rfl ?_
          refine r_iload (pc := 55) dX7_days_55 rfl ?_
          refine q_ifneB (pc := 57) (tgt := 64) dX7_days_57 rfl (fun c57 => ?_) (fun c57 => ?_)
          · refine r_iload (pc := 64) dX7_days_64 rfl ?_
            refine r_if_ne (pc := 66) (tgt := 73) dX7_days_66 rfl (fun z => absurd z (by decide)) (fun _ => ?_)
            refine r_iconst (pc := 69) (n := 2) dX7_days_69 (by decide) ?_
            refine r_goto (pc := 70) (tgt := 74) dX7_days_70 rfl ?_
            refine d1_V (pc := 74) (t := 7) (i := 0) (rest := []) (cs' := 0) (sl' := 0) mv_X7_125 (K_X7_holds (hi := hi) (e := 2) (v := 0) (by decide)) rfl ⟨(Nat.le_of_ble_eq_true rfl), (Nat.le_of_ble_eq_true rfl)⟩ (Nat.le_of_ble_eq_true rfl) dX7_days_74 (show (0 : Int) ≤ 0 by omega) (show 0 < 1 by omega) ⟨rfl, (Nat.le_of_ble_eq_true rfl)⟩ ⟨rfl, (Nat.le_of_ble_eq_true rfl)⟩ rfl ?_
            refine r_if_ne (pc := 77) (tgt := 82) dX7_days_77 rfl (fun z => absurd z (by decide)) (fun _ => ?_)
            refine r_iconst (pc := 80) (n := 0) dX7_days_80 (by decide) ?_
            refine r_iret (pc := 81) dX7_days_81 (Or.inl rfl) (Nat.le_of_ble_eq_true rfl) (Nat.le_of_ble_eq_true rfl) ?_
            exact hF 2 (by decide) (by unfold cC_days; (repeat' split) <;> omega)
          · refine r_iconst (pc := 60) (n := 1) dX7_days_60 (by decide) ?_
            refine r_goto (pc := 61) (tgt := 74) dX7_days_61 rfl ?_
            refine d1_V (pc := 74) (t := 7) (i := 0) (rest := []) (cs' := 0) (sl' := 0) mv_X7_125 (K_X7_holds (hi := hi) (e := 1) (v := 0) (by decide)) rfl ⟨(Nat.le_of_ble_eq_true rfl), (Nat.le_of_ble_eq_true rfl)⟩ (Nat.le_of_ble_eq_true rfl) dX7_days_74 (show (0 : Int) ≤ 0 by omega) (show 0 < 1 by omega) ⟨rfl, (Nat.le_of_ble_eq_true rfl)⟩ ⟨rfl, (Nat.le_of_ble_eq_true rfl)⟩ rfl ?_
            refine r_if_ne (pc := 77) (tgt := 82) dX7_days_77 rfl (fun z => absurd z (by decide)) (fun _ => ?_)
            refine r_iconst (pc := 80) (n := 0) dX7_days_80 (by decide) ?_
            refine r_iret (pc := 81) dX7_days_81 (Or.inl rfl) (Nat.le_of_ble_eq_true rfl) (Nat.le_of_ble_eq_true rfl) ?_
            exact hF 1 (by decide) (by unfold cC_days; (repeat' split) <;> omega)
        · refine r_iconst (pc := 47) (n := 1) dX7_days_47 (by decide) ?_
          refine r_goto (pc := 48) (tgt := 52) dX7_days_48 rfl ?_
          refine r_istore (pc := 52) (xs' := [some (aR 7 0), some (aI b), some (aI fr), some (aI to), some (aI pl), some (aI (bI (0 ≤ b ∧ b < nb))), some (aI 1), none, none]) dX7_days_52 (by decide) rfl ?_
          refine r_aload_n (pc := 54) dX7_days_54 rfl ?_
          refine r_iload (pc := 55) dX7_days_55 rfl ?_
          refine q_ifneB (pc := 57) (tgt := 64) dX7_days_57 rfl (fun c57 => ?_) (fun c57 => ?_)
          · refine r_iload (pc := 64) dX7_days_64 rfl ?_
            refine r_if_ne (pc := 66) (tgt := 73) dX7_days_66 rfl (fun _ => ?_) (fun z => absurd z (by decide))
            refine r_iconst (pc := 73) (n := 0) dX7_days_73 (by decide) ?_
            refine d1_V (pc := 74) (t := 7) (i := 0) (rest := []) (cs' := 0) (sl' := 0) mv_X7_125 (K_X7_holds (hi := hi) (e := 0) (v := 1) (by decide)) rfl ⟨(Nat.le_of_ble_eq_true rfl), (Nat.le_of_ble_eq_true rfl)⟩ (Nat.le_of_ble_eq_true rfl) dX7_days_74 (show (0 : Int) ≤ 0 by omega) (show 0 < 1 by omega) ⟨rfl, (Nat.le_of_ble_eq_true rfl)⟩ ⟨rfl, (Nat.le_of_ble_eq_true rfl)⟩ rfl ?_
            refine r_hp (hi' := thr hi) rfl ?_
            refine r_if_ne (pc := 77) (tgt := 82) dX7_days_77 rfl (fun _ => ?_) (fun z => absurd z (by decide))
            refine r_iconst (pc := 82) (n := 0) dX7_days_82 (by decide) ?_
            refine r_istore (pc := 83) (xs' := [some (aR 7 0), some (aI b), some (aI fr), some (aI to), some (aI pl), some (aI (bI (0 ≤ b ∧ b < nb))), some (aI 1), some (aI 0), none]) dX7_days_83 (by decide) rfl ?_
            refine r_iload_n (pc := 85) dX7_days_85 rfl ?_
            refine r_istore (pc := 86) (xs' := [some (aR 7 0), some (aI b), some (aI fr), some (aI to), some (aI pl), some (aI (bI (0 ≤ b ∧ b < nb))), some (aI 1), some (aI 0), some (aI fr)]) dX7_days_86 (by decide) rfl ?_
            have loop : ∀ (n9 : Nat) (q c : Int), (fr ≤ q ∧ q ≤ to + 1) → (0 ≤ c ∧ c ≤ q - fr) → (c = sI (fun t => bI (plcM (thr hi) b (fr + t) = pl)) (q - fr)) → to + 1 - q < (n9 : Int) → Run I_X7_days 88 [some (aR 7 0), some (aI b), some (aI fr), some (aI to), some (aI pl), some (aI (bI (0 ≤ b ∧ b < nb))), some (aI 1), some (aI c), some (aI q)] [] (hp (thr hi) nb nk) 0 0 Q X := by
              intro n9
              induction n9 with
              | zero => intro q c h0 h1 h2 hf9; exfalso; omega
              | succ n9 ih_loop =>
                intro q c h0 h1 h2 hf9
                refine r_iload (pc := 88) dX7_days_88 rfl ?_
                refine r_iload_n (pc := 90) dX7_days_90 rfl ?_
                refine r_icmp_gt (pc := 91) (tgt := 122) dX7_days_91 rfl (fun c91 => ?_) (fun c91 => ?_)
                · refine r_iload (pc := 122) dX7_days_122 rfl ?_
                  refine r_iret (pc := 124) dX7_days_124 (Or.inl rfl) (Nat.le_of_ble_eq_true rfl) (Nat.le_of_ble_eq_true rfl) ?_
                  exact qI (hQ (by unfold cC_days; (repeat' split) <;> omega)) (by rw [h2, show q - fr = to - fr + 1 by omega]) rfl
                · refine r_iload (pc := 94) dX7_days_94 rfl ?_
                  refine r_aload_n (pc := 96) dX7_days_96 rfl ?_
                  refine r_iload_n (pc := 97) dX7_days_97 rfl ?_
                  refine r_iload (pc := 98) dX7_days_98 rfl ?_
                  refine d1_V (pc := 100) (t := 7) (i := 0) (rest := [aI c]) (cs' := 0) (sl' := 0) mv_X7_158 (K_X7_placeOn hT (by omega) (by omega)) rfl ⟨(Nat.le_of_ble_eq_true rfl), (Nat.le_of_ble_eq_true rfl)⟩ (Nat.le_of_ble_eq_true rfl) dX7_days_100 (show (0 : Int) ≤ 0 by omega) (show 0 < 1 by omega) ⟨rfl, (Nat.le_of_ble_eq_true rfl)⟩ ⟨rfl, (Nat.le_of_ble_eq_true rfl)⟩ rfl ?_
                  refine r_iload (pc := 103) dX7_days_103 rfl ?_
                  refine r_icmp_ne (pc := 105) (tgt := 112) dX7_days_105 rfl (fun c105 => ?_) (fun c105 => ?_)
                  · refine r_iconst (pc := 112) (n := 0) dX7_days_112 (by decide) ?_
                    refine r_iadd (pc := 113) dX7_days_113 (by omega) ?_
                    refine r_istore (pc := 114) (xs' := [some (aR 7 0), some (aI b), some (aI fr), some (aI to), some (aI pl), some (aI (bI (0 ≤ b ∧ b < nb))), some (aI 1), some (aI (c + 0)), some (aI q)]) dX7_days_114 (by decide) rfl ?_
                    refine r_iinc (pc := 116) (xs' := [some (aR 7 0), some (aI b), some (aI fr), some (aI to), some (aI pl), some (aI (bI (0 ≤ b ∧ b < nb))), some (aI 1), some (aI (c + 0)), some (aI (q + 1))]) dX7_days_116 rfl (by decide) (by omega) rfl ?_
                    refine r_goto (pc := 119) (tgt := 88) dX7_days_119 rfl ?_
                    exact ih_loop (q + 1) (c + 0) (by omega) (by omega) (by rw [h2, show q + 1 - fr = q - fr + 1 by omega, sI_s (by omega), show fr + (q - fr) = q by omega, bI_f c105]) (by omega)
                  · refine r_iconst (pc := 108) (n := 1) dX7_days_108 (by decide) ?_
                    refine r_goto (pc := 109) (tgt := 113) dX7_days_109 rfl ?_
                    refine r_iadd (pc := 113) dX7_days_113 (by omega) ?_
                    refine r_istore (pc := 114) (xs' := [some (aR 7 0), some (aI b), some (aI fr), some (aI to), some (aI pl), some (aI (bI (0 ≤ b ∧ b < nb))), some (aI 1), some (aI (c + 1)), some (aI q)]) dX7_days_114 (by decide) rfl ?_
                    refine r_iinc (pc := 116) (xs' := [some (aR 7 0), some (aI b), some (aI fr), some (aI to), some (aI pl), some (aI (bI (0 ≤ b ∧ b < nb))), some (aI 1), some (aI (c + 1)), some (aI (q + 1))]) dX7_days_116 rfl (by decide) (by omega) rfl ?_
                    refine r_goto (pc := 119) (tgt := 88) dX7_days_119 rfl ?_
                    exact ih_loop (q + 1) (c + 1) (by omega) (by omega) (by rw [h2, show q + 1 - fr = q - fr + 1 by omega, sI_s (by omega), show fr + (q - fr) = q by omega, bI_t c105]) (by omega)
            exact loop 402 fr 0 (by omega) (by omega) (by rw [Int.sub_self]; rfl) (by omega)
          · refine r_iconst (pc := 60) (n := 1) dX7_days_60 (by decide) ?_
            refine r_goto (pc := 61) (tgt := 74) dX7_days_61 rfl ?_
            refine d1_V (pc := 74) (t := 7) (i := 0) (rest := []) (cs' := 0) (sl' := 0) mv_X7_125 (K_X7_holds (hi := hi) (e := 1) (v := 0) (by decide)) rfl ⟨(Nat.le_of_ble_eq_true rfl), (Nat.le_of_ble_eq_true rfl)⟩ (Nat.le_of_ble_eq_true rfl) dX7_days_74 (show (0 : Int) ≤ 0 by omega) (show 0 < 1 by omega) ⟨rfl, (Nat.le_of_ble_eq_true rfl)⟩ ⟨rfl, (Nat.le_of_ble_eq_true rfl)⟩ rfl ?_
            refine r_if_ne (pc := 77) (tgt := 82) dX7_days_77 rfl (fun z => absurd z (by decide)) (fun _ => ?_)
            refine r_iconst (pc := 80) (n := 0) dX7_days_80 (by decide) ?_
            refine r_iret (pc := 81) dX7_days_81 (Or.inl rfl) (Nat.le_of_ble_eq_true rfl) (Nat.le_of_ble_eq_true rfl) ?_
            exact hF 1 (by decide) (by unfold cC_days; (repeat' split) <;> omega)

def mleH (hi : Hi) (b fr to : Int) : Hi := up1 (up1 (up1 (thr hi) 41 0 (10 * b + thr hi 43 0 b) fr) 42 0 (10 * b + thr hi 43 0 b) to) 43 0 b (thr hi 43 0 b + 1)
def cM_lease (hi : Hi) (nb b fr to : Int) : Int := if ¬ (0 ≤ b ∧ b < nb) then 1 else if ¬ (0 ≤ fr ∧ fr ≤ 9999 ∧ fr ≤ to ∧ to ≤ 9999) then 2 else if hi 32 0 b = -1 ∨ hi 35 0 b ≠ -1 ∨ hi 43 0 b = 10 then 3 else 0
theorem K_X7_lease {hi : Hi} {nb nk : Int} (hM : MV hi nb nk) {b fr to : Int}  : MOp I_X7_lease [aR 7 0, aI b, aI fr, aI to] hi nb nk (cM_lease hi nb b fr to) none none (hp (mleH hi b fr to) nb nk) := by
  have hN := hM.num
  unfold mNum at hN
  have hT := hM.thrV
  refine st_m (xs := [some (aR 7 0), some (aI b), some (aI fr), some (aI to), none]) pn_X7 rfl rfl (Nat.le_of_ble_eq_true rfl) rfl rfl (fun Q X hQ hF => ?_)
  refine r_aload_n (pc := 0) dX7_lease_0 rfl ?_
  refine r_iload_n (pc := 1) dX7_lease_1 rfl ?_
  refine d1_V (pc := 2) (t := 7) (i := 0) (rest := []) (cs' := 0) (sl' := 0) mv_X7_131 (K_X7_isBox hM (b := b)) rfl ⟨(Nat.le_of_ble_eq_true rfl), (Nat.le_of_ble_eq_true rfl)⟩ (Nat.le_of_ble_eq_true rfl) dX7_lease_2 (show (0 : Int) ≤ 0 by omega) (show 0 < 1 by omega) ⟨rfl, (Nat.le_of_ble_eq_true rfl)⟩ ⟨rfl, (Nat.le_of_ble_eq_true rfl)⟩ rfl ?_
  refine r_istore (pc := 5) (xs' := [some (aR 7 0), some (aI b), some (aI fr), some (aI to), some (aI (bI (0 ≤ b ∧ b < nb)))]) dX7_lease_5 (by decide) rfl ?_
  refine r_aload_n (pc := 7) dX7_lease_7 rfl ?_
  refine r_iload (pc := 8) dX7_lease_8 rfl ?_
  refine q_ifneB (pc := 10) (tgt := 17) dX7_lease_10 rfl (fun c10 => ?_) (fun c10 => ?_)
  · refine r_iload_n (pc := 17) dX7_lease_17 rfl ?_
    refine d1_S (pc := 18) (rest := [aR 7 0]) (cs' := 0) (sl' := 0) ms_X7_122 rfl (K_X7_isDay (p := fr)) rfl ⟨(Nat.le_of_ble_eq_true rfl), (Nat.le_of_ble_eq_true rfl)⟩ (Nat.le_of_ble_eq_true rfl) dX7_lease_18 ⟨rfl, (Nat.le_of_ble_eq_true rfl)⟩ ⟨rfl, (Nat.le_of_ble_eq_true rfl)⟩ rfl ?_
    refine q_ifeqB (pc := 21) (tgt := 35) dX7_lease_21 rfl (fun c21 => ?_) (fun c21 => ?_)
    · refine r_iconst (pc := 35) (n := 2) dX7_lease_35 (by decide) ?_
      refine r_goto (pc := 36) (tgt := 73) dX7_lease_36 rfl ?_
      refine d1_V (pc := 73) (t := 7) (i := 0) (rest := []) (cs' := 0) (sl' := 0) mv_X7_125 (K_X7_holds (hi := hi) (e := 2) (v := 0) (by decide)) rfl ⟨(Nat.le_of_ble_eq_true rfl), (Nat.le_of_ble_eq_true rfl)⟩ (Nat.le_of_ble_eq_true rfl) dX7_lease_73 (show (0 : Int) ≤ 0 by omega) (show 0 < 1 by omega) ⟨rfl, (Nat.le_of_ble_eq_true rfl)⟩ ⟨rfl, (Nat.le_of_ble_eq_true rfl)⟩ rfl ?_
      refine r_if_eq (pc := 76) (tgt := 123) dX7_lease_76 rfl (fun _ => ?_) (fun z => absurd z (by decide))
      refine r_vret (pc := 123) dX7_lease_123 rfl (Nat.le_of_ble_eq_true rfl) (Nat.le_of_ble_eq_true rfl) ?_
      exact hF 2 (by decide) (by unfold cM_lease; (repeat' split) <;> omega)
    · refine r_iload_n (pc := 24) dX7_lease_24 rfl ?_
      refine r_iload_n (pc := 25) dX7_lease_25 rfl ?_
      refine r_sipush (pc := 26) (n := 9999) dX7_lease_26 rfl (by decide) ?_
      refine d1_S (pc := 29) (rest := [aR 7 0]) (cs' := 0) (sl' := 0) ms_X7_111 rfl (K_X7_isIn (v := to) (lo := fr) (up := 9999)) rfl ⟨(Nat.le_of_ble_eq_true rfl), (Nat.le_of_ble_eq_true rfl)⟩ (Nat.le_of_ble_eq_true rfl) dX7_lease_29 ⟨rfl, (Nat.le_of_ble_eq_true rfl)⟩ ⟨rfl, (Nat.le_of_ble_eq_true rfl)⟩ rfl ?_
      refine q_ifneB (pc := 32) (tgt := 39) dX7_lease_32 rfl (fun c32 => ?_) (fun c32 => ?_)
      · refine r_aload_n (pc := 39) dX7_lease_39 rfl ?_
        refine p_getQ (pc := 40) (jI := 4) (n9 := 1) (r := some (32, 0)) fl_X7_16 rfl dX7_lease_40 rfl rfl (by decide) (by decide) rfl ?_
        refine r_iload_n (pc := 43) dX7_lease_43 rfl ?_
        refine q_iald (pc := 44) (n9 := 1) (nI := 40) (v := hi 32 0 b) rfl dX7_lease_44 rfl (by decide) (by decide) rfl (by omega) (by omega) rfl ?_
        refine r_iconst (pc := 45) (n := (-1)) dX7_lease_45 (by decide) ?_
        refine r_icmp_eq (pc := 46) (tgt := 68) dX7_lease_46 rfl (fun c46 => ?_) (fun c46 => ?_)
        · refine r_iconst (pc := 68) (n := 3) dX7_lease_68 (by decide) ?_
          refine r_goto (pc := 69) (tgt := 73) dX7_lease_69 rfl ?_
          refine d1_V (pc := 73) (t := 7) (i := 0) (rest := []) (cs' := 0) (sl' := 0) mv_X7_125 (K_X7_holds (hi := hi) (e := 3) (v := 0) (by decide)) rfl ⟨(Nat.le_of_ble_eq_true rfl), (Nat.le_of_ble_eq_true rfl)⟩ (Nat.le_of_ble_eq_true rfl) dX7_lease_73 (show (0 : Int) ≤ 0 by omega) (show 0 < 1 by omega) ⟨rfl, (Nat.le_of_ble_eq_true rfl)⟩ ⟨rfl, (Nat.le_of_ble_eq_true rfl)⟩ rfl ?_
          refine r_if_eq (pc := 76) (tgt := 123) dX7_lease_76 rfl (fun _ => ?_) (fun z => absurd z (by decide))
          refine r_vret (pc := 123) dX7_lease_123 rfl (Nat.le_of_ble_eq_true rfl) (Nat.le_of_ble_eq_true rfl) ?_
          exact hF 3 (by decide) (by unfold cM_lease; (repeat' split) <;> omega)
        · refine r_aload_n (pc := 49) dX7_lease_49 rfl ?_
          refine r_iload_n (pc := 50) dX7_lease_50 rfl ?_
          refine d1_V (pc := 51) (t := 7) (i := 0) (rest := [aR 7 0]) (cs' := 0) (sl' := 0) mv_X7_134 (K_X7_isGone (b := b) (by omega) (by omega)) rfl ⟨(Nat.le_of_ble_eq_true rfl), (Nat.le_of_ble_eq_true rfl)⟩ (Nat.le_of_ble_eq_true rfl) dX7_lease_51 (show (0 : Int) ≤ 0 by omega) (show 0 < 1 by omega) ⟨rfl, (Nat.le_of_ble_eq_true rfl)⟩ ⟨rfl, (Nat.le_of_ble_eq_true rfl)⟩ rfl ?_
          refine q_ifneB (pc := 54) (tgt := 68) dX7_lease_54 rfl (fun c54 => ?_) (fun c54 => ?_)
          · refine r_iconst (pc := 68) (n := 3) dX7_lease_68 (by decide) ?_
            refine r_goto (pc := 69) (tgt := 73) dX7_lease_69 rfl ?_
            refine d1_V (pc := 73) (t := 7) (i := 0) (rest := []) (cs' := 0) (sl' := 0) mv_X7_125 (K_X7_holds (hi := hi) (e := 3) (v := 0) (by decide)) rfl ⟨(Nat.le_of_ble_eq_true rfl), (Nat.le_of_ble_eq_true rfl)⟩ (Nat.le_of_ble_eq_true rfl) dX7_lease_73 (show (0 : Int) ≤ 0 by omega) (show 0 < 1 by omega) ⟨rfl, (Nat.le_of_ble_eq_true rfl)⟩ ⟨rfl, (Nat.le_of_ble_eq_true rfl)⟩ rfl ?_
            refine r_if_eq (pc := 76) (tgt := 123) dX7_lease_76 rfl (fun _ => ?_) (fun z => absurd z (by decide))
            refine r_vret (pc := 123) dX7_lease_123 rfl (Nat.le_of_ble_eq_true rfl) (Nat.le_of_ble_eq_true rfl) ?_
            exact hF 3 (by decide) (by unfold cM_lease; (repeat' split) <;> omega)
          · refine r_aload_n (pc := 57) dX7_lease_57 rfl ?_
            refine p_getQ (pc := 58) (jI := 16) (n9 := 1) (r := some (43, 0)) fl_X7_50 rfl dX7_lease_58 rfl rfl (by decide) (by decide) rfl ?_
            refine r_iload_n (pc := 61) dX7_lease_61 rfl ?_
            refine q_iald (pc := 62) (n9 := 1) (nI := 40) (v := hi 43 0 b) rfl dX7_lease_62 rfl (by decide) (by decide) rfl (by omega) (by omega) rfl ?_
            refine r_bipush (pc := 63) (n := 10) dX7_lease_63 rfl (by decide) ?_
            refine r_icmp_ne (pc := 65) (tgt := 72) dX7_lease_65 rfl (fun c65 => ?_) (fun c65 => ?_)
            · refine r_iconst (pc := 72) (n := 0) dX7_lease_72 (by decide) ?_
              refine d1_V (pc := 73) (t := 7) (i := 0) (rest := []) (cs' := 0) (sl' := 0) mv_X7_125 (K_X7_holds (hi := hi) (e := 0) (v := 1) (by decide)) rfl ⟨(Nat.le_of_ble_eq_true rfl), (Nat.le_of_ble_eq_true rfl)⟩ (Nat.le_of_ble_eq_true rfl) dX7_lease_73 (show (0 : Int) ≤ 0 by omega) (show 0 < 1 by omega) ⟨rfl, (Nat.le_of_ble_eq_true rfl)⟩ ⟨rfl, (Nat.le_of_ble_eq_true rfl)⟩ rfl ?_
              refine r_hp (hi' := thr hi) rfl ?_
              refine r_if_eq (pc := 76) (tgt := 123) dX7_lease_76 rfl (fun z => absurd z (by decide)) (fun _ => ?_)
              refine r_aload_n (pc := 79) dX7_lease_79 rfl ?_
              refine p_getQ (pc := 80) (jI := 14) (n9 := 1) (r := some (41, 0)) fl_X7_44 rfl dX7_lease_80 rfl rfl (by decide) (by decide) rfl ?_
              refine r_bipush (pc := 83) (n := 10) dX7_lease_83 rfl (by decide) ?_
              refine r_iload_n (pc := 85) dX7_lease_85 rfl ?_
              refine r_imul (pc := 86) dX7_lease_86 (by omega) ?_
              refine r_aload_n (pc := 87) dX7_lease_87 rfl ?_
              refine p_getQ (pc := 88) (jI := 16) (n9 := 1) (r := some (43, 0)) fl_X7_50 rfl dX7_lease_88 rfl rfl (by decide) (by decide) rfl ?_
              refine r_iload_n (pc := 91) dX7_lease_91 rfl ?_
              refine q_iald (pc := 92) (n9 := 1) (nI := 40) (v := (thr hi) 43 0 b) rfl dX7_lease_92 rfl (by decide) (by decide) rfl (by omega) (by omega) rfl ?_
              refine r_iadd (pc := 93) dX7_lease_93 (by have e1 : thr hi 43 0 b = hi 43 0 b := rfl; have := (hM.box b (by omega) (by omega)).2.2.2.1; omega) ?_
              refine r_iload_n (pc := 94) dX7_lease_94 rfl ?_
              refine p_iast (pc := 95) (n9 := 1) (nI := 400) rfl dX7_lease_95 rfl (by decide) (by decide) rfl (by have e1 : thr hi 43 0 b = hi 43 0 b := rfl; have := (hM.box b (by omega) (by omega)).2.2.2.1; omega) (by have e1 : thr hi 43 0 b = hi 43 0 b := rfl; have := (hM.box b (by omega) (by omega)).2.2.2.1; omega) ?_
              refine r_aload_n (pc := 96) dX7_lease_96 rfl ?_
              refine p_getQ (pc := 97) (jI := 15) (n9 := 1) (r := some (42, 0)) fl_X7_47 rfl dX7_lease_97 rfl rfl (by decide) (by decide) rfl ?_
              refine r_bipush (pc := 100) (n := 10) dX7_lease_100 rfl (by decide) ?_
              refine r_iload_n (pc := 102) dX7_lease_102 rfl ?_
              refine r_imul (pc := 103) dX7_lease_103 (by omega) ?_
              refine r_aload_n (pc := 104) dX7_lease_104 rfl ?_
              refine p_getQ (pc := 105) (jI := 16) (n9 := 1) (r := some (43, 0)) fl_X7_50 rfl dX7_lease_105 rfl rfl (by decide) (by decide) rfl ?_
              refine r_iload_n (pc := 108) dX7_lease_108 rfl ?_
              refine q_iald (pc := 109) (n9 := 1) (nI := 40) (v := (thr hi) 43 0 b) rfl dX7_lease_109 rfl (by decide) (by decide) rfl (by omega) (by omega) (by simp [up1]) ?_
              refine r_iadd (pc := 110) dX7_lease_110 (by have e1 : thr hi 43 0 b = hi 43 0 b := rfl; have := (hM.box b (by omega) (by omega)).2.2.2.1; omega) ?_
              refine r_iload_n (pc := 111) dX7_lease_111 rfl ?_
              refine p_iast (pc := 112) (n9 := 1) (nI := 400) rfl dX7_lease_112 rfl (by decide) (by decide) rfl (by have e1 : thr hi 43 0 b = hi 43 0 b := rfl; have := (hM.box b (by omega) (by omega)).2.2.2.1; omega) (by have e1 : thr hi 43 0 b = hi 43 0 b := rfl; have := (hM.box b (by omega) (by omega)).2.2.2.1; omega) ?_
              refine r_aload_n (pc := 113) dX7_lease_113 rfl ?_
              refine p_getQ (pc := 114) (jI := 16) (n9 := 1) (r := some (43, 0)) fl_X7_50 rfl dX7_lease_114 rfl rfl (by decide) (by decide) rfl ?_
              refine r_iload_n (pc := 117) dX7_lease_117 rfl ?_
              refine r_dup2 (pc := 118) dX7_lease_118 (fun _ => rfl) (fun _ => rfl) ?_
              refine q_iald (pc := 119) (n9 := 1) (nI := 40) (v := (thr hi) 43 0 b) rfl dX7_lease_119 rfl (by decide) (by decide) rfl (by omega) (by omega) (by simp [up1]) ?_
              refine r_iconst (pc := 120) (n := 1) dX7_lease_120 (by decide) ?_
              refine r_iadd (pc := 121) dX7_lease_121 (by have e1 : thr hi 43 0 b = hi 43 0 b := rfl; have := (hM.box b (by omega) (by omega)).2.2.2.1; omega) ?_
              refine p_iast (pc := 122) (n9 := 1) (nI := 40) rfl dX7_lease_122 rfl (by decide) (by decide) rfl (by omega) (by omega) ?_
              refine r_vret (pc := 123) dX7_lease_123 rfl (Nat.le_of_ble_eq_true rfl) (Nat.le_of_ble_eq_true rfl) ?_
              exact hQ (by unfold cM_lease; (repeat' split) <;> omega)
            · refine r_iconst (pc := 68) (n := 3) dX7_lease_68 (by decide) ?_
              refine r_goto (pc := 69) (tgt := 73) dX7_lease_69 rfl ?_
              refine d1_V (pc := 73) (t := 7) (i := 0) (rest := []) (cs' := 0) (sl' := 0) mv_X7_125 (K_X7_holds (hi := hi) (e := 3) (v := 0) (by decide)) rfl ⟨(Nat.le_of_ble_eq_true rfl), (Nat.le_of_ble_eq_true rfl)⟩ (Nat.le_of_ble_eq_true rfl) dX7_lease_73 (show (0 : Int) ≤ 0 by omega) (show 0 < 1 by omega) ⟨rfl, (Nat.le_of_ble_eq_true rfl)⟩ ⟨rfl, (Nat.le_of_ble_eq_true rfl)⟩ rfl ?_
              refine r_if_eq (pc := 76) (tgt := 123) dX7_lease_76 rfl (fun _ => ?_) (fun z => absurd z (by decide))
              refine r_vret (pc := 123) dX7_lease_123 rfl (Nat.le_of_ble_eq_true rfl) (Nat.le_of_ble_eq_true rfl) ?_
              exact hF 3 (by decide) (by unfold cM_lease; (repeat' split) <;> omega)
      · refine r_iconst (pc := 35) (n := 2) dX7_lease_35 (by decide) ?_
        refine r_goto (pc := 36) (tgt := 73) dX7_lease_36 rfl ?_
        refine d1_V (pc := 73) (t := 7) (i := 0) (rest := []) (cs' := 0) (sl' := 0) mv_X7_125 (K_X7_holds (hi := hi) (e := 2) (v := 0) (by decide)) rfl ⟨(Nat.le_of_ble_eq_true rfl), (Nat.le_of_ble_eq_true rfl)⟩ (Nat.le_of_ble_eq_true rfl) dX7_lease_73 (show (0 : Int) ≤ 0 by omega) (show 0 < 1 by omega) ⟨rfl, (Nat.le_of_ble_eq_true rfl)⟩ ⟨rfl, (Nat.le_of_ble_eq_true rfl)⟩ rfl ?_
        refine r_if_eq (pc := 76) (tgt := 123) dX7_lease_76 rfl (fun _ => ?_) (fun z => absurd z (by decide))
        refine r_vret (pc := 123) dX7_lease_123 rfl (Nat.le_of_ble_eq_true rfl) (Nat.le_of_ble_eq_true rfl) ?_
        exact hF 2 (by decide) (by unfold cM_lease; (repeat' split) <;> omega)
  · refine r_iconst (pc := 13) (n := 1) dX7_lease_13 (by decide) ?_
    refine r_goto (pc := 14) (tgt := 73) dX7_lease_14 rfl ?_
    refine d1_V (pc := 73) (t := 7) (i := 0) (rest := []) (cs' := 0) (sl' := 0) mv_X7_125 (K_X7_holds (hi := hi) (e := 1) (v := 0) (by decide)) rfl ⟨(Nat.le_of_ble_eq_true rfl), (Nat.le_of_ble_eq_true rfl)⟩ (Nat.le_of_ble_eq_true rfl) dX7_lease_73 (show (0 : Int) ≤ 0 by omega) (show 0 < 1 by omega) ⟨rfl, (Nat.le_of_ble_eq_true rfl)⟩ ⟨rfl, (Nat.le_of_ble_eq_true rfl)⟩ rfl ?_
    refine r_if_eq (pc := 76) (tgt := 123) dX7_lease_76 rfl (fun _ => ?_) (fun z => absurd z (by decide))
    refine r_vret (pc := 123) dX7_lease_123 rfl (Nat.le_of_ble_eq_true rfl) (Nat.le_of_ble_eq_true rfl) ?_
    exact hF 1 (by decide) (by unfold cM_lease; (repeat' split) <;> omega)

theorem K_X7_free {hi : Hi} {nb nk : Int} (hM : MV hi nb nk) {d : Int}  : MOp I_X7_free [aR 7 0, aI d] hi nb nk (cC_free d) (some (aI 0)) (some (aI ((thr hi) 7 0 17))) (hp (up1 (thr hi) 7 0 17 d) nb nk) := by
  have hN := hM.num
  unfold mNum at hN
  have hT := hM.thrV
  refine st_m (xs := [some (aR 7 0), some (aI d), none]) pn_X7 rfl rfl (Nat.le_of_ble_eq_true rfl) rfl rfl (fun Q X hQ hF => ?_)
  refine r_aload_n (pc := 0) dX7_free_0 rfl ?_
  refine r_iload_n (pc := 1) dX7_free_1 rfl ?_
  refine r_iconst (pc := 2) (n := 0) dX7_free_2 (by decide) ?_
  refine r_bipush (pc := 3) (n := 30) dX7_free_3 rfl (by decide) ?_
  refine d1_S (pc := 5) (rest := [aR 7 0]) (cs' := 0) (sl' := 0) ms_X7_111 rfl (K_X7_isIn (v := d) (lo := 0) (up := 30)) rfl ⟨(Nat.le_of_ble_eq_true rfl), (Nat.le_of_ble_eq_true rfl)⟩ (Nat.le_of_ble_eq_true rfl) dX7_free_5 ⟨rfl, (Nat.le_of_ble_eq_true rfl)⟩ ⟨rfl, (Nat.le_of_ble_eq_true rfl)⟩ rfl ?_
  refine q_ifeqB (pc := 8) (tgt := 15) dX7_free_8 rfl (fun c8 => ?_) (fun c8 => ?_)
  · refine r_iconst (pc := 15) (n := 1) dX7_free_15 (by decide) ?_
    refine d1_V (pc := 16) (t := 7) (i := 0) (rest := []) (cs' := 0) (sl' := 0) mv_X7_125 (K_X7_holds (hi := hi) (e := 1) (v := 0) (by decide)) rfl ⟨(Nat.le_of_ble_eq_true rfl), (Nat.le_of_ble_eq_true rfl)⟩ (Nat.le_of_ble_eq_true rfl) dX7_free_16 (show (0 : Int) ≤ 0 by omega) (show 0 < 1 by omega) ⟨rfl, (Nat.le_of_ble_eq_true rfl)⟩ ⟨rfl, (Nat.le_of_ble_eq_true rfl)⟩ rfl ?_
    refine r_if_ne (pc := 19) (tgt := 24) dX7_free_19 rfl (fun z => absurd z (by decide)) (fun _ => ?_)
    refine r_iconst (pc := 22) (n := 0) dX7_free_22 (by decide) ?_
    refine r_iret (pc := 23) dX7_free_23 (Or.inl rfl) (Nat.le_of_ble_eq_true rfl) (Nat.le_of_ble_eq_true rfl) ?_
    exact hF 1 (by decide) (by unfold cC_free; (repeat' split) <;> omega)
  · refine r_iconst (pc := 11) (n := 0) dX7_free_11 (by decide) ?_
    refine r_goto (pc := 12) (tgt := 16) dX7_free_12 rfl ?_
    refine d1_V (pc := 16) (t := 7) (i := 0) (rest := []) (cs' := 0) (sl' := 0) mv_X7_125 (K_X7_holds (hi := hi) (e := 0) (v := 1) (by decide)) rfl ⟨(Nat.le_of_ble_eq_true rfl), (Nat.le_of_ble_eq_true rfl)⟩ (Nat.le_of_ble_eq_true rfl) dX7_free_16 (show (0 : Int) ≤ 0 by omega) (show 0 < 1 by omega) ⟨rfl, (Nat.le_of_ble_eq_true rfl)⟩ ⟨rfl, (Nat.le_of_ble_eq_true rfl)⟩ rfl ?_
    refine r_hp (hi' := thr hi) rfl ?_
    refine r_if_ne (pc := 19) (tgt := 24) dX7_free_19 rfl (fun _ => ?_) (fun z => absurd z (by decide))
    refine r_aload_n (pc := 24) dX7_free_24 rfl ?_
    refine q_getI (pc := 25) (jI := 17) (n9 := 1) (v := (thr hi) 7 0 17) fl_X7_53 rfl dX7_free_25 rfl rfl (by decide) (by decide) rfl ?_
    refine r_istore_n (pc := 28) (xs' := [some (aR 7 0), some (aI d), some (aI ((thr hi) 7 0 17))]) dX7_free_28 (by decide) rfl ?_
    refine r_aload_n (pc := 29) dX7_free_29 rfl ?_
    refine r_iload_n (pc := 30) dX7_free_30 rfl ?_
    refine p_putI (pc := 31) (jI := 17) (n9 := 1) fl_X7_53 (Or.inl rfl) (Or.inl rfl) dX7_free_31 rfl rfl (by decide) (by decide) ?_
    refine r_iload_n (pc := 34) dX7_free_34 rfl ?_
    refine r_iret (pc := 35) dX7_free_35 (Or.inl rfl) (Nat.le_of_ble_eq_true rfl) (Nat.le_of_ble_eq_true rfl) ?_
    exact hQ (by unfold cC_free; (repeat' split) <;> omega)

theorem K_X7_payer {hi : Hi} {nb nk : Int} (hM : MV hi nb nk) {b d : Int}  : MOp I_X7_payer [aR 7 0, aI b, aI d] hi nb nk (cC_payer nb b d) (some (aI 0)) (some (aI (payM (thr hi) b d))) (hp (thr hi) nb nk) := by
  have hN := hM.num
  unfold mNum at hN
  have hT := hM.thrV
  refine st_m (xs := [some (aR 7 0), some (aI b), some (aI d), none]) pn_X7 rfl rfl (Nat.le_of_ble_eq_true rfl) rfl rfl (fun Q X hQ hF => ?_)
  refine r_aload_n (pc := 0) dX7_payer_0 rfl ?_
  refine r_iload_n (pc := 1) dX7_payer_1 rfl ?_
  refine d1_V (pc := 2) (t := 7) (i := 0) (rest := []) (cs' := 0) (sl' := 0) mv_X7_131 (K_X7_isBox hM (b := b)) rfl ⟨(Nat.le_of_ble_eq_true rfl), (Nat.le_of_ble_eq_true rfl)⟩ (Nat.le_of_ble_eq_true rfl) dX7_payer_2 (show (0 : Int) ≤ 0 by omega) (show 0 < 1 by omega) ⟨rfl, (Nat.le_of_ble_eq_true rfl)⟩ ⟨rfl, (Nat.le_of_ble_eq_true rfl)⟩ rfl ?_
  refine r_istore_n (pc := 5) (xs' := [some (aR 7 0), some (aI b), some (aI d), some (aI (bI (0 ≤ b ∧ b < nb)))]) dX7_payer_5 (by decide) rfl ?_
  refine r_aload_n (pc := 6) dX7_payer_6 rfl ?_
  refine r_iload_n (pc := 7) dX7_payer_7 rfl ?_
  refine q_ifneB (pc := 8) (tgt := 15) dX7_payer_8 rfl (fun c8 => ?_) (fun c8 => ?_)
  · refine r_iload_n (pc := 15) dX7_payer_15 rfl ?_
    refine d1_S (pc := 16) (rest := [aR 7 0]) (cs' := 0) (sl' := 0) ms_X7_122 rfl (K_X7_isDay (p := d)) rfl ⟨(Nat.le_of_ble_eq_true rfl), (Nat.le_of_ble_eq_true rfl)⟩ (Nat.le_of_ble_eq_true rfl) dX7_payer_16 ⟨rfl, (Nat.le_of_ble_eq_true rfl)⟩ ⟨rfl, (Nat.le_of_ble_eq_true rfl)⟩ rfl ?_
    refine q_ifneB (pc := 19) (tgt := 26) dX7_payer_19 rfl (fun c19 => ?_) (fun c19 => ?_)
    · refine r_iconst (pc := 26) (n := 0) dX7_payer_26 (by decide) ?_
      refine d1_V (pc := 27) (t := 7) (i := 0) (rest := []) (cs' := 0) (sl' := 0) mv_X7_125 (K_X7_holds (hi := hi) (e := 0) (v := 1) (by decide)) rfl ⟨(Nat.le_of_ble_eq_true rfl), (Nat.le_of_ble_eq_true rfl)⟩ (Nat.le_of_ble_eq_true rfl) dX7_payer_27 (show (0 : Int) ≤ 0 by omega) (show 0 < 1 by omega) ⟨rfl, (Nat.le_of_ble_eq_true rfl)⟩ ⟨rfl, (Nat.le_of_ble_eq_true rfl)⟩ rfl ?_
      refine r_hp (hi' := thr hi) rfl ?_
      refine r_if_eq (pc := 30) (tgt := 42) dX7_payer_30 rfl (fun z => absurd z (by decide)) (fun _ => ?_)
      refine r_aload_n (pc := 33) dX7_payer_33 rfl ?_
      refine r_iload_n (pc := 34) dX7_payer_34 rfl ?_
      refine r_iload_n (pc := 35) dX7_payer_35 rfl ?_
      refine d1_V (pc := 36) (t := 7) (i := 0) (rest := []) (cs' := 0) (sl' := 0) mv_X7_168 (K_X7_pays hT (b := b) (day := d) (by omega) (by omega) (by omega)) rfl ⟨(Nat.le_of_ble_eq_true rfl), (Nat.le_of_ble_eq_true rfl)⟩ (Nat.le_of_ble_eq_true rfl) dX7_payer_36 (show (0 : Int) ≤ 0 by omega) (show 0 < 1 by omega) ⟨rfl, (Nat.le_of_ble_eq_true rfl)⟩ ⟨rfl, (Nat.le_of_ble_eq_true rfl)⟩ rfl ?_
      refine r_goto (pc := 39) (tgt := 43) dX7_payer_39 rfl ?_
      refine r_iret (pc := 43) dX7_payer_43 (Or.inl rfl) (Nat.le_of_ble_eq_true rfl) (Nat.le_of_ble_eq_true rfl) ?_
      exact hQ (by unfold cC_payer; (repeat' split) <;> omega)
    · refine r_iconst (pc := 22) (n := 2) dX7_payer_22 (by decide) ?_
      refine r_goto (pc := 23) (tgt := 27) dX7_payer_23 rfl ?_
      refine d1_V (pc := 27) (t := 7) (i := 0) (rest := []) (cs' := 0) (sl' := 0) mv_X7_125 (K_X7_holds (hi := hi) (e := 2) (v := 0) (by decide)) rfl ⟨(Nat.le_of_ble_eq_true rfl), (Nat.le_of_ble_eq_true rfl)⟩ (Nat.le_of_ble_eq_true rfl) dX7_payer_27 (show (0 : Int) ≤ 0 by omega) (show 0 < 1 by omega) ⟨rfl, (Nat.le_of_ble_eq_true rfl)⟩ ⟨rfl, (Nat.le_of_ble_eq_true rfl)⟩ rfl ?_
      refine r_if_eq (pc := 30) (tgt := 42) dX7_payer_30 rfl (fun _ => ?_) (fun z => absurd z (by decide))
      refine r_iconst (pc := 42) (n := 0) dX7_payer_42 (by decide) ?_
      refine r_iret (pc := 43) dX7_payer_43 (Or.inl rfl) (Nat.le_of_ble_eq_true rfl) (Nat.le_of_ble_eq_true rfl) ?_
      exact hF 2 (by decide) (by unfold cC_payer; (repeat' split) <;> omega)
  · refine r_iconst (pc := 11) (n := 1) dX7_payer_11 (by decide) ?_
    refine r_goto (pc := 12) (tgt := 27) dX7_payer_12 rfl ?_
    refine d1_V (pc := 27) (t := 7) (i := 0) (rest := []) (cs' := 0) (sl' := 0) mv_X7_125 (K_X7_holds (hi := hi) (e := 1) (v := 0) (by decide)) rfl ⟨(Nat.le_of_ble_eq_true rfl), (Nat.le_of_ble_eq_true rfl)⟩ (Nat.le_of_ble_eq_true rfl) dX7_payer_27 (show (0 : Int) ≤ 0 by omega) (show 0 < 1 by omega) ⟨rfl, (Nat.le_of_ble_eq_true rfl)⟩ ⟨rfl, (Nat.le_of_ble_eq_true rfl)⟩ rfl ?_
    refine r_if_eq (pc := 30) (tgt := 42) dX7_payer_30 rfl (fun _ => ?_) (fun z => absurd z (by decide))
    refine r_iconst (pc := 42) (n := 0) dX7_payer_42 (by decide) ?_
    refine r_iret (pc := 43) dX7_payer_43 (Or.inl rfl) (Nat.le_of_ble_eq_true rfl) (Nat.le_of_ble_eq_true rfl) ?_
    exact hF 1 (by decide) (by unfold cC_payer; (repeat' split) <;> omega)

theorem K_X7_quota {hi : Hi} {nb nk : Int} (hM : MV hi nb nk) {l p c : Int}  : MOp I_X7_quota [aR 7 0, aI l, aI p, aI c] hi nb nk (cC_quota l p c) (some (aI 0)) (some (aI ((thr hi) 44 0 (6 * l + p)))) (hp (up1 (thr hi) 44 0 (6 * l + p) c) nb nk) := by
  have hN := hM.num
  unfold mNum at hN
  have hT := hM.thrV
  refine st_m (xs := [some (aR 7 0), some (aI l), some (aI p), some (aI c), none, none]) pn_X7 rfl rfl (Nat.le_of_ble_eq_true rfl) rfl rfl (fun Q X hQ hF => ?_)
  refine r_iload_n (pc := 0) dX7_quota_0 rfl ?_
  refine r_iconst (pc := 1) (n := 0) dX7_quota_1 (by decide) ?_
  refine r_iconst (pc := 2) (n := 2) dX7_quota_2 (by decide) ?_
  refine d1_S (pc := 3) (rest := []) (cs' := 0) (sl' := 0) ms_X7_111 rfl (K_X7_isIn (v := l) (lo := 0) (up := 2)) rfl ⟨(Nat.le_of_ble_eq_true rfl), (Nat.le_of_ble_eq_true rfl)⟩ (Nat.le_of_ble_eq_true rfl) dX7_quota_3 ⟨rfl, (Nat.le_of_ble_eq_true rfl)⟩ ⟨rfl, (Nat.le_of_ble_eq_true rfl)⟩ rfl ?_
  refine q_ifeqB (pc := 6) (tgt := 20) dX7_quota_6 rfl (fun c6 => ?_) (fun c6 => ?_)
  · refine r_iconst (pc := 20) (n := 0) dX7_quota_20 (by decide) ?_
    refine r_istore (pc := 21) (xs' := [some (aR 7 0), some (aI l), some (aI p), some (aI c), some (aI 0), none]) dX7_quota_21 (by decide) rfl ?_
    refine r_aload_n (pc := 23) dX7_quota_23 rfl ?_
    refine r_iload (pc := 24) dX7_quota_24 rfl ?_
    refine r_if_ne (pc := 26) (tgt := 33) dX7_quota_26 rfl (fun z => absurd z (by decide)) (fun _ => ?_)
    refine r_iconst (pc := 29) (n := 1) dX7_quota_29 (by decide) ?_
    refine r_goto (pc := 30) (tgt := 48) dX7_quota_30 rfl ?_
    refine d1_V (pc := 48) (t := 7) (i := 0) (rest := []) (cs' := 0) (sl' := 0) mv_X7_125 (K_X7_holds (hi := hi) (e := 1) (v := 0) (by decide)) rfl ⟨(Nat.le_of_ble_eq_true rfl), (Nat.le_of_ble_eq_true rfl)⟩ (Nat.le_of_ble_eq_true rfl) dX7_quota_48 (show (0 : Int) ≤ 0 by omega) (show 0 < 1 by omega) ⟨rfl, (Nat.le_of_ble_eq_true rfl)⟩ ⟨rfl, (Nat.le_of_ble_eq_true rfl)⟩ rfl ?_
    refine r_if_ne (pc := 51) (tgt := 56) dX7_quota_51 rfl (fun z => absurd z (by decide)) (fun _ => ?_)
    refine r_iconst (pc := 54) (n := 0) dX7_quota_54 (by decide) ?_
    refine r_iret (pc := 55) dX7_quota_55 (Or.inl rfl) (Nat.le_of_ble_eq_true rfl) (Nat.le_of_ble_eq_true rfl) ?_
    exact hF 1 (by decide) (by unfold cC_quota; (repeat' split) <;> omega)
  · refine r_iload_n (pc := 9) dX7_quota_9 rfl ?_
    refine d1_S (pc := 10) (rest := []) (cs' := 0) (sl' := 0) ms_X7_118 rfl (K_X7_isPort (p := p)) rfl ⟨(Nat.le_of_ble_eq_true rfl), (Nat.le_of_ble_eq_true rfl)⟩ (Nat.le_of_ble_eq_true rfl) dX7_quota_10 ⟨rfl, (Nat.le_of_ble_eq_true rfl)⟩ ⟨rfl, (Nat.le_of_ble_eq_true rfl)⟩ rfl ?_
    refine q_ifeqB (pc := 13) (tgt := 20) dX7_quota_13 rfl (fun c13 => ?_) (fun c13 => ?_)
    · refine r_iconst (pc := 20) (n := 0) dX7_quota_20 (by decide) ?_
      refine r_istore (pc := 21) (xs' := [some (aR 7 0), some (aI l), some (aI p), some (aI c), some (aI 0), none]) dX7_quota_21 (by decide) rfl ?_
      refine r_aload_n (pc := 23) dX7_quota_23 rfl ?_
      refine r_iload (pc := 24) dX7_quota_24 rfl ?_
      refine r_if_ne (pc := 26) (tgt := 33) dX7_quota_26 rfl (fun z => absurd z (by decide)) (fun _ => ?_)
      refine r_iconst (pc := 29) (n := 1) dX7_quota_29 (by decide) ?_
      refine r_goto (pc := 30) (tgt := 48) dX7_quota_30 rfl ?_
      refine d1_V (pc := 48) (t := 7) (i := 0) (rest := []) (cs' := 0) (sl' := 0) mv_X7_125 (K_X7_holds (hi := hi) (e := 1) (v := 0) (by decide)) rfl ⟨(Nat.le_of_ble_eq_true rfl), (Nat.le_of_ble_eq_true rfl)⟩ (Nat.le_of_ble_eq_true rfl) dX7_quota_48 (show (0 : Int) ≤ 0 by omega) (show 0 < 1 by omega) ⟨rfl, (Nat.le_of_ble_eq_true rfl)⟩ ⟨rfl, (Nat.le_of_ble_eq_true rfl)⟩ rfl ?_
      refine r_if_ne (pc := 51) (tgt := 56) dX7_quota_51 rfl (fun z => absurd z (by decide)) (fun _ => ?_)
      refine r_iconst (pc := 54) (n := 0) dX7_quota_54 (by decide) ?_
      refine r_iret (pc := 55) dX7_quota_55 (Or.inl rfl) (Nat.le_of_ble_eq_true rfl) (Nat.le_of_ble_eq_true rfl) ?_
      exact hF 1 (by decide) (by unfold cC_quota; (repeat' split) <;> omega)
    · refine r_iconst (pc := 16) (n := 1) dX7_quota_16 (by decide) ?_
      refine r_goto (pc := 17) (tgt := 21) dX7_quota_17 rfl ?_
      refine r_istore (pc := 21) (xs' := [some (aR 7 0), some (aI l), some (aI p), some (aI c), some (aI 1), none]) dX7_quota_21 (by decide) rfl ?_
      refine r_aload_n (pc := 23) dX7_quota_23 rfl ?_
      refine r_iload (pc := 24) dX7_quota_24 rfl ?_
      refine r_if_ne (pc := 26) (tgt := 33) dX7_quota_26 rfl (fun _ => ?_) (fun z => absurd z (by decide))
      refine r_iload_n (pc := 33) dX7_quota_33 rfl ?_
      refine r_iconst (pc := 34) (n := 0) dX7_quota_34 (by decide) ?_
      refine r_bipush (pc := 35) (n := 9) dX7_quota_35 rfl (by decide) ?_
      refine d1_S (pc := 37) (rest := [aR 7 0]) (cs' := 0) (sl' := 0) ms_X7_111 rfl (K_X7_isIn (v := c) (lo := 0) (up := 9)) rfl ⟨(Nat.le_of_ble_eq_true rfl), (Nat.le_of_ble_eq_true rfl)⟩ (Nat.le_of_ble_eq_true rfl) dX7_quota_37 ⟨rfl, (Nat.le_of_ble_eq_true rfl)⟩ ⟨rfl, (Nat.le_of_ble_eq_true rfl)⟩ rfl ?_
      refine q_ifneB (pc := 40) (tgt := 47) dX7_quota_40 rfl (fun c40 => ?_) (fun c40 => ?_)
      · refine r_iconst (pc := 47) (n := 0) dX7_quota_47 (by decide) ?_
        refine d1_V (pc := 48) (t := 7) (i := 0) (rest := []) (cs' := 0) (sl' := 0) mv_X7_125 (K_X7_holds (hi := hi) (e := 0) (v := 1) (by decide)) rfl ⟨(Nat.le_of_ble_eq_true rfl), (Nat.le_of_ble_eq_true rfl)⟩ (Nat.le_of_ble_eq_true rfl) dX7_quota_48 (show (0 : Int) ≤ 0 by omega) (show 0 < 1 by omega) ⟨rfl, (Nat.le_of_ble_eq_true rfl)⟩ ⟨rfl, (Nat.le_of_ble_eq_true rfl)⟩ rfl ?_
        refine r_hp (hi' := thr hi) rfl ?_
        refine r_if_ne (pc := 51) (tgt := 56) dX7_quota_51 rfl (fun _ => ?_) (fun z => absurd z (by decide))
        refine r_aload_n (pc := 56) dX7_quota_56 rfl ?_
        refine p_getQ (pc := 57) (jI := 18) (n9 := 1) (r := some (44, 0)) fl_X7_57 rfl dX7_quota_57 rfl rfl (by decide) (by decide) rfl ?_
        refine r_bipush (pc := 60) (n := 6) dX7_quota_60 rfl (by decide) ?_
        refine r_iload_n (pc := 62) dX7_quota_62 rfl ?_
        refine r_imul (pc := 63) dX7_quota_63 (by omega) ?_
        refine r_iload_n (pc := 64) dX7_quota_64 rfl ?_
        refine r_iadd (pc := 65) dX7_quota_65 (by omega) ?_
        refine q_iald (pc := 66) (n9 := 1) (nI := 18) (v := (thr hi) 44 0 ((6 * l) + p)) rfl dX7_quota_66 rfl (by decide) (by decide) rfl (by omega) (by omega) rfl ?_
        refine r_istore (pc := 67) (xs' := [some (aR 7 0), some (aI l), some (aI p), some (aI c), some (aI 1), some (aI ((thr hi) 44 0 ((6 * l) + p)))]) dX7_quota_67 (by decide) rfl ?_
        refine r_aload_n (pc := 69) dX7_quota_69 rfl ?_
        refine p_getQ (pc := 70) (jI := 18) (n9 := 1) (r := some (44, 0)) fl_X7_57 rfl dX7_quota_70 rfl rfl (by decide) (by decide) rfl ?_
        refine r_bipush (pc := 73) (n := 6) dX7_quota_73 rfl (by decide) ?_
        refine r_iload_n (pc := 75) dX7_quota_75 rfl ?_
        refine r_imul (pc := 76) dX7_quota_76 (by omega) ?_
        refine r_iload_n (pc := 77) dX7_quota_77 rfl ?_
        refine r_iadd (pc := 78) dX7_quota_78 (by omega) ?_
        refine r_iload_n (pc := 79) dX7_quota_79 rfl ?_
        refine p_iast (pc := 80) (n9 := 1) (nI := 18) rfl dX7_quota_80 rfl (by decide) (by decide) rfl (by omega) (by omega) ?_
        refine r_iload (pc := 81) dX7_quota_81 rfl ?_
        refine r_iret (pc := 83) dX7_quota_83 (Or.inl rfl) (Nat.le_of_ble_eq_true rfl) (Nat.le_of_ble_eq_true rfl) ?_
        exact hQ (by unfold cC_quota; (repeat' split) <;> omega)
      · refine r_iconst (pc := 43) (n := 2) dX7_quota_43 (by decide) ?_
        refine r_goto (pc := 44) (tgt := 48) dX7_quota_44 rfl ?_
        refine d1_V (pc := 48) (t := 7) (i := 0) (rest := []) (cs' := 0) (sl' := 0) mv_X7_125 (K_X7_holds (hi := hi) (e := 2) (v := 0) (by decide)) rfl ⟨(Nat.le_of_ble_eq_true rfl), (Nat.le_of_ble_eq_true rfl)⟩ (Nat.le_of_ble_eq_true rfl) dX7_quota_48 (show (0 : Int) ≤ 0 by omega) (show 0 < 1 by omega) ⟨rfl, (Nat.le_of_ble_eq_true rfl)⟩ ⟨rfl, (Nat.le_of_ble_eq_true rfl)⟩ rfl ?_
        refine r_if_ne (pc := 51) (tgt := 56) dX7_quota_51 rfl (fun z => absurd z (by decide)) (fun _ => ?_)
        refine r_iconst (pc := 54) (n := 0) dX7_quota_54 (by decide) ?_
        refine r_iret (pc := 55) dX7_quota_55 (Or.inl rfl) (Nat.le_of_ble_eq_true rfl) (Nat.le_of_ble_eq_true rfl) ?_
        exact hF 2 (by decide) (by unfold cC_quota; (repeat' split) <;> omega)

def mkk (hi : Hi) (b : Int) : Int := 6 * hi 32 0 b + plcM hi b (hi 7 0 1)
def mhaH (hi : Hi) (b : Int) : Hi := up1 (up1 (up1 hi 45 0 (mkk hi b) (if hi 46 0 (mkk hi b) = hi 7 0 1 / 30 then hi 45 0 (mkk hi b) + 1 else 1)) 46 0 (mkk hi b) (hi 7 0 1 / 30)) 35 0 b (hi 7 0 1)
theorem K_X7_hands {hi : Hi} {nb nk : Int} (hM : MV hi nb nk) {b : Int} (hb0 : 0 ≤ b) (hb1 : b < nb) (hc : chaM hi b) : Det I_X7_hands [aR 7 0, aI b] (hp hi nb nk) (some (aI (morM (mhaH hi b) (mkk hi b)))) (hp (mhaH hi b) nb nk) := by
  have hN := hM.num
  unfold mNum at hN
  have hB9 := hM.box b hb0 hb1
  have hl9 := hM.less hb0 hb1 hc.2.1
  have hp9 := hc.2.2.1
  refine st_d (xs := [some (aR 7 0), some (aI b), none]) pn_X7 rfl rfl (Nat.le_of_ble_eq_true rfl) rfl rfl (fun Q X hQ => ?_)
  refine r_bipush (pc := 0) (n := 6) dX7_hands_0 rfl (by decide) ?_
  refine r_aload_n (pc := 2) dX7_hands_2 rfl ?_
  refine p_getQ (pc := 3) (jI := 4) (n9 := 1) (r := some (32, 0)) fl_X7_16 rfl dX7_hands_3 rfl rfl (by decide) (by decide) rfl ?_
  refine r_iload_n (pc := 6) dX7_hands_6 rfl ?_
  refine q_iald (pc := 7) (n9 := 1) (nI := 40) (v := hi 32 0 b) rfl dX7_hands_7 rfl (by decide) (by decide) rfl (by omega) (by omega) rfl ?_
  refine r_imul (pc := 8) dX7_hands_8 (by omega) ?_
  refine r_aload_n (pc := 9) dX7_hands_9 rfl ?_
  refine r_iload_n (pc := 10) dX7_hands_10 rfl ?_
  refine r_aload_n (pc := 11) dX7_hands_11 rfl ?_
  refine q_getI (pc := 12) (jI := 1) (n9 := 1) (v := hi 7 0 1) fl_X7_152 rfl dX7_hands_12 rfl rfl (by decide) (by decide) rfl ?_
  refine d1_V (pc := 15) (t := 7) (i := 0) (rest := [aI (6 * (hi 32 0 b))]) (cs' := 0) (sl' := 0) mv_X7_158 (K_X7_placeOn hM (by omega) (by omega)) rfl ⟨(Nat.le_of_ble_eq_true rfl), (Nat.le_of_ble_eq_true rfl)⟩ (Nat.le_of_ble_eq_true rfl) dX7_hands_15 (show (0 : Int) ≤ 0 by omega) (show 0 < 1 by omega) ⟨rfl, (Nat.le_of_ble_eq_true rfl)⟩ ⟨rfl, (Nat.le_of_ble_eq_true rfl)⟩ rfl ?_
  refine r_iadd (pc := 18) dX7_hands_18 (by omega) ?_
  show Run _ 19 _ [aI (mkk hi b)] _ _ _ _ _
  have k9 : 6 * hi 32 0 b + plcM hi b (hi 7 0 1) = mkk hi b := rfl
  have kr9 : 0 ≤ mkk hi b ∧ mkk hi b < 18 := by omega
  have q9 := hM.quo (mkk hi b) kr9.1 kr9.2
  refine r_istore_n (pc := 19) (xs' := [some (aR 7 0), some (aI b), some (aI (mkk hi b))]) dX7_hands_19 (by decide) rfl ?_
  refine r_aload_n (pc := 20) dX7_hands_20 rfl ?_
  refine p_getQ (pc := 21) (jI := 19) (n9 := 1) (r := some (45, 0)) fl_X7_60 rfl dX7_hands_21 rfl rfl (by decide) (by decide) rfl ?_
  refine r_iload_n (pc := 24) dX7_hands_24 rfl ?_
  refine r_aload_n (pc := 25) dX7_hands_25 rfl ?_
  refine p_getQ (pc := 26) (jI := 20) (n9 := 1) (r := some (46, 0)) fl_X7_63 rfl dX7_hands_26 rfl rfl (by decide) (by decide) rfl ?_
  refine r_iload_n (pc := 29) dX7_hands_29 rfl ?_
  refine q_iald (pc := 30) (n9 := 1) (nI := 18) (v := hi 46 0 (mkk hi b)) rfl dX7_hands_30 rfl (by decide) (by decide) rfl (by omega) (by omega) rfl ?_
  refine r_aload_n (pc := 31) dX7_hands_31 rfl ?_
  refine q_getI (pc := 32) (jI := 1) (n9 := 1) (v := hi 7 0 1) fl_X7_152 rfl dX7_hands_32 rfl rfl (by decide) (by decide) rfl ?_
  refine r_bipush (pc := 35) (n := 30) dX7_hands_35 rfl (by decide) ?_
  refine r_idiv (pc := 37) dX7_hands_37 (by omega) (by omega) ?_
  refine r_icmp_ne (pc := 38) (tgt := 52) dX7_hands_38 rfl (fun c38 => ?_) (fun c38 => ?_)
  · refine r_iconst (pc := 52) (n := 1) dX7_hands_52 (by decide) ?_
    refine p_iast (pc := 53) (n9 := 1) (nI := 18) rfl dX7_hands_53 rfl (by decide) (by decide) rfl (by omega) (by omega) ?_
    refine r_aload_n (pc := 54) dX7_hands_54 rfl ?_
    refine p_getQ (pc := 55) (jI := 20) (n9 := 1) (r := some (46, 0)) fl_X7_63 rfl dX7_hands_55 rfl rfl (by decide) (by decide) rfl ?_
    refine r_iload_n (pc := 58) dX7_hands_58 rfl ?_
    refine r_aload_n (pc := 59) dX7_hands_59 rfl ?_
    refine q_getI (pc := 60) (jI := 1) (n9 := 1) (v := hi 7 0 1) fl_X7_152 rfl dX7_hands_60 rfl rfl (by decide) (by decide) (by simp [up1]) ?_
    refine r_bipush (pc := 63) (n := 30) dX7_hands_63 rfl (by decide) ?_
    refine r_idiv (pc := 65) dX7_hands_65 (by omega) (by omega) ?_
    refine p_iast (pc := 66) (n9 := 1) (nI := 18) rfl dX7_hands_66 rfl (by decide) (by decide) rfl (by omega) (by omega) ?_
    refine r_aload_n (pc := 67) dX7_hands_67 rfl ?_
    refine p_getQ (pc := 68) (jI := 7) (n9 := 1) (r := some (35, 0)) fl_X7_26 rfl dX7_hands_68 rfl rfl (by decide) (by decide) rfl ?_
    refine r_iload_n (pc := 71) dX7_hands_71 rfl ?_
    refine r_aload_n (pc := 72) dX7_hands_72 rfl ?_
    refine q_getI (pc := 73) (jI := 1) (n9 := 1) (v := hi 7 0 1) fl_X7_152 rfl dX7_hands_73 rfl rfl (by decide) (by decide) (by simp [up1]) ?_
    refine p_iast (pc := 76) (n9 := 1) (nI := 40) rfl dX7_hands_76 rfl (by decide) (by decide) rfl (by omega) (by omega) ?_
    refine r_aload_n (pc := 77) dX7_hands_77 rfl ?_
    refine r_iload_n (pc := 78) dX7_hands_78 rfl ?_
    refine d1_V (pc := 79) (t := 7) (i := 0) (rest := []) (cs' := 0) (sl' := 0) mv_X7_171 (K_X7_more (hi := (up1 (up1 (up1 hi 45 0 (mkk hi b) 1) 46 0 (mkk hi b) ((hi 7 0 1) / 30)) 35 0 b (hi 7 0 1))) (k := mkk hi b) (by omega) (by simp [up1]; omega) (by simp [up1]; omega)) rfl ⟨(Nat.le_of_ble_eq_true rfl), (Nat.le_of_ble_eq_true rfl)⟩ (Nat.le_of_ble_eq_true rfl) dX7_hands_79 (show (0 : Int) ≤ 0 by omega) (show 0 < 1 by omega) ⟨rfl, (Nat.le_of_ble_eq_true rfl)⟩ ⟨rfl, (Nat.le_of_ble_eq_true rfl)⟩ rfl ?_
    refine r_iret (pc := 82) dX7_hands_82 (Or.inl rfl) (Nat.le_of_ble_eq_true rfl) (Nat.le_of_ble_eq_true rfl) ?_
    have g9 : (up1 (up1 (up1 hi 45 0 (mkk hi b) 1) 46 0 (mkk hi b) ((hi 7 0 1) / 30)) 35 0 b (hi 7 0 1)) = mhaH hi b := by unfold mhaH; rw [if_neg c38]
    exact qI hQ (by rw [g9]) (hp_c g9)
  · refine r_aload_n (pc := 41) dX7_hands_41 rfl ?_
    refine p_getQ (pc := 42) (jI := 19) (n9 := 1) (r := some (45, 0)) fl_X7_60 rfl dX7_hands_42 rfl rfl (by decide) (by decide) rfl ?_
    refine r_iload_n (pc := 45) dX7_hands_45 rfl ?_
    refine q_iald (pc := 46) (n9 := 1) (nI := 18) (v := hi 45 0 (mkk hi b)) rfl dX7_hands_46 rfl (by decide) (by decide) rfl (by omega) (by omega) rfl ?_
    refine r_iconst (pc := 47) (n := 1) dX7_hands_47 (by decide) ?_
    refine r_iadd (pc := 48) dX7_hands_48 (by omega) ?_
    refine r_goto (pc := 49) (tgt := 53) dX7_hands_49 rfl ?_
    refine p_iast (pc := 53) (n9 := 1) (nI := 18) rfl dX7_hands_53 rfl (by decide) (by decide) rfl (by omega) (by omega) ?_
    refine r_aload_n (pc := 54) dX7_hands_54 rfl ?_
    refine p_getQ (pc := 55) (jI := 20) (n9 := 1) (r := some (46, 0)) fl_X7_63 rfl dX7_hands_55 rfl rfl (by decide) (by decide) rfl ?_
    refine r_iload_n (pc := 58) dX7_hands_58 rfl ?_
    refine r_aload_n (pc := 59) dX7_hands_59 rfl ?_
    refine q_getI (pc := 60) (jI := 1) (n9 := 1) (v := hi 7 0 1) fl_X7_152 rfl dX7_hands_60 rfl rfl (by decide) (by decide) (by simp [up1]) ?_
    refine r_bipush (pc := 63) (n := 30) dX7_hands_63 rfl (by decide) ?_
    refine r_idiv (pc := 65) dX7_hands_65 (by omega) (by omega) ?_
    refine p_iast (pc := 66) (n9 := 1) (nI := 18) rfl dX7_hands_66 rfl (by decide) (by decide) rfl (by omega) (by omega) ?_
    refine r_aload_n (pc := 67) dX7_hands_67 rfl ?_
    refine p_getQ (pc := 68) (jI := 7) (n9 := 1) (r := some (35, 0)) fl_X7_26 rfl dX7_hands_68 rfl rfl (by decide) (by decide) rfl ?_
    refine r_iload_n (pc := 71) dX7_hands_71 rfl ?_
    refine r_aload_n (pc := 72) dX7_hands_72 rfl ?_
    refine q_getI (pc := 73) (jI := 1) (n9 := 1) (v := hi 7 0 1) fl_X7_152 rfl dX7_hands_73 rfl rfl (by decide) (by decide) (by simp [up1]) ?_
    refine p_iast (pc := 76) (n9 := 1) (nI := 40) rfl dX7_hands_76 rfl (by decide) (by decide) rfl (by omega) (by omega) ?_
    refine r_aload_n (pc := 77) dX7_hands_77 rfl ?_
    refine r_iload_n (pc := 78) dX7_hands_78 rfl ?_
    refine d1_V (pc := 79) (t := 7) (i := 0) (rest := []) (cs' := 0) (sl' := 0) mv_X7_171 (K_X7_more (hi := (up1 (up1 (up1 hi 45 0 (mkk hi b) ((hi 45 0 (mkk hi b)) + 1)) 46 0 (mkk hi b) ((hi 7 0 1) / 30)) 35 0 b (hi 7 0 1))) (k := mkk hi b) (by omega) (by simp [up1]; omega) (by simp [up1]; omega)) rfl ⟨(Nat.le_of_ble_eq_true rfl), (Nat.le_of_ble_eq_true rfl)⟩ (Nat.le_of_ble_eq_true rfl) dX7_hands_79 (show (0 : Int) ≤ 0 by omega) (show 0 < 1 by omega) ⟨rfl, (Nat.le_of_ble_eq_true rfl)⟩ ⟨rfl, (Nat.le_of_ble_eq_true rfl)⟩ rfl ?_
    refine r_iret (pc := 82) dX7_hands_82 (Or.inl rfl) (Nat.le_of_ble_eq_true rfl) (Nat.le_of_ble_eq_true rfl) ?_
    have g9 : (up1 (up1 (up1 hi 45 0 (mkk hi b) ((hi 45 0 (mkk hi b)) + 1)) 46 0 (mkk hi b) ((hi 7 0 1) / 30)) 35 0 b (hi 7 0 1)) = mhaH hi b := by unfold mhaH; rw [if_pos c38]
    exact qI hQ (by rw [g9]) (hp_c g9)

noncomputable def cM_handIn (hi : Hi) (nb b : Int) : Int := if ¬ (0 ≤ b ∧ b < nb) then 1 else if bI (chaM hi b) = 0 then 2 else 0
theorem K_X7_handIn {hi : Hi} {nb nk : Int} (hM : MV hi nb nk) {b : Int}  : MOp I_X7_handIn [aR 7 0, aI b] hi nb nk (cM_handIn hi nb b) (some (aI 0)) (some (aI (morM (mhaH (thr hi) b) (mkk (thr hi) b)))) (hp (mhaH (thr hi) b) nb nk) := by
  have hN := hM.num
  unfold mNum at hN
  have hT := hM.thrV
  refine st_m (xs := [some (aR 7 0), some (aI b), none]) pn_X7 rfl rfl (Nat.le_of_ble_eq_true rfl) rfl rfl (fun Q X hQ hF => ?_)
  refine r_aload_n (pc := 0) dX7_handIn_0 rfl ?_
  refine r_iload_n (pc := 1) dX7_handIn_1 rfl ?_
  refine d1_V (pc := 2) (t := 7) (i := 0) (rest := []) (cs' := 0) (sl' := 0) mv_X7_131 (K_X7_isBox hM (b := b)) rfl ⟨(Nat.le_of_ble_eq_true rfl), (Nat.le_of_ble_eq_true rfl)⟩ (Nat.le_of_ble_eq_true rfl) dX7_handIn_2 (show (0 : Int) ≤ 0 by omega) (show 0 < 1 by omega) ⟨rfl, (Nat.le_of_ble_eq_true rfl)⟩ ⟨rfl, (Nat.le_of_ble_eq_true rfl)⟩ rfl ?_
  refine r_istore_n (pc := 5) (xs' := [some (aR 7 0), some (aI b), some (aI (bI (0 ≤ b ∧ b < nb)))]) dX7_handIn_5 (by decide) rfl ?_
  refine r_aload_n (pc := 6) dX7_handIn_6 rfl ?_
  refine r_iload_n (pc := 7) dX7_handIn_7 rfl ?_
  refine q_ifneB (pc := 8) (tgt := 15) dX7_handIn_8 rfl (fun c8 => ?_) (fun c8 => ?_)
  · refine r_aload_n (pc := 15) dX7_handIn_15 rfl ?_
    refine r_iload_n (pc := 16) dX7_handIn_16 rfl ?_
    refine d1_V (pc := 17) (t := 7) (i := 0) (rest := [aR 7 0]) (cs' := 0) (sl' := 0) mv_X7_174 (K_X7_canHand hM (b := b) (by omega) (by omega)) rfl ⟨(Nat.le_of_ble_eq_true rfl), (Nat.le_of_ble_eq_true rfl)⟩ (Nat.le_of_ble_eq_true rfl) dX7_handIn_17 (show (0 : Int) ≤ 0 by omega) (show 0 < 1 by omega) ⟨rfl, (Nat.le_of_ble_eq_true rfl)⟩ ⟨rfl, (Nat.le_of_ble_eq_true rfl)⟩ rfl ?_
    refine q_ifneB (pc := 20) (tgt := 27) dX7_handIn_20 rfl (fun c20 => ?_) (fun c20 => ?_)
    · refine r_iconst (pc := 27) (n := 0) dX7_handIn_27 (by decide) ?_
      refine d1_V (pc := 28) (t := 7) (i := 0) (rest := []) (cs' := 0) (sl' := 0) mv_X7_125 (K_X7_holds (hi := hi) (e := 0) (v := 1) (by decide)) rfl ⟨(Nat.le_of_ble_eq_true rfl), (Nat.le_of_ble_eq_true rfl)⟩ (Nat.le_of_ble_eq_true rfl) dX7_handIn_28 (show (0 : Int) ≤ 0 by omega) (show 0 < 1 by omega) ⟨rfl, (Nat.le_of_ble_eq_true rfl)⟩ ⟨rfl, (Nat.le_of_ble_eq_true rfl)⟩ rfl ?_
      refine r_hp (hi' := thr hi) rfl ?_
      refine r_if_eq (pc := 31) (tgt := 42) dX7_handIn_31 rfl (fun z => absurd z (by decide)) (fun _ => ?_)
      refine r_aload_n (pc := 34) dX7_handIn_34 rfl ?_
      refine r_iload_n (pc := 35) dX7_handIn_35 rfl ?_
      refine d1_V (pc := 36) (t := 7) (i := 0) (rest := []) (cs' := 0) (sl' := 0) mv_X7_177 (K_X7_hands hT (b := b) (by omega) (by omega) c20) rfl ⟨(Nat.le_of_ble_eq_true rfl), (Nat.le_of_ble_eq_true rfl)⟩ (Nat.le_of_ble_eq_true rfl) dX7_handIn_36 (show (0 : Int) ≤ 0 by omega) (show 0 < 1 by omega) ⟨rfl, (Nat.le_of_ble_eq_true rfl)⟩ ⟨rfl, (Nat.le_of_ble_eq_true rfl)⟩ rfl ?_
      refine r_goto (pc := 39) (tgt := 43) dX7_handIn_39 rfl ?_
      refine r_iret (pc := 43) dX7_handIn_43 (Or.inl rfl) (Nat.le_of_ble_eq_true rfl) (Nat.le_of_ble_eq_true rfl) ?_
      exact hQ (by have e8 := bI_t c20; unfold cM_handIn; (repeat' split) <;> omega)
    · refine r_iconst (pc := 23) (n := 2) dX7_handIn_23 (by decide) ?_
      refine r_goto (pc := 24) (tgt := 28) dX7_handIn_24 rfl ?_
      refine d1_V (pc := 28) (t := 7) (i := 0) (rest := []) (cs' := 0) (sl' := 0) mv_X7_125 (K_X7_holds (hi := hi) (e := 2) (v := 0) (by decide)) rfl ⟨(Nat.le_of_ble_eq_true rfl), (Nat.le_of_ble_eq_true rfl)⟩ (Nat.le_of_ble_eq_true rfl) dX7_handIn_28 (show (0 : Int) ≤ 0 by omega) (show 0 < 1 by omega) ⟨rfl, (Nat.le_of_ble_eq_true rfl)⟩ ⟨rfl, (Nat.le_of_ble_eq_true rfl)⟩ rfl ?_
      refine r_if_eq (pc := 31) (tgt := 42) dX7_handIn_31 rfl (fun _ => ?_) (fun z => absurd z (by decide))
      refine r_iconst (pc := 42) (n := 0) dX7_handIn_42 (by decide) ?_
      refine r_iret (pc := 43) dX7_handIn_43 (Or.inl rfl) (Nat.le_of_ble_eq_true rfl) (Nat.le_of_ble_eq_true rfl) ?_
      exact hF 2 (by decide) (by have e8 := bI_f c20; unfold cM_handIn; (repeat' split) <;> omega)
  · refine r_iconst (pc := 11) (n := 1) dX7_handIn_11 (by decide) ?_
    refine r_goto (pc := 12) (tgt := 28) dX7_handIn_12 rfl ?_
    refine d1_V (pc := 28) (t := 7) (i := 0) (rest := []) (cs' := 0) (sl' := 0) mv_X7_125 (K_X7_holds (hi := hi) (e := 1) (v := 0) (by decide)) rfl ⟨(Nat.le_of_ble_eq_true rfl), (Nat.le_of_ble_eq_true rfl)⟩ (Nat.le_of_ble_eq_true rfl) dX7_handIn_28 (show (0 : Int) ≤ 0 by omega) (show 0 < 1 by omega) ⟨rfl, (Nat.le_of_ble_eq_true rfl)⟩ ⟨rfl, (Nat.le_of_ble_eq_true rfl)⟩ rfl ?_
    refine r_if_eq (pc := 31) (tgt := 42) dX7_handIn_31 rfl (fun _ => ?_) (fun z => absurd z (by decide))
    refine r_iconst (pc := 42) (n := 0) dX7_handIn_42 (by decide) ?_
    refine r_iret (pc := 43) dX7_handIn_43 (Or.inl rfl) (Nat.le_of_ble_eq_true rfl) (Nat.le_of_ble_eq_true rfl) ?_
    exact hF 1 (by decide) (by unfold cM_handIn; (repeat' split) <;> omega)

def mdaH (hi : Hi) (b co si : Int) : Hi := up1 (up1 (up1 (thr hi) 47 0 (12 * b + thr hi 49 0 b) co) 48 0 (12 * b + thr hi 49 0 b) si) 49 0 b (thr hi 49 0 b + 1)
theorem mdaH_V {hi : Hi} {nb nk b co si : Int} (hM : MV hi nb nk) (h0 : 0 ≤ b) (h1 : b < nb) (ht : hi 49 0 b < 12) (hc : 0 ≤ co ∧ co < 5) (hs : 1 ≤ si ∧ si ≤ 20) : MV (mdaH hi b co si) nb nk := by
  have hT := hM.thrV
  refine ⟨hT.num, hT.cst, hT.quo, hT.std, fun x x0 x1 => ?_, hT.bok⟩
  have e1 : thr hi 49 0 b = hi 49 0 b := rfl
  have ex := hM.box x x0 x1
  have eb := hM.box b h0 h1
  refine ⟨ex.1, ex.2.1, ex.2.2.1, ex.2.2.2.1, ?_, fun k k0 k1 => ?_⟩
  · show 0 ≤ up1 _ 49 0 b _ 49 0 x ∧ up1 _ 49 0 b _ 49 0 x ≤ 12
    by_cases q : x = b
    · subst q; rw [up1_s]; omega
    · rw [up1_n (fun z => q z.2.2)]; exact ex.2.2.2.2.1
  · have k1' : k < up1 (up1 (up1 (thr hi) 47 0 (12 * b + thr hi 49 0 b) co) 48 0 (12 * b + thr hi 49 0 b) si) 49 0 b (thr hi 49 0 b + 1) 49 0 x := k1
    show (0 ≤ up1 (thr hi) 47 0 (12 * b + thr hi 49 0 b) co 47 0 (12 * x + k) ∧ up1 (thr hi) 47 0 (12 * b + thr hi 49 0 b) co 47 0 (12 * x + k) ≤ 4) ∧ (1 ≤ up1 (up1 (thr hi) 47 0 (12 * b + thr hi 49 0 b) co) 48 0 (12 * b + thr hi 49 0 b) si 48 0 (12 * x + k) ∧ up1 (up1 (thr hi) 47 0 (12 * b + thr hi 49 0 b) co) 48 0 (12 * b + thr hi 49 0 b) si 48 0 (12 * x + k) ≤ 20)
    by_cases q : 12 * x + k = 12 * b + hi 49 0 b
    · rw [e1, q, up1_s, up1_s]; omega
    · rw [e1, up1_n (fun z => q z.2.2), up1_n (fun z => q z.2.2)]
      by_cases q2 : x = b
      · subst q2
        rw [up1_s] at k1'
        exact ex.2.2.2.2.2 k k0 (by omega)
      · rw [up1_n (fun z => q2 z.2.2)] at k1'
        exact ex.2.2.2.2.2 k k0 k1' 
def cM_damage (hi : Hi) (nb b co si : Int) : Int := if ¬ (0 ≤ b ∧ b < nb ∧ 0 ≤ co ∧ co < 5) then 1 else if ¬ (1 ≤ si ∧ si ≤ 20) then 2 else if hi 35 0 b ≠ -1 ∨ hi 49 0 b = 12 then 3 else 0
theorem K_X7_damage {hi : Hi} {nb nk : Int} (hM : MV hi nb nk) {b co si : Int}  : MOp I_X7_damage [aR 7 0, aI b, aI co, aI si] hi nb nk (cM_damage hi nb b co si) (some (aI 0)) (some (aI (menM (mdaH hi b co si) b))) (hp (mdaH hi b co si) nb nk) := by
  have hN := hM.num
  unfold mNum at hN
  have hT := hM.thrV
  refine st_m (xs := [some (aR 7 0), some (aI b), some (aI co), some (aI si), none]) pn_X7 rfl rfl (Nat.le_of_ble_eq_true rfl) rfl rfl (fun Q X hQ hF => ?_)
  refine r_aload_n (pc := 0) dX7_damage_0 rfl ?_
  refine r_iload_n (pc := 1) dX7_damage_1 rfl ?_
  refine d1_V (pc := 2) (t := 7) (i := 0) (rest := []) (cs' := 0) (sl' := 0) mv_X7_131 (K_X7_isBox hM (b := b)) rfl ⟨(Nat.le_of_ble_eq_true rfl), (Nat.le_of_ble_eq_true rfl)⟩ (Nat.le_of_ble_eq_true rfl) dX7_damage_2 (show (0 : Int) ≤ 0 by omega) (show 0 < 1 by omega) ⟨rfl, (Nat.le_of_ble_eq_true rfl)⟩ ⟨rfl, (Nat.le_of_ble_eq_true rfl)⟩ rfl ?_
  refine q_ifeqB (pc := 5) (tgt := 19) dX7_damage_5 rfl (fun c5 => ?_) (fun c5 => ?_)
  · refine r_iconst (pc := 19) (n := 0) dX7_damage_19 (by decide) ?_
    refine r_istore (pc := 20) (xs' := [some (aR 7 0), some (aI b), some (aI co), some (aI si), some (aI 0)]) dX7_damage_20 (by decide) rfl ?_
    refine r_aload_n (pc := 22) dX7_damage_22 rfl ?_
    refine r_iload (pc := 23) dX7_damage_23 rfl ?_
    refine r_if_ne (pc := 25) (tgt := 32) dX7_damage_25 rfl (fun z => absurd z (by decide)) (fun _ => ?_)
    refine r_iconst (pc := 28) (n := 1) dX7_damage_28 (by decide) ?_
    refine r_goto (pc := 29) (tgt := 70) dX7_damage_29 rfl ?_
    refine d1_V (pc := 70) (t := 7) (i := 0) (rest := []) (cs' := 0) (sl' := 0) mv_X7_125 (K_X7_holds (hi := hi) (e := 1) (v := 0) (by decide)) rfl ⟨(Nat.le_of_ble_eq_true rfl), (Nat.le_of_ble_eq_true rfl)⟩ (Nat.le_of_ble_eq_true rfl) dX7_damage_70 (show (0 : Int) ≤ 0 by omega) (show 0 < 1 by omega) ⟨rfl, (Nat.le_of_ble_eq_true rfl)⟩ ⟨rfl, (Nat.le_of_ble_eq_true rfl)⟩ rfl ?_
    refine r_if_ne (pc := 73) (tgt := 78) dX7_damage_73 rfl (fun z => absurd z (by decide)) (fun _ => ?_)
    refine r_iconst (pc := 76) (n := 0) dX7_damage_76 (by decide) ?_
    refine r_iret (pc := 77) dX7_damage_77 (Or.inl rfl) (Nat.le_of_ble_eq_true rfl) (Nat.le_of_ble_eq_true rfl) ?_
    exact hF 1 (by decide) (by unfold cM_damage; (repeat' split) <;> omega)
  · refine r_iload_n (pc := 8) dX7_damage_8 rfl ?_
    refine d1_S (pc := 9) (rest := []) (cs' := 0) (sl' := 0) ms_X7_180 rfl (K_X7_isCode (p := co)) rfl ⟨(Nat.le_of_ble_eq_true rfl), (Nat.le_of_ble_eq_true rfl)⟩ (Nat.le_of_ble_eq_true rfl) dX7_damage_9 ⟨rfl, (Nat.le_of_ble_eq_true rfl)⟩ ⟨rfl, (Nat.le_of_ble_eq_true rfl)⟩ rfl ?_
    refine q_ifeqB (pc := 12) (tgt := 19) dX7_damage_12 rfl (fun c12 => ?_) (fun c12 => ?_)
    · refine r_iconst (pc := 19) (n := 0) dX7_damage_19 (by decide) ?_
      refine r_istore (pc := 20) (xs' := [some (aR 7 0), some (aI b), some (aI co), some (aI si), some (aI 0)]) dX7_damage_20 (by decide) rfl ?_
      refine r_aload_n (pc := 22) dX7_damage_22 rfl ?_
      refine r_iload (pc := 23) dX7_damage_23 rfl ?_
      refine r_if_ne (pc := 25) (tgt := 32) dX7_damage_25 rfl (fun z => absurd z (by decide)) (fun _ => ?_)
      refine r_iconst (pc := 28) (n := 1) dX7_damage_28 (by decide) ?_
      refine r_goto (pc := 29) (tgt := 70) dX7_damage_29 rfl ?_
      refine d1_V (pc := 70) (t := 7) (i := 0) (rest := []) (cs' := 0) (sl' := 0) mv_X7_125 (K_X7_holds (hi := hi) (e := 1) (v := 0) (by decide)) rfl ⟨(Nat.le_of_ble_eq_true rfl), (Nat.le_of_ble_eq_true rfl)⟩ (Nat.le_of_ble_eq_true rfl) dX7_damage_70 (show (0 : Int) ≤ 0 by omega) (show 0 < 1 by omega) ⟨rfl, (Nat.le_of_ble_eq_true rfl)⟩ ⟨rfl, (Nat.le_of_ble_eq_true rfl)⟩ rfl ?_
      refine r_if_ne (pc := 73) (tgt := 78) dX7_damage_73 rfl (fun z => absurd z (by decide)) (fun _ => ?_)
      refine r_iconst (pc := 76) (n := 0) dX7_damage_76 (by decide) ?_
      refine r_iret (pc := 77) dX7_damage_77 (Or.inl rfl) (Nat.le_of_ble_eq_true rfl) (Nat.le_of_ble_eq_true rfl) ?_
      exact hF 1 (by decide) (by unfold cM_damage; (repeat' split) <;> omega)
    · refine r_iconst (pc := 15) (n := 1) dX7_damage_15 (by decide) ?_
      refine r_goto (pc := 16) (tgt := 20) dX7_damage_16 rfl ?_
      refine r_istore (pc := 20) (xs' := [some (aR 7 0), some (aI b), some (aI co), some (aI si), some (aI 1)]) dX7_damage_20 (by decide) rfl ?_
      refine r_aload_n (pc := 22) dX7_damage_22 rfl ?_
      refine r_iload (pc := 23) dX7_damage_23 rfl ?_
      refine r_if_ne (pc := 25) (tgt := 32) dX7_damage_25 rfl (fun _ => ?_) (fun z => absurd z (by decide))
      refine r_iload_n (pc := 32) dX7_damage_32 rfl ?_
      refine r_iconst (pc := 33) (n := 1) dX7_damage_33 (by decide) ?_
      refine r_bipush (pc := 34) (n := 20) dX7_damage_34 rfl (by decide) ?_
      refine d1_S (pc := 36) (rest := [aR 7 0]) (cs' := 0) (sl' := 0) ms_X7_111 rfl (K_X7_isIn (v := si) (lo := 1) (up := 20)) rfl ⟨(Nat.le_of_ble_eq_true rfl), (Nat.le_of_ble_eq_true rfl)⟩ (Nat.le_of_ble_eq_true rfl) dX7_damage_36 ⟨rfl, (Nat.le_of_ble_eq_true rfl)⟩ ⟨rfl, (Nat.le_of_ble_eq_true rfl)⟩ rfl ?_
      refine q_ifneB (pc := 39) (tgt := 46) dX7_damage_39 rfl (fun c39 => ?_) (fun c39 => ?_)
      · refine r_aload_n (pc := 46) dX7_damage_46 rfl ?_
        refine r_iload_n (pc := 47) dX7_damage_47 rfl ?_
        refine d1_V (pc := 48) (t := 7) (i := 0) (rest := [aR 7 0]) (cs' := 0) (sl' := 0) mv_X7_134 (K_X7_isGone (b := b) (by omega) (by omega)) rfl ⟨(Nat.le_of_ble_eq_true rfl), (Nat.le_of_ble_eq_true rfl)⟩ (Nat.le_of_ble_eq_true rfl) dX7_damage_48 (show (0 : Int) ≤ 0 by omega) (show 0 < 1 by omega) ⟨rfl, (Nat.le_of_ble_eq_true rfl)⟩ ⟨rfl, (Nat.le_of_ble_eq_true rfl)⟩ rfl ?_
        refine q_ifneB (pc := 51) (tgt := 65) dX7_damage_51 rfl (fun c51 => ?_) (fun c51 => ?_)
        · refine r_iconst (pc := 65) (n := 3) dX7_damage_65 (by decide) ?_
          refine r_goto (pc := 66) (tgt := 70) dX7_damage_66 rfl ?_
          refine d1_V (pc := 70) (t := 7) (i := 0) (rest := []) (cs' := 0) (sl' := 0) mv_X7_125 (K_X7_holds (hi := hi) (e := 3) (v := 0) (by decide)) rfl ⟨(Nat.le_of_ble_eq_true rfl), (Nat.le_of_ble_eq_true rfl)⟩ (Nat.le_of_ble_eq_true rfl) dX7_damage_70 (show (0 : Int) ≤ 0 by omega) (show 0 < 1 by omega) ⟨rfl, (Nat.le_of_ble_eq_true rfl)⟩ ⟨rfl, (Nat.le_of_ble_eq_true rfl)⟩ rfl ?_
          refine r_if_ne (pc := 73) (tgt := 78) dX7_damage_73 rfl (fun z => absurd z (by decide)) (fun _ => ?_)
          refine r_iconst (pc := 76) (n := 0) dX7_damage_76 (by decide) ?_
          refine r_iret (pc := 77) dX7_damage_77 (Or.inl rfl) (Nat.le_of_ble_eq_true rfl) (Nat.le_of_ble_eq_true rfl) ?_
          exact hF 3 (by decide) (by unfold cM_damage; (repeat' split) <;> omega)
        · refine r_aload_n (pc := 54) dX7_damage_54 rfl ?_
          refine p_getQ (pc := 55) (jI := 23) (n9 := 1) (r := some (49, 0)) fl_X7_72 rfl dX7_damage_55 rfl rfl (by decide) (by decide) rfl ?_
          refine r_iload_n (pc := 58) dX7_damage_58 rfl ?_
          refine q_iald (pc := 59) (n9 := 1) (nI := 40) (v := hi 49 0 b) rfl dX7_damage_59 rfl (by decide) (by decide) rfl (by omega) (by omega) rfl ?_
          refine r_bipush (pc := 60) (n := 12) dX7_damage_60 rfl (by decide) ?_
          refine r_icmp_ne (pc := 62) (tgt := 69) dX7_damage_62 rfl (fun c62 => ?_) (fun c62 => ?_)
          · refine r_iconst (pc := 69) (n := 0) dX7_damage_69 (by decide) ?_
            refine d1_V (pc := 70) (t := 7) (i := 0) (rest := []) (cs' := 0) (sl' := 0) mv_X7_125 (K_X7_holds (hi := hi) (e := 0) (v := 1) (by decide)) rfl ⟨(Nat.le_of_ble_eq_true rfl), (Nat.le_of_ble_eq_true rfl)⟩ (Nat.le_of_ble_eq_true rfl) dX7_damage_70 (show (0 : Int) ≤ 0 by omega) (show 0 < 1 by omega) ⟨rfl, (Nat.le_of_ble_eq_true rfl)⟩ ⟨rfl, (Nat.le_of_ble_eq_true rfl)⟩ rfl ?_
            refine r_hp (hi' := thr hi) rfl ?_
            refine r_if_ne (pc := 73) (tgt := 78) dX7_damage_73 rfl (fun _ => ?_) (fun z => absurd z (by decide))
            refine r_aload_n (pc := 78) dX7_damage_78 rfl ?_
            refine p_getQ (pc := 79) (jI := 21) (n9 := 1) (r := some (47, 0)) fl_X7_66 rfl dX7_damage_79 rfl rfl (by decide) (by decide) rfl ?_
            refine r_bipush (pc := 82) (n := 12) dX7_damage_82 rfl (by decide) ?_
            refine r_iload_n (pc := 84) dX7_damage_84 rfl ?_
            refine r_imul (pc := 85) dX7_damage_85 (by omega) ?_
            refine r_aload_n (pc := 86) dX7_damage_86 rfl ?_
            refine p_getQ (pc := 87) (jI := 23) (n9 := 1) (r := some (49, 0)) fl_X7_72 rfl dX7_damage_87 rfl rfl (by decide) (by decide) rfl ?_
            refine r_iload_n (pc := 90) dX7_damage_90 rfl ?_
            refine q_iald (pc := 91) (n9 := 1) (nI := 40) (v := (thr hi) 49 0 b) rfl dX7_damage_91 rfl (by decide) (by decide) rfl (by omega) (by omega) rfl ?_
            refine r_iadd (pc := 92) dX7_damage_92 (by have e1 : thr hi 49 0 b = hi 49 0 b := rfl; have := (hM.box b (by omega) (by omega)).2.2.2.2.1; omega) ?_
            refine r_iload_n (pc := 93) dX7_damage_93 rfl ?_
            refine p_iast (pc := 94) (n9 := 1) (nI := 480) rfl dX7_damage_94 rfl (by decide) (by decide) rfl (by have e1 : thr hi 49 0 b = hi 49 0 b := rfl; have := (hM.box b (by omega) (by omega)).2.2.2.2.1; omega) (by have e1 : thr hi 49 0 b = hi 49 0 b := rfl; have := (hM.box b (by omega) (by omega)).2.2.2.2.1; omega) ?_
            refine r_aload_n (pc := 95) dX7_damage_95 rfl ?_
            refine p_getQ (pc := 96) (jI := 22) (n9 := 1) (r := some (48, 0)) fl_X7_69 rfl dX7_damage_96 rfl rfl (by decide) (by decide) rfl ?_
            refine r_bipush (pc := 99) (n := 12) dX7_damage_99 rfl (by decide) ?_
            refine r_iload_n (pc := 101) dX7_damage_101 rfl ?_
            refine r_imul (pc := 102) dX7_damage_102 (by omega) ?_
            refine r_aload_n (pc := 103) dX7_damage_103 rfl ?_
            refine p_getQ (pc := 104) (jI := 23) (n9 := 1) (r := some (49, 0)) fl_X7_72 rfl dX7_damage_104 rfl rfl (by decide) (by decide) rfl ?_
            refine r_iload_n (pc := 107) dX7_damage_107 rfl ?_
            refine q_iald (pc := 108) (n9 := 1) (nI := 40) (v := (thr hi) 49 0 b) rfl dX7_damage_108 rfl (by decide) (by decide) rfl (by omega) (by omega) (by simp [up1]) ?_
            refine r_iadd (pc := 109) dX7_damage_109 (by have e1 : thr hi 49 0 b = hi 49 0 b := rfl; have := (hM.box b (by omega) (by omega)).2.2.2.2.1; omega) ?_
            refine r_iload_n (pc := 110) dX7_damage_110 rfl ?_
            refine p_iast (pc := 111) (n9 := 1) (nI := 480) rfl dX7_damage_111 rfl (by decide) (by decide) rfl (by have e1 : thr hi 49 0 b = hi 49 0 b := rfl; have := (hM.box b (by omega) (by omega)).2.2.2.2.1; omega) (by have e1 : thr hi 49 0 b = hi 49 0 b := rfl; have := (hM.box b (by omega) (by omega)).2.2.2.2.1; omega) ?_
            refine r_aload_n (pc := 112) dX7_damage_112 rfl ?_
            refine p_getQ (pc := 113) (jI := 23) (n9 := 1) (r := some (49, 0)) fl_X7_72 rfl dX7_damage_113 rfl rfl (by decide) (by decide) rfl ?_
            refine r_iload_n (pc := 116) dX7_damage_116 rfl ?_
            refine r_dup2 (pc := 117) dX7_damage_117 (fun _ => rfl) (fun _ => rfl) ?_
            refine q_iald (pc := 118) (n9 := 1) (nI := 40) (v := (thr hi) 49 0 b) rfl dX7_damage_118 rfl (by decide) (by decide) rfl (by omega) (by omega) (by simp [up1]) ?_
            refine r_iconst (pc := 119) (n := 1) dX7_damage_119 (by decide) ?_
            refine r_iadd (pc := 120) dX7_damage_120 (by have e1 : thr hi 49 0 b = hi 49 0 b := rfl; have := (hM.box b (by omega) (by omega)).2.2.2.2.1; omega) ?_
            refine p_iast (pc := 121) (n9 := 1) (nI := 40) rfl dX7_damage_121 rfl (by decide) (by decide) rfl (by omega) (by omega) ?_
            refine r_aload_n (pc := 122) dX7_damage_122 rfl ?_
            refine r_iload_n (pc := 123) dX7_damage_123 rfl ?_
            refine d1_V (pc := 124) (t := 7) (i := 0) (rest := []) (cs' := 0) (sl' := 0) mv_X7_183 (K_X7_mending (mdaH_V hM (b := b) (co := co) (si := si) (by omega) (by omega) (by have := (hM.box b (by omega) (by omega)).2.2.2.2.1; omega) (by omega) (by omega)) (b := b) (by omega) (by omega)) rfl ⟨(Nat.le_of_ble_eq_true rfl), (Nat.le_of_ble_eq_true rfl)⟩ (Nat.le_of_ble_eq_true rfl) dX7_damage_124 (show (0 : Int) ≤ 0 by omega) (show 0 < 1 by omega) ⟨rfl, (Nat.le_of_ble_eq_true rfl)⟩ ⟨rfl, (Nat.le_of_ble_eq_true rfl)⟩ rfl ?_
            refine r_iret (pc := 127) dX7_damage_127 (Or.inl rfl) (Nat.le_of_ble_eq_true rfl) (Nat.le_of_ble_eq_true rfl) ?_
            exact hQ (by unfold cM_damage; (repeat' split) <;> omega)
          · refine r_iconst (pc := 65) (n := 3) dX7_damage_65 (by decide) ?_
            refine r_goto (pc := 66) (tgt := 70) dX7_damage_66 rfl ?_
            refine d1_V (pc := 70) (t := 7) (i := 0) (rest := []) (cs' := 0) (sl' := 0) mv_X7_125 (K_X7_holds (hi := hi) (e := 3) (v := 0) (by decide)) rfl ⟨(Nat.le_of_ble_eq_true rfl), (Nat.le_of_ble_eq_true rfl)⟩ (Nat.le_of_ble_eq_true rfl) dX7_damage_70 (show (0 : Int) ≤ 0 by omega) (show 0 < 1 by omega) ⟨rfl, (Nat.le_of_ble_eq_true rfl)⟩ ⟨rfl, (Nat.le_of_ble_eq_true rfl)⟩ rfl ?_
            refine r_if_ne (pc := 73) (tgt := 78) dX7_damage_73 rfl (fun z => absurd z (by decide)) (fun _ => ?_)
            refine r_iconst (pc := 76) (n := 0) dX7_damage_76 (by decide) ?_
            refine r_iret (pc := 77) dX7_damage_77 (Or.inl rfl) (Nat.le_of_ble_eq_true rfl) (Nat.le_of_ble_eq_true rfl) ?_
            exact hF 3 (by decide) (by unfold cM_damage; (repeat' split) <;> omega)
      · refine r_iconst (pc := 42) (n := 2) dX7_damage_42 (by decide) ?_
        refine r_goto (pc := 43) (tgt := 70) dX7_damage_43 rfl ?_
        refine d1_V (pc := 70) (t := 7) (i := 0) (rest := []) (cs' := 0) (sl' := 0) mv_X7_125 (K_X7_holds (hi := hi) (e := 2) (v := 0) (by decide)) rfl ⟨(Nat.le_of_ble_eq_true rfl), (Nat.le_of_ble_eq_true rfl)⟩ (Nat.le_of_ble_eq_true rfl) dX7_damage_70 (show (0 : Int) ≤ 0 by omega) (show 0 < 1 by omega) ⟨rfl, (Nat.le_of_ble_eq_true rfl)⟩ ⟨rfl, (Nat.le_of_ble_eq_true rfl)⟩ rfl ?_
        refine r_if_ne (pc := 73) (tgt := 78) dX7_damage_73 rfl (fun z => absurd z (by decide)) (fun _ => ?_)
        refine r_iconst (pc := 76) (n := 0) dX7_damage_76 (by decide) ?_
        refine r_iret (pc := 77) dX7_damage_77 (Or.inl rfl) (Nat.le_of_ble_eq_true rfl) (Nat.le_of_ble_eq_true rfl) ?_
        exact hF 2 (by decide) (by unfold cM_damage; (repeat' split) <;> omega)

theorem K_X7_standard {hi : Hi} {nb nk : Int} (hM : MV hi nb nk) {c si : Int}  : MOp I_X7_standard [aR 7 0, aI c, aI si] hi nb nk (cC_standard c si) (some (aI 0)) (some (aI ((thr hi) 50 0 c))) (hp (up1 (thr hi) 50 0 c si) nb nk) := by
  have hN := hM.num
  unfold mNum at hN
  have hT := hM.thrV
  refine st_m (xs := [some (aR 7 0), some (aI c), some (aI si), none]) pn_X7 rfl rfl (Nat.le_of_ble_eq_true rfl) rfl rfl (fun Q X hQ hF => ?_)
  refine r_aload_n (pc := 0) dX7_standard_0 rfl ?_
  refine r_iload_n (pc := 1) dX7_standard_1 rfl ?_
  refine d1_S (pc := 2) (rest := [aR 7 0]) (cs' := 0) (sl' := 0) ms_X7_180 rfl (K_X7_isCode (p := c)) rfl ⟨(Nat.le_of_ble_eq_true rfl), (Nat.le_of_ble_eq_true rfl)⟩ (Nat.le_of_ble_eq_true rfl) dX7_standard_2 ⟨rfl, (Nat.le_of_ble_eq_true rfl)⟩ ⟨rfl, (Nat.le_of_ble_eq_true rfl)⟩ rfl ?_
  refine q_ifneB (pc := 5) (tgt := 12) dX7_standard_5 rfl (fun c5 => ?_) (fun c5 => ?_)
  · refine r_iload_n (pc := 12) dX7_standard_12 rfl ?_
    refine r_iconst (pc := 13) (n := 0) dX7_standard_13 (by decide) ?_
    refine r_bipush (pc := 14) (n := 20) dX7_standard_14 rfl (by decide) ?_
    refine d1_S (pc := 16) (rest := [aR 7 0]) (cs' := 0) (sl' := 0) ms_X7_111 rfl (K_X7_isIn (v := si) (lo := 0) (up := 20)) rfl ⟨(Nat.le_of_ble_eq_true rfl), (Nat.le_of_ble_eq_true rfl)⟩ (Nat.le_of_ble_eq_true rfl) dX7_standard_16 ⟨rfl, (Nat.le_of_ble_eq_true rfl)⟩ ⟨rfl, (Nat.le_of_ble_eq_true rfl)⟩ rfl ?_
    refine q_ifneB (pc := 19) (tgt := 26) dX7_standard_19 rfl (fun c19 => ?_) (fun c19 => ?_)
    · refine r_iconst (pc := 26) (n := 0) dX7_standard_26 (by decide) ?_
      refine d1_V (pc := 27) (t := 7) (i := 0) (rest := []) (cs' := 0) (sl' := 0) mv_X7_125 (K_X7_holds (hi := hi) (e := 0) (v := 1) (by decide)) rfl ⟨(Nat.le_of_ble_eq_true rfl), (Nat.le_of_ble_eq_true rfl)⟩ (Nat.le_of_ble_eq_true rfl) dX7_standard_27 (show (0 : Int) ≤ 0 by omega) (show 0 < 1 by omega) ⟨rfl, (Nat.le_of_ble_eq_true rfl)⟩ ⟨rfl, (Nat.le_of_ble_eq_true rfl)⟩ rfl ?_
      refine r_hp (hi' := thr hi) rfl ?_
      refine r_if_ne (pc := 30) (tgt := 35) dX7_standard_30 rfl (fun _ => ?_) (fun z => absurd z (by decide))
      refine r_aload_n (pc := 35) dX7_standard_35 rfl ?_
      refine p_getQ (pc := 36) (jI := 24) (n9 := 1) (r := some (50, 0)) fl_X7_75 rfl dX7_standard_36 rfl rfl (by decide) (by decide) rfl ?_
      refine r_iload_n (pc := 39) dX7_standard_39 rfl ?_
      refine q_iald (pc := 40) (n9 := 1) (nI := 5) (v := (thr hi) 50 0 c) rfl dX7_standard_40 rfl (by decide) (by decide) rfl (by omega) (by omega) rfl ?_
      refine r_istore_n (pc := 41) (xs' := [some (aR 7 0), some (aI c), some (aI si), some (aI ((thr hi) 50 0 c))]) dX7_standard_41 (by decide) rfl ?_
      refine r_aload_n (pc := 42) dX7_standard_42 rfl ?_
      refine p_getQ (pc := 43) (jI := 24) (n9 := 1) (r := some (50, 0)) fl_X7_75 rfl dX7_standard_43 rfl rfl (by decide) (by decide) rfl ?_
      refine r_iload_n (pc := 46) dX7_standard_46 rfl ?_
      refine r_iload_n (pc := 47) dX7_standard_47 rfl ?_
      refine p_iast (pc := 48) (n9 := 1) (nI := 5) rfl dX7_standard_48 rfl (by decide) (by decide) rfl (by omega) (by omega) ?_
      refine r_iload_n (pc := 49) dX7_standard_49 rfl ?_
      refine r_iret (pc := 50) dX7_standard_50 (Or.inl rfl) (Nat.le_of_ble_eq_true rfl) (Nat.le_of_ble_eq_true rfl) ?_
      exact hQ (by unfold cC_standard; (repeat' split) <;> omega)
    · refine r_iconst (pc := 22) (n := 2) dX7_standard_22 (by decide) ?_
      refine r_goto (pc := 23) (tgt := 27) dX7_standard_23 rfl ?_
      refine d1_V (pc := 27) (t := 7) (i := 0) (rest := []) (cs' := 0) (sl' := 0) mv_X7_125 (K_X7_holds (hi := hi) (e := 2) (v := 0) (by decide)) rfl ⟨(Nat.le_of_ble_eq_true rfl), (Nat.le_of_ble_eq_true rfl)⟩ (Nat.le_of_ble_eq_true rfl) dX7_standard_27 (show (0 : Int) ≤ 0 by omega) (show 0 < 1 by omega) ⟨rfl, (Nat.le_of_ble_eq_true rfl)⟩ ⟨rfl, (Nat.le_of_ble_eq_true rfl)⟩ rfl ?_
      refine r_if_ne (pc := 30) (tgt := 35) dX7_standard_30 rfl (fun z => absurd z (by decide)) (fun _ => ?_)
      refine r_iconst (pc := 33) (n := 0) dX7_standard_33 (by decide) ?_
      refine r_iret (pc := 34) dX7_standard_34 (Or.inl rfl) (Nat.le_of_ble_eq_true rfl) (Nat.le_of_ble_eq_true rfl) ?_
      exact hF 2 (by decide) (by unfold cC_standard; (repeat' split) <;> omega)
  · refine r_iconst (pc := 8) (n := 1) dX7_standard_8 (by decide) ?_
    refine r_goto (pc := 9) (tgt := 27) dX7_standard_9 rfl ?_
    refine d1_V (pc := 27) (t := 7) (i := 0) (rest := []) (cs' := 0) (sl' := 0) mv_X7_125 (K_X7_holds (hi := hi) (e := 1) (v := 0) (by decide)) rfl ⟨(Nat.le_of_ble_eq_true rfl), (Nat.le_of_ble_eq_true rfl)⟩ (Nat.le_of_ble_eq_true rfl) dX7_standard_27 (show (0 : Int) ≤ 0 by omega) (show 0 < 1 by omega) ⟨rfl, (Nat.le_of_ble_eq_true rfl)⟩ ⟨rfl, (Nat.le_of_ble_eq_true rfl)⟩ rfl ?_
    refine r_if_ne (pc := 30) (tgt := 35) dX7_standard_30 rfl (fun z => absurd z (by decide)) (fun _ => ?_)
    refine r_iconst (pc := 33) (n := 0) dX7_standard_33 (by decide) ?_
    refine r_iret (pc := 34) dX7_standard_34 (Or.inl rfl) (Nat.le_of_ble_eq_true rfl) (Nat.le_of_ble_eq_true rfl) ?_
    exact hF 1 (by decide) (by unfold cC_standard; (repeat' split) <;> omega)

theorem K_X7_limit {hi : Hi} {nb nk : Int} (hM : MV hi nb nk) {m : Int}  : MOp I_X7_limit [aR 7 0, aI m] hi nb nk (cC_limit m) (some (aI 0)) (some (aI ((thr hi) 7 0 25))) (hp (up1 (thr hi) 7 0 25 m) nb nk) := by
  have hN := hM.num
  unfold mNum at hN
  have hT := hM.thrV
  refine st_m (xs := [some (aR 7 0), some (aI m), none]) pn_X7 rfl rfl (Nat.le_of_ble_eq_true rfl) rfl rfl (fun Q X hQ hF => ?_)
  refine r_aload_n (pc := 0) dX7_limit_0 rfl ?_
  refine r_iload_n (pc := 1) dX7_limit_1 rfl ?_
  refine d1_S (pc := 2) (rest := [aR 7 0]) (cs' := 0) (sl' := 0) ms_X7_122 rfl (K_X7_isDay (p := m)) rfl ⟨(Nat.le_of_ble_eq_true rfl), (Nat.le_of_ble_eq_true rfl)⟩ (Nat.le_of_ble_eq_true rfl) dX7_limit_2 ⟨rfl, (Nat.le_of_ble_eq_true rfl)⟩ ⟨rfl, (Nat.le_of_ble_eq_true rfl)⟩ rfl ?_
  refine q_ifeqB (pc := 5) (tgt := 12) dX7_limit_5 rfl (fun c5 => ?_) (fun c5 => ?_)
  · refine r_iconst (pc := 12) (n := 1) dX7_limit_12 (by decide) ?_
    refine d1_V (pc := 13) (t := 7) (i := 0) (rest := []) (cs' := 0) (sl' := 0) mv_X7_125 (K_X7_holds (hi := hi) (e := 1) (v := 0) (by decide)) rfl ⟨(Nat.le_of_ble_eq_true rfl), (Nat.le_of_ble_eq_true rfl)⟩ (Nat.le_of_ble_eq_true rfl) dX7_limit_13 (show (0 : Int) ≤ 0 by omega) (show 0 < 1 by omega) ⟨rfl, (Nat.le_of_ble_eq_true rfl)⟩ ⟨rfl, (Nat.le_of_ble_eq_true rfl)⟩ rfl ?_
    refine r_if_ne (pc := 16) (tgt := 21) dX7_limit_16 rfl (fun z => absurd z (by decide)) (fun _ => ?_)
    refine r_iconst (pc := 19) (n := 0) dX7_limit_19 (by decide) ?_
    refine r_iret (pc := 20) dX7_limit_20 (Or.inl rfl) (Nat.le_of_ble_eq_true rfl) (Nat.le_of_ble_eq_true rfl) ?_
    exact hF 1 (by decide) (by unfold cC_limit; (repeat' split) <;> omega)
  · refine r_iconst (pc := 8) (n := 0) dX7_limit_8 (by decide) ?_
    refine r_goto (pc := 9) (tgt := 13) dX7_limit_9 rfl ?_
    refine d1_V (pc := 13) (t := 7) (i := 0) (rest := []) (cs' := 0) (sl' := 0) mv_X7_125 (K_X7_holds (hi := hi) (e := 0) (v := 1) (by decide)) rfl ⟨(Nat.le_of_ble_eq_true rfl), (Nat.le_of_ble_eq_true rfl)⟩ (Nat.le_of_ble_eq_true rfl) dX7_limit_13 (show (0 : Int) ≤ 0 by omega) (show 0 < 1 by omega) ⟨rfl, (Nat.le_of_ble_eq_true rfl)⟩ ⟨rfl, (Nat.le_of_ble_eq_true rfl)⟩ rfl ?_
    refine r_hp (hi' := thr hi) rfl ?_
    refine r_if_ne (pc := 16) (tgt := 21) dX7_limit_16 rfl (fun _ => ?_) (fun z => absurd z (by decide))
    refine r_aload_n (pc := 21) dX7_limit_21 rfl ?_
    refine q_getI (pc := 22) (jI := 25) (n9 := 1) (v := (thr hi) 7 0 25) fl_X7_78 rfl dX7_limit_22 rfl rfl (by decide) (by decide) rfl ?_
    refine r_istore_n (pc := 25) (xs' := [some (aR 7 0), some (aI m), some (aI ((thr hi) 7 0 25))]) dX7_limit_25 (by decide) rfl ?_
    refine r_aload_n (pc := 26) dX7_limit_26 rfl ?_
    refine r_iload_n (pc := 27) dX7_limit_27 rfl ?_
    refine p_putI (pc := 28) (jI := 25) (n9 := 1) fl_X7_78 (Or.inl rfl) (Or.inl rfl) dX7_limit_28 rfl rfl (by decide) (by decide) ?_
    refine r_iload_n (pc := 31) dX7_limit_31 rfl ?_
    refine r_iret (pc := 32) dX7_limit_32 (Or.inl rfl) (Nat.le_of_ble_eq_true rfl) (Nat.le_of_ble_eq_true rfl) ?_
    exact hQ (by unfold cC_limit; (repeat' split) <;> omega)

def cM_mend (hi : Hi) (nb b : Int) : Int := if ¬ (0 ≤ b ∧ b < nb) then 1 else if hi 35 0 b ≠ -1 ∨ menM hi b = 0 ∨ hi 7 0 25 < menM hi b then 2 else 0
theorem K_X7_mend {hi : Hi} {nb nk : Int} (hM : MV hi nb nk) {b : Int}  : MOp I_X7_mend [aR 7 0, aI b] hi nb nk (cM_mend hi nb b) (some (aI 0)) (some (aI (menM hi b))) (hp (up1 (thr hi) 49 0 b 0) nb nk) := by
  have hN := hM.num
  unfold mNum at hN
  have hT := hM.thrV
  refine st_m (xs := [some (aR 7 0), some (aI b), none, none]) pn_X7 rfl rfl (Nat.le_of_ble_eq_true rfl) rfl rfl (fun Q X hQ hF => ?_)
  refine r_aload_n (pc := 0) dX7_mend_0 rfl ?_
  refine r_iload_n (pc := 1) dX7_mend_1 rfl ?_
  refine d1_V (pc := 2) (t := 7) (i := 0) (rest := []) (cs' := 0) (sl' := 0) mv_X7_131 (K_X7_isBox hM (b := b)) rfl ⟨(Nat.le_of_ble_eq_true rfl), (Nat.le_of_ble_eq_true rfl)⟩ (Nat.le_of_ble_eq_true rfl) dX7_mend_2 (show (0 : Int) ≤ 0 by omega) (show 0 < 1 by omega) ⟨rfl, (Nat.le_of_ble_eq_true rfl)⟩ ⟨rfl, (Nat.le_of_ble_eq_true rfl)⟩ rfl ?_
  refine r_istore_n (pc := 5) (xs' := [some (aR 7 0), some (aI b), some (aI (bI (0 ≤ b ∧ b < nb))), none]) dX7_mend_5 (by decide) rfl ?_
  refine r_iload_n (pc := 6) dX7_mend_6 rfl ?_
  refine q_ifeqB (pc := 7) (tgt := 18) dX7_mend_7 rfl (fun c7 => ?_) (fun c7 => ?_)
  · refine r_iconst (pc := 18) (n := 0) dX7_mend_18 (by decide) ?_
    refine r_istore_n (pc := 19) (xs' := [some (aR 7 0), some (aI b), some (aI (bI (0 ≤ b ∧ b < nb))), some (aI 0)]) dX7_mend_19 (by decide) rfl ?_
    refine r_aload_n (pc := 20) dX7_mend_20 rfl ?_
    refine r_iload_n (pc := 21) dX7_mend_21 rfl ?_
    refine q_ifneB (pc := 22) (tgt := 29) dX7_mend_22 rfl (fun c22 => absurd c22 c7) (fun c22 => ?_)
    refine r_iconst (pc := 25) (n := 1) dX7_mend_25 (by decide) ?_
    refine r_goto (pc := 26) (tgt := 54) dX7_mend_26 rfl ?_
    refine d1_V (pc := 54) (t := 7) (i := 0) (rest := []) (cs' := 0) (sl' := 0) mv_X7_125 (K_X7_holds (hi := hi) (e := 1) (v := 0) (by decide)) rfl ⟨(Nat.le_of_ble_eq_true rfl), (Nat.le_of_ble_eq_true rfl)⟩ (Nat.le_of_ble_eq_true rfl) dX7_mend_54 (show (0 : Int) ≤ 0 by omega) (show 0 < 1 by omega) ⟨rfl, (Nat.le_of_ble_eq_true rfl)⟩ ⟨rfl, (Nat.le_of_ble_eq_true rfl)⟩ rfl ?_
    refine r_if_ne (pc := 57) (tgt := 62) dX7_mend_57 rfl (fun z => absurd z (by decide)) (fun _ => ?_)
    refine r_iconst (pc := 60) (n := 0) dX7_mend_60 (by decide) ?_
    refine r_iret (pc := 61) dX7_mend_61 (Or.inl rfl) (Nat.le_of_ble_eq_true rfl) (Nat.le_of_ble_eq_true rfl) ?_
    exact hF 1 (by decide) (by unfold cM_mend; (repeat' split) <;> omega)
  · refine r_aload_n (pc := 10) dX7_mend_10 rfl ?_
    refine r_iload_n (pc := 11) dX7_mend_11 rfl ?_
    refine d1_V (pc := 12) (t := 7) (i := 0) (rest := []) (cs' := 0) (sl' := 0) mv_X7_183 (K_X7_mending hM (by omega) (by omega)) rfl ⟨(Nat.le_of_ble_eq_true rfl), (Nat.le_of_ble_eq_true rfl)⟩ (Nat.le_of_ble_eq_true rfl) dX7_mend_12 (show (0 : Int) ≤ 0 by omega) (show 0 < 1 by omega) ⟨rfl, (Nat.le_of_ble_eq_true rfl)⟩ ⟨rfl, (Nat.le_of_ble_eq_true rfl)⟩ rfl ?_
    refine r_goto (pc := 15) (tgt := 19) dX7_mend_15 rfl ?_
    refine r_istore_n (pc := 19) (xs' := [some (aR 7 0), some (aI b), some (aI (bI (0 ≤ b ∧ b < nb))), some (aI (menM hi b))]) dX7_mend_19 (by decide) rfl ?_
    refine r_aload_n (pc := 20) dX7_mend_20 rfl ?_
    refine r_iload_n (pc := 21) dX7_mend_21 rfl ?_
    refine q_ifneB (pc := 22) (tgt := 29) dX7_mend_22 rfl (fun c22 => ?_) (fun c22 => absurd c7 c22)
    refine r_aload_n (pc := 29) dX7_mend_29 rfl ?_
    refine r_iload_n (pc := 30) dX7_mend_30 rfl ?_
    refine d1_V (pc := 31) (t := 7) (i := 0) (rest := [aR 7 0]) (cs' := 0) (sl' := 0) mv_X7_134 (K_X7_isGone (b := b) (by omega) (by omega)) rfl ⟨(Nat.le_of_ble_eq_true rfl), (Nat.le_of_ble_eq_true rfl)⟩ (Nat.le_of_ble_eq_true rfl) dX7_mend_31 (show (0 : Int) ≤ 0 by omega) (show 0 < 1 by omega) ⟨rfl, (Nat.le_of_ble_eq_true rfl)⟩ ⟨rfl, (Nat.le_of_ble_eq_true rfl)⟩ rfl ?_
    refine q_ifneB (pc := 34) (tgt := 49) dX7_mend_34 rfl (fun c34 => ?_) (fun c34 => ?_)
    · refine r_iconst (pc := 49) (n := 2) dX7_mend_49 (by decide) ?_
      refine r_goto (pc := 50) (tgt := 54) dX7_mend_50 rfl ?_
      refine d1_V (pc := 54) (t := 7) (i := 0) (rest := []) (cs' := 0) (sl' := 0) mv_X7_125 (K_X7_holds (hi := hi) (e := 2) (v := 0) (by decide)) rfl ⟨(Nat.le_of_ble_eq_true rfl), (Nat.le_of_ble_eq_true rfl)⟩ (Nat.le_of_ble_eq_true rfl) dX7_mend_54 (show (0 : Int) ≤ 0 by omega) (show 0 < 1 by omega) ⟨rfl, (Nat.le_of_ble_eq_true rfl)⟩ ⟨rfl, (Nat.le_of_ble_eq_true rfl)⟩ rfl ?_
      refine r_if_ne (pc := 57) (tgt := 62) dX7_mend_57 rfl (fun z => absurd z (by decide)) (fun _ => ?_)
      refine r_iconst (pc := 60) (n := 0) dX7_mend_60 (by decide) ?_
      refine r_iret (pc := 61) dX7_mend_61 (Or.inl rfl) (Nat.le_of_ble_eq_true rfl) (Nat.le_of_ble_eq_true rfl) ?_
      exact hF 2 (by decide) (by unfold cM_mend; (repeat' split) <;> omega)
    · refine r_iload_n (pc := 37) dX7_mend_37 rfl ?_
      refine r_if_eq (pc := 38) (tgt := 49) dX7_mend_38 rfl (fun c38 => ?_) (fun c38 => ?_)
      · refine r_iconst (pc := 49) (n := 2) dX7_mend_49 (by decide) ?_
        refine r_goto (pc := 50) (tgt := 54) dX7_mend_50 rfl ?_
        refine d1_V (pc := 54) (t := 7) (i := 0) (rest := []) (cs' := 0) (sl' := 0) mv_X7_125 (K_X7_holds (hi := hi) (e := 2) (v := 0) (by decide)) rfl ⟨(Nat.le_of_ble_eq_true rfl), (Nat.le_of_ble_eq_true rfl)⟩ (Nat.le_of_ble_eq_true rfl) dX7_mend_54 (show (0 : Int) ≤ 0 by omega) (show 0 < 1 by omega) ⟨rfl, (Nat.le_of_ble_eq_true rfl)⟩ ⟨rfl, (Nat.le_of_ble_eq_true rfl)⟩ rfl ?_
        refine r_if_ne (pc := 57) (tgt := 62) dX7_mend_57 rfl (fun z => absurd z (by decide)) (fun _ => ?_)
        refine r_iconst (pc := 60) (n := 0) dX7_mend_60 (by decide) ?_
        refine r_iret (pc := 61) dX7_mend_61 (Or.inl rfl) (Nat.le_of_ble_eq_true rfl) (Nat.le_of_ble_eq_true rfl) ?_
        exact hF 2 (by decide) (by unfold cM_mend; (repeat' split) <;> omega)
      · refine r_iload_n (pc := 41) dX7_mend_41 rfl ?_
        refine r_aload_n (pc := 42) dX7_mend_42 rfl ?_
        refine q_getI (pc := 43) (jI := 25) (n9 := 1) (v := hi 7 0 25) fl_X7_78 rfl dX7_mend_43 rfl rfl (by decide) (by decide) rfl ?_
        refine r_icmp_le (pc := 46) (tgt := 53) dX7_mend_46 rfl (fun c46 => ?_) (fun c46 => ?_)
        · refine r_iconst (pc := 53) (n := 0) dX7_mend_53 (by decide) ?_
          refine d1_V (pc := 54) (t := 7) (i := 0) (rest := []) (cs' := 0) (sl' := 0) mv_X7_125 (K_X7_holds (hi := hi) (e := 0) (v := 1) (by decide)) rfl ⟨(Nat.le_of_ble_eq_true rfl), (Nat.le_of_ble_eq_true rfl)⟩ (Nat.le_of_ble_eq_true rfl) dX7_mend_54 (show (0 : Int) ≤ 0 by omega) (show 0 < 1 by omega) ⟨rfl, (Nat.le_of_ble_eq_true rfl)⟩ ⟨rfl, (Nat.le_of_ble_eq_true rfl)⟩ rfl ?_
          refine r_hp (hi' := thr hi) rfl ?_
          refine r_if_ne (pc := 57) (tgt := 62) dX7_mend_57 rfl (fun _ => ?_) (fun z => absurd z (by decide))
          refine r_aload_n (pc := 62) dX7_mend_62 rfl ?_
          refine p_getQ (pc := 63) (jI := 23) (n9 := 1) (r := some (49, 0)) fl_X7_72 rfl dX7_mend_63 rfl rfl (by decide) (by decide) rfl ?_
          refine r_iload_n (pc := 66) dX7_mend_66 rfl ?_
          refine r_iconst (pc := 67) (n := 0) dX7_mend_67 (by decide) ?_
          refine p_iast (pc := 68) (n9 := 1) (nI := 40) rfl dX7_mend_68 rfl (by decide) (by decide) rfl (by omega) (by omega) ?_
          refine r_iload_n (pc := 69) dX7_mend_69 rfl ?_
          refine r_iret (pc := 70) dX7_mend_70 (Or.inl rfl) (Nat.le_of_ble_eq_true rfl) (Nat.le_of_ble_eq_true rfl) ?_
          exact hQ (by unfold cM_mend; (repeat' split) <;> omega)
        · refine r_iconst (pc := 49) (n := 2) dX7_mend_49 (by decide) ?_
          refine r_goto (pc := 50) (tgt := 54) dX7_mend_50 rfl ?_
          refine d1_V (pc := 54) (t := 7) (i := 0) (rest := []) (cs' := 0) (sl' := 0) mv_X7_125 (K_X7_holds (hi := hi) (e := 2) (v := 0) (by decide)) rfl ⟨(Nat.le_of_ble_eq_true rfl), (Nat.le_of_ble_eq_true rfl)⟩ (Nat.le_of_ble_eq_true rfl) dX7_mend_54 (show (0 : Int) ≤ 0 by omega) (show 0 < 1 by omega) ⟨rfl, (Nat.le_of_ble_eq_true rfl)⟩ ⟨rfl, (Nat.le_of_ble_eq_true rfl)⟩ rfl ?_
          refine r_if_ne (pc := 57) (tgt := 62) dX7_mend_57 rfl (fun z => absurd z (by decide)) (fun _ => ?_)
          refine r_iconst (pc := 60) (n := 0) dX7_mend_60 (by decide) ?_
          refine r_iret (pc := 61) dX7_mend_61 (Or.inl rfl) (Nat.le_of_ble_eq_true rfl) (Nat.le_of_ble_eq_true rfl) ?_
          exact hF 2 (by decide) (by unfold cM_mend; (repeat' split) <;> omega)

theorem K_X7_lacks {hi : Hi} {nb nk : Int} (hM : MV hi nb nk) {k : Int}  : MOp I_X7_lacks [aR 7 0, aI k] hi nb nk (cC_lacks nk k) (some (aI 0)) (some (aI (lacM (thr hi) nb k))) (hp (thr hi) nb nk) := by
  have hN := hM.num
  unfold mNum at hN
  have hT := hM.thrV
  refine st_m (xs := [some (aR 7 0), some (aI k)]) pn_X7 rfl rfl (Nat.le_of_ble_eq_true rfl) rfl rfl (fun Q X hQ hF => ?_)
  refine r_aload_n (pc := 0) dX7_lacks_0 rfl ?_
  refine r_aload_n (pc := 1) dX7_lacks_1 rfl ?_
  refine r_iload_n (pc := 2) dX7_lacks_2 rfl ?_
  refine d1_V (pc := 3) (t := 7) (i := 0) (rest := [aR 7 0]) (cs' := 0) (sl' := 0) mv_X7_201 (K_X7_isBooking hM (b := k)) rfl ⟨(Nat.le_of_ble_eq_true rfl), (Nat.le_of_ble_eq_true rfl)⟩ (Nat.le_of_ble_eq_true rfl) dX7_lacks_3 (show (0 : Int) ≤ 0 by omega) (show 0 < 1 by omega) ⟨rfl, (Nat.le_of_ble_eq_true rfl)⟩ ⟨rfl, (Nat.le_of_ble_eq_true rfl)⟩ rfl ?_
  refine q_ifeqB (pc := 6) (tgt := 13) dX7_lacks_6 rfl (fun c6 => ?_) (fun c6 => ?_)
  · refine r_iconst (pc := 13) (n := 1) dX7_lacks_13 (by decide) ?_
    refine d1_V (pc := 14) (t := 7) (i := 0) (rest := []) (cs' := 0) (sl' := 0) mv_X7_125 (K_X7_holds (hi := hi) (e := 1) (v := 0) (by decide)) rfl ⟨(Nat.le_of_ble_eq_true rfl), (Nat.le_of_ble_eq_true rfl)⟩ (Nat.le_of_ble_eq_true rfl) dX7_lacks_14 (show (0 : Int) ≤ 0 by omega) (show 0 < 1 by omega) ⟨rfl, (Nat.le_of_ble_eq_true rfl)⟩ ⟨rfl, (Nat.le_of_ble_eq_true rfl)⟩ rfl ?_
    refine r_if_eq (pc := 17) (tgt := 28) dX7_lacks_17 rfl (fun _ => ?_) (fun z => absurd z (by decide))
    refine r_iconst (pc := 28) (n := 0) dX7_lacks_28 (by decide) ?_
    refine r_iret (pc := 29) dX7_lacks_29 (Or.inl rfl) (Nat.le_of_ble_eq_true rfl) (Nat.le_of_ble_eq_true rfl) ?_
    exact hF 1 (by decide) (by unfold cC_lacks; (repeat' split) <;> omega)
  · refine r_iconst (pc := 9) (n := 0) dX7_lacks_9 (by decide) ?_
    refine r_goto (pc := 10) (tgt := 14) dX7_lacks_10 rfl ?_
    refine d1_V (pc := 14) (t := 7) (i := 0) (rest := []) (cs' := 0) (sl' := 0) mv_X7_125 (K_X7_holds (hi := hi) (e := 0) (v := 1) (by decide)) rfl ⟨(Nat.le_of_ble_eq_true rfl), (Nat.le_of_ble_eq_true rfl)⟩ (Nat.le_of_ble_eq_true rfl) dX7_lacks_14 (show (0 : Int) ≤ 0 by omega) (show 0 < 1 by omega) ⟨rfl, (Nat.le_of_ble_eq_true rfl)⟩ ⟨rfl, (Nat.le_of_ble_eq_true rfl)⟩ rfl ?_
    refine r_hp (hi' := thr hi) rfl ?_
    refine r_if_eq (pc := 17) (tgt := 28) dX7_lacks_17 rfl (fun z => absurd z (by decide)) (fun _ => ?_)
    refine r_aload_n (pc := 20) dX7_lacks_20 rfl ?_
    refine r_iload_n (pc := 21) dX7_lacks_21 rfl ?_
    refine d1_V (pc := 22) (t := 7) (i := 0) (rest := []) (cs' := 0) (sl' := 0) mv_X7_192 (K_X7_lacking hT (k := k) (by omega) (by omega)) rfl ⟨(Nat.le_of_ble_eq_true rfl), (Nat.le_of_ble_eq_true rfl)⟩ (Nat.le_of_ble_eq_true rfl) dX7_lacks_22 (show (0 : Int) ≤ 0 by omega) (show 0 < 1 by omega) ⟨rfl, (Nat.le_of_ble_eq_true rfl)⟩ ⟨rfl, (Nat.le_of_ble_eq_true rfl)⟩ rfl ?_
    refine r_goto (pc := 25) (tgt := 29) dX7_lacks_25 rfl ?_
    refine r_iret (pc := 29) dX7_lacks_29 (Or.inl rfl) (Nat.le_of_ble_eq_true rfl) (Nat.le_of_ble_eq_true rfl) ?_
    exact hQ (by unfold cC_lacks; (repeat' split) <;> omega)

def cM_pass (hi : Hi) (d : Int) : Int := if ¬ (1 ≤ d ∧ d ≤ 400) then 1 else if 9999 < hi 7 0 1 + d then 2 else 0
theorem K_X7_pass {hi : Hi} {nb nk : Int} (hM : MV hi nb nk) {d : Int}  : MOp I_X7_pass [aR 7 0, aI d] hi nb nk (cM_pass hi d) (some (aI 0)) (some (aI ((thr hi) 7 0 1 + d))) (hp (up1 (thr hi) 7 0 1 ((thr hi) 7 0 1 + d)) nb nk) := by
  have hN := hM.num
  unfold mNum at hN
  have hT := hM.thrV
  have e1 : thr hi 7 0 1 = hi 7 0 1 := rfl
  refine st_m (xs := [some (aR 7 0), some (aI d)]) pn_X7 rfl rfl (Nat.le_of_ble_eq_true rfl) rfl rfl (fun Q X hQ hF => ?_)
  refine r_aload_n (pc := 0) dX7_pass_0 rfl ?_
  refine r_iload_n (pc := 1) dX7_pass_1 rfl ?_
  refine r_iconst (pc := 2) (n := 1) dX7_pass_2 (by decide) ?_
  refine r_sipush (pc := 3) (n := 400) dX7_pass_3 rfl (by decide) ?_
  refine d1_S (pc := 6) (rest := [aR 7 0]) (cs' := 0) (sl' := 0) ms_X7_111 rfl (K_X7_isIn (v := d) (lo := 1) (up := 400)) rfl ⟨(Nat.le_of_ble_eq_true rfl), (Nat.le_of_ble_eq_true rfl)⟩ (Nat.le_of_ble_eq_true rfl) dX7_pass_6 ⟨rfl, (Nat.le_of_ble_eq_true rfl)⟩ ⟨rfl, (Nat.le_of_ble_eq_true rfl)⟩ rfl ?_
  refine q_ifneB (pc := 9) (tgt := 16) dX7_pass_9 rfl (fun c9 => ?_) (fun c9 => ?_)
  · refine r_aload_n (pc := 16) dX7_pass_16 rfl ?_
    refine q_getI (pc := 17) (jI := 1) (n9 := 1) (v := hi 7 0 1) fl_X7_152 rfl dX7_pass_17 rfl rfl (by decide) (by decide) rfl ?_
    refine r_iload_n (pc := 20) dX7_pass_20 rfl ?_
    refine r_iadd (pc := 21) dX7_pass_21 (by omega) ?_
    refine r_sipush (pc := 22) (n := 9999) dX7_pass_22 rfl (by decide) ?_
    refine r_icmp_le (pc := 25) (tgt := 32) dX7_pass_25 rfl (fun c25 => ?_) (fun c25 => ?_)
    · refine r_iconst (pc := 32) (n := 0) dX7_pass_32 (by decide) ?_
      refine d1_V (pc := 33) (t := 7) (i := 0) (rest := []) (cs' := 0) (sl' := 0) mv_X7_125 (K_X7_holds (hi := hi) (e := 0) (v := 1) (by decide)) rfl ⟨(Nat.le_of_ble_eq_true rfl), (Nat.le_of_ble_eq_true rfl)⟩ (Nat.le_of_ble_eq_true rfl) dX7_pass_33 (show (0 : Int) ≤ 0 by omega) (show 0 < 1 by omega) ⟨rfl, (Nat.le_of_ble_eq_true rfl)⟩ ⟨rfl, (Nat.le_of_ble_eq_true rfl)⟩ rfl ?_
      refine r_hp (hi' := thr hi) rfl ?_
      refine r_if_ne (pc := 36) (tgt := 41) dX7_pass_36 rfl (fun _ => ?_) (fun z => absurd z (by decide))
      refine r_aload_n (pc := 41) dX7_pass_41 rfl ?_
      refine r_dup (pc := 42) dX7_pass_42 (fun _ => rfl) ?_
      refine q_getI (pc := 43) (jI := 1) (n9 := 1) (v := (thr hi) 7 0 1) fl_X7_152 rfl dX7_pass_43 rfl rfl (by decide) (by decide) rfl ?_
      refine r_iload_n (pc := 46) dX7_pass_46 rfl ?_
      refine r_iadd (pc := 47) dX7_pass_47 (by omega) ?_
      refine p_putI (pc := 48) (jI := 1) (n9 := 1) fl_X7_152 (Or.inl rfl) (Or.inl rfl) dX7_pass_48 rfl rfl (by decide) (by decide) ?_
      refine r_aload_n (pc := 51) dX7_pass_51 rfl ?_
      refine q_getI (pc := 52) (jI := 1) (n9 := 1) (v := ((thr hi) 7 0 1) + d) fl_X7_152 rfl dX7_pass_52 rfl rfl (by decide) (by decide) (by simp [up1]) ?_
      refine r_iret (pc := 55) dX7_pass_55 (Or.inl rfl) (Nat.le_of_ble_eq_true rfl) (Nat.le_of_ble_eq_true rfl) ?_
      exact hQ (by unfold cM_pass; (repeat' split) <;> omega)
    · refine r_iconst (pc := 28) (n := 2) dX7_pass_28 (by decide) ?_
      refine r_goto (pc := 29) (tgt := 33) dX7_pass_29 rfl ?_
      refine d1_V (pc := 33) (t := 7) (i := 0) (rest := []) (cs' := 0) (sl' := 0) mv_X7_125 (K_X7_holds (hi := hi) (e := 2) (v := 0) (by decide)) rfl ⟨(Nat.le_of_ble_eq_true rfl), (Nat.le_of_ble_eq_true rfl)⟩ (Nat.le_of_ble_eq_true rfl) dX7_pass_33 (show (0 : Int) ≤ 0 by omega) (show 0 < 1 by omega) ⟨rfl, (Nat.le_of_ble_eq_true rfl)⟩ ⟨rfl, (Nat.le_of_ble_eq_true rfl)⟩ rfl ?_
      refine r_if_ne (pc := 36) (tgt := 41) dX7_pass_36 rfl (fun z => absurd z (by decide)) (fun _ => ?_)
      refine r_iconst (pc := 39) (n := 0) dX7_pass_39 (by decide) ?_
      refine r_iret (pc := 40) dX7_pass_40 (Or.inl rfl) (Nat.le_of_ble_eq_true rfl) (Nat.le_of_ble_eq_true rfl) ?_
      exact hF 2 (by decide) (by unfold cM_pass; (repeat' split) <;> omega)
  · refine r_iconst (pc := 12) (n := 1) dX7_pass_12 (by decide) ?_
    refine r_goto (pc := 13) (tgt := 33) dX7_pass_13 rfl ?_
    refine d1_V (pc := 33) (t := 7) (i := 0) (rest := []) (cs' := 0) (sl' := 0) mv_X7_125 (K_X7_holds (hi := hi) (e := 1) (v := 0) (by decide)) rfl ⟨(Nat.le_of_ble_eq_true rfl), (Nat.le_of_ble_eq_true rfl)⟩ (Nat.le_of_ble_eq_true rfl) dX7_pass_33 (show (0 : Int) ≤ 0 by omega) (show 0 < 1 by omega) ⟨rfl, (Nat.le_of_ble_eq_true rfl)⟩ ⟨rfl, (Nat.le_of_ble_eq_true rfl)⟩ rfl ?_
    refine r_if_ne (pc := 36) (tgt := 41) dX7_pass_36 rfl (fun z => absurd z (by decide)) (fun _ => ?_)
    refine r_iconst (pc := 39) (n := 0) dX7_pass_39 (by decide) ?_
    refine r_iret (pc := 40) dX7_pass_40 (Or.inl rfl) (Nat.le_of_ble_eq_true rfl) (Nat.le_of_ble_eq_true rfl) ?_
    exact hF 1 (by decide) (by unfold cM_pass; (repeat' split) <;> omega)

theorem K_X7_boxIs {hi : Hi} {nb nk : Int} (hM : MV hi nb nk) {b w : Int}  : MOp I_X7_boxIs [aR 7 0, aI b, aI w] hi nb nk (cC_boxIs nb b w) (some (aI 0)) (some (aI (isM (thr hi) b w))) (hp (thr hi) nb nk) := by
  have hN := hM.num
  unfold mNum at hN
  have hT := hM.thrV
  refine st_m (xs := [some (aR 7 0), some (aI b), some (aI w), none]) pn_X7 rfl rfl (Nat.le_of_ble_eq_true rfl) rfl rfl (fun Q X hQ hF => ?_)
  refine r_aload_n (pc := 0) dX7_boxIs_0 rfl ?_
  refine r_iload_n (pc := 1) dX7_boxIs_1 rfl ?_
  refine d1_V (pc := 2) (t := 7) (i := 0) (rest := []) (cs' := 0) (sl' := 0) mv_X7_131 (K_X7_isBox hM (b := b)) rfl ⟨(Nat.le_of_ble_eq_true rfl), (Nat.le_of_ble_eq_true rfl)⟩ (Nat.le_of_ble_eq_true rfl) dX7_boxIs_2 (show (0 : Int) ≤ 0 by omega) (show 0 < 1 by omega) ⟨rfl, (Nat.le_of_ble_eq_true rfl)⟩ ⟨rfl, (Nat.le_of_ble_eq_true rfl)⟩ rfl ?_
  refine r_istore_n (pc := 5) (xs' := [some (aR 7 0), some (aI b), some (aI w), some (aI (bI (0 ≤ b ∧ b < nb)))]) dX7_boxIs_5 (by decide) rfl ?_
  refine r_aload_n (pc := 6) dX7_boxIs_6 rfl ?_
  refine r_iload_n (pc := 7) dX7_boxIs_7 rfl ?_
  refine q_ifneB (pc := 8) (tgt := 15) dX7_boxIs_8 rfl (fun c8 => ?_) (fun c8 => ?_)
  · refine r_iload_n (pc := 15) dX7_boxIs_15 rfl ?_
    refine r_iconst (pc := 16) (n := 0) dX7_boxIs_16 (by decide) ?_
    refine r_bipush (pc := 17) (n := 7) dX7_boxIs_17 rfl (by decide) ?_
    refine d1_S (pc := 19) (rest := [aR 7 0]) (cs' := 0) (sl' := 0) ms_X7_111 rfl (K_X7_isIn (v := w) (lo := 0) (up := 7)) rfl ⟨(Nat.le_of_ble_eq_true rfl), (Nat.le_of_ble_eq_true rfl)⟩ (Nat.le_of_ble_eq_true rfl) dX7_boxIs_19 ⟨rfl, (Nat.le_of_ble_eq_true rfl)⟩ ⟨rfl, (Nat.le_of_ble_eq_true rfl)⟩ rfl ?_
    refine q_ifneB (pc := 22) (tgt := 29) dX7_boxIs_22 rfl (fun c22 => ?_) (fun c22 => ?_)
    · refine r_iconst (pc := 29) (n := 0) dX7_boxIs_29 (by decide) ?_
      refine d1_V (pc := 30) (t := 7) (i := 0) (rest := []) (cs' := 0) (sl' := 0) mv_X7_125 (K_X7_holds (hi := hi) (e := 0) (v := 1) (by decide)) rfl ⟨(Nat.le_of_ble_eq_true rfl), (Nat.le_of_ble_eq_true rfl)⟩ (Nat.le_of_ble_eq_true rfl) dX7_boxIs_30 (show (0 : Int) ≤ 0 by omega) (show 0 < 1 by omega) ⟨rfl, (Nat.le_of_ble_eq_true rfl)⟩ ⟨rfl, (Nat.le_of_ble_eq_true rfl)⟩ rfl ?_
      refine r_hp (hi' := thr hi) rfl ?_
      refine r_if_eq (pc := 33) (tgt := 45) dX7_boxIs_33 rfl (fun z => absurd z (by decide)) (fun _ => ?_)
      refine r_aload_n (pc := 36) dX7_boxIs_36 rfl ?_
      refine r_iload_n (pc := 37) dX7_boxIs_37 rfl ?_
      refine r_iload_n (pc := 38) dX7_boxIs_38 rfl ?_
      refine d1_V (pc := 39) (t := 7) (i := 0) (rest := []) (cs' := 0) (sl' := 0) mv_X7_239 (K_X7_told hT (b := b) (w := w) (by omega) (by omega)) rfl ⟨(Nat.le_of_ble_eq_true rfl), (Nat.le_of_ble_eq_true rfl)⟩ (Nat.le_of_ble_eq_true rfl) dX7_boxIs_39 (show (0 : Int) ≤ 0 by omega) (show 0 < 1 by omega) ⟨rfl, (Nat.le_of_ble_eq_true rfl)⟩ ⟨rfl, (Nat.le_of_ble_eq_true rfl)⟩ rfl ?_
      refine r_goto (pc := 42) (tgt := 46) dX7_boxIs_42 rfl ?_
      refine r_iret (pc := 46) dX7_boxIs_46 (Or.inl rfl) (Nat.le_of_ble_eq_true rfl) (Nat.le_of_ble_eq_true rfl) ?_
      exact hQ (by unfold cC_boxIs; (repeat' split) <;> omega)
    · refine r_iconst (pc := 25) (n := 2) dX7_boxIs_25 (by decide) ?_
      refine r_goto (pc := 26) (tgt := 30) dX7_boxIs_26 rfl ?_
      refine d1_V (pc := 30) (t := 7) (i := 0) (rest := []) (cs' := 0) (sl' := 0) mv_X7_125 (K_X7_holds (hi := hi) (e := 2) (v := 0) (by decide)) rfl ⟨(Nat.le_of_ble_eq_true rfl), (Nat.le_of_ble_eq_true rfl)⟩ (Nat.le_of_ble_eq_true rfl) dX7_boxIs_30 (show (0 : Int) ≤ 0 by omega) (show 0 < 1 by omega) ⟨rfl, (Nat.le_of_ble_eq_true rfl)⟩ ⟨rfl, (Nat.le_of_ble_eq_true rfl)⟩ rfl ?_
      refine r_if_eq (pc := 33) (tgt := 45) dX7_boxIs_33 rfl (fun _ => ?_) (fun z => absurd z (by decide))
      refine r_iconst (pc := 45) (n := 0) dX7_boxIs_45 (by decide) ?_
      refine r_iret (pc := 46) dX7_boxIs_46 (Or.inl rfl) (Nat.le_of_ble_eq_true rfl) (Nat.le_of_ble_eq_true rfl) ?_
      exact hF 2 (by decide) (by unfold cC_boxIs; (repeat' split) <;> omega)
  · refine r_iconst (pc := 11) (n := 1) dX7_boxIs_11 (by decide) ?_
    refine r_goto (pc := 12) (tgt := 30) dX7_boxIs_12 rfl ?_
    refine d1_V (pc := 30) (t := 7) (i := 0) (rest := []) (cs' := 0) (sl' := 0) mv_X7_125 (K_X7_holds (hi := hi) (e := 1) (v := 0) (by decide)) rfl ⟨(Nat.le_of_ble_eq_true rfl), (Nat.le_of_ble_eq_true rfl)⟩ (Nat.le_of_ble_eq_true rfl) dX7_boxIs_30 (show (0 : Int) ≤ 0 by omega) (show 0 < 1 by omega) ⟨rfl, (Nat.le_of_ble_eq_true rfl)⟩ ⟨rfl, (Nat.le_of_ble_eq_true rfl)⟩ rfl ?_
    refine r_if_eq (pc := 33) (tgt := 45) dX7_boxIs_33 rfl (fun _ => ?_) (fun z => absurd z (by decide))
    refine r_iconst (pc := 45) (n := 0) dX7_boxIs_45 (by decide) ?_
    refine r_iret (pc := 46) dX7_boxIs_46 (Or.inl rfl) (Nat.le_of_ble_eq_true rfl) (Nat.le_of_ble_eq_true rfl) ?_
    exact hF 1 (by decide) (by unfold cC_boxIs; (repeat' split) <;> omega)
