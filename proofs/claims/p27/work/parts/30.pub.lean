/-! ===== BoxPool: its public methods (walks printed by wip/p27/tools/g30.py) ===== -/
/-- where cd is 0 it answers res and leaves h2; else it throws, the heap stays, and cd tells which: a, b, c for the three classes of exceptions -/
def Op (I : MI) (av : List Av) (h : Hp) (cd : Int) (res : Option Av) (h2 : Hp) (a b c : Int) : Prop := Con I av h (fun r1 h1 => cd = 0 ∧ r1 = res ∧ h1 = h2) (fun E h1 => h1 = h ∧ ((E = "java/lang/IndexOutOfBoundsException" ∧ cd = a) ∨ (E = "java/lang/IllegalArgumentException" ∧ cd = b) ∨ (E = "java/lang/IllegalStateException" ∧ cd = c)))
theorem st_o {I : MI} {av : List Av} {h h2 : Hp} {xs : List (Option Av)} {res : Option Av} {cd a b c : Int} (hy : plainName (mY I).cls = true) (hsc : mSc I = none) (hown : mOwn I = (mY I).cls) (hlen : av.length ≤ mL I) (hcat : av.all (fun v => ax_cat v == 1) = true) (hxs : xs = av.map some ++ List.replicate (mL I - av.length) none) (k : ∀ (Q : Option Av → Hp → Prop) (X : String → Hp → Prop), (cd = 0 → Q res h2) → (cd = a → X "java/lang/IndexOutOfBoundsException" h) → (cd = b → X "java/lang/IllegalArgumentException" h) → (cd = c → X "java/lang/IllegalStateException" h) → Run I 0 xs [] h 0 0 Q X) : Op I av h cd res h2 a b c :=
  ax_start hy hsc hown hlen hcat hxs (k _ _ (fun p => ⟨p, rfl, rfl⟩) (fun p => ⟨rfl, Or.inl ⟨rfl, p⟩⟩) (fun p => ⟨rfl, Or.inr (Or.inl ⟨rfl, p⟩)⟩) (fun p => ⟨rfl, Or.inr (Or.inr ⟨rfl, p⟩)⟩))

def cC_wash (hi : Hi) (nb b u : Int) : Int := if ¬ (0 ≤ b ∧ b < nb) then 1 else if ¬ (0 ≤ u ∧ u ≤ 9999) then 2 else if hi 1 b 8 ≠ -1 then 3 else 0
theorem K_X6_wash {hi : Hi} {nb nk : Int} (hI : Inv hi nb nk) {b u : Int}  : Op I_X6_wash [aR 6 0, aI b, aI u] (hp hi nb nk) (cC_wash hi nb b u) (some (aI (hi 1 b 6))) (hp (up1 (up1 hi 1 b 6 0) 1 b 5 u) nb nk) 1 2 3 := by
  have hN := hI.num
  have hD := hI.day
  unfold vNum at hN
  unfold vDay at hD
  refine st_o (xs := [some (aR 6 0), some (aI b), some (aI u), none, none]) pn_X6 rfl rfl (Nat.le_of_ble_eq_true rfl) rfl rfl (fun Q X hQ hXa hXb hXc => ?_)
  refine r_aload_n (pc := 0) dX6_wash_0 rfl ?_
  refine r_iload_n (pc := 1) dX6_wash_1 rfl ?_
  refine n1_V (pc := 2) (t := 6) (i := 0) (rest := []) (cs' := 1) (sl' := 6) mv_X6_84 (K_X6_boxAt (b := b) (by omega)) rfl ⟨(Nat.le_of_ble_eq_true rfl), (Nat.le_of_ble_eq_true rfl)⟩ (Nat.le_of_ble_eq_true rfl) dX6_wash_2 (show (0 : Int) ≤ 0 by omega) (show 0 < 1 by omega) ⟨rfl, (Nat.le_of_ble_eq_true rfl)⟩ ⟨rfl, (Nat.le_of_ble_eq_true rfl)⟩ rfl (fun c2 => ?_) (fun c2 => ?_)
  · refine r_astore_n (pc := 5) (xs' := [some (aR 6 0), some (aI b), some (aI u), some (aR 1 b), none]) dX6_wash_5 (by decide) rfl ?_
    refine r_iload_n (pc := 6) dX6_wash_6 rfl ?_
    refine r_iconst (pc := 7) (n := 0) dX6_wash_7 (by decide) ?_
    refine r_sipush (pc := 8) (n := 9999) dX6_wash_8 rfl (by decide) ?_
    refine n0_S (pc := 11) (rest := []) (cs' := 2) (sl' := 12) ms_X6_67 rfl (K_X6_needRange (v := u) (lo := 0) (up := 9999)) rfl ⟨(Nat.le_of_ble_eq_true rfl), (Nat.le_of_ble_eq_true rfl)⟩ (Nat.le_of_ble_eq_true rfl) dX6_wash_11 ⟨rfl, (Nat.le_of_ble_eq_true rfl)⟩ ⟨rfl, (Nat.le_of_ble_eq_true rfl)⟩ rfl (fun c11 => ?_) (fun c11 => ?_)
    · refine r_aload_n (pc := 14) dX6_wash_14 rfl ?_
      refine n0_S (pc := 15) (rest := []) (cs' := 3) (sl' := 18) ms_X6_88 rfl (K_X6_needNotGone (b := b) (by omega) (by omega)) rfl ⟨(Nat.le_of_ble_eq_true rfl), (Nat.le_of_ble_eq_true rfl)⟩ (Nat.le_of_ble_eq_true rfl) dX6_wash_15 ⟨rfl, (Nat.le_of_ble_eq_true rfl)⟩ ⟨rfl, (Nat.le_of_ble_eq_true rfl)⟩ rfl (fun c15 => ?_) (fun c15 => ?_)
      · refine r_aload_n (pc := 18) dX6_wash_18 rfl ?_
        refine q_getI (pc := 19) (jI := 6) (n9 := nb) (v := hi 1 b 6) fl_X6_92 rfl dX6_wash_19 rfl rfl (by omega) (by omega) rfl ?_
        refine r_istore (pc := 22) (xs' := [some (aR 6 0), some (aI b), some (aI u), some (aR 1 b), some (aI (hi 1 b 6))]) dX6_wash_22 (by decide) rfl ?_
        refine r_aload_n (pc := 24) dX6_wash_24 rfl ?_
        refine r_iconst (pc := 25) (n := 0) dX6_wash_25 (by decide) ?_
        refine p_putI (pc := 26) (jI := 6) (n9 := nb) fl_X6_92 (Or.inr ⟨rfl, (by decide)⟩) (Or.inl rfl) dX6_wash_26 rfl rfl (by omega) (by omega) ?_
        refine r_aload_n (pc := 29) dX6_wash_29 rfl ?_
        refine r_iload_n (pc := 30) dX6_wash_30 rfl ?_
        refine p_putI (pc := 31) (jI := 5) (n9 := nb) fl_X6_96 (Or.inl rfl) (Or.inl rfl) dX6_wash_31 rfl rfl (by omega) (by omega) ?_
        refine r_iload (pc := 34) dX6_wash_34 rfl ?_
        refine r_iret (pc := 36) dX6_wash_36 (Or.inr ⟨rfl, (by have := hI.box b (by omega) (by omega); omega)⟩) (Nat.le_of_ble_eq_true rfl) (Nat.le_of_ble_eq_true rfl) ?_
        exact hQ (by unfold cC_wash; (repeat' split) <;> omega)
      · exact rx_out rfl (hXc (by unfold cC_wash; (repeat' split) <;> omega)) (Nat.le_of_ble_eq_true rfl) (Nat.le_of_ble_eq_true rfl)
    · exact rx_out rfl (hXb (by unfold cC_wash; (repeat' split) <;> omega)) (Nat.le_of_ble_eq_true rfl) (Nat.le_of_ble_eq_true rfl)
  · exact rx_out rfl (hXa (by unfold cC_wash; (repeat' split) <;> omega)) (Nat.le_of_ble_eq_true rfl) (Nat.le_of_ble_eq_true rfl)

def knoC (hi : Hi) (b day ev po : Int) : Prop := ∃ k, 0 ≤ k ∧ k < hi 4 b 4 ∧ hi 22 b k = day ∧ hi 23 b k = ev ∧ hi 24 b k = po
theorem KI_knows {hi : Hi} {nb nk : Int} (hI : Inv hi nb nk) {b day ev po : Int} (h0 : 0 ≤ b) (h1 : b < nb) : Det I_X4_knows [aR 4 b, aI day, aI ev, aI po] (hp hi nb nk) (some (aI (bI (knoC hi b day ev po)))) (hp hi nb nk) :=
  K_X4_knows h0 h1 (by have := (hI.rep b h0 h1).1; omega)
theorem KI_asN {hi : Hi} {nb nk x : Int} (hx : x = 0 ∨ x = 1) : Det I_X6_asNumber [aI x] (hp hi nb nk) (some (aI x)) (hp hi nb nk) := by
  rw [show x = bI (x = 1) from (by by_cases q : x = 1; (rw [bI_t q]; exact q); (rw [bI_f q]; omega))]
  exact K_X6_asNumber
def cC_report (hi : Hi) (nb b d e p : Int) : Int := if ¬ (0 ≤ b ∧ b < nb ∧ 0 ≤ p ∧ p < 6) then 1 else if ¬ (0 ≤ d ∧ d ≤ hi 6 0 8 ∧ 0 ≤ e ∧ e ≤ 3) then 2 else if hi 1 b 8 ≠ -1 ∨ 30 ≤ hi 4 b 4 then 3 else 0
theorem K_X6_report {hi : Hi} {nb nk : Int} (hI : Inv hi nb nk) {b d e p : Int}  : Op I_X6_report [aR 6 0, aI b, aI d, aI e, aI p] (hp hi nb nk) (cC_report hi nb b d e p) (some (aI (if bI (knoC hi b d e p) = 1 then -1 else telH hi b d e p 4 b 5))) (hp (if bI (knoC hi b d e p) = 1 then hi else telH hi b d e p) nb nk) 1 2 3 := by
  have hN := hI.num
  have hD := hI.day
  unfold vNum at hN
  unfold vDay at hD
  refine st_o (xs := [some (aR 6 0), some (aI b), some (aI d), some (aI e), some (aI p), none]) pn_X6 rfl rfl (Nat.le_of_ble_eq_true rfl) rfl rfl (fun Q X hQ hXa hXb hXc => ?_)
  refine r_aload_n (pc := 0) dX6_report_0 rfl ?_
  refine r_iload_n (pc := 1) dX6_report_1 rfl ?_
  refine n1_V (pc := 2) (t := 6) (i := 0) (rest := []) (cs' := 1) (sl' := 6) mv_X6_84 (K_X6_boxAt (b := b) (by omega)) rfl ⟨(Nat.le_of_ble_eq_true rfl), (Nat.le_of_ble_eq_true rfl)⟩ (Nat.le_of_ble_eq_true rfl) dX6_report_2 (show (0 : Int) ≤ 0 by omega) (show 0 < 1 by omega) ⟨rfl, (Nat.le_of_ble_eq_true rfl)⟩ ⟨rfl, (Nat.le_of_ble_eq_true rfl)⟩ rfl (fun c2 => ?_) (fun c2 => ?_)
  · refine r_astore (pc := 5) (xs' := [some (aR 6 0), some (aI b), some (aI d), some (aI e), some (aI p), some (aR 1 b)]) dX6_report_5 (by decide) rfl ?_
    refine r_iload (pc := 7) dX6_report_7 rfl ?_
    refine n0_S (pc := 9) (rest := []) (cs' := 2) (sl' := 12) ms_X6_56 rfl (K_X6_needPort (p := p)) rfl ⟨(Nat.le_of_ble_eq_true rfl), (Nat.le_of_ble_eq_true rfl)⟩ (Nat.le_of_ble_eq_true rfl) dX6_report_9 ⟨rfl, (Nat.le_of_ble_eq_true rfl)⟩ ⟨rfl, (Nat.le_of_ble_eq_true rfl)⟩ rfl (fun c9 => ?_) (fun c9 => ?_)
    · refine r_iload_n (pc := 12) dX6_report_12 rfl ?_
      refine r_iconst (pc := 13) (n := 0) dX6_report_13 (by decide) ?_
      refine r_aload_n (pc := 14) dX6_report_14 rfl ?_
      refine q_getI (pc := 15) (jI := 8) (n9 := 1) (v := hi 6 0 8) fl_X6_47 rfl dX6_report_15 rfl rfl (by decide) (by decide) rfl ?_
      refine n0_S (pc := 18) (rest := []) (cs' := 3) (sl' := 18) ms_X6_67 rfl (K_X6_needRange (v := d) (lo := 0) (up := hi 6 0 8)) rfl ⟨(Nat.le_of_ble_eq_true rfl), (Nat.le_of_ble_eq_true rfl)⟩ (Nat.le_of_ble_eq_true rfl) dX6_report_18 ⟨rfl, (Nat.le_of_ble_eq_true rfl)⟩ ⟨rfl, (Nat.le_of_ble_eq_true rfl)⟩ rfl (fun c18 => ?_) (fun c18 => ?_)
      · refine r_iload_n (pc := 21) dX6_report_21 rfl ?_
        refine r_iconst (pc := 22) (n := 0) dX6_report_22 (by decide) ?_
        refine r_iconst (pc := 23) (n := 3) dX6_report_23 (by decide) ?_
        refine n0_S (pc := 24) (rest := []) (cs' := 4) (sl' := 24) ms_X6_67 rfl (K_X6_needRange (v := e) (lo := 0) (up := 3)) rfl ⟨(Nat.le_of_ble_eq_true rfl), (Nat.le_of_ble_eq_true rfl)⟩ (Nat.le_of_ble_eq_true rfl) dX6_report_24 ⟨rfl, (Nat.le_of_ble_eq_true rfl)⟩ ⟨rfl, (Nat.le_of_ble_eq_true rfl)⟩ rfl (fun c24 => ?_) (fun c24 => ?_)
        · refine r_aload (pc := 27) dX6_report_27 rfl ?_
          refine n0_S (pc := 29) (rest := []) (cs' := 5) (sl' := 30) ms_X6_88 rfl (K_X6_needNotGone (b := b) (by omega) (by omega)) rfl ⟨(Nat.le_of_ble_eq_true rfl), (Nat.le_of_ble_eq_true rfl)⟩ (Nat.le_of_ble_eq_true rfl) dX6_report_29 ⟨rfl, (Nat.le_of_ble_eq_true rfl)⟩ ⟨rfl, (Nat.le_of_ble_eq_true rfl)⟩ rfl (fun c29 => ?_) (fun c29 => ?_)
          · refine r_aload (pc := 32) dX6_report_32 rfl ?_
            refine p_getQ (pc := 34) (jI := 2) (n9 := nb) (r := some (4, b)) fl_X6_99 rfl dX6_report_34 rfl rfl (by omega) (by omega) rfl ?_
            refine d1_V (pc := 37) (t := 4) (i := b) (rest := []) (cs' := 5) (sl' := 30) mv_X6_103 (K_X4_isFull (b := b) (by omega) (by omega)) rfl ⟨(Nat.le_of_ble_eq_true rfl), (Nat.le_of_ble_eq_true rfl)⟩ (Nat.le_of_ble_eq_true rfl) dX6_report_37 (show (0 : Int) ≤ b by omega) (show b < nb by omega) ⟨rfl, (Nat.le_of_ble_eq_true rfl)⟩ ⟨rfl, (Nat.le_of_ble_eq_true rfl)⟩ rfl ?_
            refine q_ifeqB (pc := 40) (tgt := 53) dX6_report_40 rfl (fun c40 => ?_) (fun c40 => ?_)
            · refine r_aload (pc := 53) dX6_report_53 rfl ?_
              refine p_getQ (pc := 55) (jI := 2) (n9 := nb) (r := some (4, b)) fl_X6_99 rfl dX6_report_55 rfl rfl (by omega) (by omega) rfl ?_
              refine r_iload_n (pc := 58) dX6_report_58 rfl ?_
              refine r_iload_n (pc := 59) dX6_report_59 rfl ?_
              refine r_iload (pc := 60) dX6_report_60 rfl ?_
              refine d1_V (pc := 62) (t := 4) (i := b) (rest := []) (cs' := 5) (sl' := 30) mv_X6_111 (KI_knows hI (b := b) (by omega) (by omega)) rfl ⟨(Nat.le_of_ble_eq_true rfl), (Nat.le_of_ble_eq_true rfl)⟩ (Nat.le_of_ble_eq_true rfl) dX6_report_62 (show (0 : Int) ≤ b by omega) (show b < nb by omega) ⟨rfl, (Nat.le_of_ble_eq_true rfl)⟩ ⟨rfl, (Nat.le_of_ble_eq_true rfl)⟩ rfl ?_
              refine q_ifeqB (pc := 65) (tgt := 70) dX6_report_65 rfl (fun c65 => ?_) (fun c65 => ?_)
              · refine r_aload (pc := 70) dX6_report_70 rfl ?_
                refine p_getQ (pc := 72) (jI := 2) (n9 := nb) (r := some (4, b)) fl_X6_99 rfl dX6_report_72 rfl rfl (by omega) (by omega) rfl ?_
                refine r_iload_n (pc := 75) dX6_report_75 rfl ?_
                refine r_iload_n (pc := 76) dX6_report_76 rfl ?_
                refine r_iload (pc := 77) dX6_report_77 rfl ?_
                refine d0_V (pc := 79) (t := 4) (i := b) (rest := []) (cs' := 5) (sl' := 30) mv_X6_115 (K_X4_tell (b := b) (by omega) (by omega) (by have := (hI.rep b (by omega) (by omega)).1; omega)) rfl ⟨(Nat.le_of_ble_eq_true rfl), (Nat.le_of_ble_eq_true rfl)⟩ (Nat.le_of_ble_eq_true rfl) dX6_report_79 (show (0 : Int) ≤ b by omega) (show b < nb by omega) ⟨rfl, (Nat.le_of_ble_eq_true rfl)⟩ ⟨rfl, (Nat.le_of_ble_eq_true rfl)⟩ rfl ?_
                refine r_aload (pc := 82) dX6_report_82 rfl ?_
                refine p_getQ (pc := 84) (jI := 2) (n9 := nb) (r := some (4, b)) fl_X6_99 rfl dX6_report_84 rfl rfl (by omega) (by omega) rfl ?_
                refine q_getI (pc := 87) (jI := 5) (n9 := nb) (v := (telH hi b d e p) 4 b 5) fl_X6_118 rfl dX6_report_87 rfl rfl (by omega) (by omega) rfl ?_
                refine r_iret (pc := 90) dX6_report_90 (Or.inl rfl) (Nat.le_of_ble_eq_true rfl) (Nat.le_of_ble_eq_true rfl) ?_
                exact (by have q := hQ (by unfold cC_report; (repeat' split) <;> omega); rw [if_neg (by rw [bI_f c65]; decide), if_neg (by rw [bI_f c65]; decide)] at q; exact q)
              · refine r_iconst (pc := 68) (n := (-1)) dX6_report_68 (by decide) ?_
                refine r_iret (pc := 69) dX6_report_69 (Or.inl rfl) (Nat.le_of_ble_eq_true rfl) (Nat.le_of_ble_eq_true rfl) ?_
                exact (by have q := hQ (by unfold cC_report; (repeat' split) <;> omega); rw [if_pos (bI_t c65), if_pos (bI_t c65)] at q; exact q)
            · refine r_throw (pc := 43) (text := "the box has 30 reports") rfl th_X6_81 (by decide) dX6_report_43 dX6_report_46 dX6_report_47 dX6_report_49 dX6_report_52 ⟨(Nat.le_of_ble_eq_true rfl), (Nat.le_of_ble_eq_true rfl), (Nat.le_of_ble_eq_true rfl), (Nat.le_of_ble_eq_true rfl)⟩ (hXc (by unfold cC_report; (repeat' split) <;> omega))
          · exact rx_out rfl (hXc (by unfold cC_report; (repeat' split) <;> omega)) (Nat.le_of_ble_eq_true rfl) (Nat.le_of_ble_eq_true rfl)
        · exact rx_out rfl (hXb (by unfold cC_report; (repeat' split) <;> omega)) (Nat.le_of_ble_eq_true rfl) (Nat.le_of_ble_eq_true rfl)
      · exact rx_out rfl (hXb (by unfold cC_report; (repeat' split) <;> omega)) (Nat.le_of_ble_eq_true rfl) (Nat.le_of_ble_eq_true rfl)
    · exact rx_out rfl (hXa (by unfold cC_report; (repeat' split) <;> omega)) (Nat.le_of_ble_eq_true rfl) (Nat.le_of_ble_eq_true rfl)
  · exact rx_out rfl (hXa (by unfold cC_report; (repeat' split) <;> omega)) (Nat.le_of_ble_eq_true rfl) (Nat.le_of_ble_eq_true rfl)

def cC_place (nb b d : Int) : Int := if ¬ (0 ≤ b ∧ b < nb) then 1 else if ¬ (0 ≤ d ∧ d ≤ 9999) then 2 else 0
theorem K_X6_place {hi : Hi} {nb nk : Int} (hI : Inv hi nb nk) {b d : Int}  : Op I_X6_place [aR 6 0, aI b, aI d] (hp hi nb nk) (cC_place nb b d) (some (aI (plcC hi b d))) (hp hi nb nk) 1 2 99 := by
  have hN := hI.num
  have hD := hI.day
  unfold vNum at hN
  unfold vDay at hD
  refine st_o (xs := [some (aR 6 0), some (aI b), some (aI d), none]) pn_X6 rfl rfl (Nat.le_of_ble_eq_true rfl) rfl rfl (fun Q X hQ hXa hXb hXc => ?_)
  refine r_aload_n (pc := 0) dX6_place_0 rfl ?_
  refine r_iload_n (pc := 1) dX6_place_1 rfl ?_
  refine n1_V (pc := 2) (t := 6) (i := 0) (rest := []) (cs' := 1) (sl' := 6) mv_X6_84 (K_X6_boxAt (b := b) (by omega)) rfl ⟨(Nat.le_of_ble_eq_true rfl), (Nat.le_of_ble_eq_true rfl)⟩ (Nat.le_of_ble_eq_true rfl) dX6_place_2 (show (0 : Int) ≤ 0 by omega) (show 0 < 1 by omega) ⟨rfl, (Nat.le_of_ble_eq_true rfl)⟩ ⟨rfl, (Nat.le_of_ble_eq_true rfl)⟩ rfl (fun c2 => ?_) (fun c2 => ?_)
  · refine r_astore_n (pc := 5) (xs' := [some (aR 6 0), some (aI b), some (aI d), some (aR 1 b)]) dX6_place_5 (by decide) rfl ?_
    refine r_iload_n (pc := 6) dX6_place_6 rfl ?_
    refine r_iconst (pc := 7) (n := 0) dX6_place_7 (by decide) ?_
    refine r_sipush (pc := 8) (n := 9999) dX6_place_8 rfl (by decide) ?_
    refine n0_S (pc := 11) (rest := []) (cs' := 2) (sl' := 12) ms_X6_67 rfl (K_X6_needRange (v := d) (lo := 0) (up := 9999)) rfl ⟨(Nat.le_of_ble_eq_true rfl), (Nat.le_of_ble_eq_true rfl)⟩ (Nat.le_of_ble_eq_true rfl) dX6_place_11 ⟨rfl, (Nat.le_of_ble_eq_true rfl)⟩ ⟨rfl, (Nat.le_of_ble_eq_true rfl)⟩ rfl (fun c11 => ?_) (fun c11 => ?_)
    · refine r_aload_n (pc := 14) dX6_place_14 rfl ?_
      refine p_getQ (pc := 15) (jI := 2) (n9 := nb) (r := some (4, b)) fl_X6_99 rfl dX6_place_15 rfl rfl (by omega) (by omega) rfl ?_
      refine r_iload_n (pc := 18) dX6_place_18 rfl ?_
      refine d1_V (pc := 19) (t := 4) (i := b) (rest := []) (cs' := 2) (sl' := 12) mv_X6_121 (KI_placeOn hI (b := b) (day := d) (by omega) (by omega)) rfl ⟨(Nat.le_of_ble_eq_true rfl), (Nat.le_of_ble_eq_true rfl)⟩ (Nat.le_of_ble_eq_true rfl) dX6_place_19 (show (0 : Int) ≤ b by omega) (show b < nb by omega) ⟨rfl, (Nat.le_of_ble_eq_true rfl)⟩ ⟨rfl, (Nat.le_of_ble_eq_true rfl)⟩ rfl ?_
      refine r_iret (pc := 22) dX6_place_22 (Or.inl rfl) (Nat.le_of_ble_eq_true rfl) (Nat.le_of_ble_eq_true rfl) ?_
      exact hQ (by unfold cC_place; (repeat' split) <;> omega)
    · exact rx_out rfl (hXb (by unfold cC_place; (repeat' split) <;> omega)) (Nat.le_of_ble_eq_true rfl) (Nat.le_of_ble_eq_true rfl)
  · exact rx_out rfl (hXa (by unfold cC_place; (repeat' split) <;> omega)) (Nat.le_of_ble_eq_true rfl) (Nat.le_of_ble_eq_true rfl)

def cC_count (p kd d : Int) : Int := if ¬ (0 ≤ p ∧ p < 6) then 1 else if ¬ (-1 ≤ kd ∧ kd ≤ 2 ∧ 0 ≤ d ∧ d ≤ 9999) then 2 else 0
theorem K_X6_count {hi : Hi} {nb nk : Int} (hI : Inv hi nb nk) {p kd d : Int}  : Op I_X6_count [aR 6 0, aI p, aI kd, aI d] (hp hi nb nk) (cC_count p kd d) (some (aI (sI (fun b => bI ((kd = -1 ∨ hi 1 b 0 = kd) ∧ plcC hi b d = p)) nb))) (hp hi nb nk) 1 2 99 := by
  have hN := hI.num
  have hD := hI.day
  unfold vNum at hN
  unfold vDay at hD
  refine st_o (xs := [some (aR 6 0), some (aI p), some (aI kd), some (aI d), none, none, none, none, none]) pn_X6 rfl rfl (Nat.le_of_ble_eq_true rfl) rfl rfl (fun Q X hQ hXa hXb hXc => ?_)
  refine r_iload_n (pc := 0) dX6_count_0 rfl ?_
  refine n0_S (pc := 1) (rest := []) (cs' := 1) (sl' := 6) ms_X6_56 rfl (K_X6_needPort (p := p)) rfl ⟨(Nat.le_of_ble_eq_true rfl), (Nat.le_of_ble_eq_true rfl)⟩ (Nat.le_of_ble_eq_true rfl) dX6_count_1 ⟨rfl, (Nat.le_of_ble_eq_true rfl)⟩ ⟨rfl, (Nat.le_of_ble_eq_true rfl)⟩ rfl (fun c1 => ?_) (fun c1 => ?_)
  · refine r_iload_n (pc := 4) dX6_count_4 rfl ?_
    refine r_iconst (pc := 5) (n := (-1)) dX6_count_5 (by decide) ?_
    refine r_icmp_eq (pc := 6) (tgt := 13) dX6_count_6 rfl (fun c6 => ?_) (fun c6 => ?_)
    · refine r_iload_n (pc := 13) dX6_count_13 rfl ?_
      refine r_iconst (pc := 14) (n := 0) dX6_count_14 (by decide) ?_
      refine r_sipush (pc := 15) (n := 9999) dX6_count_15 rfl (by decide) ?_
      refine n0_S (pc := 18) (rest := []) (cs' := 2) (sl' := 12) ms_X6_67 rfl (K_X6_needRange (v := d) (lo := 0) (up := 9999)) rfl ⟨(Nat.le_of_ble_eq_true rfl), (Nat.le_of_ble_eq_true rfl)⟩ (Nat.le_of_ble_eq_true rfl) dX6_count_18 ⟨rfl, (Nat.le_of_ble_eq_true rfl)⟩ ⟨rfl, (Nat.le_of_ble_eq_true rfl)⟩ rfl (fun c18 => ?_) (fun c18 => ?_)
      · refine r_iconst (pc := 21) (n := 0) dX6_count_21 (by decide) ?_
        refine r_istore (pc := 22) (xs' := [some (aR 6 0), some (aI p), some (aI kd), some (aI d), some (aI 0), none, none, none, none]) dX6_count_22 (by decide) rfl ?_
        refine r_aload_n (pc := 24) dX6_count_24 rfl ?_
        refine p_getQ (pc := 25) (jI := 3) (n9 := 1) (r := some (13, 0)) fl_X6_23 rfl dX6_count_25 rfl rfl (by decide) (by decide) rfl ?_
        refine r_astore (pc := 28) (xs' := [some (aR 6 0), some (aI p), some (aI kd), some (aI d), some (aI 0), some (aR 13 0), none, none, none]) dX6_count_28 (by decide) rfl ?_
        refine r_aload (pc := 30) dX6_count_30 rfl ?_
        refine p_alen (pc := 32) (kk := 13) (n9 := 1) (nI := 40) rfl ⟨(by decide), (by decide), (by decide)⟩ (by decide) dX6_count_32 rfl (by decide) (by decide) rfl ?_
        refine r_istore (pc := 33) (xs' := [some (aR 6 0), some (aI p), some (aI kd), some (aI d), some (aI 0), some (aR 13 0), some (aI 40), none, none]) dX6_count_33 (by decide) rfl ?_
        refine r_iconst (pc := 35) (n := 0) dX6_count_35 (by decide) ?_
        refine r_istore (pc := 36) (xs' := [some (aR 6 0), some (aI p), some (aI kd), some (aI d), some (aI 0), some (aR 13 0), some (aI 40), some (aI 0), none]) dX6_count_36 (by decide) rfl ?_
        have loop : ∀ (n9 : Nat) (i c : Int), (0 ≤ i ∧ i ≤ 40) → (0 ≤ c ∧ c ≤ i) → ((i ≤ nb → c = sI (fun b => bI ((kd = -1 ∨ hi 1 b 0 = kd) ∧ plcC hi b d = p)) i) ∧ (nb ≤ i → c = sI (fun b => bI ((kd = -1 ∨ hi 1 b 0 = kd) ∧ plcC hi b d = p)) nb)) → 40 - i < (n9 : Int) → Run I_X6_count 38 [some (aR 6 0), some (aI p), some (aI kd), some (aI d), some (aI c), some (aR 13 0), some (aI 40), some (aI i), none] [] (hp hi nb nk) 2 12 Q X := by
          intro n9
          induction n9 with
          | zero => intro i c h0 h1 h2 hf9; exfalso; omega
          | succ n9 ih_loop =>
            intro i c h0 h1 h2 hf9
            refine r_iload (pc := 38) dX6_count_38 rfl ?_
            refine r_iload (pc := 40) dX6_count_40 rfl ?_
            refine r_icmp_ge (pc := 42) (tgt := 93) dX6_count_42 rfl (fun c42 => ?_) (fun c42 => ?_)
            · refine r_iload (pc := 93) dX6_count_93 rfl ?_
              refine r_iret (pc := 95) dX6_count_95 (Or.inl rfl) (Nat.le_of_ble_eq_true rfl) (Nat.le_of_ble_eq_true rfl) ?_
              exact qI (hQ (by unfold cC_count; (repeat' split) <;> omega)) (h2.2 (by omega)) rfl
            · refine r_aload (pc := 45) dX6_count_45 rfl ?_
              refine r_iload (pc := 47) dX6_count_47 rfl ?_
              rcases (show i < nb ∨ nb ≤ i by omega) with c49 | c49
              · refine p_aald (pc := 49) (n9 := 1) (nI := 40) (r := some (1, i)) rfl ⟨(by decide), (by decide)⟩ dX6_count_49 rfl (by decide) (by decide) rfl (by omega) (by omega) (hr_13 (by omega) (by omega)) ?_
                refine r_astore (pc := 50) (xs' := [some (aR 6 0), some (aI p), some (aI kd), some (aI d), some (aI c), some (aR 13 0), some (aI 40), some (aI i), some (aR 1 i)]) dX6_count_50 (by decide) rfl ?_
                refine r_aload (pc := 52) dX6_count_52 rfl ?_
                refine q_ifnullS (pc := 54) (tgt := 87) dX6_count_54 rfl ?_
                refine r_iload_n (pc := 57) dX6_count_57 rfl ?_
                refine r_iconst (pc := 58) (n := (-1)) dX6_count_58 (by decide) ?_
                refine r_icmp_eq (pc := 59) (tgt := 71) dX6_count_59 rfl (fun c59 => ?_) (fun c59 => ?_)
                · refine r_aload (pc := 71) dX6_count_71 rfl ?_
                  refine p_getQ (pc := 73) (jI := 2) (n9 := nb) (r := some (4, i)) fl_X6_99 rfl dX6_count_73 rfl rfl (by omega) (by omega) rfl ?_
                  refine r_iload_n (pc := 76) dX6_count_76 rfl ?_
                  refine d1_V (pc := 77) (t := 4) (i := i) (rest := []) (cs' := 2) (sl' := 12) mv_X6_121 (KI_placeOn hI (b := i) (day := d) (by omega) (by omega)) rfl ⟨(Nat.le_of_ble_eq_true rfl), (Nat.le_of_ble_eq_true rfl)⟩ (Nat.le_of_ble_eq_true rfl) dX6_count_77 (show (0 : Int) ≤ i by omega) (show i < nb by omega) ⟨rfl, (Nat.le_of_ble_eq_true rfl)⟩ ⟨rfl, (Nat.le_of_ble_eq_true rfl)⟩ rfl ?_
                  refine r_iload_n (pc := 80) dX6_count_80 rfl ?_
                  refine r_icmp_ne (pc := 81) (tgt := 87) dX6_count_81 rfl (fun c81 => ?_) (fun c81 => ?_)
                  · refine r_iinc (pc := 87) (xs' := [some (aR 6 0), some (aI p), some (aI kd), some (aI d), some (aI c), some (aR 13 0), some (aI 40), some (aI (i + 1)), some (aR 1 i)]) dX6_count_87 rfl (by decide) (by omega) rfl ?_
                    refine r_goto (pc := 90) (tgt := 38) dX6_count_90 rfl ?_
                    refine r_drop (xs' := [some (aR 6 0), some (aI p), some (aI kd), some (aI d), some (aI c), some (aR 13 0), some (aI 40), some (aI (i + 1)), none]) 8 rfl ?_
                    exact ih_loop (i + 1) c (by omega) (by omega) ⟨fun q => (by rw [sI_s (by omega), ← h2.1 (by omega), bI_f (by omega), Int.add_zero]), fun q => by rw [show nb = i + 1 by omega]; exact (by rw [sI_s (by omega), ← h2.1 (by omega), bI_f (by omega), Int.add_zero])⟩ (by omega)
                  · refine r_iinc (pc := 84) (xs' := [some (aR 6 0), some (aI p), some (aI kd), some (aI d), some (aI (c + 1)), some (aR 13 0), some (aI 40), some (aI i), some (aR 1 i)]) dX6_count_84 rfl (by decide) (by omega) rfl ?_
                    refine r_iinc (pc := 87) (xs' := [some (aR 6 0), some (aI p), some (aI kd), some (aI d), some (aI (c + 1)), some (aR 13 0), some (aI 40), some (aI (i + 1)), some (aR 1 i)]) dX6_count_87 rfl (by decide) (by omega) rfl ?_
                    refine r_goto (pc := 90) (tgt := 38) dX6_count_90 rfl ?_
                    refine r_drop (xs' := [some (aR 6 0), some (aI p), some (aI kd), some (aI d), some (aI (c + 1)), some (aR 13 0), some (aI 40), some (aI (i + 1)), none]) 8 rfl ?_
                    exact ih_loop (i + 1) (c + 1) (by omega) (by omega) ⟨fun q => (by rw [sI_s (by omega), ← h2.1 (by omega), bI_t (by omega)]), fun q => by rw [show nb = i + 1 by omega]; exact (by rw [sI_s (by omega), ← h2.1 (by omega), bI_t (by omega)])⟩ (by omega)
                · refine r_aload (pc := 62) dX6_count_62 rfl ?_
                  refine q_getI (pc := 64) (jI := 0) (n9 := nb) (v := hi 1 i 0) fl_X6_125 rfl dX6_count_64 rfl rfl (by omega) (by omega) rfl ?_
                  refine r_iload_n (pc := 67) dX6_count_67 rfl ?_
                  refine r_icmp_ne (pc := 68) (tgt := 87) dX6_count_68 rfl (fun c68 => ?_) (fun c68 => ?_)
                  · refine r_iinc (pc := 87) (xs' := [some (aR 6 0), some (aI p), some (aI kd), some (aI d), some (aI c), some (aR 13 0), some (aI 40), some (aI (i + 1)), some (aR 1 i)]) dX6_count_87 rfl (by decide) (by omega) rfl ?_
                    refine r_goto (pc := 90) (tgt := 38) dX6_count_90 rfl ?_
                    refine r_drop (xs' := [some (aR 6 0), some (aI p), some (aI kd), some (aI d), some (aI c), some (aR 13 0), some (aI 40), some (aI (i + 1)), none]) 8 rfl ?_
                    exact ih_loop (i + 1) c (by omega) (by omega) ⟨fun q => (by rw [sI_s (by omega), ← h2.1 (by omega), bI_f (by omega), Int.add_zero]), fun q => by rw [show nb = i + 1 by omega]; exact (by rw [sI_s (by omega), ← h2.1 (by omega), bI_f (by omega), Int.add_zero])⟩ (by omega)
                  · refine r_aload (pc := 71) dX6_count_71 rfl ?_
                    refine p_getQ (pc := 73) (jI := 2) (n9 := nb) (r := some (4, i)) fl_X6_99 rfl dX6_count_73 rfl rfl (by omega) (by omega) rfl ?_
                    refine r_iload_n (pc := 76) dX6_count_76 rfl ?_
                    refine d1_V (pc := 77) (t := 4) (i := i) (rest := []) (cs' := 2) (sl' := 12) mv_X6_121 (KI_placeOn hI (b := i) (day := d) (by omega) (by omega)) rfl ⟨(Nat.le_of_ble_eq_true rfl), (Nat.le_of_ble_eq_true rfl)⟩ (Nat.le_of_ble_eq_true rfl) dX6_count_77 (show (0 : Int) ≤ i by omega) (show i < nb by omega) ⟨rfl, (Nat.le_of_ble_eq_true rfl)⟩ ⟨rfl, (Nat.le_of_ble_eq_true rfl)⟩ rfl ?_
                    refine r_iload_n (pc := 80) dX6_count_80 rfl ?_
                    refine r_icmp_ne (pc := 81) (tgt := 87) dX6_count_81 rfl (fun c81 => ?_) (fun c81 => ?_)
                    · refine r_iinc (pc := 87) (xs' := [some (aR 6 0), some (aI p), some (aI kd), some (aI d), some (aI c), some (aR 13 0), some (aI 40), some (aI (i + 1)), some (aR 1 i)]) dX6_count_87 rfl (by decide) (by omega) rfl ?_
                      refine r_goto (pc := 90) (tgt := 38) dX6_count_90 rfl ?_
                      refine r_drop (xs' := [some (aR 6 0), some (aI p), some (aI kd), some (aI d), some (aI c), some (aR 13 0), some (aI 40), some (aI (i + 1)), none]) 8 rfl ?_
                      exact ih_loop (i + 1) c (by omega) (by omega) ⟨fun q => (by rw [sI_s (by omega), ← h2.1 (by omega), bI_f (by omega), Int.add_zero]), fun q => by rw [show nb = i + 1 by omega]; exact (by rw [sI_s (by omega), ← h2.1 (by omega), bI_f (by omega), Int.add_zero])⟩ (by omega)
                    · refine r_iinc (pc := 84) (xs' := [some (aR 6 0), some (aI p), some (aI kd), some (aI d), some (aI (c + 1)), some (aR 13 0), some (aI 40), some (aI i), some (aR 1 i)]) dX6_count_84 rfl (by decide) (by omega) rfl ?_
                      refine r_iinc (pc := 87) (xs' := [some (aR 6 0), some (aI p), some (aI kd), some (aI d), some (aI (c + 1)), some (aR 13 0), some (aI 40), some (aI (i + 1)), some (aR 1 i)]) dX6_count_87 rfl (by decide) (by omega) rfl ?_
                      refine r_goto (pc := 90) (tgt := 38) dX6_count_90 rfl ?_
                      refine r_drop (xs' := [some (aR 6 0), some (aI p), some (aI kd), some (aI d), some (aI (c + 1)), some (aR 13 0), some (aI 40), some (aI (i + 1)), none]) 8 rfl ?_
                      exact ih_loop (i + 1) (c + 1) (by omega) (by omega) ⟨fun q => (by rw [sI_s (by omega), ← h2.1 (by omega), bI_t (by omega)]), fun q => by rw [show nb = i + 1 by omega]; exact (by rw [sI_s (by omega), ← h2.1 (by omega), bI_t (by omega)])⟩ (by omega)
              · refine p_aald (pc := 49) (n9 := 1) (nI := 40) (r := none) rfl ⟨(by decide), (by decide)⟩ dX6_count_49 rfl (by decide) (by decide) rfl (by omega) (by omega) (hr_13n (by omega)) ?_
                refine r_astore (pc := 50) (xs' := [some (aR 6 0), some (aI p), some (aI kd), some (aI d), some (aI c), some (aR 13 0), some (aI 40), some (aI i), some (aN)]) dX6_count_50 (by decide) rfl ?_
                refine r_aload (pc := 52) dX6_count_52 rfl ?_
                refine q_ifnullN (pc := 54) (tgt := 87) dX6_count_54 rfl ?_
                refine r_iinc (pc := 87) (xs' := [some (aR 6 0), some (aI p), some (aI kd), some (aI d), some (aI c), some (aR 13 0), some (aI 40), some (aI (i + 1)), some (aN)]) dX6_count_87 rfl (by decide) (by omega) rfl ?_
                refine r_goto (pc := 90) (tgt := 38) dX6_count_90 rfl ?_
                refine r_drop (xs' := [some (aR 6 0), some (aI p), some (aI kd), some (aI d), some (aI c), some (aR 13 0), some (aI 40), some (aI (i + 1)), none]) 8 rfl ?_
                exact ih_loop (i + 1) c (by omega) (by omega) ⟨fun q => by omega, fun q => by first | exact h2.2 (by omega) | rw [show nb = i by omega]; exact h2.1 (by omega)⟩ (by omega)
        exact loop 41 0 0 (by omega) (by omega) ⟨fun _ => rfl, fun q => by rw [show nb = 0 by omega]; rfl⟩ (by omega)
      · exact rx_out rfl (hXb (by unfold cC_count; (repeat' split) <;> omega)) (Nat.le_of_ble_eq_true rfl) (Nat.le_of_ble_eq_true rfl)
    · refine r_iload_n (pc := 9) dX6_count_9 rfl ?_
      refine n0_S (pc := 10) (rest := []) (cs' := 2) (sl' := 12) ms_X6_74 rfl (K_X6_needKind (p := kd)) rfl ⟨(Nat.le_of_ble_eq_true rfl), (Nat.le_of_ble_eq_true rfl)⟩ (Nat.le_of_ble_eq_true rfl) dX6_count_10 ⟨rfl, (Nat.le_of_ble_eq_true rfl)⟩ ⟨rfl, (Nat.le_of_ble_eq_true rfl)⟩ rfl (fun c10 => ?_) (fun c10 => ?_)
      · refine r_iload_n (pc := 13) dX6_count_13 rfl ?_
        refine r_iconst (pc := 14) (n := 0) dX6_count_14 (by decide) ?_
        refine r_sipush (pc := 15) (n := 9999) dX6_count_15 rfl (by decide) ?_
        refine n0_S (pc := 18) (rest := []) (cs' := 3) (sl' := 18) ms_X6_67 rfl (K_X6_needRange (v := d) (lo := 0) (up := 9999)) rfl ⟨(Nat.le_of_ble_eq_true rfl), (Nat.le_of_ble_eq_true rfl)⟩ (Nat.le_of_ble_eq_true rfl) dX6_count_18 ⟨rfl, (Nat.le_of_ble_eq_true rfl)⟩ ⟨rfl, (Nat.le_of_ble_eq_true rfl)⟩ rfl (fun c18 => ?_) (fun c18 => ?_)
        · refine r_iconst (pc := 21) (n := 0) dX6_count_21 (by decide) ?_
          refine r_istore (pc := 22) (xs' := [some (aR 6 0), some (aI p), some (aI kd), some (aI d), some (aI 0), none, none, none, none]) dX6_count_22 (by decide) rfl ?_
          refine r_aload_n (pc := 24) dX6_count_24 rfl ?_
          refine p_getQ (pc := 25) (jI := 3) (n9 := 1) (r := some (13, 0)) fl_X6_23 rfl dX6_count_25 rfl rfl (by decide) (by decide) rfl ?_
          refine r_astore (pc := 28) (xs' := [some (aR 6 0), some (aI p), some (aI kd), some (aI d), some (aI 0), some (aR 13 0), none, none, none]) dX6_count_28 (by decide) rfl ?_
          refine r_aload (pc := 30) dX6_count_30 rfl ?_
          refine p_alen (pc := 32) (kk := 13) (n9 := 1) (nI := 40) rfl ⟨(by decide), (by decide), (by decide)⟩ (by decide) dX6_count_32 rfl (by decide) (by decide) rfl ?_
          refine r_istore (pc := 33) (xs' := [some (aR 6 0), some (aI p), some (aI kd), some (aI d), some (aI 0), some (aR 13 0), some (aI 40), none, none]) dX6_count_33 (by decide) rfl ?_
          refine r_iconst (pc := 35) (n := 0) dX6_count_35 (by decide) ?_
          refine r_istore (pc := 36) (xs' := [some (aR 6 0), some (aI p), some (aI kd), some (aI d), some (aI 0), some (aR 13 0), some (aI 40), some (aI 0), none]) dX6_count_36 (by decide) rfl ?_
          have loop : ∀ (n9 : Nat) (i c : Int), (0 ≤ i ∧ i ≤ 40) → (0 ≤ c ∧ c ≤ i) → ((i ≤ nb → c = sI (fun b => bI ((kd = -1 ∨ hi 1 b 0 = kd) ∧ plcC hi b d = p)) i) ∧ (nb ≤ i → c = sI (fun b => bI ((kd = -1 ∨ hi 1 b 0 = kd) ∧ plcC hi b d = p)) nb)) → 40 - i < (n9 : Int) → Run I_X6_count 38 [some (aR 6 0), some (aI p), some (aI kd), some (aI d), some (aI c), some (aR 13 0), some (aI 40), some (aI i), none] [] (hp hi nb nk) 3 18 Q X := by
            intro n9
            induction n9 with
            | zero => intro i c h0 h1 h2 hf9; exfalso; omega
            | succ n9 ih_loop =>
              intro i c h0 h1 h2 hf9
              refine r_iload (pc := 38) dX6_count_38 rfl ?_
              refine r_iload (pc := 40) dX6_count_40 rfl ?_
              refine r_icmp_ge (pc := 42) (tgt := 93) dX6_count_42 rfl (fun c42 => ?_) (fun c42 => ?_)
              · refine r_iload (pc := 93) dX6_count_93 rfl ?_
                refine r_iret (pc := 95) dX6_count_95 (Or.inl rfl) (Nat.le_of_ble_eq_true rfl) (Nat.le_of_ble_eq_true rfl) ?_
                exact qI (hQ (by unfold cC_count; (repeat' split) <;> omega)) (h2.2 (by omega)) rfl
              · refine r_aload (pc := 45) dX6_count_45 rfl ?_
                refine r_iload (pc := 47) dX6_count_47 rfl ?_
                rcases (show i < nb ∨ nb ≤ i by omega) with c49 | c49
                · refine p_aald (pc := 49) (n9 := 1) (nI := 40) (r := some (1, i)) rfl ⟨(by decide), (by decide)⟩ dX6_count_49 rfl (by decide) (by decide) rfl (by omega) (by omega) (hr_13 (by omega) (by omega)) ?_
                  refine r_astore (pc := 50) (xs' := [some (aR 6 0), some (aI p), some (aI kd), some (aI d), some (aI c), some (aR 13 0), some (aI 40), some (aI i), some (aR 1 i)]) dX6_count_50 (by decide) rfl ?_
                  refine r_aload (pc := 52) dX6_count_52 rfl ?_
                  refine q_ifnullS (pc := 54) (tgt := 87) dX6_count_54 rfl ?_
                  refine r_iload_n (pc := 57) dX6_count_57 rfl ?_
                  refine r_iconst (pc := 58) (n := (-1)) dX6_count_58 (by decide) ?_
                  refine r_icmp_eq (pc := 59) (tgt := 71) dX6_count_59 rfl (fun c59 => ?_) (fun c59 => ?_)
                  · refine r_aload (pc := 71) dX6_count_71 rfl ?_
                    refine p_getQ (pc := 73) (jI := 2) (n9 := nb) (r := some (4, i)) fl_X6_99 rfl dX6_count_73 rfl rfl (by omega) (by omega) rfl ?_
                    refine r_iload_n (pc := 76) dX6_count_76 rfl ?_
                    refine d1_V (pc := 77) (t := 4) (i := i) (rest := []) (cs' := 3) (sl' := 18) mv_X6_121 (KI_placeOn hI (b := i) (day := d) (by omega) (by omega)) rfl ⟨(Nat.le_of_ble_eq_true rfl), (Nat.le_of_ble_eq_true rfl)⟩ (Nat.le_of_ble_eq_true rfl) dX6_count_77 (show (0 : Int) ≤ i by omega) (show i < nb by omega) ⟨rfl, (Nat.le_of_ble_eq_true rfl)⟩ ⟨rfl, (Nat.le_of_ble_eq_true rfl)⟩ rfl ?_
                    refine r_iload_n (pc := 80) dX6_count_80 rfl ?_
                    refine r_icmp_ne (pc := 81) (tgt := 87) dX6_count_81 rfl (fun c81 => ?_) (fun c81 => ?_)
                    · refine r_iinc (pc := 87) (xs' := [some (aR 6 0), some (aI p), some (aI kd), some (aI d), some (aI c), some (aR 13 0), some (aI 40), some (aI (i + 1)), some (aR 1 i)]) dX6_count_87 rfl (by decide) (by omega) rfl ?_
                      refine r_goto (pc := 90) (tgt := 38) dX6_count_90 rfl ?_
                      refine r_drop (xs' := [some (aR 6 0), some (aI p), some (aI kd), some (aI d), some (aI c), some (aR 13 0), some (aI 40), some (aI (i + 1)), none]) 8 rfl ?_
                      exact ih_loop (i + 1) c (by omega) (by omega) ⟨fun q => (by rw [sI_s (by omega), ← h2.1 (by omega), bI_f (by omega), Int.add_zero]), fun q => by rw [show nb = i + 1 by omega]; exact (by rw [sI_s (by omega), ← h2.1 (by omega), bI_f (by omega), Int.add_zero])⟩ (by omega)
                    · refine r_iinc (pc := 84) (xs' := [some (aR 6 0), some (aI p), some (aI kd), some (aI d), some (aI (c + 1)), some (aR 13 0), some (aI 40), some (aI i), some (aR 1 i)]) dX6_count_84 rfl (by decide) (by omega) rfl ?_
                      refine r_iinc (pc := 87) (xs' := [some (aR 6 0), some (aI p), some (aI kd), some (aI d), some (aI (c + 1)), some (aR 13 0), some (aI 40), some (aI (i + 1)), some (aR 1 i)]) dX6_count_87 rfl (by decide) (by omega) rfl ?_
                      refine r_goto (pc := 90) (tgt := 38) dX6_count_90 rfl ?_
                      refine r_drop (xs' := [some (aR 6 0), some (aI p), some (aI kd), some (aI d), some (aI (c + 1)), some (aR 13 0), some (aI 40), some (aI (i + 1)), none]) 8 rfl ?_
                      exact ih_loop (i + 1) (c + 1) (by omega) (by omega) ⟨fun q => (by rw [sI_s (by omega), ← h2.1 (by omega), bI_t (by omega)]), fun q => by rw [show nb = i + 1 by omega]; exact (by rw [sI_s (by omega), ← h2.1 (by omega), bI_t (by omega)])⟩ (by omega)
                  · refine r_aload (pc := 62) dX6_count_62 rfl ?_
                    refine q_getI (pc := 64) (jI := 0) (n9 := nb) (v := hi 1 i 0) fl_X6_125 rfl dX6_count_64 rfl rfl (by omega) (by omega) rfl ?_
                    refine r_iload_n (pc := 67) dX6_count_67 rfl ?_
                    refine r_icmp_ne (pc := 68) (tgt := 87) dX6_count_68 rfl (fun c68 => ?_) (fun c68 => ?_)
                    · refine r_iinc (pc := 87) (xs' := [some (aR 6 0), some (aI p), some (aI kd), some (aI d), some (aI c), some (aR 13 0), some (aI 40), some (aI (i + 1)), some (aR 1 i)]) dX6_count_87 rfl (by decide) (by omega) rfl ?_
                      refine r_goto (pc := 90) (tgt := 38) dX6_count_90 rfl ?_
                      refine r_drop (xs' := [some (aR 6 0), some (aI p), some (aI kd), some (aI d), some (aI c), some (aR 13 0), some (aI 40), some (aI (i + 1)), none]) 8 rfl ?_
                      exact ih_loop (i + 1) c (by omega) (by omega) ⟨fun q => (by rw [sI_s (by omega), ← h2.1 (by omega), bI_f (by omega), Int.add_zero]), fun q => by rw [show nb = i + 1 by omega]; exact (by rw [sI_s (by omega), ← h2.1 (by omega), bI_f (by omega), Int.add_zero])⟩ (by omega)
                    · refine r_aload (pc := 71) dX6_count_71 rfl ?_
                      refine p_getQ (pc := 73) (jI := 2) (n9 := nb) (r := some (4, i)) fl_X6_99 rfl dX6_count_73 rfl rfl (by omega) (by omega) rfl ?_
                      refine r_iload_n (pc := 76) dX6_count_76 rfl ?_
                      refine d1_V (pc := 77) (t := 4) (i := i) (rest := []) (cs' := 3) (sl' := 18) mv_X6_121 (KI_placeOn hI (b := i) (day := d) (by omega) (by omega)) rfl ⟨(Nat.le_of_ble_eq_true rfl), (Nat.le_of_ble_eq_true rfl)⟩ (Nat.le_of_ble_eq_true rfl) dX6_count_77 (show (0 : Int) ≤ i by omega) (show i < nb by omega) ⟨rfl, (Nat.le_of_ble_eq_true rfl)⟩ ⟨rfl, (Nat.le_of_ble_eq_true rfl)⟩ rfl ?_
                      refine r_iload_n (pc := 80) dX6_count_80 rfl ?_
                      refine r_icmp_ne (pc := 81) (tgt := 87) dX6_count_81 rfl (fun c81 => ?_) (fun c81 => ?_)
                      · refine r_iinc (pc := 87) (xs' := [some (aR 6 0), some (aI p), some (aI kd), some (aI d), some (aI c), some (aR 13 0), some (aI 40), some (aI (i + 1)), some (aR 1 i)]) dX6_count_87 rfl (by decide) (by omega) rfl ?_
                        refine r_goto (pc := 90) (tgt := 38) dX6_count_90 rfl ?_
                        refine r_drop (xs' := [some (aR 6 0), some (aI p), some (aI kd), some (aI d), some (aI c), some (aR 13 0), some (aI 40), some (aI (i + 1)), none]) 8 rfl ?_
                        exact ih_loop (i + 1) c (by omega) (by omega) ⟨fun q => (by rw [sI_s (by omega), ← h2.1 (by omega), bI_f (by omega), Int.add_zero]), fun q => by rw [show nb = i + 1 by omega]; exact (by rw [sI_s (by omega), ← h2.1 (by omega), bI_f (by omega), Int.add_zero])⟩ (by omega)
                      · refine r_iinc (pc := 84) (xs' := [some (aR 6 0), some (aI p), some (aI kd), some (aI d), some (aI (c + 1)), some (aR 13 0), some (aI 40), some (aI i), some (aR 1 i)]) dX6_count_84 rfl (by decide) (by omega) rfl ?_
                        refine r_iinc (pc := 87) (xs' := [some (aR 6 0), some (aI p), some (aI kd), some (aI d), some (aI (c + 1)), some (aR 13 0), some (aI 40), some (aI (i + 1)), some (aR 1 i)]) dX6_count_87 rfl (by decide) (by omega) rfl ?_
                        refine r_goto (pc := 90) (tgt := 38) dX6_count_90 rfl ?_
                        refine r_drop (xs' := [some (aR 6 0), some (aI p), some (aI kd), some (aI d), some (aI (c + 1)), some (aR 13 0), some (aI 40), some (aI (i + 1)), none]) 8 rfl ?_
                        exact ih_loop (i + 1) (c + 1) (by omega) (by omega) ⟨fun q => (by rw [sI_s (by omega), ← h2.1 (by omega), bI_t (by omega)]), fun q => by rw [show nb = i + 1 by omega]; exact (by rw [sI_s (by omega), ← h2.1 (by omega), bI_t (by omega)])⟩ (by omega)
                · refine p_aald (pc := 49) (n9 := 1) (nI := 40) (r := none) rfl ⟨(by decide), (by decide)⟩ dX6_count_49 rfl (by decide) (by decide) rfl (by omega) (by omega) (hr_13n (by omega)) ?_
                  refine r_astore (pc := 50) (xs' := [some (aR 6 0), some (aI p), some (aI kd), some (aI d), some (aI c), some (aR 13 0), some (aI 40), some (aI i), some (aN)]) dX6_count_50 (by decide) rfl ?_
                  refine r_aload (pc := 52) dX6_count_52 rfl ?_
                  refine q_ifnullN (pc := 54) (tgt := 87) dX6_count_54 rfl ?_
                  refine r_iinc (pc := 87) (xs' := [some (aR 6 0), some (aI p), some (aI kd), some (aI d), some (aI c), some (aR 13 0), some (aI 40), some (aI (i + 1)), some (aN)]) dX6_count_87 rfl (by decide) (by omega) rfl ?_
                  refine r_goto (pc := 90) (tgt := 38) dX6_count_90 rfl ?_
                  refine r_drop (xs' := [some (aR 6 0), some (aI p), some (aI kd), some (aI d), some (aI c), some (aR 13 0), some (aI 40), some (aI (i + 1)), none]) 8 rfl ?_
                  exact ih_loop (i + 1) c (by omega) (by omega) ⟨fun q => by omega, fun q => by first | exact h2.2 (by omega) | rw [show nb = i by omega]; exact h2.1 (by omega)⟩ (by omega)
          exact loop 41 0 0 (by omega) (by omega) ⟨fun _ => rfl, fun q => by rw [show nb = 0 by omega]; rfl⟩ (by omega)
        · exact rx_out rfl (hXb (by unfold cC_count; (repeat' split) <;> omega)) (Nat.le_of_ble_eq_true rfl) (Nat.le_of_ble_eq_true rfl)
      · exact rx_out rfl (hXb (by unfold cC_count; (repeat' split) <;> omega)) (Nat.le_of_ble_eq_true rfl) (Nat.le_of_ble_eq_true rfl)
  · exact rx_out rfl (hXa (by unfold cC_count; (repeat' split) <;> omega)) (Nat.le_of_ble_eq_true rfl) (Nat.le_of_ble_eq_true rfl)

theorem KI_daysAt {hi : Hi} {nb nk : Int} (hI : Inv hi nb nk) {b pl fr to n : Int} (h0 : 0 ≤ b) (h1 : b < nb) (hd : -100 ≤ fr ∧ fr ≤ to + 1 ∧ to ≤ 20000) (hn : to - fr + 1 = n) : Det I_X4_daysAt [aR 4 b, aI pl, aI fr, aI to] (hp hi nb nk) (some (aI (sI (fun t => bI (plcC hi b (fr + t) = pl)) n))) (hp hi nb nk) := by
  subst hn
  exact K_X4_daysAt h0 h1 (by have := (hI.rep b h0 h1).1; omega) (fun k a c => ((hI.rep b h0 h1).2 k a c).2.2.2.1) hd
def cC_days (nb b fr to pl : Int) : Int := if ¬ (0 ≤ b ∧ b < nb) then 1 else if ¬ (0 ≤ fr ∧ fr ≤ 9999 ∧ fr ≤ to ∧ to ≤ fr + 400 ∧ ((0 ≤ pl ∧ pl < 6) ∨ (10 ≤ pl ∧ pl ≤ 12))) then 2 else 0
theorem K_X6_days {hi : Hi} {nb nk : Int} (hI : Inv hi nb nk) {b fr to pl : Int}  : Op I_X6_days [aR 6 0, aI b, aI fr, aI to, aI pl] (hp hi nb nk) (cC_days nb b fr to pl) (some (aI (sI (fun t => bI (plcC hi b (fr + t) = pl)) (to - fr + 1)))) (hp hi nb nk) 1 2 99 := by
  have hN := hI.num
  have hD := hI.day
  unfold vNum at hN
  unfold vDay at hD
  refine st_o (xs := [some (aR 6 0), some (aI b), some (aI fr), some (aI to), some (aI pl), none]) pn_X6 rfl rfl (Nat.le_of_ble_eq_true rfl) rfl rfl (fun Q X hQ hXa hXb hXc => ?_)
  refine r_aload_n (pc := 0) dX6_days_0 rfl ?_
  refine r_iload_n (pc := 1) dX6_days_1 rfl ?_
  refine n1_V (pc := 2) (t := 6) (i := 0) (rest := []) (cs' := 1) (sl' := 6) mv_X6_84 (K_X6_boxAt (b := b) (by omega)) rfl ⟨(Nat.le_of_ble_eq_true rfl), (Nat.le_of_ble_eq_true rfl)⟩ (Nat.le_of_ble_eq_true rfl) dX6_days_2 (show (0 : Int) ≤ 0 by omega) (show 0 < 1 by omega) ⟨rfl, (Nat.le_of_ble_eq_true rfl)⟩ ⟨rfl, (Nat.le_of_ble_eq_true rfl)⟩ rfl (fun c2 => ?_) (fun c2 => ?_)
  · refine r_astore (pc := 5) (xs' := [some (aR 6 0), some (aI b), some (aI fr), some (aI to), some (aI pl), some (aR 1 b)]) dX6_days_5 (by decide) rfl ?_
    refine r_iload_n (pc := 7) dX6_days_7 rfl ?_
    refine r_iconst (pc := 8) (n := 0) dX6_days_8 (by decide) ?_
    refine r_sipush (pc := 9) (n := 9999) dX6_days_9 rfl (by decide) ?_
    refine n0_S (pc := 12) (rest := []) (cs' := 2) (sl' := 12) ms_X6_67 rfl (K_X6_needRange (v := fr) (lo := 0) (up := 9999)) rfl ⟨(Nat.le_of_ble_eq_true rfl), (Nat.le_of_ble_eq_true rfl)⟩ (Nat.le_of_ble_eq_true rfl) dX6_days_12 ⟨rfl, (Nat.le_of_ble_eq_true rfl)⟩ ⟨rfl, (Nat.le_of_ble_eq_true rfl)⟩ rfl (fun c12 => ?_) (fun c12 => ?_)
    · refine r_iload_n (pc := 15) dX6_days_15 rfl ?_
      refine r_iload_n (pc := 16) dX6_days_16 rfl ?_
      refine r_iload_n (pc := 17) dX6_days_17 rfl ?_
      refine r_sipush (pc := 18) (n := 400) dX6_days_18 rfl (by decide) ?_
      refine r_iadd (pc := 21) dX6_days_21 (by omega) ?_
      refine n0_S (pc := 22) (rest := []) (cs' := 3) (sl' := 18) ms_X6_67 rfl (K_X6_needRange (v := to) (lo := fr) (up := fr + 400)) rfl ⟨(Nat.le_of_ble_eq_true rfl), (Nat.le_of_ble_eq_true rfl)⟩ (Nat.le_of_ble_eq_true rfl) dX6_days_22 ⟨rfl, (Nat.le_of_ble_eq_true rfl)⟩ ⟨rfl, (Nat.le_of_ble_eq_true rfl)⟩ rfl (fun c22 => ?_) (fun c22 => ?_)
      · refine r_iload (pc := 25) dX6_days_25 rfl ?_
        refine d1_S (pc := 27) (rest := []) (cs' := 3) (sl' := 18) ms_X6_128 rfl (K_X6_isPort (p := pl)) rfl ⟨(Nat.le_of_ble_eq_true rfl), (Nat.le_of_ble_eq_true rfl)⟩ (Nat.le_of_ble_eq_true rfl) dX6_days_27 ⟨rfl, (Nat.le_of_ble_eq_true rfl)⟩ ⟨rfl, (Nat.le_of_ble_eq_true rfl)⟩ rfl ?_
        refine q_ifneB (pc := 30) (tgt := 42) dX6_days_30 rfl (fun c30 => ?_) (fun c30 => ?_)
        · refine r_aload (pc := 42) dX6_days_42 rfl ?_
          refine p_getQ (pc := 44) (jI := 2) (n9 := nb) (r := some (4, b)) fl_X6_99 rfl dX6_days_44 rfl rfl (by omega) (by omega) rfl ?_
          refine r_iload (pc := 47) dX6_days_47 rfl ?_
          refine r_iload_n (pc := 49) dX6_days_49 rfl ?_
          refine r_iload_n (pc := 50) dX6_days_50 rfl ?_
          refine d1_V (pc := 51) (t := 4) (i := b) (rest := []) (cs' := 3) (sl' := 18) mv_X6_132 (KI_daysAt hI (b := b) (pl := pl) (fr := fr) (to := to) (n := to - fr + 1) (by omega) (by omega) (by omega) (by omega)) rfl ⟨(Nat.le_of_ble_eq_true rfl), (Nat.le_of_ble_eq_true rfl)⟩ (Nat.le_of_ble_eq_true rfl) dX6_days_51 (show (0 : Int) ≤ b by omega) (show b < nb by omega) ⟨rfl, (Nat.le_of_ble_eq_true rfl)⟩ ⟨rfl, (Nat.le_of_ble_eq_true rfl)⟩ rfl ?_
          refine r_iret (pc := 54) dX6_days_54 (Or.inl rfl) (Nat.le_of_ble_eq_true rfl) (Nat.le_of_ble_eq_true rfl) ?_
          exact hQ (by unfold cC_days; (repeat' split) <;> omega)
        · refine r_iload (pc := 33) dX6_days_33 rfl ?_
          refine r_bipush (pc := 35) (n := 10) dX6_days_35 rfl (by decide) ?_
          refine r_bipush (pc := 37) (n := 12) dX6_days_37 rfl (by decide) ?_
          refine n0_S (pc := 39) (rest := []) (cs' := 4) (sl' := 24) ms_X6_67 rfl (K_X6_needRange (v := pl) (lo := 10) (up := 12)) rfl ⟨(Nat.le_of_ble_eq_true rfl), (Nat.le_of_ble_eq_true rfl)⟩ (Nat.le_of_ble_eq_true rfl) dX6_days_39 ⟨rfl, (Nat.le_of_ble_eq_true rfl)⟩ ⟨rfl, (Nat.le_of_ble_eq_true rfl)⟩ rfl (fun c39 => ?_) (fun c39 => ?_)
          · refine r_aload (pc := 42) dX6_days_42 rfl ?_
            refine p_getQ (pc := 44) (jI := 2) (n9 := nb) (r := some (4, b)) fl_X6_99 rfl dX6_days_44 rfl rfl (by omega) (by omega) rfl ?_
            refine r_iload (pc := 47) dX6_days_47 rfl ?_
            refine r_iload_n (pc := 49) dX6_days_49 rfl ?_
            refine r_iload_n (pc := 50) dX6_days_50 rfl ?_
            refine d1_V (pc := 51) (t := 4) (i := b) (rest := []) (cs' := 4) (sl' := 24) mv_X6_132 (KI_daysAt hI (b := b) (pl := pl) (fr := fr) (to := to) (n := to - fr + 1) (by omega) (by omega) (by omega) (by omega)) rfl ⟨(Nat.le_of_ble_eq_true rfl), (Nat.le_of_ble_eq_true rfl)⟩ (Nat.le_of_ble_eq_true rfl) dX6_days_51 (show (0 : Int) ≤ b by omega) (show b < nb by omega) ⟨rfl, (Nat.le_of_ble_eq_true rfl)⟩ ⟨rfl, (Nat.le_of_ble_eq_true rfl)⟩ rfl ?_
            refine r_iret (pc := 54) dX6_days_54 (Or.inl rfl) (Nat.le_of_ble_eq_true rfl) (Nat.le_of_ble_eq_true rfl) ?_
            exact hQ (by unfold cC_days; (repeat' split) <;> omega)
          · exact rx_out rfl (hXb (by unfold cC_days; (repeat' split) <;> omega)) (Nat.le_of_ble_eq_true rfl) (Nat.le_of_ble_eq_true rfl)
      · exact rx_out rfl (hXb (by unfold cC_days; (repeat' split) <;> omega)) (Nat.le_of_ble_eq_true rfl) (Nat.le_of_ble_eq_true rfl)
    · exact rx_out rfl (hXb (by unfold cC_days; (repeat' split) <;> omega)) (Nat.le_of_ble_eq_true rfl) (Nat.le_of_ble_eq_true rfl)
  · exact rx_out rfl (hXa (by unfold cC_days; (repeat' split) <;> omega)) (Nat.le_of_ble_eq_true rfl) (Nat.le_of_ble_eq_true rfl)

noncomputable def payC (hi : Hi) (b d : Int) : Int := if sI (fun t => bI (plcC hi b (d - hi 6 0 9 + t) = 11)) (hi 6 0 9 + 1) = hi 6 0 9 + 1 then 2 else if hi 1 b 1 = -1 ∨ bI (holC hi b d) = 1 then 0 else 1
def cC_payer (nb b d : Int) : Int := if ¬ (0 ≤ b ∧ b < nb) then 1 else if ¬ (0 ≤ d ∧ d ≤ 9999) then 2 else 0
theorem K_X6_payer {hi : Hi} {nb nk : Int} (hI : Inv hi nb nk) {b d : Int}  : Op I_X6_payer [aR 6 0, aI b, aI d] (hp hi nb nk) (cC_payer nb b d) (some (aI (payC hi b d))) (hp hi nb nk) 1 2 99 := by
  have hN := hI.num
  have hD := hI.day
  unfold vNum at hN
  unfold vDay at hD
  refine st_o (xs := [some (aR 6 0), some (aI b), some (aI d), none]) pn_X6 rfl rfl (Nat.le_of_ble_eq_true rfl) rfl rfl (fun Q X hQ hXa hXb hXc => ?_)
  refine r_aload_n (pc := 0) dX6_payer_0 rfl ?_
  refine r_iload_n (pc := 1) dX6_payer_1 rfl ?_
  refine n1_V (pc := 2) (t := 6) (i := 0) (rest := []) (cs' := 1) (sl' := 6) mv_X6_84 (K_X6_boxAt (b := b) (by omega)) rfl ⟨(Nat.le_of_ble_eq_true rfl), (Nat.le_of_ble_eq_true rfl)⟩ (Nat.le_of_ble_eq_true rfl) dX6_payer_2 (show (0 : Int) ≤ 0 by omega) (show 0 < 1 by omega) ⟨rfl, (Nat.le_of_ble_eq_true rfl)⟩ ⟨rfl, (Nat.le_of_ble_eq_true rfl)⟩ rfl (fun c2 => ?_) (fun c2 => ?_)
  · refine r_astore_n (pc := 5) (xs' := [some (aR 6 0), some (aI b), some (aI d), some (aR 1 b)]) dX6_payer_5 (by decide) rfl ?_
    refine r_iload_n (pc := 6) dX6_payer_6 rfl ?_
    refine r_iconst (pc := 7) (n := 0) dX6_payer_7 (by decide) ?_
    refine r_sipush (pc := 8) (n := 9999) dX6_payer_8 rfl (by decide) ?_
    refine n0_S (pc := 11) (rest := []) (cs' := 2) (sl' := 12) ms_X6_67 rfl (K_X6_needRange (v := d) (lo := 0) (up := 9999)) rfl ⟨(Nat.le_of_ble_eq_true rfl), (Nat.le_of_ble_eq_true rfl)⟩ (Nat.le_of_ble_eq_true rfl) dX6_payer_11 ⟨rfl, (Nat.le_of_ble_eq_true rfl)⟩ ⟨rfl, (Nat.le_of_ble_eq_true rfl)⟩ rfl (fun c11 => ?_) (fun c11 => ?_)
    · refine r_aload_n (pc := 14) dX6_payer_14 rfl ?_
      refine p_getQ (pc := 15) (jI := 2) (n9 := nb) (r := some (4, b)) fl_X6_99 rfl dX6_payer_15 rfl rfl (by omega) (by omega) rfl ?_
      refine r_bipush (pc := 18) (n := 11) dX6_payer_18 rfl (by decide) ?_
      refine r_iload_n (pc := 20) dX6_payer_20 rfl ?_
      refine r_aload_n (pc := 21) dX6_payer_21 rfl ?_
      refine q_getI (pc := 22) (jI := 9) (n9 := 1) (v := hi 6 0 9) fl_X6_50 rfl dX6_payer_22 rfl rfl (by decide) (by decide) rfl ?_
      refine r_isub (pc := 25) dX6_payer_25 (by omega) ?_
      refine r_iload_n (pc := 26) dX6_payer_26 rfl ?_
      refine d1_V (pc := 27) (t := 4) (i := b) (rest := []) (cs' := 2) (sl' := 12) mv_X6_132 (KI_daysAt hI (b := b) (pl := 11) (fr := d - (hi 6 0 9)) (to := d) (n := hi 6 0 9 + 1) (by omega) (by omega) (by omega) (by omega)) rfl ⟨(Nat.le_of_ble_eq_true rfl), (Nat.le_of_ble_eq_true rfl)⟩ (Nat.le_of_ble_eq_true rfl) dX6_payer_27 (show (0 : Int) ≤ b by omega) (show b < nb by omega) ⟨rfl, (Nat.le_of_ble_eq_true rfl)⟩ ⟨rfl, (Nat.le_of_ble_eq_true rfl)⟩ rfl ?_
      refine r_aload_n (pc := 30) dX6_payer_30 rfl ?_
      refine q_getI (pc := 31) (jI := 9) (n9 := 1) (v := hi 6 0 9) fl_X6_50 rfl dX6_payer_31 rfl rfl (by decide) (by decide) rfl ?_
      refine r_iconst (pc := 34) (n := 1) dX6_payer_34 (by decide) ?_
      refine r_iadd (pc := 35) dX6_payer_35 (by omega) ?_
      refine r_icmp_ne (pc := 36) (tgt := 41) dX6_payer_36 rfl (fun c36 => ?_) (fun c36 => ?_)
      · refine r_aload_n (pc := 41) dX6_payer_41 rfl ?_
        refine q_getI (pc := 42) (jI := 1) (n9 := nb) (v := hi 1 b 1) fl_X6_136 rfl dX6_payer_42 rfl rfl (by omega) (by omega) rfl ?_
        refine r_iconst (pc := 45) (n := (-1)) dX6_payer_45 (by decide) ?_
        refine r_icmp_eq (pc := 46) (tgt := 60) dX6_payer_46 rfl (fun c46 => ?_) (fun c46 => ?_)
        · refine r_iconst (pc := 60) (n := 0) dX6_payer_60 (by decide) ?_
          refine r_goto (pc := 61) (tgt := 65) dX6_payer_61 rfl ?_
          refine r_iret (pc := 65) dX6_payer_65 (Or.inl rfl) (Nat.le_of_ble_eq_true rfl) (Nat.le_of_ble_eq_true rfl) ?_
          exact qI (hQ (by unfold cC_payer; (repeat' split) <;> omega)) (by unfold payC; rw [if_neg c36, if_pos (Or.inl c46)]) rfl
        · refine r_aload_n (pc := 49) dX6_payer_49 rfl ?_
          refine p_getQ (pc := 50) (jI := 3) (n9 := nb) (r := some (3, b)) fl_X6_141 rfl dX6_payer_50 rfl rfl (by omega) (by omega) rfl ?_
          refine r_iload_n (pc := 53) dX6_payer_53 rfl ?_
          refine d1_V (pc := 54) (t := 3) (i := b) (rest := []) (cs' := 2) (sl' := 12) mv_X6_153 (KI_holdOn hI (b := b) (day := d) (by omega) (by omega)) rfl ⟨(Nat.le_of_ble_eq_true rfl), (Nat.le_of_ble_eq_true rfl)⟩ (Nat.le_of_ble_eq_true rfl) dX6_payer_54 (show (0 : Int) ≤ b by omega) (show b < nb by omega) ⟨rfl, (Nat.le_of_ble_eq_true rfl)⟩ ⟨rfl, (Nat.le_of_ble_eq_true rfl)⟩ rfl ?_
          refine q_ifeqB (pc := 57) (tgt := 64) dX6_payer_57 rfl (fun c57 => ?_) (fun c57 => ?_)
          · refine r_iconst (pc := 64) (n := 1) dX6_payer_64 (by decide) ?_
            refine r_iret (pc := 65) dX6_payer_65 (Or.inl rfl) (Nat.le_of_ble_eq_true rfl) (Nat.le_of_ble_eq_true rfl) ?_
            exact qI (hQ (by unfold cC_payer; (repeat' split) <;> omega)) (by unfold payC; rw [if_neg c36, if_neg (by rw [bI_f c57]; omega)]) rfl
          · refine r_iconst (pc := 60) (n := 0) dX6_payer_60 (by decide) ?_
            refine r_goto (pc := 61) (tgt := 65) dX6_payer_61 rfl ?_
            refine r_iret (pc := 65) dX6_payer_65 (Or.inl rfl) (Nat.le_of_ble_eq_true rfl) (Nat.le_of_ble_eq_true rfl) ?_
            exact qI (hQ (by unfold cC_payer; (repeat' split) <;> omega)) (by unfold payC; rw [if_neg c36, if_pos (Or.inr (bI_t c57))]) rfl
      · refine r_iconst (pc := 39) (n := 2) dX6_payer_39 (by decide) ?_
        refine r_iret (pc := 40) dX6_payer_40 (Or.inl rfl) (Nat.le_of_ble_eq_true rfl) (Nat.le_of_ble_eq_true rfl) ?_
        exact qI (hQ (by unfold cC_payer; (repeat' split) <;> omega)) (by unfold payC; rw [if_pos c36]) rfl
    · exact rx_out rfl (hXb (by unfold cC_payer; (repeat' split) <;> omega)) (Nat.le_of_ble_eq_true rfl) (Nat.le_of_ble_eq_true rfl)
  · exact rx_out rfl (hXa (by unfold cC_payer; (repeat' split) <;> omega)) (Nat.le_of_ble_eq_true rfl) (Nat.le_of_ble_eq_true rfl)

def leaH (hi : Hi) (b fr to : Int) : Hi := up1 (up1 (up1 hi 26 b (hi 3 b 2) fr) 27 b (hi 3 b 2) to) 3 b 2 (hi 3 b 2 + 1)
def cC_lease (hi : Hi) (nb b fr to : Int) : Int := if ¬ (0 ≤ b ∧ b < nb) then 1 else if ¬ (0 ≤ fr ∧ fr ≤ 9999 ∧ fr ≤ to ∧ to ≤ 9999) then 2 else if hi 1 b 1 = -1 ∨ hi 1 b 8 ≠ -1 ∨ 10 ≤ hi 3 b 2 then 3 else 0
theorem K_X6_lease {hi : Hi} {nb nk : Int} (hI : Inv hi nb nk) {b fr to : Int}  : Op I_X6_lease [aR 6 0, aI b, aI fr, aI to] (hp hi nb nk) (cC_lease hi nb b fr to) none (hp (leaH hi b fr to) nb nk) 1 2 3 := by
  have hN := hI.num
  have hD := hI.day
  unfold vNum at hN
  unfold vDay at hD
  refine st_o (xs := [some (aR 6 0), some (aI b), some (aI fr), some (aI to), none]) pn_X6 rfl rfl (Nat.le_of_ble_eq_true rfl) rfl rfl (fun Q X hQ hXa hXb hXc => ?_)
  refine r_aload_n (pc := 0) dX6_lease_0 rfl ?_
  refine r_iload_n (pc := 1) dX6_lease_1 rfl ?_
  refine n1_V (pc := 2) (t := 6) (i := 0) (rest := []) (cs' := 1) (sl' := 6) mv_X6_84 (K_X6_boxAt (b := b) (by omega)) rfl ⟨(Nat.le_of_ble_eq_true rfl), (Nat.le_of_ble_eq_true rfl)⟩ (Nat.le_of_ble_eq_true rfl) dX6_lease_2 (show (0 : Int) ≤ 0 by omega) (show 0 < 1 by omega) ⟨rfl, (Nat.le_of_ble_eq_true rfl)⟩ ⟨rfl, (Nat.le_of_ble_eq_true rfl)⟩ rfl (fun c2 => ?_) (fun c2 => ?_)
  · refine r_astore (pc := 5) (xs' := [some (aR 6 0), some (aI b), some (aI fr), some (aI to), some (aR 1 b)]) dX6_lease_5 (by decide) rfl ?_
    refine r_iload_n (pc := 7) dX6_lease_7 rfl ?_
    refine r_iconst (pc := 8) (n := 0) dX6_lease_8 (by decide) ?_
    refine r_sipush (pc := 9) (n := 9999) dX6_lease_9 rfl (by decide) ?_
    refine n0_S (pc := 12) (rest := []) (cs' := 2) (sl' := 12) ms_X6_67 rfl (K_X6_needRange (v := fr) (lo := 0) (up := 9999)) rfl ⟨(Nat.le_of_ble_eq_true rfl), (Nat.le_of_ble_eq_true rfl)⟩ (Nat.le_of_ble_eq_true rfl) dX6_lease_12 ⟨rfl, (Nat.le_of_ble_eq_true rfl)⟩ ⟨rfl, (Nat.le_of_ble_eq_true rfl)⟩ rfl (fun c12 => ?_) (fun c12 => ?_)
    · refine r_iload_n (pc := 15) dX6_lease_15 rfl ?_
      refine r_iload_n (pc := 16) dX6_lease_16 rfl ?_
      refine r_sipush (pc := 17) (n := 9999) dX6_lease_17 rfl (by decide) ?_
      refine n0_S (pc := 20) (rest := []) (cs' := 3) (sl' := 18) ms_X6_67 rfl (K_X6_needRange (v := to) (lo := fr) (up := 9999)) rfl ⟨(Nat.le_of_ble_eq_true rfl), (Nat.le_of_ble_eq_true rfl)⟩ (Nat.le_of_ble_eq_true rfl) dX6_lease_20 ⟨rfl, (Nat.le_of_ble_eq_true rfl)⟩ ⟨rfl, (Nat.le_of_ble_eq_true rfl)⟩ rfl (fun c20 => ?_) (fun c20 => ?_)
      · refine r_aload (pc := 23) dX6_lease_23 rfl ?_
        refine q_getI (pc := 25) (jI := 1) (n9 := nb) (v := hi 1 b 1) fl_X6_136 rfl dX6_lease_25 rfl rfl (by omega) (by omega) rfl ?_
        refine r_iconst (pc := 28) (n := (-1)) dX6_lease_28 (by decide) ?_
        refine r_icmp_ne (pc := 29) (tgt := 42) dX6_lease_29 rfl (fun c29 => ?_) (fun c29 => ?_)
        · refine r_aload (pc := 42) dX6_lease_42 rfl ?_
          refine n0_S (pc := 44) (rest := []) (cs' := 4) (sl' := 24) ms_X6_88 rfl (K_X6_needNotGone (b := b) (by omega) (by omega)) rfl ⟨(Nat.le_of_ble_eq_true rfl), (Nat.le_of_ble_eq_true rfl)⟩ (Nat.le_of_ble_eq_true rfl) dX6_lease_44 ⟨rfl, (Nat.le_of_ble_eq_true rfl)⟩ ⟨rfl, (Nat.le_of_ble_eq_true rfl)⟩ rfl (fun c44 => ?_) (fun c44 => ?_)
          · refine r_aload (pc := 47) dX6_lease_47 rfl ?_
            refine p_getQ (pc := 49) (jI := 3) (n9 := nb) (r := some (3, b)) fl_X6_141 rfl dX6_lease_49 rfl rfl (by omega) (by omega) rfl ?_
            refine d1_V (pc := 52) (t := 3) (i := b) (rest := []) (cs' := 4) (sl' := 24) mv_X6_145 (K_X3_isFull (b := b) (by omega) (by omega)) rfl ⟨(Nat.le_of_ble_eq_true rfl), (Nat.le_of_ble_eq_true rfl)⟩ (Nat.le_of_ble_eq_true rfl) dX6_lease_52 (show (0 : Int) ≤ b by omega) (show b < nb by omega) ⟨rfl, (Nat.le_of_ble_eq_true rfl)⟩ ⟨rfl, (Nat.le_of_ble_eq_true rfl)⟩ rfl ?_
            refine q_ifeqB (pc := 55) (tgt := 68) dX6_lease_55 rfl (fun c55 => ?_) (fun c55 => ?_)
            · refine r_aload (pc := 68) dX6_lease_68 rfl ?_
              refine p_getQ (pc := 70) (jI := 3) (n9 := nb) (r := some (3, b)) fl_X6_141 rfl dX6_lease_70 rfl rfl (by omega) (by omega) rfl ?_
              refine r_iload_n (pc := 73) dX6_lease_73 rfl ?_
              refine r_iload_n (pc := 74) dX6_lease_74 rfl ?_
              refine d0_V (pc := 75) (t := 3) (i := b) (rest := []) (cs' := 4) (sl' := 24) mv_X6_150 (K_X3_tell (b := b) (by omega) (by omega) (by have := (hI.lea b (by omega) (by omega)).1; omega)) rfl ⟨(Nat.le_of_ble_eq_true rfl), (Nat.le_of_ble_eq_true rfl)⟩ (Nat.le_of_ble_eq_true rfl) dX6_lease_75 (show (0 : Int) ≤ b by omega) (show b < nb by omega) ⟨rfl, (Nat.le_of_ble_eq_true rfl)⟩ ⟨rfl, (Nat.le_of_ble_eq_true rfl)⟩ rfl ?_
              refine r_vret (pc := 78) dX6_lease_78 rfl (Nat.le_of_ble_eq_true rfl) (Nat.le_of_ble_eq_true rfl) ?_
              exact hQ (by unfold cC_lease; (repeat' split) <;> omega)
            · refine r_throw (pc := 58) (text := "the box has had 10 leases") rfl th_X6_81 (by decide) dX6_lease_58 dX6_lease_61 dX6_lease_62 dX6_lease_64 dX6_lease_67 ⟨(Nat.le_of_ble_eq_true rfl), (Nat.le_of_ble_eq_true rfl), (Nat.le_of_ble_eq_true rfl), (Nat.le_of_ble_eq_true rfl)⟩ (hXc (by unfold cC_lease; (repeat' split) <;> omega))
          · exact rx_out rfl (hXc (by unfold cC_lease; (repeat' split) <;> omega)) (Nat.le_of_ble_eq_true rfl) (Nat.le_of_ble_eq_true rfl)
        · refine r_throw (pc := 32) (text := "the box is the line\'s own") rfl th_X6_81 (by decide) dX6_lease_32 dX6_lease_35 dX6_lease_36 dX6_lease_38 dX6_lease_41 ⟨(Nat.le_of_ble_eq_true rfl), (Nat.le_of_ble_eq_true rfl), (Nat.le_of_ble_eq_true rfl), (Nat.le_of_ble_eq_true rfl)⟩ (hXc (by unfold cC_lease; (repeat' split) <;> omega))
      · exact rx_out rfl (hXb (by unfold cC_lease; (repeat' split) <;> omega)) (Nat.le_of_ble_eq_true rfl) (Nat.le_of_ble_eq_true rfl)
    · exact rx_out rfl (hXb (by unfold cC_lease; (repeat' split) <;> omega)) (Nat.le_of_ble_eq_true rfl) (Nat.le_of_ble_eq_true rfl)
  · exact rx_out rfl (hXa (by unfold cC_lease; (repeat' split) <;> omega)) (Nat.le_of_ble_eq_true rfl) (Nat.le_of_ble_eq_true rfl)

noncomputable def lefC (hi : Hi) (nb b : Int) : Int := hi 11 (hi 1 b 1) (plcC hi b (hi 6 0 8)) - hanI hi nb (hi 1 b 1) (plcC hi b (hi 6 0 8)) (hi 6 0 8 / 30)
noncomputable def cC_handIn (hi : Hi) (nb b : Int) : Int := if ¬ (0 ≤ b ∧ b < nb) then 1 else if hi 1 b 8 ≠ -1 then 2 else if bI (holC hi b (hi 6 0 8)) = 0 then 2 else if ¬ (0 ≤ plcC hi b (hi 6 0 8) ∧ plcC hi b (hi 6 0 8) < 6) then 2 else if hi 1 b 7 ≠ -1 then 2 else if lefC hi nb b ≤ 0 then 2 else 0
def hanH (hi : Hi) (b : Int) : Hi := up1 (up1 (endH hi b (hi 6 0 8) (hi 3 b 2)) 1 b 8 (hi 6 0 8)) 1 b 9 (plcC hi b (hi 6 0 8))
theorem Inv.less {hi : Hi} {nb nk : Int} (hI : Inv hi nb nk) {b day : Int} (h0 : 0 ≤ b) (h1 : b < nb) (h : holC hi b day) : 0 ≤ hi 1 b 1 ∧ hi 1 b 1 < 3 := by
  have a1 := (hI.lea b h0 h1).1
  have a2 := lasI_r (fs := hi 26 b) (day := day) a1.2.1
  have a3 := hI.box b h0 h1
  have a4 := h.1
  omega
theorem hanI_r {hi : Hi} {nb l p M : Int} (h : 0 ≤ nb) : 0 ≤ hanI hi nb l p M ∧ hanI hi nb l p M ≤ nb := by
  have := sI_r (f := fun b => bI (hi 1 b 8 ≠ -1 ∧ hi 1 b 1 = l ∧ hi 1 b 9 = p ∧ hi 1 b 8 / 30 = M)) (n := nb) (a := 0) (b := 1) (fun i _ _ => bI_le) h
  unfold hanI
  omega
theorem K_X6_handIn {hi : Hi} {nb nk : Int} (hI : Inv hi nb nk) {b : Int}  : Op I_X6_handIn [aR 6 0, aI b] (hp hi nb nk) (cC_handIn hi nb b) (some (aI (lefC hi nb b - 1))) (hp (hanH hi b) nb nk) 1 99 2 := by
  have hN := hI.num
  have hD := hI.day
  unfold vNum at hN
  unfold vDay at hD
  refine st_o (xs := [some (aR 6 0), some (aI b), none, none, none]) pn_X6 rfl rfl (Nat.le_of_ble_eq_true rfl) rfl rfl (fun Q X hQ hXa hXb hXc => ?_)
  refine r_aload_n (pc := 0) dX6_handIn_0 rfl ?_
  refine r_iload_n (pc := 1) dX6_handIn_1 rfl ?_
  refine n1_V (pc := 2) (t := 6) (i := 0) (rest := []) (cs' := 1) (sl' := 6) mv_X6_84 (K_X6_boxAt (b := b) (by omega)) rfl ⟨(Nat.le_of_ble_eq_true rfl), (Nat.le_of_ble_eq_true rfl)⟩ (Nat.le_of_ble_eq_true rfl) dX6_handIn_2 (show (0 : Int) ≤ 0 by omega) (show 0 < 1 by omega) ⟨rfl, (Nat.le_of_ble_eq_true rfl)⟩ ⟨rfl, (Nat.le_of_ble_eq_true rfl)⟩ rfl (fun c2 => ?_) (fun c2 => ?_)
  · refine r_astore_n (pc := 5) (xs' := [some (aR 6 0), some (aI b), some (aR 1 b), none, none]) dX6_handIn_5 (by decide) rfl ?_
    refine r_aload_n (pc := 6) dX6_handIn_6 rfl ?_
    refine n0_S (pc := 7) (rest := []) (cs' := 2) (sl' := 12) ms_X6_88 rfl (K_X6_needNotGone (b := b) (by omega) (by omega)) rfl ⟨(Nat.le_of_ble_eq_true rfl), (Nat.le_of_ble_eq_true rfl)⟩ (Nat.le_of_ble_eq_true rfl) dX6_handIn_7 ⟨rfl, (Nat.le_of_ble_eq_true rfl)⟩ ⟨rfl, (Nat.le_of_ble_eq_true rfl)⟩ rfl (fun c7 => ?_) (fun c7 => ?_)
    · refine r_aload_n (pc := 10) dX6_handIn_10 rfl ?_
      refine p_getQ (pc := 11) (jI := 3) (n9 := nb) (r := some (3, b)) fl_X6_141 rfl dX6_handIn_11 rfl rfl (by omega) (by omega) rfl ?_
      refine r_aload_n (pc := 14) dX6_handIn_14 rfl ?_
      refine q_getI (pc := 15) (jI := 8) (n9 := 1) (v := hi 6 0 8) fl_X6_47 rfl dX6_handIn_15 rfl rfl (by decide) (by decide) rfl ?_
      refine d1_V (pc := 18) (t := 3) (i := b) (rest := []) (cs' := 2) (sl' := 12) mv_X6_153 (KI_holdOn hI (b := b) (day := hi 6 0 8) (by omega) (by omega)) rfl ⟨(Nat.le_of_ble_eq_true rfl), (Nat.le_of_ble_eq_true rfl)⟩ (Nat.le_of_ble_eq_true rfl) dX6_handIn_18 (show (0 : Int) ≤ b by omega) (show b < nb by omega) ⟨rfl, (Nat.le_of_ble_eq_true rfl)⟩ ⟨rfl, (Nat.le_of_ble_eq_true rfl)⟩ rfl ?_
      refine q_ifneB (pc := 21) (tgt := 34) dX6_handIn_21 rfl (fun c21 => ?_) (fun c21 => ?_)
      · refine r_aload_n (pc := 34) dX6_handIn_34 rfl ?_
        refine p_getQ (pc := 35) (jI := 2) (n9 := nb) (r := some (4, b)) fl_X6_99 rfl dX6_handIn_35 rfl rfl (by omega) (by omega) rfl ?_
        refine r_aload_n (pc := 38) dX6_handIn_38 rfl ?_
        refine q_getI (pc := 39) (jI := 8) (n9 := 1) (v := hi 6 0 8) fl_X6_47 rfl dX6_handIn_39 rfl rfl (by decide) (by decide) rfl ?_
        refine d1_V (pc := 42) (t := 4) (i := b) (rest := []) (cs' := 2) (sl' := 12) mv_X6_121 (KI_placeOn hI (b := b) (day := hi 6 0 8) (by omega) (by omega)) rfl ⟨(Nat.le_of_ble_eq_true rfl), (Nat.le_of_ble_eq_true rfl)⟩ (Nat.le_of_ble_eq_true rfl) dX6_handIn_42 (show (0 : Int) ≤ b by omega) (show b < nb by omega) ⟨rfl, (Nat.le_of_ble_eq_true rfl)⟩ ⟨rfl, (Nat.le_of_ble_eq_true rfl)⟩ rfl ?_
        refine r_istore_n (pc := 45) (xs' := [some (aR 6 0), some (aI b), some (aR 1 b), some (aI (plcC hi b (hi 6 0 8))), none]) dX6_handIn_45 (by decide) rfl ?_
        refine r_iload_n (pc := 46) dX6_handIn_46 rfl ?_
        refine d1_S (pc := 47) (rest := []) (cs' := 2) (sl' := 12) ms_X6_128 rfl (K_X6_isPort (p := plcC hi b (hi 6 0 8))) rfl ⟨(Nat.le_of_ble_eq_true rfl), (Nat.le_of_ble_eq_true rfl)⟩ (Nat.le_of_ble_eq_true rfl) dX6_handIn_47 ⟨rfl, (Nat.le_of_ble_eq_true rfl)⟩ ⟨rfl, (Nat.le_of_ble_eq_true rfl)⟩ rfl ?_
        refine q_ifneB (pc := 50) (tgt := 63) dX6_handIn_50 rfl (fun c50 => ?_) (fun c50 => ?_)
        · refine r_aload_n (pc := 63) dX6_handIn_63 rfl ?_
          refine q_getI (pc := 64) (jI := 7) (n9 := nb) (v := hi 1 b 7) fl_X6_160 rfl dX6_handIn_64 rfl rfl (by omega) (by omega) rfl ?_
          refine r_iconst (pc := 67) (n := (-1)) dX6_handIn_67 (by decide) ?_
          refine r_icmp_eq (pc := 68) (tgt := 81) dX6_handIn_68 rfl (fun c68 => ?_) (fun c68 => ?_)
          · refine r_aload_n (pc := 81) dX6_handIn_81 rfl ?_
            refine r_aload_n (pc := 82) dX6_handIn_82 rfl ?_
            refine q_getI (pc := 83) (jI := 1) (n9 := nb) (v := hi 1 b 1) fl_X6_136 rfl dX6_handIn_83 rfl rfl (by omega) (by omega) rfl ?_
            refine r_iload_n (pc := 86) dX6_handIn_86 rfl ?_
            refine d1_V (pc := 87) (t := 6) (i := 0) (rest := []) (cs' := 2) (sl' := 12) mv_X6_165 (K_X6_quotaLeft hI (l := hi 1 b 1) (p := plcC hi b (hi 6 0 8)) (hI.less (by omega) (by omega) c21) c50) rfl ⟨(Nat.le_of_ble_eq_true rfl), (Nat.le_of_ble_eq_true rfl)⟩ (Nat.le_of_ble_eq_true rfl) dX6_handIn_87 (show (0 : Int) ≤ 0 by omega) (show 0 < 1 by omega) ⟨rfl, (Nat.le_of_ble_eq_true rfl)⟩ ⟨rfl, (Nat.le_of_ble_eq_true rfl)⟩ rfl ?_
            refine r_istore (pc := 90) (xs' := [some (aR 6 0), some (aI b), some (aR 1 b), some (aI (plcC hi b (hi 6 0 8))), some (aI (lefC hi nb b))]) dX6_handIn_90 (by decide) rfl ?_
            refine r_iload (pc := 92) dX6_handIn_92 rfl ?_
            refine r_if_gt (pc := 94) (tgt := 107) dX6_handIn_94 rfl (fun c94 => ?_) (fun c94 => ?_)
            · refine r_aload_n (pc := 107) dX6_handIn_107 rfl ?_
              refine p_getQ (pc := 108) (jI := 3) (n9 := nb) (r := some (3, b)) fl_X6_141 rfl dX6_handIn_108 rfl rfl (by omega) (by omega) rfl ?_
              refine r_aload_n (pc := 111) dX6_handIn_111 rfl ?_
              refine q_getI (pc := 112) (jI := 8) (n9 := 1) (v := hi 6 0 8) fl_X6_47 rfl dX6_handIn_112 rfl rfl (by decide) (by decide) rfl ?_
              refine d0_V (pc := 115) (t := 3) (i := b) (rest := []) (cs' := 2) (sl' := 12) mv_X6_171 (K_X3_endOn (b := b) (day := hi 6 0 8) (by omega) (by omega) (by have := (hI.lea b (by omega) (by omega)).1; omega)) rfl ⟨(Nat.le_of_ble_eq_true rfl), (Nat.le_of_ble_eq_true rfl)⟩ (Nat.le_of_ble_eq_true rfl) dX6_handIn_115 (show (0 : Int) ≤ b by omega) (show b < nb by omega) ⟨rfl, (Nat.le_of_ble_eq_true rfl)⟩ ⟨rfl, (Nat.le_of_ble_eq_true rfl)⟩ rfl ?_
              refine r_aload_n (pc := 118) dX6_handIn_118 rfl ?_
              refine r_aload_n (pc := 119) dX6_handIn_119 rfl ?_
              refine q_getI (pc := 120) (jI := 8) (n9 := 1) (v := hi 6 0 8) fl_X6_47 rfl dX6_handIn_120 rfl rfl (by decide) (by decide) (by exact endH_r (by omega)) ?_
              refine p_putI (pc := 123) (jI := 8) (n9 := nb) fl_X6_174 (Or.inl rfl) (Or.inl rfl) dX6_handIn_123 rfl rfl (by omega) (by omega) ?_
              refine r_aload_n (pc := 126) dX6_handIn_126 rfl ?_
              refine r_iload_n (pc := 127) dX6_handIn_127 rfl ?_
              refine p_putI (pc := 128) (jI := 9) (n9 := nb) fl_X6_177 (Or.inl rfl) (Or.inl rfl) dX6_handIn_128 rfl rfl (by omega) (by omega) ?_
              refine r_iload (pc := 131) dX6_handIn_131 rfl ?_
              refine r_iconst (pc := 133) (n := 1) dX6_handIn_133 (by decide) ?_
              refine r_isub (pc := 134) dX6_handIn_134 (by have := hI.quo _ _ (hI.less (by omega) (by omega) c21).1 (hI.less (by omega) (by omega) c21).2 c50.1 c50.2; have := hanI_r (hi := hi) (nb := nb) (l := hi 1 b 1) (p := plcC hi b (hi 6 0 8)) (M := hi 6 0 8 / 30) (by omega); unfold lefC; omega) ?_
              refine r_iret (pc := 135) dX6_handIn_135 (Or.inl rfl) (Nat.le_of_ble_eq_true rfl) (Nat.le_of_ble_eq_true rfl) ?_
              exact hQ (by have := bI_t c21; unfold cC_handIn; (repeat' split) <;> omega)
            · refine r_throw (pc := 97) (text := "the quota is used up") rfl th_X6_81 (by decide) dX6_handIn_97 dX6_handIn_100 dX6_handIn_101 dX6_handIn_103 dX6_handIn_106 ⟨(Nat.le_of_ble_eq_true rfl), (Nat.le_of_ble_eq_true rfl), (Nat.le_of_ble_eq_true rfl), (Nat.le_of_ble_eq_true rfl)⟩ (hXc (by have := bI_t c21; unfold cC_handIn; (repeat' split) <;> omega))
          · refine r_throw (pc := 71) (text := "the box is given to a booking") rfl th_X6_81 (by decide) dX6_handIn_71 dX6_handIn_74 dX6_handIn_75 dX6_handIn_77 dX6_handIn_80 ⟨(Nat.le_of_ble_eq_true rfl), (Nat.le_of_ble_eq_true rfl), (Nat.le_of_ble_eq_true rfl), (Nat.le_of_ble_eq_true rfl)⟩ (hXc (by have := bI_t c21; unfold cC_handIn; (repeat' split) <;> omega))
        · refine r_throw (pc := 53) (text := "the box is at no port") rfl th_X6_81 (by decide) dX6_handIn_53 dX6_handIn_56 dX6_handIn_57 dX6_handIn_59 dX6_handIn_62 ⟨(Nat.le_of_ble_eq_true rfl), (Nat.le_of_ble_eq_true rfl), (Nat.le_of_ble_eq_true rfl), (Nat.le_of_ble_eq_true rfl)⟩ (hXc (by have := bI_t c21; unfold cC_handIn; (repeat' split) <;> omega))
      · refine r_throw (pc := 24) (text := "the box is not on lease today") rfl th_X6_81 (by decide) dX6_handIn_24 dX6_handIn_27 dX6_handIn_28 dX6_handIn_30 dX6_handIn_33 ⟨(Nat.le_of_ble_eq_true rfl), (Nat.le_of_ble_eq_true rfl), (Nat.le_of_ble_eq_true rfl), (Nat.le_of_ble_eq_true rfl)⟩ (hXc (by have := bI_f c21; unfold cC_handIn; (repeat' split) <;> omega))
    · exact rx_out rfl (hXc (by unfold cC_handIn; (repeat' split) <;> omega)) (Nat.le_of_ble_eq_true rfl) (Nat.le_of_ble_eq_true rfl)
  · exact rx_out rfl (hXa (by unfold cC_handIn; (repeat' split) <;> omega)) (Nat.le_of_ble_eq_true rfl) (Nat.le_of_ble_eq_true rfl)

def damH (hi : Hi) (b co si : Int) : Hi := up1 (up1 (up1 hi 28 b (hi 2 b 2) co) 29 b (hi 2 b 2) si) 2 b 2 (hi 2 b 2 + 1)
theorem KI_damage {hi : Hi} {nb nk : Int} (hI : Inv hi nb nk) {b co si : Int} (h0 : 0 ≤ b) (h1 : b < nb) (ht : hi 2 b 2 < 12) (hs : 1 ≤ si ∧ si ≤ 20) : Det I_X2_mendCost [aR 2 b, aR 12 0] (hp (damH hi b co si) nb nk) (some (aI (menC (damH hi b co si) b))) (hp (damH hi b co si) nb nk) := by
  have a1 := hI.dam b h0 h1
  have e : damH hi b co si 2 b 2 = hi 2 b 2 + 1 := up1_s
  refine K_X2_mendCost h0 h1 (by rw [e]; omega) (fun k a c => ?_)
  rw [e] at c
  by_cases q : k = hi 2 b 2
  · rw [q]; simp [damH, up1]; exact hs
  · have := a1.2 k a (by omega)
    simp [damH, up1, q]; omega
def cC_damage (hi : Hi) (nb b co si : Int) : Int := if ¬ (0 ≤ b ∧ b < nb ∧ 0 ≤ co ∧ co < 5) then 1 else if ¬ (1 ≤ si ∧ si ≤ 20) then 2 else if hi 1 b 8 ≠ -1 ∨ 12 ≤ hi 2 b 2 then 3 else 0
theorem K_X6_damage {hi : Hi} {nb nk : Int} (hI : Inv hi nb nk) {b co si : Int}  : Op I_X6_damage [aR 6 0, aI b, aI co, aI si] (hp hi nb nk) (cC_damage hi nb b co si) (some (aI (menC (damH hi b co si) b))) (hp (damH hi b co si) nb nk) 1 2 3 := by
  have hN := hI.num
  have hD := hI.day
  unfold vNum at hN
  unfold vDay at hD
  refine st_o (xs := [some (aR 6 0), some (aI b), some (aI co), some (aI si), none]) pn_X6 rfl rfl (Nat.le_of_ble_eq_true rfl) rfl rfl (fun Q X hQ hXa hXb hXc => ?_)
  refine r_aload_n (pc := 0) dX6_damage_0 rfl ?_
  refine r_iload_n (pc := 1) dX6_damage_1 rfl ?_
  refine n1_V (pc := 2) (t := 6) (i := 0) (rest := []) (cs' := 1) (sl' := 6) mv_X6_84 (K_X6_boxAt (b := b) (by omega)) rfl ⟨(Nat.le_of_ble_eq_true rfl), (Nat.le_of_ble_eq_true rfl)⟩ (Nat.le_of_ble_eq_true rfl) dX6_damage_2 (show (0 : Int) ≤ 0 by omega) (show 0 < 1 by omega) ⟨rfl, (Nat.le_of_ble_eq_true rfl)⟩ ⟨rfl, (Nat.le_of_ble_eq_true rfl)⟩ rfl (fun c2 => ?_) (fun c2 => ?_)
  · refine r_astore (pc := 5) (xs' := [some (aR 6 0), some (aI b), some (aI co), some (aI si), some (aR 1 b)]) dX6_damage_5 (by decide) rfl ?_
    refine r_iload_n (pc := 7) dX6_damage_7 rfl ?_
    refine n0_S (pc := 8) (rest := []) (cs' := 2) (sl' := 12) ms_X6_180 rfl (K_X6_needCode (p := co)) rfl ⟨(Nat.le_of_ble_eq_true rfl), (Nat.le_of_ble_eq_true rfl)⟩ (Nat.le_of_ble_eq_true rfl) dX6_damage_8 ⟨rfl, (Nat.le_of_ble_eq_true rfl)⟩ ⟨rfl, (Nat.le_of_ble_eq_true rfl)⟩ rfl (fun c8 => ?_) (fun c8 => ?_)
    · refine r_iload_n (pc := 11) dX6_damage_11 rfl ?_
      refine r_iconst (pc := 12) (n := 1) dX6_damage_12 (by decide) ?_
      refine r_bipush (pc := 13) (n := 20) dX6_damage_13 rfl (by decide) ?_
      refine n0_S (pc := 15) (rest := []) (cs' := 3) (sl' := 18) ms_X6_67 rfl (K_X6_needRange (v := si) (lo := 1) (up := 20)) rfl ⟨(Nat.le_of_ble_eq_true rfl), (Nat.le_of_ble_eq_true rfl)⟩ (Nat.le_of_ble_eq_true rfl) dX6_damage_15 ⟨rfl, (Nat.le_of_ble_eq_true rfl)⟩ ⟨rfl, (Nat.le_of_ble_eq_true rfl)⟩ rfl (fun c15 => ?_) (fun c15 => ?_)
      · refine r_aload (pc := 18) dX6_damage_18 rfl ?_
        refine n0_S (pc := 20) (rest := []) (cs' := 4) (sl' := 24) ms_X6_88 rfl (K_X6_needNotGone (b := b) (by omega) (by omega)) rfl ⟨(Nat.le_of_ble_eq_true rfl), (Nat.le_of_ble_eq_true rfl)⟩ (Nat.le_of_ble_eq_true rfl) dX6_damage_20 ⟨rfl, (Nat.le_of_ble_eq_true rfl)⟩ ⟨rfl, (Nat.le_of_ble_eq_true rfl)⟩ rfl (fun c20 => ?_) (fun c20 => ?_)
        · refine r_aload (pc := 23) dX6_damage_23 rfl ?_
          refine p_getQ (pc := 25) (jI := 4) (n9 := nb) (r := some (2, b)) fl_X6_183 rfl dX6_damage_25 rfl rfl (by omega) (by omega) rfl ?_
          refine d1_V (pc := 28) (t := 2) (i := b) (rest := []) (cs' := 4) (sl' := 24) mv_X6_187 (K_X2_isFull (b := b) (by omega) (by omega)) rfl ⟨(Nat.le_of_ble_eq_true rfl), (Nat.le_of_ble_eq_true rfl)⟩ (Nat.le_of_ble_eq_true rfl) dX6_damage_28 (show (0 : Int) ≤ b by omega) (show b < nb by omega) ⟨rfl, (Nat.le_of_ble_eq_true rfl)⟩ ⟨rfl, (Nat.le_of_ble_eq_true rfl)⟩ rfl ?_
          refine q_ifeqB (pc := 31) (tgt := 44) dX6_damage_31 rfl (fun c31 => ?_) (fun c31 => ?_)
          · refine r_aload (pc := 44) dX6_damage_44 rfl ?_
            refine p_getQ (pc := 46) (jI := 4) (n9 := nb) (r := some (2, b)) fl_X6_183 rfl dX6_damage_46 rfl rfl (by omega) (by omega) rfl ?_
            refine r_iload_n (pc := 49) dX6_damage_49 rfl ?_
            refine r_iload_n (pc := 50) dX6_damage_50 rfl ?_
            refine d0_V (pc := 51) (t := 2) (i := b) (rest := []) (cs' := 4) (sl' := 24) mv_X6_192 (K_X2_tell (b := b) (by omega) (by omega) (by have := (hI.dam b (by omega) (by omega)).1; omega)) rfl ⟨(Nat.le_of_ble_eq_true rfl), (Nat.le_of_ble_eq_true rfl)⟩ (Nat.le_of_ble_eq_true rfl) dX6_damage_51 (show (0 : Int) ≤ b by omega) (show b < nb by omega) ⟨rfl, (Nat.le_of_ble_eq_true rfl)⟩ ⟨rfl, (Nat.le_of_ble_eq_true rfl)⟩ rfl ?_
            refine r_aload (pc := 54) dX6_damage_54 rfl ?_
            refine p_getQ (pc := 56) (jI := 4) (n9 := nb) (r := some (2, b)) fl_X6_183 rfl dX6_damage_56 rfl rfl (by omega) (by omega) rfl ?_
            refine r_aload_n (pc := 59) dX6_damage_59 rfl ?_
            refine p_getQ (pc := 60) (jI := 2) (n9 := 1) (r := some (12, 0)) fl_X6_17 rfl dX6_damage_60 rfl rfl (by decide) (by decide) rfl ?_
            refine d1_V (pc := 63) (t := 2) (i := b) (rest := []) (cs' := 4) (sl' := 24) mv_X6_193 (KI_damage hI (b := b) (by omega) (by omega) (by omega) (by omega)) rfl ⟨(Nat.le_of_ble_eq_true rfl), (Nat.le_of_ble_eq_true rfl)⟩ (Nat.le_of_ble_eq_true rfl) dX6_damage_63 (show (0 : Int) ≤ b by omega) (show b < nb by omega) ⟨rfl, (Nat.le_of_ble_eq_true rfl)⟩ ⟨rfl, (Nat.le_of_ble_eq_true rfl)⟩ rfl ?_
            refine r_iret (pc := 66) dX6_damage_66 (Or.inl rfl) (Nat.le_of_ble_eq_true rfl) (Nat.le_of_ble_eq_true rfl) ?_
            exact hQ (by unfold cC_damage; (repeat' split) <;> omega)
          · refine r_throw (pc := 34) (text := "the box has 12 damages") rfl th_X6_81 (by decide) dX6_damage_34 dX6_damage_37 dX6_damage_38 dX6_damage_40 dX6_damage_43 ⟨(Nat.le_of_ble_eq_true rfl), (Nat.le_of_ble_eq_true rfl), (Nat.le_of_ble_eq_true rfl), (Nat.le_of_ble_eq_true rfl)⟩ (hXc (by unfold cC_damage; (repeat' split) <;> omega))
        · exact rx_out rfl (hXc (by unfold cC_damage; (repeat' split) <;> omega)) (Nat.le_of_ble_eq_true rfl) (Nat.le_of_ble_eq_true rfl)
      · exact rx_out rfl (hXb (by unfold cC_damage; (repeat' split) <;> omega)) (Nat.le_of_ble_eq_true rfl) (Nat.le_of_ble_eq_true rfl)
    · exact rx_out rfl (hXa (by unfold cC_damage; (repeat' split) <;> omega)) (Nat.le_of_ble_eq_true rfl) (Nat.le_of_ble_eq_true rfl)
  · exact rx_out rfl (hXa (by unfold cC_damage; (repeat' split) <;> omega)) (Nat.le_of_ble_eq_true rfl) (Nat.le_of_ble_eq_true rfl)

def cC_mend (hi : Hi) (nb b : Int) : Int := if ¬ (0 ≤ b ∧ b < nb) then 1 else if hi 1 b 8 ≠ -1 ∨ menC hi b = 0 ∨ hi 6 0 10 < menC hi b then 2 else 0
theorem K_X6_mend {hi : Hi} {nb nk : Int} (hI : Inv hi nb nk) {b : Int}  : Op I_X6_mend [aR 6 0, aI b] (hp hi nb nk) (cC_mend hi nb b) (some (aI (menC hi b))) (hp (up1 hi 2 b 2 0) nb nk) 1 99 2 := by
  have hN := hI.num
  have hD := hI.day
  unfold vNum at hN
  unfold vDay at hD
  refine st_o (xs := [some (aR 6 0), some (aI b), none, none]) pn_X6 rfl rfl (Nat.le_of_ble_eq_true rfl) rfl rfl (fun Q X hQ hXa hXb hXc => ?_)
  refine r_aload_n (pc := 0) dX6_mend_0 rfl ?_
  refine r_iload_n (pc := 1) dX6_mend_1 rfl ?_
  refine n1_V (pc := 2) (t := 6) (i := 0) (rest := []) (cs' := 1) (sl' := 6) mv_X6_84 (K_X6_boxAt (b := b) (by omega)) rfl ⟨(Nat.le_of_ble_eq_true rfl), (Nat.le_of_ble_eq_true rfl)⟩ (Nat.le_of_ble_eq_true rfl) dX6_mend_2 (show (0 : Int) ≤ 0 by omega) (show 0 < 1 by omega) ⟨rfl, (Nat.le_of_ble_eq_true rfl)⟩ ⟨rfl, (Nat.le_of_ble_eq_true rfl)⟩ rfl (fun c2 => ?_) (fun c2 => ?_)
  · refine r_astore_n (pc := 5) (xs' := [some (aR 6 0), some (aI b), some (aR 1 b), none]) dX6_mend_5 (by decide) rfl ?_
    refine r_aload_n (pc := 6) dX6_mend_6 rfl ?_
    refine n0_S (pc := 7) (rest := []) (cs' := 2) (sl' := 12) ms_X6_88 rfl (K_X6_needNotGone (b := b) (by omega) (by omega)) rfl ⟨(Nat.le_of_ble_eq_true rfl), (Nat.le_of_ble_eq_true rfl)⟩ (Nat.le_of_ble_eq_true rfl) dX6_mend_7 ⟨rfl, (Nat.le_of_ble_eq_true rfl)⟩ ⟨rfl, (Nat.le_of_ble_eq_true rfl)⟩ rfl (fun c7 => ?_) (fun c7 => ?_)
    · refine r_aload_n (pc := 10) dX6_mend_10 rfl ?_
      refine p_getQ (pc := 11) (jI := 4) (n9 := nb) (r := some (2, b)) fl_X6_183 rfl dX6_mend_11 rfl rfl (by omega) (by omega) rfl ?_
      refine r_aload_n (pc := 14) dX6_mend_14 rfl ?_
      refine p_getQ (pc := 15) (jI := 2) (n9 := 1) (r := some (12, 0)) fl_X6_17 rfl dX6_mend_15 rfl rfl (by decide) (by decide) rfl ?_
      refine d1_V (pc := 18) (t := 2) (i := b) (rest := []) (cs' := 2) (sl' := 12) mv_X6_193 (KI_mendCost hI (b := b) (by omega) (by omega)) rfl ⟨(Nat.le_of_ble_eq_true rfl), (Nat.le_of_ble_eq_true rfl)⟩ (Nat.le_of_ble_eq_true rfl) dX6_mend_18 (show (0 : Int) ≤ b by omega) (show b < nb by omega) ⟨rfl, (Nat.le_of_ble_eq_true rfl)⟩ ⟨rfl, (Nat.le_of_ble_eq_true rfl)⟩ rfl ?_
      refine r_istore_n (pc := 21) (xs' := [some (aR 6 0), some (aI b), some (aR 1 b), some (aI (menC hi b))]) dX6_mend_21 (by decide) rfl ?_
      refine r_iload_n (pc := 22) dX6_mend_22 rfl ?_
      refine r_if_ne (pc := 23) (tgt := 36) dX6_mend_23 rfl (fun c23 => ?_) (fun c23 => ?_)
      · refine r_iload_n (pc := 36) dX6_mend_36 rfl ?_
        refine r_aload_n (pc := 37) dX6_mend_37 rfl ?_
        refine q_getI (pc := 38) (jI := 10) (n9 := 1) (v := hi 6 0 10) fl_X6_53 rfl dX6_mend_38 rfl rfl (by decide) (by decide) rfl ?_
        refine r_icmp_le (pc := 41) (tgt := 54) dX6_mend_41 rfl (fun c41 => ?_) (fun c41 => ?_)
        · refine r_aload_n (pc := 54) dX6_mend_54 rfl ?_
          refine p_getQ (pc := 55) (jI := 4) (n9 := nb) (r := some (2, b)) fl_X6_183 rfl dX6_mend_55 rfl rfl (by omega) (by omega) rfl ?_
          refine d0_V (pc := 58) (t := 2) (i := b) (rest := []) (cs' := 2) (sl' := 12) mv_X6_201 (K_X2_clear (b := b) (by omega) (by omega)) rfl ⟨(Nat.le_of_ble_eq_true rfl), (Nat.le_of_ble_eq_true rfl)⟩ (Nat.le_of_ble_eq_true rfl) dX6_mend_58 (show (0 : Int) ≤ b by omega) (show b < nb by omega) ⟨rfl, (Nat.le_of_ble_eq_true rfl)⟩ ⟨rfl, (Nat.le_of_ble_eq_true rfl)⟩ rfl ?_
          refine r_iload_n (pc := 61) dX6_mend_61 rfl ?_
          refine r_iret (pc := 62) dX6_mend_62 (Or.inl rfl) (Nat.le_of_ble_eq_true rfl) (Nat.le_of_ble_eq_true rfl) ?_
          exact hQ (by unfold cC_mend; (repeat' split) <;> omega)
        · refine r_throw (pc := 44) (text := "mending costs more than the limit") rfl th_X6_81 (by decide) dX6_mend_44 dX6_mend_47 dX6_mend_48 dX6_mend_50 dX6_mend_53 ⟨(Nat.le_of_ble_eq_true rfl), (Nat.le_of_ble_eq_true rfl), (Nat.le_of_ble_eq_true rfl), (Nat.le_of_ble_eq_true rfl)⟩ (hXc (by unfold cC_mend; (repeat' split) <;> omega))
      · refine r_throw (pc := 26) (text := "the box has no damage that counts") rfl th_X6_81 (by decide) dX6_mend_26 dX6_mend_29 dX6_mend_30 dX6_mend_32 dX6_mend_35 ⟨(Nat.le_of_ble_eq_true rfl), (Nat.le_of_ble_eq_true rfl), (Nat.le_of_ble_eq_true rfl), (Nat.le_of_ble_eq_true rfl)⟩ (hXc (by unfold cC_mend; (repeat' split) <;> omega))
    · exact rx_out rfl (hXc (by unfold cC_mend; (repeat' split) <;> omega)) (Nat.le_of_ble_eq_true rfl) (Nat.le_of_ble_eq_true rfl)
  · exact rx_out rfl (hXa (by unfold cC_mend; (repeat' split) <;> omega)) (Nat.le_of_ble_eq_true rfl) (Nat.le_of_ble_eq_true rfl)

def cC_lacks (nk k : Int) : Int := if ¬ (0 ≤ k ∧ k < nk) then 1 else 0
theorem K_X6_lacks {hi : Hi} {nb nk : Int} (hI : Inv hi nb nk) {k : Int}  : Op I_X6_lacks [aR 6 0, aI k] (hp hi nb nk) (cC_lacks nk k) (some (aI (lacC hi k))) (hp hi nb nk) 1 99 99 := by
  have hN := hI.num
  have hD := hI.day
  unfold vNum at hN
  unfold vDay at hD
  refine st_o (xs := [some (aR 6 0), some (aI k)]) pn_X6 rfl rfl (Nat.le_of_ble_eq_true rfl) rfl rfl (fun Q X hQ hXa hXb hXc => ?_)
  refine r_aload_n (pc := 0) dX6_lacks_0 rfl ?_
  refine r_iload_n (pc := 1) dX6_lacks_1 rfl ?_
  refine n1_V (pc := 2) (t := 6) (i := 0) (rest := []) (cs' := 1) (sl' := 6) mv_X6_212 (K_X6_bookingAt (b := k) (by omega)) rfl ⟨(Nat.le_of_ble_eq_true rfl), (Nat.le_of_ble_eq_true rfl)⟩ (Nat.le_of_ble_eq_true rfl) dX6_lacks_2 (show (0 : Int) ≤ 0 by omega) (show 0 < 1 by omega) ⟨rfl, (Nat.le_of_ble_eq_true rfl)⟩ ⟨rfl, (Nat.le_of_ble_eq_true rfl)⟩ rfl (fun c2 => ?_) (fun c2 => ?_)
  · refine d1_V (pc := 5) (t := 0) (i := k) (rest := []) (cs' := 1) (sl' := 6) mv_X6_247 (KI_lacking hI (b := k) (by omega) (by omega)) rfl ⟨(Nat.le_of_ble_eq_true rfl), (Nat.le_of_ble_eq_true rfl)⟩ (Nat.le_of_ble_eq_true rfl) dX6_lacks_5 (show (0 : Int) ≤ k by omega) (show k < nk by omega) ⟨rfl, (Nat.le_of_ble_eq_true rfl)⟩ ⟨rfl, (Nat.le_of_ble_eq_true rfl)⟩ rfl ?_
    refine r_iret (pc := 8) dX6_lacks_8 (Or.inl rfl) (Nat.le_of_ble_eq_true rfl) (Nat.le_of_ble_eq_true rfl) ?_
    exact hQ (by unfold cC_lacks; (repeat' split) <;> omega)
  · exact rx_out rfl (hXa (by unfold cC_lacks; (repeat' split) <;> omega)) (Nat.le_of_ble_eq_true rfl) (Nat.le_of_ble_eq_true rfl)

def cC_pass (hi : Hi) (d : Int) : Int := if ¬ (1 ≤ d ∧ d ≤ 400) then 1 else if 9999 < hi 6 0 8 + d then 2 else 0
theorem K_X6_pass {hi : Hi} {nb nk : Int} (hI : Inv hi nb nk) {d : Int}  : Op I_X6_pass [aR 6 0, aI d] (hp hi nb nk) (cC_pass hi d) (some (aI (hi 6 0 8 + d))) (hp (up1 hi 6 0 8 (hi 6 0 8 + d)) nb nk) 99 1 2 := by
  have hN := hI.num
  have hD := hI.day
  unfold vNum at hN
  unfold vDay at hD
  refine st_o (xs := [some (aR 6 0), some (aI d)]) pn_X6 rfl rfl (Nat.le_of_ble_eq_true rfl) rfl rfl (fun Q X hQ hXa hXb hXc => ?_)
  refine r_iload_n (pc := 0) dX6_pass_0 rfl ?_
  refine r_iconst (pc := 1) (n := 1) dX6_pass_1 (by decide) ?_
  refine r_sipush (pc := 2) (n := 400) dX6_pass_2 rfl (by decide) ?_
  refine n0_S (pc := 5) (rest := []) (cs' := 1) (sl' := 6) ms_X6_67 rfl (K_X6_needRange (v := d) (lo := 1) (up := 400)) rfl ⟨(Nat.le_of_ble_eq_true rfl), (Nat.le_of_ble_eq_true rfl)⟩ (Nat.le_of_ble_eq_true rfl) dX6_pass_5 ⟨rfl, (Nat.le_of_ble_eq_true rfl)⟩ ⟨rfl, (Nat.le_of_ble_eq_true rfl)⟩ rfl (fun c5 => ?_) (fun c5 => ?_)
  · refine r_aload_n (pc := 8) dX6_pass_8 rfl ?_
    refine q_getI (pc := 9) (jI := 8) (n9 := 1) (v := hi 6 0 8) fl_X6_47 rfl dX6_pass_9 rfl rfl (by decide) (by decide) rfl ?_
    refine r_iload_n (pc := 12) dX6_pass_12 rfl ?_
    refine r_iadd (pc := 13) dX6_pass_13 (by omega) ?_
    refine r_sipush (pc := 14) (n := 9999) dX6_pass_14 rfl (by decide) ?_
    refine r_icmp_le (pc := 17) (tgt := 30) dX6_pass_17 rfl (fun c17 => ?_) (fun c17 => ?_)
    · refine r_aload_n (pc := 30) dX6_pass_30 rfl ?_
      refine r_dup (pc := 31) dX6_pass_31 (fun _ => rfl) ?_
      refine q_getI (pc := 32) (jI := 8) (n9 := 1) (v := hi 6 0 8) fl_X6_47 rfl dX6_pass_32 rfl rfl (by decide) (by decide) rfl ?_
      refine r_iload_n (pc := 35) dX6_pass_35 rfl ?_
      refine r_iadd (pc := 36) dX6_pass_36 (by omega) ?_
      refine p_putI (pc := 37) (jI := 8) (n9 := 1) fl_X6_47 (Or.inl rfl) (Or.inl rfl) dX6_pass_37 rfl rfl (by decide) (by decide) ?_
      refine r_aload_n (pc := 40) dX6_pass_40 rfl ?_
      refine q_getI (pc := 41) (jI := 8) (n9 := 1) (v := (hi 6 0 8) + d) fl_X6_47 rfl dX6_pass_41 rfl rfl (by decide) (by decide) (by simp [up1]) ?_
      refine r_iret (pc := 44) dX6_pass_44 (Or.inl rfl) (Nat.le_of_ble_eq_true rfl) (Nat.le_of_ble_eq_true rfl) ?_
      exact hQ (by unfold cC_pass; (repeat' split) <;> omega)
    · refine r_throw (pc := 20) (text := "the day would be above 9999") rfl th_X6_81 (by decide) dX6_pass_20 dX6_pass_23 dX6_pass_24 dX6_pass_26 dX6_pass_29 ⟨(Nat.le_of_ble_eq_true rfl), (Nat.le_of_ble_eq_true rfl), (Nat.le_of_ble_eq_true rfl), (Nat.le_of_ble_eq_true rfl)⟩ (hXc (by unfold cC_pass; (repeat' split) <;> omega))
  · exact rx_out rfl (hXb (by unfold cC_pass; (repeat' split) <;> omega)) (Nat.le_of_ble_eq_true rfl) (Nat.le_of_ble_eq_true rfl)

noncomputable def isC (hi : Hi) (b w : Int) : Int := if w = 0 then hi 1 b 0 else if w = 1 then hi 1 b 1 else if w = 2 then bI (hi 1 b 8 ≠ -1) else if w = 3 then hi 1 b 6 else if w = 4 then hi 1 b 7 else if w = 5 then menC hi b else if w = 6 then hi 4 b 5 else bI (holC hi b (hi 6 0 8))
def cC_boxIs (nb b w : Int) : Int := if ¬ (0 ≤ b ∧ b < nb) then 1 else if ¬ (0 ≤ w ∧ w ≤ 7) then 2 else 0
theorem K_X6_boxIs {hi : Hi} {nb nk : Int} (hI : Inv hi nb nk) {b w : Int}  : Op I_X6_boxIs [aR 6 0, aI b, aI w] (hp hi nb nk) (cC_boxIs nb b w) (some (aI (isC hi b w))) (hp hi nb nk) 1 2 99 := by
  have hN := hI.num
  have hD := hI.day
  unfold vNum at hN
  unfold vDay at hD
  refine st_o (xs := [some (aR 6 0), some (aI b), some (aI w), none]) pn_X6 rfl rfl (Nat.le_of_ble_eq_true rfl) rfl rfl (fun Q X hQ hXa hXb hXc => ?_)
  refine r_aload_n (pc := 0) dX6_boxIs_0 rfl ?_
  refine r_iload_n (pc := 1) dX6_boxIs_1 rfl ?_
  refine n1_V (pc := 2) (t := 6) (i := 0) (rest := []) (cs' := 1) (sl' := 6) mv_X6_84 (K_X6_boxAt (b := b) (by omega)) rfl ⟨(Nat.le_of_ble_eq_true rfl), (Nat.le_of_ble_eq_true rfl)⟩ (Nat.le_of_ble_eq_true rfl) dX6_boxIs_2 (show (0 : Int) ≤ 0 by omega) (show 0 < 1 by omega) ⟨rfl, (Nat.le_of_ble_eq_true rfl)⟩ ⟨rfl, (Nat.le_of_ble_eq_true rfl)⟩ rfl (fun c2 => ?_) (fun c2 => ?_)
  · refine r_astore_n (pc := 5) (xs' := [some (aR 6 0), some (aI b), some (aI w), some (aR 1 b)]) dX6_boxIs_5 (by decide) rfl ?_
    refine r_iload_n (pc := 6) dX6_boxIs_6 rfl ?_
    rcases (show w = 0 ∨ w = 1 ∨ w = 2 ∨ w = 3 ∨ w = 4 ∨ w = 5 ∨ w = 6 ∨ w = 7 ∨ (w ≠ 0 ∧ w ≠ 1 ∧ w ≠ 2 ∧ w ≠ 3 ∧ w ≠ 4 ∧ w ≠ 5 ∧ w ≠ 6 ∧ w ≠ 7) by omega) with c7 | c7 | c7 | c7 | c7 | c7 | c7 | c7 | c7
    · refine r_tableIn (pc := 7) (tgt := 52) dX6_boxIs_7 (by omega) (by omega) (by rw [c7]; try rfl) rfl ?_
      refine r_aload_n (pc := 52) dX6_boxIs_52 rfl ?_
      refine q_getI (pc := 53) (jI := 0) (n9 := nb) (v := hi 1 b 0) fl_X6_125 rfl dX6_boxIs_53 rfl rfl (by omega) (by omega) rfl ?_
      refine r_iret (pc := 56) dX6_boxIs_56 (Or.inl rfl) (Nat.le_of_ble_eq_true rfl) (Nat.le_of_ble_eq_true rfl) ?_
      exact qI (hQ (by unfold cC_boxIs; (repeat' split) <;> omega)) (by rw [c7]; rfl) rfl
    · refine r_tableIn (pc := 7) (tgt := 57) dX6_boxIs_7 (by omega) (by omega) (by rw [c7]; try rfl) rfl ?_
      refine r_aload_n (pc := 57) dX6_boxIs_57 rfl ?_
      refine q_getI (pc := 58) (jI := 1) (n9 := nb) (v := hi 1 b 1) fl_X6_136 rfl dX6_boxIs_58 rfl rfl (by omega) (by omega) rfl ?_
      refine r_iret (pc := 61) dX6_boxIs_61 (Or.inl rfl) (Nat.le_of_ble_eq_true rfl) (Nat.le_of_ble_eq_true rfl) ?_
      exact qI (hQ (by unfold cC_boxIs; (repeat' split) <;> omega)) (by rw [c7]; rfl) rfl
    · refine r_tableIn (pc := 7) (tgt := 62) dX6_boxIs_7 (by omega) (by omega) (by rw [c7]; try rfl) rfl ?_
      refine r_aload_n (pc := 62) dX6_boxIs_62 rfl ?_
      refine d1_V (pc := 63) (t := 1) (i := b) (rest := []) (cs' := 1) (sl' := 6) mv_X6_238 (K_X1_isGone (b := b) (by omega) (by omega)) rfl ⟨(Nat.le_of_ble_eq_true rfl), (Nat.le_of_ble_eq_true rfl)⟩ (Nat.le_of_ble_eq_true rfl) dX6_boxIs_63 (show (0 : Int) ≤ b by omega) (show b < nb by omega) ⟨rfl, (Nat.le_of_ble_eq_true rfl)⟩ ⟨rfl, (Nat.le_of_ble_eq_true rfl)⟩ rfl ?_
      refine d1_S (pc := 66) (rest := []) (cs' := 1) (sl' := 6) ms_X6_241 rfl (K_X6_asNumber (P := hi 1 b 8 ≠ -1)) rfl ⟨(Nat.le_of_ble_eq_true rfl), (Nat.le_of_ble_eq_true rfl)⟩ (Nat.le_of_ble_eq_true rfl) dX6_boxIs_66 ⟨rfl, (Nat.le_of_ble_eq_true rfl)⟩ ⟨rfl, (Nat.le_of_ble_eq_true rfl)⟩ rfl ?_
      refine r_iret (pc := 69) dX6_boxIs_69 (Or.inl rfl) (Nat.le_of_ble_eq_true rfl) (Nat.le_of_ble_eq_true rfl) ?_
      exact qI (hQ (by unfold cC_boxIs; (repeat' split) <;> omega)) (by rw [c7]; rfl) rfl
    · refine r_tableIn (pc := 7) (tgt := 70) dX6_boxIs_7 (by omega) (by omega) (by rw [c7]; try rfl) rfl ?_
      refine r_aload_n (pc := 70) dX6_boxIs_70 rfl ?_
      refine q_getI (pc := 71) (jI := 6) (n9 := nb) (v := hi 1 b 6) fl_X6_92 rfl dX6_boxIs_71 rfl rfl (by omega) (by omega) rfl ?_
      refine d1_S (pc := 74) (rest := []) (cs' := 1) (sl' := 6) ms_X6_241 rfl (KI_asN (x := hi 1 b 6) (by have := hI.box b (by omega) (by omega); omega)) rfl ⟨(Nat.le_of_ble_eq_true rfl), (Nat.le_of_ble_eq_true rfl)⟩ (Nat.le_of_ble_eq_true rfl) dX6_boxIs_74 ⟨rfl, (Nat.le_of_ble_eq_true rfl)⟩ ⟨rfl, (Nat.le_of_ble_eq_true rfl)⟩ rfl ?_
      refine r_iret (pc := 77) dX6_boxIs_77 (Or.inl rfl) (Nat.le_of_ble_eq_true rfl) (Nat.le_of_ble_eq_true rfl) ?_
      exact qI (hQ (by unfold cC_boxIs; (repeat' split) <;> omega)) (by rw [c7]; rfl) rfl
    · refine r_tableIn (pc := 7) (tgt := 78) dX6_boxIs_7 (by omega) (by omega) (by rw [c7]; try rfl) rfl ?_
      refine r_aload_n (pc := 78) dX6_boxIs_78 rfl ?_
      refine q_getI (pc := 79) (jI := 7) (n9 := nb) (v := hi 1 b 7) fl_X6_160 rfl dX6_boxIs_79 rfl rfl (by omega) (by omega) rfl ?_
      refine r_iret (pc := 82) dX6_boxIs_82 (Or.inl rfl) (Nat.le_of_ble_eq_true rfl) (Nat.le_of_ble_eq_true rfl) ?_
      exact qI (hQ (by unfold cC_boxIs; (repeat' split) <;> omega)) (by rw [c7]; rfl) rfl
    · refine r_tableIn (pc := 7) (tgt := 83) dX6_boxIs_7 (by omega) (by omega) (by rw [c7]; try rfl) rfl ?_
      refine r_aload_n (pc := 83) dX6_boxIs_83 rfl ?_
      refine p_getQ (pc := 84) (jI := 4) (n9 := nb) (r := some (2, b)) fl_X6_183 rfl dX6_boxIs_84 rfl rfl (by omega) (by omega) rfl ?_
      refine r_aload_n (pc := 87) dX6_boxIs_87 rfl ?_
      refine p_getQ (pc := 88) (jI := 2) (n9 := 1) (r := some (12, 0)) fl_X6_17 rfl dX6_boxIs_88 rfl rfl (by decide) (by decide) rfl ?_
      refine d1_V (pc := 91) (t := 2) (i := b) (rest := []) (cs' := 1) (sl' := 6) mv_X6_193 (KI_mendCost hI (b := b) (by omega) (by omega)) rfl ⟨(Nat.le_of_ble_eq_true rfl), (Nat.le_of_ble_eq_true rfl)⟩ (Nat.le_of_ble_eq_true rfl) dX6_boxIs_91 (show (0 : Int) ≤ b by omega) (show b < nb by omega) ⟨rfl, (Nat.le_of_ble_eq_true rfl)⟩ ⟨rfl, (Nat.le_of_ble_eq_true rfl)⟩ rfl ?_
      refine r_iret (pc := 94) dX6_boxIs_94 (Or.inl rfl) (Nat.le_of_ble_eq_true rfl) (Nat.le_of_ble_eq_true rfl) ?_
      exact qI (hQ (by unfold cC_boxIs; (repeat' split) <;> omega)) (by rw [c7]; rfl) rfl
    · refine r_tableIn (pc := 7) (tgt := 95) dX6_boxIs_7 (by omega) (by omega) (by rw [c7]; try rfl) rfl ?_
      refine r_aload_n (pc := 95) dX6_boxIs_95 rfl ?_
      refine p_getQ (pc := 96) (jI := 2) (n9 := nb) (r := some (4, b)) fl_X6_99 rfl dX6_boxIs_96 rfl rfl (by omega) (by omega) rfl ?_
      refine q_getI (pc := 99) (jI := 5) (n9 := nb) (v := hi 4 b 5) fl_X6_118 rfl dX6_boxIs_99 rfl rfl (by omega) (by omega) rfl ?_
      refine r_iret (pc := 102) dX6_boxIs_102 (Or.inl rfl) (Nat.le_of_ble_eq_true rfl) (Nat.le_of_ble_eq_true rfl) ?_
      exact qI (hQ (by unfold cC_boxIs; (repeat' split) <;> omega)) (by rw [c7]; rfl) rfl
    · refine r_tableIn (pc := 7) (tgt := 103) dX6_boxIs_7 (by omega) (by omega) (by rw [c7]; try rfl) rfl ?_
      refine r_aload_n (pc := 103) dX6_boxIs_103 rfl ?_
      refine p_getQ (pc := 104) (jI := 3) (n9 := nb) (r := some (3, b)) fl_X6_141 rfl dX6_boxIs_104 rfl rfl (by omega) (by omega) rfl ?_
      refine r_aload_n (pc := 107) dX6_boxIs_107 rfl ?_
      refine q_getI (pc := 108) (jI := 8) (n9 := 1) (v := hi 6 0 8) fl_X6_47 rfl dX6_boxIs_108 rfl rfl (by decide) (by decide) rfl ?_
      refine d1_V (pc := 111) (t := 3) (i := b) (rest := []) (cs' := 1) (sl' := 6) mv_X6_153 (KI_holdOn hI (b := b) (day := hi 6 0 8) (by omega) (by omega)) rfl ⟨(Nat.le_of_ble_eq_true rfl), (Nat.le_of_ble_eq_true rfl)⟩ (Nat.le_of_ble_eq_true rfl) dX6_boxIs_111 (show (0 : Int) ≤ b by omega) (show b < nb by omega) ⟨rfl, (Nat.le_of_ble_eq_true rfl)⟩ ⟨rfl, (Nat.le_of_ble_eq_true rfl)⟩ rfl ?_
      refine d1_S (pc := 114) (rest := []) (cs' := 1) (sl' := 6) ms_X6_241 rfl (K_X6_asNumber (P := holC hi b (hi 6 0 8))) rfl ⟨(Nat.le_of_ble_eq_true rfl), (Nat.le_of_ble_eq_true rfl)⟩ (Nat.le_of_ble_eq_true rfl) dX6_boxIs_114 ⟨rfl, (Nat.le_of_ble_eq_true rfl)⟩ ⟨rfl, (Nat.le_of_ble_eq_true rfl)⟩ rfl ?_
      refine r_iret (pc := 117) dX6_boxIs_117 (Or.inl rfl) (Nat.le_of_ble_eq_true rfl) (Nat.le_of_ble_eq_true rfl) ?_
      exact qI (hQ (by unfold cC_boxIs; (repeat' split) <;> omega)) (by rw [c7]; rfl) rfl
    · refine r_tableOut (pc := 7) (tgt := 118) dX6_boxIs_7 (by omega) rfl ?_
      refine r_throw (pc := 118) (text := "what is out of range") rfl th_X6_64 (by decide) dX6_boxIs_118 dX6_boxIs_121 dX6_boxIs_122 dX6_boxIs_124 dX6_boxIs_127 ⟨(Nat.le_of_ble_eq_true rfl), (Nat.le_of_ble_eq_true rfl), (Nat.le_of_ble_eq_true rfl), (Nat.le_of_ble_eq_true rfl)⟩ (hXb (by unfold cC_boxIs; (repeat' split) <;> omega))
  · exact rx_out rfl (hXa (by unfold cC_boxIs; (repeat' split) <;> omega)) (Nat.le_of_ble_eq_true rfl) (Nat.le_of_ble_eq_true rfl)
