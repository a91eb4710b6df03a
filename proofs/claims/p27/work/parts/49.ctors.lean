/-! ===== the constructors of BoxPool and BoxPoolModel (walks printed by wip/p27/tools/g49.py) ===== -/
def cF5 (f : Hi) (b : Int) : Hi := (up1 (up1 (up1 (up1 (zf (zf (zf (zf (zf (zf (zf f 15 b) 16 b) 17 b) 18 b) 19 b) 20 b) 21 b) 5 b 7 0) 5 b 8 0) 5 b 9 0) 5 b 10 0)
def cN5 (n : Nat → Int) : Nat → Int := (nS (nS (nS (nS (nS (nS (nS n 15) 16) 17) 18) 19) 20) 21)
theorem K_X5_init {f : Hi} {n : Nat → Int} {nb nk m9 : Int} {L : List (Nat × Int × Int)} (hL : ∀ x ∈ L, x.1 ≠ 5) (hb0 : (0 : Int) ≤ 0) (hb1 : 0 < m9) (h5 : n 5 = m9) (h15 : n 15 = 0) (h16 : n 16 = 0) (h17 : n 17 = 0) (h18 : n 18 = 0) (h19 : n 19 = 0) (h20 : n 20 = 0) (h21 : n 21 = 0) : Det I_X5_init [aR 5 0] (f, RP nb nk ((5, 0, 0) :: L), n) none (cF5 f 0, RP nb nk L, cN5 n) := by
  refine st_d (xs := [some (aR 5 0)]) pn_X5 rfl rfl (Nat.le_of_ble_eq_true rfl) rfl rfl (fun Q X hQ => ?_)
  refine r_aload_n (pc := 0) dX5_init_0 rfl ?_
  refine c_obj (pc := 1) oi_X5_3 ⟨(Nat.le_of_ble_eq_true rfl), (Nat.le_of_ble_eq_true rfl)⟩ dX5_init_1 ?_
  refine r_aload_n (pc := 4) dX5_init_4 rfl ?_
  refine r_iconst (pc := 5) (n := 5) dX5_init_5 (by decide) ?_
  refine c_newa (pc := 6) (kk := 15) (N9 := 0) (cs' := 1) (sl' := 5) rfl rfl (by decide) ⟨rfl, (by decide), (by decide)⟩ gt_83 dX5_init_6 h15 ⟨rfl, (Nat.le_of_ble_eq_true rfl)⟩ ⟨rfl, (Nat.le_of_ble_eq_true rfl)⟩ ?_
  refine c_r (RP_arr (fun j => rfl)) ?_
  refine c_putQ (pc := 8) (jI := 0) (n9 := m9) fl_X5_9 rfl (Or.inr ⟨rfl, rfl⟩) dX5_init_8 rfl h5 hb0 hb1 ?_
  refine c_r (RP_put (p' := 1) rfl rfl (fun j a b9 => by omega) (by decide) hL) ?_
  refine r_aload_n (pc := 11) dX5_init_11 rfl ?_
  refine r_bipush (pc := 12) (n := 40) dX5_init_12 rfl (by decide) ?_
  refine c_newa (pc := 14) (kk := 16) (N9 := 0) (cs' := 2) (sl' := 45) rfl rfl (by decide) ⟨rfl, (by decide), (by decide)⟩ gt_83 dX5_init_14 h16 ⟨rfl, (Nat.le_of_ble_eq_true rfl)⟩ ⟨rfl, (Nat.le_of_ble_eq_true rfl)⟩ ?_
  refine c_r (RP_arr (fun j => rfl)) ?_
  refine c_putQ (pc := 16) (jI := 1) (n9 := m9) fl_X5_15 rfl (Or.inr ⟨rfl, rfl⟩) dX5_init_16 rfl h5 hb0 hb1 ?_
  refine c_r (RP_put (p' := 2) rfl rfl (fun j a b9 => by omega) (by decide) hL) ?_
  refine r_aload_n (pc := 19) dX5_init_19 rfl ?_
  refine r_bipush (pc := 20) (n := 40) dX5_init_20 rfl (by decide) ?_
  refine c_newa (pc := 22) (kk := 17) (N9 := 0) (cs' := 3) (sl' := 85) rfl rfl (by decide) ⟨rfl, (by decide), (by decide)⟩ gt_83 dX5_init_22 h17 ⟨rfl, (Nat.le_of_ble_eq_true rfl)⟩ ⟨rfl, (Nat.le_of_ble_eq_true rfl)⟩ ?_
  refine c_r (RP_arr (fun j => rfl)) ?_
  refine c_putQ (pc := 24) (jI := 2) (n9 := m9) fl_X5_18 rfl (Or.inr ⟨rfl, rfl⟩) dX5_init_24 rfl h5 hb0 hb1 ?_
  refine c_r (RP_put (p' := 3) rfl rfl (fun j a b9 => by omega) (by decide) hL) ?_
  refine r_aload_n (pc := 27) dX5_init_27 rfl ?_
  refine r_bipush (pc := 28) (n := 40) dX5_init_28 rfl (by decide) ?_
  refine c_newa (pc := 30) (kk := 18) (N9 := 0) (cs' := 4) (sl' := 125) rfl rfl (by decide) ⟨rfl, (by decide), (by decide)⟩ gt_84 dX5_init_30 h18 ⟨rfl, (Nat.le_of_ble_eq_true rfl)⟩ ⟨rfl, (Nat.le_of_ble_eq_true rfl)⟩ ?_
  refine c_r (RP_arr (fun j => rfl)) ?_
  refine c_putQ (pc := 32) (jI := 3) (n9 := m9) fl_X5_21 rfl (Or.inr ⟨rfl, rfl⟩) dX5_init_32 rfl h5 hb0 hb1 ?_
  refine c_r (RP_put (p' := 4) rfl rfl (fun j a b9 => by omega) (by decide) hL) ?_
  refine r_aload_n (pc := 35) dX5_init_35 rfl ?_
  refine r_iconst (pc := 36) (n := 5) dX5_init_36 (by decide) ?_
  refine c_newa (pc := 37) (kk := 19) (N9 := 0) (cs' := 5) (sl' := 130) rfl rfl (by decide) ⟨rfl, (by decide), (by decide)⟩ gt_83 dX5_init_37 h19 ⟨rfl, (Nat.le_of_ble_eq_true rfl)⟩ ⟨rfl, (Nat.le_of_ble_eq_true rfl)⟩ ?_
  refine c_r (RP_arr (fun j => rfl)) ?_
  refine c_putQ (pc := 39) (jI := 4) (n9 := m9) fl_X5_25 rfl (Or.inr ⟨rfl, rfl⟩) dX5_init_39 rfl h5 hb0 hb1 ?_
  refine c_r (RP_put (p' := 5) rfl rfl (fun j a b9 => by omega) (by decide) hL) ?_
  refine r_aload_n (pc := 42) dX5_init_42 rfl ?_
  refine r_iconst (pc := 43) (n := 5) dX5_init_43 (by decide) ?_
  refine c_newa (pc := 44) (kk := 20) (N9 := 0) (cs' := 6) (sl' := 135) rfl rfl (by decide) ⟨rfl, (by decide), (by decide)⟩ gt_83 dX5_init_44 h20 ⟨rfl, (Nat.le_of_ble_eq_true rfl)⟩ ⟨rfl, (Nat.le_of_ble_eq_true rfl)⟩ ?_
  refine c_r (RP_arr (fun j => rfl)) ?_
  refine c_putQ (pc := 46) (jI := 5) (n9 := m9) fl_X5_28 rfl (Or.inr ⟨rfl, rfl⟩) dX5_init_46 rfl h5 hb0 hb1 ?_
  refine c_r (RP_put (p' := 6) rfl rfl (fun j a b9 => by omega) (by decide) hL) ?_
  refine r_aload_n (pc := 49) dX5_init_49 rfl ?_
  refine r_bipush (pc := 50) (n := 6) dX5_init_50 rfl (by decide) ?_
  refine c_newa (pc := 52) (kk := 21) (N9 := 0) (cs' := 7) (sl' := 141) rfl rfl (by decide) ⟨rfl, (by decide), (by decide)⟩ gt_83 dX5_init_52 h21 ⟨rfl, (Nat.le_of_ble_eq_true rfl)⟩ ⟨rfl, (Nat.le_of_ble_eq_true rfl)⟩ ?_
  refine c_r (RP_arr (fun j => rfl)) ?_
  refine c_putQ (pc := 54) (jI := 6) (n9 := m9) fl_X5_31 rfl (Or.inr ⟨rfl, rfl⟩) dX5_init_54 rfl h5 hb0 hb1 ?_
  refine c_r (RP_put (p' := 7) rfl rfl (fun j a b9 => by omega) (by decide) hL) ?_
  refine r_aload_n (pc := 57) dX5_init_57 rfl ?_
  refine r_iconst (pc := 58) (n := 0) dX5_init_58 (by decide) ?_
  refine c_putI (pc := 59) (jI := 7) (n9 := m9) fl_X5_34 (Or.inl rfl) (Or.inl rfl) dX5_init_59 rfl h5 hb0 hb1 ?_
  refine r_aload_n (pc := 62) dX5_init_62 rfl ?_
  refine r_iconst (pc := 63) (n := 0) dX5_init_63 (by decide) ?_
  refine c_putI (pc := 64) (jI := 8) (n9 := m9) fl_X5_38 (Or.inl rfl) (Or.inl rfl) dX5_init_64 rfl h5 hb0 hb1 ?_
  refine r_aload_n (pc := 67) dX5_init_67 rfl ?_
  refine r_iconst (pc := 68) (n := 0) dX5_init_68 (by decide) ?_
  refine c_putI (pc := 69) (jI := 9) (n9 := m9) fl_X5_41 (Or.inl rfl) (Or.inl rfl) dX5_init_69 rfl h5 hb0 hb1 ?_
  refine r_aload_n (pc := 72) dX5_init_72 rfl ?_
  refine r_iconst (pc := 73) (n := 0) dX5_init_73 (by decide) ?_
  refine c_putI (pc := 74) (jI := 10) (n9 := m9) fl_X5_44 (Or.inl rfl) (Or.inl rfl) dX5_init_74 rfl h5 hb0 hb1 ?_
  refine c_r (RP_end (fun j a => (by first | rfl | (simp only [HR]; (repeat' split) <;> first | omega | rfl)))) ?_
  refine r_vret (pc := 77) dX5_init_77 rfl (Nat.le_of_ble_eq_true rfl) (Nat.le_of_ble_eq_true rfl) ?_
  exact qN hQ rfl

def zz : Hi := fun _ _ _ => 0
theorem cF5_z : cF5 zz 0 = zz := by
  funext k i j
  simp [cF5, zf, up1, zz]
def n6 : Nat → Int := (cN5 (nS (nS (nS (nS (nM (nM (nS nZ 6) 8 9 6) 10 11 3) 12) 13) 14) 5))
theorem K_X6_init : Det I_X6_init [aR 6 0] (zz, RP 0 0 [(6, 0, 0)], (nS nZ 6)) none (bpF 5 500 6 0 3 0 5, HR 0 0, n6) := by
  refine st_d (xs := [some (aR 6 0), none, none]) pn_X6 rfl rfl (Nat.le_of_ble_eq_true rfl) rfl rfl (fun Q X hQ => ?_)
  refine r_aload_n (pc := 0) dX6_init_0 rfl ?_
  refine c_obj (pc := 1) oi_X6_3 ⟨(Nat.le_of_ble_eq_true rfl), (Nat.le_of_ble_eq_true rfl)⟩ dX6_init_1 ?_
  refine r_aload_n (pc := 4) dX6_init_4 rfl ?_
  refine r_bipush (pc := 5) (n := 6) dX6_init_5 rfl (by decide) ?_
  refine r_bipush (pc := 7) (n := 6) dX6_init_7 rfl (by decide) ?_
  refine c_mna (pc := 9) (ko := 8) (kr := 9) (N9 := 6) (cs' := 7) (sl' := 42) rfl rfl rfl rfl ⟨(by decide), (by decide)⟩ ⟨gt_35, gt_83⟩ dX6_init_9 ⟨rfl, (Nat.le_of_ble_eq_true rfl)⟩ ⟨rfl, (Nat.le_of_ble_eq_true rfl)⟩ rfl rfl rfl (fun _ => rfl) (fun _ _ => rfl) (by simp) (fun _ => rfl) (fun _ _ _ _ => rfl) ?_
  refine c_putQ (pc := 13) (jI := 0) (n9 := 1) fl_X6_11 rfl (Or.inr ⟨rfl, rfl⟩) dX6_init_13 rfl rfl (by decide) (by decide) ?_
  refine c_r (RP_put (p' := 1) rfl rfl (fun j a b => by omega) (by decide) (by simp)) ?_
  refine r_aload_n (pc := 16) dX6_init_16 rfl ?_
  refine r_iconst (pc := 17) (n := 3) dX6_init_17 (by decide) ?_
  refine r_bipush (pc := 18) (n := 6) dX6_init_18 rfl (by decide) ?_
  refine c_mna (pc := 20) (ko := 10) (kr := 11) (N9 := 3) (cs' := 11) (sl' := 63) rfl rfl rfl rfl ⟨(by decide), (by decide)⟩ ⟨gt_35, gt_83⟩ dX6_init_20 ⟨rfl, (Nat.le_of_ble_eq_true rfl)⟩ ⟨rfl, (Nat.le_of_ble_eq_true rfl)⟩ rfl rfl rfl (fun _ => rfl) (fun _ _ => rfl) (by simp) (fun _ => rfl) (fun _ _ _ _ => rfl) ?_
  refine c_putQ (pc := 24) (jI := 1) (n9 := 1) fl_X6_14 rfl (Or.inr ⟨rfl, rfl⟩) dX6_init_24 rfl rfl (by decide) (by decide) ?_
  refine c_r (RP_put (p' := 2) rfl rfl (fun j a b => by omega) (by decide) (by simp)) ?_
  refine r_aload_n (pc := 27) dX6_init_27 rfl ?_
  refine r_iconst (pc := 28) (n := 5) dX6_init_28 (by decide) ?_
  refine c_newa (pc := 29) (kk := 12) (N9 := 0) (cs' := 12) (sl' := 68) rfl rfl (by decide) ⟨rfl, (by decide), (by decide)⟩ gt_83 dX6_init_29 rfl ⟨rfl, (Nat.le_of_ble_eq_true rfl)⟩ ⟨rfl, (Nat.le_of_ble_eq_true rfl)⟩ ?_
  refine c_r (RP_arr (fun j => rfl)) ?_
  refine c_f (zf_z (fun _ => rfl)) ?_
  refine c_putQ (pc := 31) (jI := 2) (n9 := 1) fl_X6_17 rfl (Or.inr ⟨rfl, rfl⟩) dX6_init_31 rfl rfl (by decide) (by decide) ?_
  refine c_r (RP_put (p' := 3) rfl rfl (fun j a b => by omega) (by decide) (by simp)) ?_
  refine r_aload_n (pc := 34) dX6_init_34 rfl ?_
  refine r_bipush (pc := 35) (n := 40) dX6_init_35 rfl (by decide) ?_
  refine c_anew (pc := 37) (kk := 13) (N9 := 0) (cs' := 13) (sl' := 108) rfl rfl (by decide) ⟨rfl, (by decide)⟩ gt_37 dX6_init_37 rfl ⟨rfl, (Nat.le_of_ble_eq_true rfl)⟩ ⟨rfl, (Nat.le_of_ble_eq_true rfl)⟩ ?_
  refine c_r (RP_arr (fun j => if_neg (by omega))) ?_
  refine c_f (zf_z (fun _ => rfl)) ?_
  refine c_putQ (pc := 40) (jI := 3) (n9 := 1) fl_X6_23 rfl (Or.inr ⟨rfl, rfl⟩) dX6_init_40 rfl rfl (by decide) (by decide) ?_
  refine c_r (RP_put (p' := 4) rfl rfl (fun j a b => by omega) (by decide) (by simp)) ?_
  refine r_aload_n (pc := 43) dX6_init_43 rfl ?_
  refine r_bipush (pc := 44) (n := 20) dX6_init_44 rfl (by decide) ?_
  refine c_anew (pc := 46) (kk := 14) (N9 := 0) (cs' := 14) (sl' := 128) rfl rfl (by decide) ⟨rfl, (by decide)⟩ gt_39 dX6_init_46 rfl ⟨rfl, (Nat.le_of_ble_eq_true rfl)⟩ ⟨rfl, (Nat.le_of_ble_eq_true rfl)⟩ ?_
  refine c_r (RP_arr (fun j => if_neg (by omega))) ?_
  refine c_f (zf_z (fun _ => rfl)) ?_
  refine c_putQ (pc := 49) (jI := 4) (n9 := 1) fl_X6_29 rfl (Or.inr ⟨rfl, rfl⟩) dX6_init_49 rfl rfl (by decide) (by decide) ?_
  refine c_r (RP_put (p' := 5) rfl rfl (fun j a b => by omega) (by decide) (by simp)) ?_
  refine r_aload_n (pc := 52) dX6_init_52 rfl ?_
  refine c_new (pc := 53) (N9 := 0) (cs' := 15) (sl' := 139) nl_X6_33 dX6_init_53 rfl ⟨rfl, (Nat.le_of_ble_eq_true rfl)⟩ ⟨rfl, (Nat.le_of_ble_eq_true rfl)⟩ ?_
  refine c_r (RP_new (fun j a => (by first | rfl | (simp only [HR]; (repeat' split) <;> first | omega | rfl)))) ?_
  refine c_f (zf_z (fun _ => rfl)) ?_
  refine r_dup (pc := 56) dX6_init_56 (fun _ => rfl) ?_
  refine d0_IN (pc := 57) (t := 5) (i := 0) (rest := [aR 5 0, aR 6 0]) (cs' := 22) (sl' := 280) mn_X6_35 (K_X5_init (m9 := 1) (L := [(6, 0, 5)]) (by simp) (by decide) (by decide) rfl rfl rfl rfl rfl rfl rfl rfl) rfl ⟨(Nat.le_of_ble_eq_true rfl), (Nat.le_of_ble_eq_true rfl)⟩ (Nat.le_of_ble_eq_true rfl) dX6_init_57 ⟨rfl, (Nat.le_of_ble_eq_true rfl)⟩ ⟨rfl, (Nat.le_of_ble_eq_true rfl)⟩ rfl ?_
  refine c_f cF5_z ?_
  refine c_putQ (pc := 60) (jI := 5) (n9 := 1) fl_X6_36 rfl (Or.inr ⟨rfl, rfl⟩) dX6_init_60 rfl rfl (by decide) (by decide) ?_
  refine c_r (RP_put (p' := 6) rfl rfl (fun j a b => by omega) (by decide) (by simp)) ?_
  refine r_aload_n (pc := 63) dX6_init_63 rfl ?_
  refine r_iconst (pc := 64) (n := 0) dX6_init_64 (by decide) ?_
  refine c_putI (pc := 65) (jI := 6) (n9 := 1) fl_X6_40 (Or.inl rfl) (Or.inl rfl) dX6_init_65 rfl rfl (by decide) (by decide) ?_
  refine c_f (up1_same rfl) ?_
  refine r_aload_n (pc := 68) dX6_init_68 rfl ?_
  refine r_iconst (pc := 69) (n := 0) dX6_init_69 (by decide) ?_
  refine c_putI (pc := 70) (jI := 7) (n9 := 1) fl_X6_44 (Or.inl rfl) (Or.inl rfl) dX6_init_70 rfl rfl (by decide) (by decide) ?_
  refine c_f (up1_same rfl) ?_
  refine r_aload_n (pc := 73) dX6_init_73 rfl ?_
  refine r_iconst (pc := 74) (n := 0) dX6_init_74 (by decide) ?_
  refine c_putI (pc := 75) (jI := 8) (n9 := 1) fl_X6_47 (Or.inl rfl) (Or.inl rfl) dX6_init_75 rfl rfl (by decide) (by decide) ?_
  refine c_f (up1_same rfl) ?_
  refine r_aload_n (pc := 78) dX6_init_78 rfl ?_
  refine r_iconst (pc := 79) (n := 5) dX6_init_79 (by decide) ?_
  refine c_putI (pc := 80) (jI := 9) (n9 := 1) fl_X6_50 (Or.inl rfl) (Or.inl rfl) dX6_init_80 rfl rfl (by decide) (by decide) ?_
  refine c_f (show up1 zz 6 0 9 5 = bpF 5 0 0 0 0 0 0 from by rw [show zz = bpF 0 0 0 0 0 0 0 from bpF_0.symm]; exact bpF_u) ?_
  refine r_aload_n (pc := 83) dX6_init_83 rfl ?_
  refine r_sipush (pc := 84) (n := 500) dX6_init_84 rfl (by decide) ?_
  refine c_putI (pc := 87) (jI := 10) (n9 := 1) fl_X6_53 (Or.inl rfl) (Or.inl rfl) dX6_init_87 rfl rfl (by decide) (by decide) ?_
  refine c_f bpF_v ?_
  refine c_r (RP_end (fun j a => (by first | rfl | (simp only [HR]; (repeat' split) <;> first | omega | rfl)))) ?_
  refine c_r RP_nil ?_
  refine c_n (n' := n6) rfl ?_
  refine r_iconst (pc := 90) (n := 0) dX6_init_90 (by decide) ?_
  refine r_istore_n (pc := 91) (xs' := [some (aR 6 0), some (aI 0), none]) dX6_init_91 (by decide) rfl ?_
  have loop : ∀ (n9 : Nat) (a : Int), (0 ≤ a ∧ a ≤ 6) → 6 - a < (n9 : Int) → Run I_X6_init 92 [some (aR 6 0), some (aI a), none] [] ((bpF 5 500 a 0 0 0 0), HR 0 0, n6) 22 280 Q X := by
    intro n9
    induction n9 with
    | zero => intro a h0 hf9; exfalso; omega
    | succ n9 ih_loop =>
      intro a h0 hf9
      refine r_iload_n (pc := 92) dX6_init_92 rfl ?_
      refine r_bipush (pc := 93) (n := 6) dX6_init_93 rfl (by decide) ?_
      refine r_icmp_ge (pc := 95) (tgt := 137) dX6_init_95 rfl (fun c95 => ?_) (fun c95 => ?_)
      · refine r_iconst (pc := 137) (n := 0) dX6_init_137 (by decide) ?_
        refine r_istore_n (pc := 138) (xs' := [some (aR 6 0), some (aI 0), none]) dX6_init_138 (by decide) rfl ?_
        have loop3 : ∀ (n9 : Nat) (c : Int), (0 ≤ c ∧ c ≤ 3) → 3 - c < (n9 : Int) → Run I_X6_init 139 [some (aR 6 0), some (aI c), none] [] ((bpF 5 500 6 0 c 0 0), HR 0 0, n6) 22 280 Q X := by
          intro n9
          induction n9 with
          | zero => intro c h0 hf9; exfalso; omega
          | succ n9 ih_loop3 =>
            intro c h0 hf9
            refine r_iload_n (pc := 139) dX6_init_139 rfl ?_
            refine r_iconst (pc := 140) (n := 3) dX6_init_140 (by decide) ?_
            refine r_icmp_ge (pc := 141) (tgt := 173) dX6_init_141 rfl (fun c141 => ?_) (fun c141 => ?_)
            · refine r_iconst (pc := 173) (n := 0) dX6_init_173 (by decide) ?_
              refine r_istore_n (pc := 174) (xs' := [some (aR 6 0), some (aI 0), none]) dX6_init_174 (by decide) rfl ?_
              have loop5 : ∀ (n9 : Nat) (e : Int), (0 ≤ e ∧ e ≤ 5) → 5 - e < (n9 : Int) → Run I_X6_init 175 [some (aR 6 0), some (aI e), none] [] ((bpF 5 500 6 0 3 0 e), HR 0 0, n6) 22 280 Q X := by
                intro n9
                induction n9 with
                | zero => intro e h0 hf9; exfalso; omega
                | succ n9 ih_loop5 =>
                  intro e h0 hf9
                  refine r_iload_n (pc := 175) dX6_init_175 rfl ?_
                  refine r_iconst (pc := 176) (n := 5) dX6_init_176 (by decide) ?_
                  refine r_icmp_ge (pc := 177) (tgt := 193) dX6_init_177 rfl (fun c177 => ?_) (fun c177 => ?_)
                  · refine r_vret (pc := 193) dX6_init_193 rfl (Nat.le_of_ble_eq_true rfl) (Nat.le_of_ble_eq_true rfl) ?_
                    exact qN hQ (by rw [show e = 5 by omega])
                  · refine r_aload_n (pc := 180) dX6_init_180 rfl ?_
                    refine c_getQ (pc := 181) (jI := 2) (n9 := 1) (x := some (12, 0)) fl_X6_17 rfl dX6_init_181 rfl rfl (by decide) (by decide) rfl ?_
                    refine r_iload_n (pc := 184) dX6_init_184 rfl ?_
                    refine r_iconst (pc := 185) (n := 3) dX6_init_185 (by decide) ?_
                    refine c_iast (pc := 186) (n9 := 1) (NI := 5) rfl dX6_init_186 rfl (by decide) (by decide) rfl (by omega) (by omega) ?_
                    refine r_iinc (pc := 187) (xs' := [some (aR 6 0), some (aI (e + 1)), none]) dX6_init_187 rfl (by decide) (by omega) rfl ?_
                    refine r_goto (pc := 190) (tgt := 175) dX6_init_190 rfl ?_
                    refine c_f (f' := (bpF 5 500 6 0 3 0 (e + 1))) (by exact bpF_e h0.1) ?_
                    exact ih_loop5 (e + 1) (by omega) (by omega)
              refine c_f (f' := (bpF 5 500 6 0 3 0 0)) (by rw [show c = 3 by omega]) ?_
              exact loop5 7 0 (by omega) (by omega)
            · refine r_iconst (pc := 144) (n := 0) dX6_init_144 (by decide) ?_
              refine r_istore_n (pc := 145) (xs' := [some (aR 6 0), some (aI c), some (aI 0)]) dX6_init_145 (by decide) rfl ?_
              have loop4 : ∀ (n9 : Nat) (d : Int), (0 ≤ d ∧ d ≤ 6) → 6 - d < (n9 : Int) → Run I_X6_init 146 [some (aR 6 0), some (aI c), some (aI d)] [] ((bpF 5 500 6 0 c d 0), HR 0 0, n6) 22 280 Q X := by
                intro n9
                induction n9 with
                | zero => intro d g0 hf9; exfalso; omega
                | succ n9 ih_loop4 =>
                  intro d g0 hf9
                  refine r_iload_n (pc := 146) dX6_init_146 rfl ?_
                  refine r_bipush (pc := 147) (n := 6) dX6_init_147 rfl (by decide) ?_
                  refine r_icmp_ge (pc := 149) (tgt := 167) dX6_init_149 rfl (fun c149 => ?_) (fun c149 => ?_)
                  · refine r_iinc (pc := 167) (xs' := [some (aR 6 0), some (aI (c + 1)), some (aI d)]) dX6_init_167 rfl (by decide) (by omega) rfl ?_
                    refine r_goto (pc := 170) (tgt := 139) dX6_init_170 rfl ?_
                    refine r_drop (xs' := [some (aR 6 0), some (aI (c + 1)), none]) 2 rfl ?_
                    refine c_f (f' := (bpF 5 500 6 0 (c + 1) 0 0)) (by rw [show d = 6 by omega]; exact bpF_c h0.1) ?_
                    exact ih_loop3 (c + 1) (by omega) (by omega)
                  · refine r_aload_n (pc := 152) dX6_init_152 rfl ?_
                    refine c_getQ (pc := 153) (jI := 1) (n9 := 1) (x := some (10, 0)) fl_X6_14 rfl dX6_init_153 rfl rfl (by decide) (by decide) rfl ?_
                    refine r_iload_n (pc := 156) dX6_init_156 rfl ?_
                    refine c_aald (pc := 157) (n9 := 1) (NI := 3) (q := some (11, c)) rfl ⟨(by decide), (by decide)⟩ dX6_init_157 rfl (by decide) (by decide) rfl (by omega) (by omega) (hr_10 (by omega) (by omega)) ?_
                    refine r_iload_n (pc := 158) dX6_init_158 rfl ?_
                    refine r_iconst (pc := 159) (n := 2) dX6_init_159 (by decide) ?_
                    refine c_iast (pc := 160) (n9 := 3) (NI := 6) rfl dX6_init_160 rfl (by omega) (by omega) rfl (by omega) (by omega) ?_
                    refine r_iinc (pc := 161) (xs' := [some (aR 6 0), some (aI c), some (aI (d + 1))]) dX6_init_161 rfl (by decide) (by omega) rfl ?_
                    refine r_goto (pc := 164) (tgt := 146) dX6_init_164 rfl ?_
                    refine c_f (f' := (bpF 5 500 6 0 c (d + 1) 0)) (by exact bpF_d g0.1) ?_
                    exact ih_loop4 (d + 1) (by omega) (by omega)
              refine c_f (f' := (bpF 5 500 6 0 c 0 0)) (by rfl) ?_
              exact loop4 7 0 (by omega) (by omega)
        refine c_f (f' := (bpF 5 500 6 0 0 0 0)) (by rw [show a = 6 by omega]) ?_
        exact loop3 7 0 (by omega) (by omega)
      · refine r_iconst (pc := 98) (n := 0) dX6_init_98 (by decide) ?_
        refine r_istore_n (pc := 99) (xs' := [some (aR 6 0), some (aI a), some (aI 0)]) dX6_init_99 (by decide) rfl ?_
        have loop2 : ∀ (n9 : Nat) (b : Int), (0 ≤ b ∧ b ≤ 6) → 6 - b < (n9 : Int) → Run I_X6_init 100 [some (aR 6 0), some (aI a), some (aI b)] [] ((bpF 5 500 a b 0 0 0), HR 0 0, n6) 22 280 Q X := by
          intro n9
          induction n9 with
          | zero => intro b g0 hf9; exfalso; omega
          | succ n9 ih_loop2 =>
            intro b g0 hf9
            refine r_iload_n (pc := 100) dX6_init_100 rfl ?_
            refine r_bipush (pc := 101) (n := 6) dX6_init_101 rfl (by decide) ?_
            refine r_icmp_ge (pc := 103) (tgt := 131) dX6_init_103 rfl (fun c103 => ?_) (fun c103 => ?_)
            · refine r_iinc (pc := 131) (xs' := [some (aR 6 0), some (aI (a + 1)), some (aI b)]) dX6_init_131 rfl (by decide) (by omega) rfl ?_
              refine r_goto (pc := 134) (tgt := 92) dX6_init_134 rfl ?_
              refine r_drop (xs' := [some (aR 6 0), some (aI (a + 1)), none]) 2 rfl ?_
              refine c_f (f' := (bpF 5 500 (a + 1) 0 0 0 0)) (by rw [show b = 6 by omega]; exact bpF_a h0.1) ?_
              exact ih_loop (a + 1) (by omega) (by omega)
            · refine r_aload_n (pc := 106) dX6_init_106 rfl ?_
              refine c_getQ (pc := 107) (jI := 0) (n9 := 1) (x := some (8, 0)) fl_X6_11 rfl dX6_init_107 rfl rfl (by decide) (by decide) rfl ?_
              refine r_iload_n (pc := 110) dX6_init_110 rfl ?_
              refine c_aald (pc := 111) (n9 := 1) (NI := 6) (q := some (9, a)) rfl ⟨(by decide), (by decide)⟩ dX6_init_111 rfl (by decide) (by decide) rfl (by omega) (by omega) (hr_8 (by omega) (by omega)) ?_
              refine r_iload_n (pc := 112) dX6_init_112 rfl ?_
              refine r_iload_n (pc := 113) dX6_init_113 rfl ?_
              refine r_iload_n (pc := 114) dX6_init_114 rfl ?_
              refine r_icmp_ne (pc := 115) (tgt := 122) dX6_init_115 rfl (fun c115 => ?_) (fun c115 => ?_)
              · refine r_bipush (pc := 122) (n := 100) dX6_init_122 rfl (by decide) ?_
                refine c_iast (pc := 124) (n9 := 6) (NI := 6) rfl dX6_init_124 rfl (by omega) (by omega) rfl (by omega) (by omega) ?_
                refine r_iinc (pc := 125) (xs' := [some (aR 6 0), some (aI a), some (aI (b + 1))]) dX6_init_125 rfl (by decide) (by omega) rfl ?_
                refine r_goto (pc := 128) (tgt := 100) dX6_init_128 rfl ?_
                refine c_f (f' := (bpF 5 500 a (b + 1) 0 0 0)) (by have e := bpF_b (u := 5) (v := 500) (a := a) (b := b) (c := 0) (d := 0) (e := 0) g0.1; rw [if_neg c115] at e; exact e) ?_
                exact ih_loop2 (b + 1) (by omega) (by omega)
              · refine r_iconst (pc := 118) (n := 0) dX6_init_118 (by decide) ?_
                refine r_goto (pc := 119) (tgt := 124) dX6_init_119 rfl ?_
                refine c_iast (pc := 124) (n9 := 6) (NI := 6) rfl dX6_init_124 rfl (by omega) (by omega) rfl (by omega) (by omega) ?_
                refine r_iinc (pc := 125) (xs' := [some (aR 6 0), some (aI a), some (aI (b + 1))]) dX6_init_125 rfl (by decide) (by omega) rfl ?_
                refine r_goto (pc := 128) (tgt := 100) dX6_init_128 rfl ?_
                refine c_f (f' := (bpF 5 500 a (b + 1) 0 0 0)) (by have e := bpF_b (u := 5) (v := 500) (a := a) (b := b) (c := 0) (d := 0) (e := 0) g0.1; rw [if_pos c115] at e; exact e) ?_
                exact ih_loop2 (b + 1) (by omega) (by omega)
        refine c_f (f' := (bpF 5 500 a 0 0 0 0)) (by rfl) ?_
        exact loop2 7 0 (by omega) (by omega)
  refine c_f (f' := (bpF 5 500 0 0 0 0 0)) (by rfl) ?_
  exact loop 7 0 (by omega) (by omega)
