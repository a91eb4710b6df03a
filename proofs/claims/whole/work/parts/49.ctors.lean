/-! ===== the constructors of BoxPool and BoxPoolModel (walks printed by wip/whole/tools/g49.py) ===== -/
def cF5 (f : Hi) (b : Int) : Hi := (up1 (up1 (up1 (up1 (zf (zf (zf (zf (zf (zf (zf f 15 b) 16 b) 17 b) 18 b) 19 b) 20 b) 21 b) 5 b 7 0) 5 b 8 0) 5 b 9 0) 5 b 10 0)
def cN5 (n : Nat → Int) : Nat → Int := (nS (nS (nS (nS (nS (nS (nS n 15) 16) 17) 18) 19) 20) 21)
theorem K_X5_init {f : Hi} {n : Nat → Int} {nb nk m9 : Int} {L : List (Nat × Int × Int)} (hL : ∀ x ∈ L, x.1 ≠ 5) (hb0 : (0 : Int) ≤ 0) (hb1 : 0 < m9) (h5 : n 5 = m9) (h15 : n 15 = 0) (h16 : n 16 = 0) (h17 : n 17 = 0) (h18 : n 18 = 0) (h19 : n 19 = 0) (h20 : n 20 = 0) (h21 : n 21 = 0) : Det I_X5_init [aR 5 0] (f, RP nb nk ((5, 0, 0) :: L), n) none (cF5 f 0, RP nb nk L, cN5 n) := by
  refine st_d (xs := [some (aR 5 0)]) pn_X5 rfl rfl (Nat.le_of_ble_eq_true rfl) rfl rfl (fun Q X hQ => ?_)
  refine r_aload_n (pc := 0) dX5_init_0 rfl ?_
  refine c_obj (pc := 1) oi_X5_3 ⟨(Nat.le_of_ble_eq_true rfl), (Nat.le_of_ble_eq_true rfl)⟩ dX5_init_1 ?_
  refine r_aload_n (pc := 4) dX5_init_4 rfl ?_
  refine r_iconst (pc := 5) (n := 5) dX5_init_5 (by decide) ?_
  refine c_newa (pc := 6) (kk := 15) (N9 := 0) (cs' := 1) (sl' := 5) rfl rfl (by decide) ⟨rfl, (by decide), (by decide)⟩ gt_112 dX5_init_6 h15 ⟨rfl, (Nat.le_of_ble_eq_true rfl)⟩ ⟨rfl, (Nat.le_of_ble_eq_true rfl)⟩ ?_
  refine c_r (RP_arr (fun j => rfl)) ?_
  refine c_putQ (pc := 8) (jI := 0) (n9 := m9) fl_X5_9 rfl (Or.inr ⟨rfl, rfl⟩) dX5_init_8 rfl h5 hb0 hb1 ?_
  refine c_r (RP_put (p' := 1) rfl rfl (fun j a b9 => by omega) (by decide) hL) ?_
  refine r_aload_n (pc := 11) dX5_init_11 rfl ?_
  refine r_bipush (pc := 12) (n := 40) dX5_init_12 rfl (by decide) ?_
  refine c_newa (pc := 14) (kk := 16) (N9 := 0) (cs' := 2) (sl' := 45) rfl rfl (by decide) ⟨rfl, (by decide), (by decide)⟩ gt_112 dX5_init_14 h16 ⟨rfl, (Nat.le_of_ble_eq_true rfl)⟩ ⟨rfl, (Nat.le_of_ble_eq_true rfl)⟩ ?_
  refine c_r (RP_arr (fun j => rfl)) ?_
  refine c_putQ (pc := 16) (jI := 1) (n9 := m9) fl_X5_15 rfl (Or.inr ⟨rfl, rfl⟩) dX5_init_16 rfl h5 hb0 hb1 ?_
  refine c_r (RP_put (p' := 2) rfl rfl (fun j a b9 => by omega) (by decide) hL) ?_
  refine r_aload_n (pc := 19) dX5_init_19 rfl ?_
  refine r_bipush (pc := 20) (n := 40) dX5_init_20 rfl (by decide) ?_
  refine c_newa (pc := 22) (kk := 17) (N9 := 0) (cs' := 3) (sl' := 85) rfl rfl (by decide) ⟨rfl, (by decide), (by decide)⟩ gt_112 dX5_init_22 h17 ⟨rfl, (Nat.le_of_ble_eq_true rfl)⟩ ⟨rfl, (Nat.le_of_ble_eq_true rfl)⟩ ?_
  refine c_r (RP_arr (fun j => rfl)) ?_
  refine c_putQ (pc := 24) (jI := 2) (n9 := m9) fl_X5_18 rfl (Or.inr ⟨rfl, rfl⟩) dX5_init_24 rfl h5 hb0 hb1 ?_
  refine c_r (RP_put (p' := 3) rfl rfl (fun j a b9 => by omega) (by decide) hL) ?_
  refine r_aload_n (pc := 27) dX5_init_27 rfl ?_
  refine r_bipush (pc := 28) (n := 40) dX5_init_28 rfl (by decide) ?_
  refine c_newa (pc := 30) (kk := 18) (N9 := 0) (cs' := 4) (sl' := 125) rfl rfl (by decide) ⟨rfl, (by decide), (by decide)⟩ gt_113 dX5_init_30 h18 ⟨rfl, (Nat.le_of_ble_eq_true rfl)⟩ ⟨rfl, (Nat.le_of_ble_eq_true rfl)⟩ ?_
  refine c_r (RP_arr (fun j => rfl)) ?_
  refine c_putQ (pc := 32) (jI := 3) (n9 := m9) fl_X5_21 rfl (Or.inr ⟨rfl, rfl⟩) dX5_init_32 rfl h5 hb0 hb1 ?_
  refine c_r (RP_put (p' := 4) rfl rfl (fun j a b9 => by omega) (by decide) hL) ?_
  refine r_aload_n (pc := 35) dX5_init_35 rfl ?_
  refine r_iconst (pc := 36) (n := 5) dX5_init_36 (by decide) ?_
  refine c_newa (pc := 37) (kk := 19) (N9 := 0) (cs' := 5) (sl' := 130) rfl rfl (by decide) ⟨rfl, (by decide), (by decide)⟩ gt_112 dX5_init_37 h19 ⟨rfl, (Nat.le_of_ble_eq_true rfl)⟩ ⟨rfl, (Nat.le_of_ble_eq_true rfl)⟩ ?_
  refine c_r (RP_arr (fun j => rfl)) ?_
  refine c_putQ (pc := 39) (jI := 4) (n9 := m9) fl_X5_25 rfl (Or.inr ⟨rfl, rfl⟩) dX5_init_39 rfl h5 hb0 hb1 ?_
  refine c_r (RP_put (p' := 5) rfl rfl (fun j a b9 => by omega) (by decide) hL) ?_
  refine r_aload_n (pc := 42) dX5_init_42 rfl ?_
  refine r_iconst (pc := 43) (n := 5) dX5_init_43 (by decide) ?_
  refine c_newa (pc := 44) (kk := 20) (N9 := 0) (cs' := 6) (sl' := 135) rfl rfl (by decide) ⟨rfl, (by decide), (by decide)⟩ gt_112 dX5_init_44 h20 ⟨rfl, (Nat.le_of_ble_eq_true rfl)⟩ ⟨rfl, (Nat.le_of_ble_eq_true rfl)⟩ ?_
  refine c_r (RP_arr (fun j => rfl)) ?_
  refine c_putQ (pc := 46) (jI := 5) (n9 := m9) fl_X5_28 rfl (Or.inr ⟨rfl, rfl⟩) dX5_init_46 rfl h5 hb0 hb1 ?_
  refine c_r (RP_put (p' := 6) rfl rfl (fun j a b9 => by omega) (by decide) hL) ?_
  refine r_aload_n (pc := 49) dX5_init_49 rfl ?_
  refine r_bipush (pc := 50) (n := 6) dX5_init_50 rfl (by decide) ?_
  refine c_newa (pc := 52) (kk := 21) (N9 := 0) (cs' := 7) (sl' := 141) rfl rfl (by decide) ⟨rfl, (by decide), (by decide)⟩ gt_112 dX5_init_52 h21 ⟨rfl, (Nat.le_of_ble_eq_true rfl)⟩ ⟨rfl, (Nat.le_of_ble_eq_true rfl)⟩ ?_
  refine c_r (RP_arr (fun j => rfl)) ?_
  refine c_putQ (pc := 54) (jI := 6) (n9 := m9) fl_X5_31 rfl (Or.inr ⟨rfl, rfl⟩) dX5_init_54 rfl h5 hb0 hb1 ?_
  refine c_r (RP_put (p' := 7) rfl rfl (fun j a b9 => by omega) (by decide) hL) ?_
  refine r_aload_n (pc := 57) dX5_init_57 rfl ?_
  refine r_iconst (pc := 58) (n := 0) dX5_init_58 (by decide) ?_
  refine c_putI (pc := 59) (jI := 7) (n9 := m9) fl_X5_34 (Or.inl rfl) (Or.inl rfl) dX5_init_59 rfl h5 hb0 hb1 ?_
  refine r_aload_n (pc := 62) dX5_init_62 rfl ?_
  refine r_iconst (pc := 63) (n := 0) dX5_init_63 (by decide) ?_
  refine c_putI (pc := 64) (jI := 8) (n9 := m9) fl_X5_38 (Or.inl rfl) (Or.inl rfl) dX5_init_64 rfl h5 hb0 hb1 ?_
  refine r_aload_n (pc := 67) dX5_init_67 rfl ?_
  refine r_iconst (pc := 68) (n := 0) dX5_init_68 (by decide) ?_
  refine c_putI (pc := 69) (jI := 9) (n9 := m9) fl_X5_41 (Or.inl rfl) (Or.inl rfl) dX5_init_69 rfl h5 hb0 hb1 ?_
  refine r_aload_n (pc := 72) dX5_init_72 rfl ?_
  refine r_iconst (pc := 73) (n := 0) dX5_init_73 (by decide) ?_
  refine c_putI (pc := 74) (jI := 10) (n9 := m9) fl_X5_44 (Or.inl rfl) (Or.inl rfl) dX5_init_74 rfl h5 hb0 hb1 ?_
  refine c_r (RP_end (fun j a => (by first | rfl | (simp only [HR]; (repeat' split) <;> first | omega | rfl)))) ?_
  refine r_vret (pc := 77) dX5_init_77 rfl (Nat.le_of_ble_eq_true rfl) (Nat.le_of_ble_eq_true rfl) ?_
  exact qN hQ rfl

def zz : Hi := fun _ _ _ => 0
theorem cF5_z : cF5 zz 0 = zz := by
  funext k i j
  simp [cF5, zf, up1, zz]
def n6 : Nat → Int := (cN5 (nS (nS (nS (nS (nM (nM (nS nZ 6) 8 9 6) 10 11 3) 12) 13) 14) 5))
theorem K_X6_init : Det I_X6_init [aR 6 0] (zz, RP 0 0 [(6, 0, 0)], (nS nZ 6)) none (bpF 5 500 6 0 3 0 5, HR 0 0, n6) := by
  refine st_d (xs := [some (aR 6 0), none, none]) pn_X6 rfl rfl (Nat.le_of_ble_eq_true rfl) rfl rfl (fun Q X hQ => ?_)
  refine r_aload_n (pc := 0) dX6_init_0 rfl ?_
  refine c_obj (pc := 1) oi_X6_3 ⟨(Nat.le_of_ble_eq_true rfl), (Nat.le_of_ble_eq_true rfl)⟩ dX6_init_1 ?_
  refine r_aload_n (pc := 4) dX6_init_4 rfl ?_
  refine r_bipush (pc := 5) (n := 6) dX6_init_5 rfl (by decide) ?_
  refine r_bipush (pc := 7) (n := 6) dX6_init_7 rfl (by decide) ?_
  refine c_mna (pc := 9) (ko := 8) (kr := 9) (N9 := 6) (cs' := 7) (sl' := 42) rfl rfl rfl rfl ⟨(by decide), (by decide)⟩ ⟨gt_64, gt_112⟩ dX6_init_9 ⟨rfl, (Nat.le_of_ble_eq_true rfl)⟩ ⟨rfl, (Nat.le_of_ble_eq_true rfl)⟩ rfl rfl rfl (fun _ => rfl) (fun _ _ => rfl) (by simp) (fun _ => rfl) (fun _ _ _ _ => rfl) ?_
  refine c_putQ (pc := 13) (jI := 0) (n9 := 1) fl_X6_11 rfl (Or.inr ⟨rfl, rfl⟩) dX6_init_13 rfl rfl (by decide) (by decide) ?_
  refine c_r (RP_put (p' := 1) rfl rfl (fun j a b => by omega) (by decide) (by simp)) ?_
  refine r_aload_n (pc := 16) dX6_init_16 rfl ?_
  refine r_iconst (pc := 17) (n := 3) dX6_init_17 (by decide) ?_
  refine r_bipush (pc := 18) (n := 6) dX6_init_18 rfl (by decide) ?_
  refine c_mna (pc := 20) (ko := 10) (kr := 11) (N9 := 3) (cs' := 11) (sl' := 63) rfl rfl rfl rfl ⟨(by decide), (by decide)⟩ ⟨gt_64, gt_112⟩ dX6_init_20 ⟨rfl, (Nat.le_of_ble_eq_true rfl)⟩ ⟨rfl, (Nat.le_of_ble_eq_true rfl)⟩ rfl rfl rfl (fun _ => rfl) (fun _ _ => rfl) (by simp) (fun _ => rfl) (fun _ _ _ _ => rfl) ?_
  refine c_putQ (pc := 24) (jI := 1) (n9 := 1) fl_X6_14 rfl (Or.inr ⟨rfl, rfl⟩) dX6_init_24 rfl rfl (by decide) (by decide) ?_
  refine c_r (RP_put (p' := 2) rfl rfl (fun j a b => by omega) (by decide) (by simp)) ?_
  refine r_aload_n (pc := 27) dX6_init_27 rfl ?_
  refine r_iconst (pc := 28) (n := 5) dX6_init_28 (by decide) ?_
  refine c_newa (pc := 29) (kk := 12) (N9 := 0) (cs' := 12) (sl' := 68) rfl rfl (by decide) ⟨rfl, (by decide), (by decide)⟩ gt_112 dX6_init_29 rfl ⟨rfl, (Nat.le_of_ble_eq_true rfl)⟩ ⟨rfl, (Nat.le_of_ble_eq_true rfl)⟩ ?_
  refine c_r (RP_arr (fun j => rfl)) ?_
  refine c_f (zf_z (fun _ => rfl)) ?_
  refine c_putQ (pc := 31) (jI := 2) (n9 := 1) fl_X6_17 rfl (Or.inr ⟨rfl, rfl⟩) dX6_init_31 rfl rfl (by decide) (by decide) ?_
  refine c_r (RP_put (p' := 3) rfl rfl (fun j a b => by omega) (by decide) (by simp)) ?_
  refine r_aload_n (pc := 34) dX6_init_34 rfl ?_
  refine r_bipush (pc := 35) (n := 40) dX6_init_35 rfl (by decide) ?_
  refine c_anew (pc := 37) (kk := 13) (N9 := 0) (cs' := 13) (sl' := 108) rfl rfl (by decide) ⟨rfl, (by decide)⟩ gt_66 dX6_init_37 rfl ⟨rfl, (Nat.le_of_ble_eq_true rfl)⟩ ⟨rfl, (Nat.le_of_ble_eq_true rfl)⟩ ?_
  refine c_r (RP_arr (fun j => if_neg (by omega))) ?_
  refine c_f (zf_z (fun _ => rfl)) ?_
  refine c_putQ (pc := 40) (jI := 3) (n9 := 1) fl_X6_23 rfl (Or.inr ⟨rfl, rfl⟩) dX6_init_40 rfl rfl (by decide) (by decide) ?_
  refine c_r (RP_put (p' := 4) rfl rfl (fun j a b => by omega) (by decide) (by simp)) ?_
  refine r_aload_n (pc := 43) dX6_init_43 rfl ?_
  refine r_bipush (pc := 44) (n := 20) dX6_init_44 rfl (by decide) ?_
  refine c_anew (pc := 46) (kk := 14) (N9 := 0) (cs' := 14) (sl' := 128) rfl rfl (by decide) ⟨rfl, (by decide)⟩ gt_68 dX6_init_46 rfl ⟨rfl, (Nat.le_of_ble_eq_true rfl)⟩ ⟨rfl, (Nat.le_of_ble_eq_true rfl)⟩ ?_
  refine c_r (RP_arr (fun j => if_neg (by omega))) ?_
  refine c_f (zf_z (fun _ => rfl)) ?_
  refine c_putQ (pc := 49) (jI := 4) (n9 := 1) fl_X6_29 rfl (Or.inr ⟨rfl, rfl⟩) dX6_init_49 rfl rfl (by decide) (by decide) ?_
  refine c_r (RP_put (p' := 5) rfl rfl (fun j a b => by omega) (by decide) (by simp)) ?_
  refine r_aload_n (pc := 52) dX6_init_52 rfl ?_
  refine c_new (pc := 53) (N9 := 0) (cs' := 15) (sl' := 139) nl_X6_33 dX6_init_53 rfl ⟨rfl, (Nat.le_of_ble_eq_true rfl)⟩ ⟨rfl, (Nat.le_of_ble_eq_true rfl)⟩ ?_
  refine c_r (RP_new (fun j a => (by first | rfl | (simp only [HR]; (repeat' split) <;> first | omega | rfl)))) ?_
  refine c_f (zf_z (fun _ => rfl)) ?_
  refine r_dup (pc := 56) dX6_init_56 (fun _ => rfl) ?_
  refine d0_IN (pc := 57) (t := 5) (i := 0) (rest := [aR 5 0, aR 6 0]) (cs' := 22) (sl' := 280) mn_X6_35 (K_X5_init (m9 := 1) (L := [(6, 0, 5)]) (by simp) (by decide) (by decide) rfl rfl rfl rfl rfl rfl rfl rfl) rfl ⟨(Nat.le_of_ble_eq_true rfl), (Nat.le_of_ble_eq_true rfl)⟩ (Nat.le_of_ble_eq_true rfl) dX6_init_57 ⟨rfl, (Nat.le_of_ble_eq_true rfl)⟩ ⟨rfl, (Nat.le_of_ble_eq_true rfl)⟩ rfl ?_
  refine c_f cF5_z ?_
  refine c_putQ (pc := 60) (jI := 5) (n9 := 1) fl_X6_36 rfl (Or.inr ⟨rfl, rfl⟩) dX6_init_60 rfl rfl (by decide) (by decide) ?_
  refine c_r (RP_put (p' := 6) rfl rfl (fun j a b => by omega) (by decide) (by simp)) ?_
  refine r_aload_n (pc := 63) dX6_init_63 rfl ?_
  refine r_iconst (pc := 64) (n := 0) dX6_init_64 (by decide) ?_
  refine c_putI (pc := 65) (jI := 6) (n9 := 1) fl_X6_40 (Or.inl rfl) (Or.inl rfl) dX6_init_65 rfl rfl (by decide) (by decide) ?_
  refine c_f (up1_same rfl) ?_
  refine r_aload_n (pc := 68) dX6_init_68 rfl ?_
  refine r_iconst (pc := 69) (n := 0) dX6_init_69 (by decide) ?_
  refine c_putI (pc := 70) (jI := 7) (n9 := 1) fl_X6_44 (Or.inl rfl) (Or.inl rfl) dX6_init_70 rfl rfl (by decide) (by decide) ?_
  refine c_f (up1_same rfl) ?_
  refine r_aload_n (pc := 73) dX6_init_73 rfl ?_
  refine r_iconst (pc := 74) (n := 0) dX6_init_74 (by decide) ?_
  refine c_putI (pc := 75) (jI := 8) (n9 := 1) fl_X6_47 (Or.inl rfl) (Or.inl rfl) dX6_init_75 rfl rfl (by decide) (by decide) ?_
  refine c_f (up1_same rfl) ?_
  refine r_aload_n (pc := 78) dX6_init_78 rfl ?_
  refine r_iconst (pc := 79) (n := 5) dX6_init_79 (by decide) ?_
  refine c_putI (pc := 80) (jI := 9) (n9 := 1) fl_X6_50 (Or.inl rfl) (Or.inl rfl) dX6_init_80 rfl rfl (by decide) (by decide) ?_
  refine c_f (show up1 zz 6 0 9 5 = bpF 5 0 0 0 0 0 0 from by rw [show zz = bpF 0 0 0 0 0 0 0 from bpF_0.symm]; exact bpF_u) ?_
  refine r_aload_n (pc := 83) dX6_init_83 rfl ?_
  refine r_sipush (pc := 84) (n := 500) dX6_init_84 rfl (by decide) ?_
  refine c_putI (pc := 87) (jI := 10) (n9 := 1) fl_X6_53 (Or.inl rfl) (Or.inl rfl) dX6_init_87 rfl rfl (by decide) (by decide) ?_
  refine c_f bpF_v ?_
  refine c_r (RP_end (fun j a => (by first | rfl | (simp only [HR]; (repeat' split) <;> first | omega | rfl)))) ?_
  refine c_r RP_nil ?_
  refine c_n (n' := n6) rfl ?_
  refine r_iconst (pc := 90) (n := 0) dX6_init_90 (by decide) ?_
  refine r_istore_n (pc := 91) (xs' := [some (aR 6 0), some (aI 0), none]) dX6_init_91 (by decide) rfl ?_
  have loop : ∀ (n9 : Nat) (a : Int), (0 ≤ a ∧ a ≤ 6) → 6 - a < (n9 : Int) → Run I_X6_init 92 [some (aR 6 0), some (aI a), none] [] ((bpF 5 500 a 0 0 0 0), HR 0 0, n6) 22 280 Q X := by
    intro n9
    induction n9 with
    | zero => intro a h0 hf9; exfalso; omega
    | succ n9 ih_loop =>
      intro a h0 hf9
      refine r_iload_n (pc := 92) dX6_init_92 rfl ?_
      refine r_bipush (pc := 93) (n := 6) dX6_init_93 rfl (by decide) ?_
      refine r_icmp_ge (pc := 95) (tgt := 137) dX6_init_95 rfl (fun c95 => ?_) (fun c95 => ?_)
      · refine r_iconst (pc := 137) (n := 0) dX6_init_137 (by decide) ?_
        refine r_istore_n (pc := 138) (xs' := [some (aR 6 0), some (aI 0), none]) dX6_init_138 (by decide) rfl ?_
        have loop3 : ∀ (n9 : Nat) (c : Int), (0 ≤ c ∧ c ≤ 3) → 3 - c < (n9 : Int) → Run I_X6_init 139 [some (aR 6 0), some (aI c), none] [] ((bpF 5 500 6 0 c 0 0), HR 0 0, n6) 22 280 Q X := by
          intro n9
          induction n9 with
          | zero => intro c h0 hf9; exfalso; omega
          | succ n9 ih_loop3 =>
            intro c h0 hf9
            refine r_iload_n (pc := 139) dX6_init_139 rfl ?_
            refine r_iconst (pc := 140) (n := 3) dX6_init_140 (by decide) ?_
            refine r_icmp_ge (pc := 141) (tgt := 173) dX6_init_141 rfl (fun c141 => ?_) (fun c141 => ?_)
            · refine r_iconst (pc := 173) (n := 0) dX6_init_173 (by decide) ?_
              refine r_istore_n (pc := 174) (xs' := [some (aR 6 0), some (aI 0), none]) dX6_init_174 (by decide) rfl ?_
              have loop5 : ∀ (n9 : Nat) (e : Int), (0 ≤ e ∧ e ≤ 5) → 5 - e < (n9 : Int) → Run I_X6_init 175 [some (aR 6 0), some (aI e), none] [] ((bpF 5 500 6 0 3 0 e), HR 0 0, n6) 22 280 Q X := by
                intro n9
                induction n9 with
                | zero => intro e h0 hf9; exfalso; omega
                | succ n9 ih_loop5 =>
                  intro e h0 hf9
                  refine r_iload_n (pc := 175) dX6_init_175 rfl ?_
                  refine r_iconst (pc := 176) (n := 5) dX6_init_176 (by decide) ?_
                  refine r_icmp_ge (pc := 177) (tgt := 193) dX6_init_177 rfl (fun c177 => ?_) (fun c177 => ?_)
                  · refine r_vret (pc := 193) dX6_init_193 rfl (Nat.le_of_ble_eq_true rfl) (Nat.le_of_ble_eq_true rfl) ?_
                    exact qN hQ (by rw [show e = 5 by omega])
                  · refine r_aload_n (pc := 180) dX6_init_180 rfl ?_
                    refine c_getQ (pc := 181) (jI := 2) (n9 := 1) (x := some (12, 0)) fl_X6_17 rfl dX6_init_181 rfl rfl (by decide) (by decide) rfl ?_
                    refine r_iload_n (pc := 184) dX6_init_184 rfl ?_
                    refine r_iconst (pc := 185) (n := 3) dX6_init_185 (by decide) ?_
                    refine c_iast (pc := 186) (n9 := 1) (NI := 5) rfl dX6_init_186 rfl (by decide) (by decide) rfl (by omega) (by omega) ?_
                    refine r_iinc (pc := 187) (xs' := [some (aR 6 0), some (aI (e + 1)), none]) dX6_init_187 rfl (by decide) (by omega) rfl ?_
                    refine r_goto (pc := 190) (tgt := 175) dX6_init_190 rfl ?_
                    refine c_f (f' := (bpF 5 500 6 0 3 0 (e + 1))) (by exact bpF_e h0.1) ?_
                    exact ih_loop5 (e + 1) (by omega) (by omega)
              refine c_f (f' := (bpF 5 500 6 0 3 0 0)) (by rw [show c = 3 by omega]) ?_
              exact loop5 7 0 (by omega) (by omega)
            · refine r_iconst (pc := 144) (n := 0) dX6_init_144 (by decide) ?_
              refine r_istore_n (pc := 145) (xs' := [some (aR 6 0), some (aI c), some (aI 0)]) dX6_init_145 (by decide) rfl ?_
              have loop4 : ∀ (n9 : Nat) (d : Int), (0 ≤ d ∧ d ≤ 6) → 6 - d < (n9 : Int) → Run I_X6_init 146 [some (aR 6 0), some (aI c), some (aI d)] [] ((bpF 5 500 6 0 c d 0), HR 0 0, n6) 22 280 Q X := by
                intro n9
                induction n9 with
                | zero => intro d g0 hf9; exfalso; omega
                | succ n9 ih_loop4 =>
                  intro d g0 hf9
                  refine r_iload_n (pc := 146) dX6_init_146 rfl ?_
                  refine r_bipush (pc := 147) (n := 6) dX6_init_147 rfl (by decide) ?_
                  refine r_icmp_ge (pc := 149) (tgt := 167) dX6_init_149 rfl (fun c149 => ?_) (fun c149 => ?_)
                  · refine r_iinc (pc := 167) (xs' := [some (aR 6 0), some (aI (c + 1)), some (aI d)]) dX6_init_167 rfl (by decide) (by omega) rfl ?_
                    refine r_goto (pc := 170) (tgt := 139) dX6_init_170 rfl ?_
                    refine r_drop (xs' := [some (aR 6 0), some (aI (c + 1)), none]) 2 rfl ?_
                    refine c_f (f' := (bpF 5 500 6 0 (c + 1) 0 0)) (by rw [show d = 6 by omega]; exact bpF_c h0.1) ?_
                    exact ih_loop3 (c + 1) (by omega) (by omega)
                  · refine r_aload_n (pc := 152) dX6_init_152 rfl ?_
                    refine c_getQ (pc := 153) (jI := 1) (n9 := 1) (x := some (10, 0)) fl_X6_14 rfl dX6_init_153 rfl rfl (by decide) (by decide) rfl ?_
                    refine r_iload_n (pc := 156) dX6_init_156 rfl ?_
                    refine c_aald (pc := 157) (n9 := 1) (NI := 3) (q := some (11, c)) rfl ⟨(by decide), (by decide)⟩ dX6_init_157 rfl (by decide) (by decide) rfl (by omega) (by omega) (hr_10 (by omega) (by omega)) ?_
                    refine r_iload_n (pc := 158) dX6_init_158 rfl ?_
                    refine r_iconst (pc := 159) (n := 2) dX6_init_159 (by decide) ?_
                    refine c_iast (pc := 160) (n9 := 3) (NI := 6) rfl dX6_init_160 rfl (by omega) (by omega) rfl (by omega) (by omega) ?_
                    refine r_iinc (pc := 161) (xs' := [some (aR 6 0), some (aI c), some (aI (d + 1))]) dX6_init_161 rfl (by decide) (by omega) rfl ?_
                    refine r_goto (pc := 164) (tgt := 146) dX6_init_164 rfl ?_
                    refine c_f (f' := (bpF 5 500 6 0 c (d + 1) 0)) (by exact bpF_d g0.1) ?_
                    exact ih_loop4 (d + 1) (by omega) (by omega)
              refine c_f (f' := (bpF 5 500 6 0 c 0 0)) (by rfl) ?_
              exact loop4 7 0 (by omega) (by omega)
        refine c_f (f' := (bpF 5 500 6 0 0 0 0)) (by rw [show a = 6 by omega]) ?_
        exact loop3 7 0 (by omega) (by omega)
      · refine r_iconst (pc := 98) (n := 0) dX6_init_98 (by decide) ?_
        refine r_istore_n (pc := 99) (xs' := [some (aR 6 0), some (aI a), some (aI 0)]) dX6_init_99 (by decide) rfl ?_
        have loop2 : ∀ (n9 : Nat) (b : Int), (0 ≤ b ∧ b ≤ 6) → 6 - b < (n9 : Int) → Run I_X6_init 100 [some (aR 6 0), some (aI a), some (aI b)] [] ((bpF 5 500 a b 0 0 0), HR 0 0, n6) 22 280 Q X := by
          intro n9
          induction n9 with
          | zero => intro b g0 hf9; exfalso; omega
          | succ n9 ih_loop2 =>
            intro b g0 hf9
            refine r_iload_n (pc := 100) dX6_init_100 rfl ?_
            refine r_bipush (pc := 101) (n := 6) dX6_init_101 rfl (by decide) ?_
            refine r_icmp_ge (pc := 103) (tgt := 131) dX6_init_103 rfl (fun c103 => ?_) (fun c103 => ?_)
            · refine r_iinc (pc := 131) (xs' := [some (aR 6 0), some (aI (a + 1)), some (aI b)]) dX6_init_131 rfl (by decide) (by omega) rfl ?_
              refine r_goto (pc := 134) (tgt := 92) dX6_init_134 rfl ?_
              refine r_drop (xs' := [some (aR 6 0), some (aI (a + 1)), none]) 2 rfl ?_
              refine c_f (f' := (bpF 5 500 (a + 1) 0 0 0 0)) (by rw [show b = 6 by omega]; exact bpF_a h0.1) ?_
              exact ih_loop (a + 1) (by omega) (by omega)
            · refine r_aload_n (pc := 106) dX6_init_106 rfl ?_
              refine c_getQ (pc := 107) (jI := 0) (n9 := 1) (x := some (8, 0)) fl_X6_11 rfl dX6_init_107 rfl rfl (by decide) (by decide) rfl ?_
              refine r_iload_n (pc := 110) dX6_init_110 rfl ?_
              refine c_aald (pc := 111) (n9 := 1) (NI := 6) (q := some (9, a)) rfl ⟨(by decide), (by decide)⟩ dX6_init_111 rfl (by decide) (by decide) rfl (by omega) (by omega) (hr_8 (by omega) (by omega)) ?_
              refine r_iload_n (pc := 112) dX6_init_112 rfl ?_
              refine r_iload_n (pc := 113) dX6_init_113 rfl ?_
              refine r_iload_n (pc := 114) dX6_init_114 rfl ?_
              refine r_icmp_ne (pc := 115) (tgt := 122) dX6_init_115 rfl (fun c115 => ?_) (fun c115 => ?_)
              · refine r_bipush (pc := 122) (n := 100) dX6_init_122 rfl (by decide) ?_
                refine c_iast (pc := 124) (n9 := 6) (NI := 6) rfl dX6_init_124 rfl (by omega) (by omega) rfl (by omega) (by omega) ?_
                refine r_iinc (pc := 125) (xs' := [some (aR 6 0), some (aI a), some (aI (b + 1))]) dX6_init_125 rfl (by decide) (by omega) rfl ?_
                refine r_goto (pc := 128) (tgt := 100) dX6_init_128 rfl ?_
                refine c_f (f' := (bpF 5 500 a (b + 1) 0 0 0)) (by have e := bpF_b (u := 5) (v := 500) (a := a) (b := b) (c := 0) (d := 0) (e := 0) g0.1; rw [if_neg c115] at e; exact e) ?_
                exact ih_loop2 (b + 1) (by omega) (by omega)
              · refine r_iconst (pc := 118) (n := 0) dX6_init_118 (by decide) ?_
                refine r_goto (pc := 119) (tgt := 124) dX6_init_119 rfl ?_
                refine c_iast (pc := 124) (n9 := 6) (NI := 6) rfl dX6_init_124 rfl (by omega) (by omega) rfl (by omega) (by omega) ?_
                refine r_iinc (pc := 125) (xs' := [some (aR 6 0), some (aI a), some (aI (b + 1))]) dX6_init_125 rfl (by decide) (by omega) rfl ?_
                refine r_goto (pc := 128) (tgt := 100) dX6_init_128 rfl ?_
                refine c_f (f' := (bpF 5 500 a (b + 1) 0 0 0)) (by have e := bpF_b (u := 5) (v := 500) (a := a) (b := b) (c := 0) (d := 0) (e := 0) g0.1; rw [if_pos c115] at e; exact e) ?_
                exact ih_loop2 (b + 1) (by omega) (by omega)
        refine c_f (f' := (bpF 5 500 a 0 0 0 0)) (by rfl) ?_
        exact loop2 7 0 (by omega) (by omega)
  refine c_f (f' := (bpF 5 500 0 0 0 0 0)) (by rfl) ?_
  exact loop 7 0 (by omega) (by omega)

def n7 : Nat → Int := (nS (nS (nS (nS (nS (nS (nS (nS (nS (nS (nS (nS (nS (nS (nS (nS (nS (nS (nS (nS (nS (nS (nS (nS (nS (nS (nS (nS (nS (nS (nS n6 7) 30) 31) 32) 33) 34) 35) 36) 37) 38) 39) 40) 41) 42) 43) 44) 45) 46) 47) 48) 49) 50) 51) 52) 53) 54) 55) 56) 57) 58) 59)
theorem K_X7_init : Det I_X7_init [aR 7 0] ((bpF 5 500 6 0 3 0 5), RP 0 0 [(7, 0, 0)], (nS n6 7)) none (mdF (bpF 5 500 6 0 3 0 5) 5 500 36 18 5, HR 0 0, n7) := by
  refine st_d (xs := [some (aR 7 0), none]) pn_X7 rfl rfl (Nat.le_of_ble_eq_true rfl) rfl rfl (fun Q X hQ => ?_)
  refine r_aload_n (pc := 0) dX7_init_0 rfl ?_
  refine c_obj (pc := 1) oi_X7_1 ⟨(Nat.le_of_ble_eq_true rfl), (Nat.le_of_ble_eq_true rfl)⟩ dX7_init_1 ?_
  refine r_aload_n (pc := 4) dX7_init_4 rfl ?_
  refine r_bipush (pc := 5) (n := 36) dX7_init_5 rfl (by decide) ?_
  refine c_newa (pc := 7) (kk := 30) (N9 := 0) (cs' := 1) (sl' := 36) rfl rfl (by decide) ⟨rfl, (by decide), (by decide)⟩ gt_112 dX7_init_7 rfl ⟨rfl, (Nat.le_of_ble_eq_true rfl)⟩ ⟨rfl, (Nat.le_of_ble_eq_true rfl)⟩ ?_
  refine c_r (RP_arr (fun j => rfl)) ?_
  refine c_f (zf_z (fun _ => rfl)) ?_
  refine c_putQ (pc := 9) (jI := 2) (n9 := 1) fl_X7_7 rfl (Or.inr ⟨rfl, rfl⟩) dX7_init_9 rfl rfl (by decide) (by decide) ?_
  refine c_r (RP_put (p' := 3) rfl rfl (fun j a b => by rcases (show j = 0 ∨ j = 1 by omega) with e | e <;> rw [e] <;> rfl) (by decide) (by simp)) ?_
  refine r_aload_n (pc := 12) dX7_init_12 rfl ?_
  refine r_bipush (pc := 13) (n := 40) dX7_init_13 rfl (by decide) ?_
  refine c_newa (pc := 15) (kk := 31) (N9 := 0) (cs' := 2) (sl' := 76) rfl rfl (by decide) ⟨rfl, (by decide), (by decide)⟩ gt_112 dX7_init_15 rfl ⟨rfl, (Nat.le_of_ble_eq_true rfl)⟩ ⟨rfl, (Nat.le_of_ble_eq_true rfl)⟩ ?_
  refine c_r (RP_arr (fun j => rfl)) ?_
  refine c_f (zf_z (fun _ => rfl)) ?_
  refine c_putQ (pc := 17) (jI := 3) (n9 := 1) fl_X7_13 rfl (Or.inr ⟨rfl, rfl⟩) dX7_init_17 rfl rfl (by decide) (by decide) ?_
  refine c_r (RP_put (p' := 4) rfl rfl (fun j a b => by omega) (by decide) (by simp)) ?_
  refine r_aload_n (pc := 20) dX7_init_20 rfl ?_
  refine r_bipush (pc := 21) (n := 40) dX7_init_21 rfl (by decide) ?_
  refine c_newa (pc := 23) (kk := 32) (N9 := 0) (cs' := 3) (sl' := 116) rfl rfl (by decide) ⟨rfl, (by decide), (by decide)⟩ gt_112 dX7_init_23 rfl ⟨rfl, (Nat.le_of_ble_eq_true rfl)⟩ ⟨rfl, (Nat.le_of_ble_eq_true rfl)⟩ ?_
  refine c_r (RP_arr (fun j => rfl)) ?_
  refine c_f (zf_z (fun _ => rfl)) ?_
  refine c_putQ (pc := 25) (jI := 4) (n9 := 1) fl_X7_16 rfl (Or.inr ⟨rfl, rfl⟩) dX7_init_25 rfl rfl (by decide) (by decide) ?_
  refine c_r (RP_put (p' := 5) rfl rfl (fun j a b => by omega) (by decide) (by simp)) ?_
  refine r_aload_n (pc := 28) dX7_init_28 rfl ?_
  refine r_bipush (pc := 29) (n := 40) dX7_init_29 rfl (by decide) ?_
  refine c_newa (pc := 31) (kk := 33) (N9 := 0) (cs' := 4) (sl' := 156) rfl rfl (by decide) ⟨rfl, (by decide), (by decide)⟩ gt_112 dX7_init_31 rfl ⟨rfl, (Nat.le_of_ble_eq_true rfl)⟩ ⟨rfl, (Nat.le_of_ble_eq_true rfl)⟩ ?_
  refine c_r (RP_arr (fun j => rfl)) ?_
  refine c_f (zf_z (fun _ => rfl)) ?_
  refine c_putQ (pc := 33) (jI := 5) (n9 := 1) fl_X7_19 rfl (Or.inr ⟨rfl, rfl⟩) dX7_init_33 rfl rfl (by decide) (by decide) ?_
  refine c_r (RP_put (p' := 6) rfl rfl (fun j a b => by omega) (by decide) (by simp)) ?_
  refine r_aload_n (pc := 36) dX7_init_36 rfl ?_
  refine r_bipush (pc := 37) (n := 40) dX7_init_37 rfl (by decide) ?_
  refine c_newa (pc := 39) (kk := 34) (N9 := 0) (cs' := 5) (sl' := 196) rfl rfl (by decide) ⟨rfl, (by decide), (by decide)⟩ gt_113 dX7_init_39 rfl ⟨rfl, (Nat.le_of_ble_eq_true rfl)⟩ ⟨rfl, (Nat.le_of_ble_eq_true rfl)⟩ ?_
  refine c_r (RP_arr (fun j => rfl)) ?_
  refine c_f (zf_z (fun _ => rfl)) ?_
  refine c_putQ (pc := 41) (jI := 6) (n9 := 1) fl_X7_22 rfl (Or.inr ⟨rfl, rfl⟩) dX7_init_41 rfl rfl (by decide) (by decide) ?_
  refine c_r (RP_put (p' := 7) rfl rfl (fun j a b => by omega) (by decide) (by simp)) ?_
  refine r_aload_n (pc := 44) dX7_init_44 rfl ?_
  refine r_bipush (pc := 45) (n := 40) dX7_init_45 rfl (by decide) ?_
  refine c_newa (pc := 47) (kk := 35) (N9 := 0) (cs' := 6) (sl' := 236) rfl rfl (by decide) ⟨rfl, (by decide), (by decide)⟩ gt_112 dX7_init_47 rfl ⟨rfl, (Nat.le_of_ble_eq_true rfl)⟩ ⟨rfl, (Nat.le_of_ble_eq_true rfl)⟩ ?_
  refine c_r (RP_arr (fun j => rfl)) ?_
  refine c_f (zf_z (fun _ => rfl)) ?_
  refine c_putQ (pc := 49) (jI := 7) (n9 := 1) fl_X7_26 rfl (Or.inr ⟨rfl, rfl⟩) dX7_init_49 rfl rfl (by decide) (by decide) ?_
  refine c_r (RP_put (p' := 8) rfl rfl (fun j a b => by omega) (by decide) (by simp)) ?_
  refine r_aload_n (pc := 52) dX7_init_52 rfl ?_
  refine r_bipush (pc := 53) (n := 40) dX7_init_53 rfl (by decide) ?_
  refine c_newa (pc := 55) (kk := 36) (N9 := 0) (cs' := 7) (sl' := 276) rfl rfl (by decide) ⟨rfl, (by decide), (by decide)⟩ gt_112 dX7_init_55 rfl ⟨rfl, (Nat.le_of_ble_eq_true rfl)⟩ ⟨rfl, (Nat.le_of_ble_eq_true rfl)⟩ ?_
  refine c_r (RP_arr (fun j => rfl)) ?_
  refine c_f (zf_z (fun _ => rfl)) ?_
  refine c_putQ (pc := 57) (jI := 8) (n9 := 1) fl_X7_29 rfl (Or.inr ⟨rfl, rfl⟩) dX7_init_57 rfl rfl (by decide) (by decide) ?_
  refine c_r (RP_put (p' := 9) rfl rfl (fun j a b => by omega) (by decide) (by simp)) ?_
  refine r_aload_n (pc := 60) dX7_init_60 rfl ?_
  refine r_sipush (pc := 61) (n := 1200) dX7_init_61 rfl (by decide) ?_
  refine c_newa (pc := 64) (kk := 37) (N9 := 0) (cs' := 8) (sl' := 1476) rfl rfl (by decide) ⟨rfl, (by decide), (by decide)⟩ gt_112 dX7_init_64 rfl ⟨rfl, (Nat.le_of_ble_eq_true rfl)⟩ ⟨rfl, (Nat.le_of_ble_eq_true rfl)⟩ ?_
  refine c_r (RP_arr (fun j => rfl)) ?_
  refine c_f (zf_z (fun _ => rfl)) ?_
  refine c_putQ (pc := 66) (jI := 10) (n9 := 1) fl_X7_32 rfl (Or.inr ⟨rfl, rfl⟩) dX7_init_66 rfl rfl (by decide) (by decide) ?_
  refine c_r (RP_put (p' := 11) rfl rfl (fun j a b => by rcases (show j = 9 by omega) with e <;> rw [e] <;> rfl) (by decide) (by simp)) ?_
  refine r_aload_n (pc := 69) dX7_init_69 rfl ?_
  refine r_sipush (pc := 70) (n := 1200) dX7_init_70 rfl (by decide) ?_
  refine c_newa (pc := 73) (kk := 38) (N9 := 0) (cs' := 9) (sl' := 2676) rfl rfl (by decide) ⟨rfl, (by decide), (by decide)⟩ gt_112 dX7_init_73 rfl ⟨rfl, (Nat.le_of_ble_eq_true rfl)⟩ ⟨rfl, (Nat.le_of_ble_eq_true rfl)⟩ ?_
  refine c_r (RP_arr (fun j => rfl)) ?_
  refine c_f (zf_z (fun _ => rfl)) ?_
  refine c_putQ (pc := 75) (jI := 11) (n9 := 1) fl_X7_35 rfl (Or.inr ⟨rfl, rfl⟩) dX7_init_75 rfl rfl (by decide) (by decide) ?_
  refine c_r (RP_put (p' := 12) rfl rfl (fun j a b => by omega) (by decide) (by simp)) ?_
  refine r_aload_n (pc := 78) dX7_init_78 rfl ?_
  refine r_sipush (pc := 79) (n := 1200) dX7_init_79 rfl (by decide) ?_
  refine c_newa (pc := 82) (kk := 39) (N9 := 0) (cs' := 10) (sl' := 3876) rfl rfl (by decide) ⟨rfl, (by decide), (by decide)⟩ gt_112 dX7_init_82 rfl ⟨rfl, (Nat.le_of_ble_eq_true rfl)⟩ ⟨rfl, (Nat.le_of_ble_eq_true rfl)⟩ ?_
  refine c_r (RP_arr (fun j => rfl)) ?_
  refine c_f (zf_z (fun _ => rfl)) ?_
  refine c_putQ (pc := 84) (jI := 12) (n9 := 1) fl_X7_38 rfl (Or.inr ⟨rfl, rfl⟩) dX7_init_84 rfl rfl (by decide) (by decide) ?_
  refine c_r (RP_put (p' := 13) rfl rfl (fun j a b => by omega) (by decide) (by simp)) ?_
  refine r_aload_n (pc := 87) dX7_init_87 rfl ?_
  refine r_bipush (pc := 88) (n := 40) dX7_init_88 rfl (by decide) ?_
  refine c_newa (pc := 90) (kk := 40) (N9 := 0) (cs' := 11) (sl' := 3916) rfl rfl (by decide) ⟨rfl, (by decide), (by decide)⟩ gt_112 dX7_init_90 rfl ⟨rfl, (Nat.le_of_ble_eq_true rfl)⟩ ⟨rfl, (Nat.le_of_ble_eq_true rfl)⟩ ?_
  refine c_r (RP_arr (fun j => rfl)) ?_
  refine c_f (zf_z (fun _ => rfl)) ?_
  refine c_putQ (pc := 92) (jI := 13) (n9 := 1) fl_X7_41 rfl (Or.inr ⟨rfl, rfl⟩) dX7_init_92 rfl rfl (by decide) (by decide) ?_
  refine c_r (RP_put (p' := 14) rfl rfl (fun j a b => by omega) (by decide) (by simp)) ?_
  refine r_aload_n (pc := 95) dX7_init_95 rfl ?_
  refine r_sipush (pc := 96) (n := 400) dX7_init_96 rfl (by decide) ?_
  refine c_newa (pc := 99) (kk := 41) (N9 := 0) (cs' := 12) (sl' := 4316) rfl rfl (by decide) ⟨rfl, (by decide), (by decide)⟩ gt_112 dX7_init_99 rfl ⟨rfl, (Nat.le_of_ble_eq_true rfl)⟩ ⟨rfl, (Nat.le_of_ble_eq_true rfl)⟩ ?_
  refine c_r (RP_arr (fun j => rfl)) ?_
  refine c_f (zf_z (fun _ => rfl)) ?_
  refine c_putQ (pc := 101) (jI := 14) (n9 := 1) fl_X7_44 rfl (Or.inr ⟨rfl, rfl⟩) dX7_init_101 rfl rfl (by decide) (by decide) ?_
  refine c_r (RP_put (p' := 15) rfl rfl (fun j a b => by omega) (by decide) (by simp)) ?_
  refine r_aload_n (pc := 104) dX7_init_104 rfl ?_
  refine r_sipush (pc := 105) (n := 400) dX7_init_105 rfl (by decide) ?_
  refine c_newa (pc := 108) (kk := 42) (N9 := 0) (cs' := 13) (sl' := 4716) rfl rfl (by decide) ⟨rfl, (by decide), (by decide)⟩ gt_112 dX7_init_108 rfl ⟨rfl, (Nat.le_of_ble_eq_true rfl)⟩ ⟨rfl, (Nat.le_of_ble_eq_true rfl)⟩ ?_
  refine c_r (RP_arr (fun j => rfl)) ?_
  refine c_f (zf_z (fun _ => rfl)) ?_
  refine c_putQ (pc := 110) (jI := 15) (n9 := 1) fl_X7_47 rfl (Or.inr ⟨rfl, rfl⟩) dX7_init_110 rfl rfl (by decide) (by decide) ?_
  refine c_r (RP_put (p' := 16) rfl rfl (fun j a b => by omega) (by decide) (by simp)) ?_
  refine r_aload_n (pc := 113) dX7_init_113 rfl ?_
  refine r_bipush (pc := 114) (n := 40) dX7_init_114 rfl (by decide) ?_
  refine c_newa (pc := 116) (kk := 43) (N9 := 0) (cs' := 14) (sl' := 4756) rfl rfl (by decide) ⟨rfl, (by decide), (by decide)⟩ gt_112 dX7_init_116 rfl ⟨rfl, (Nat.le_of_ble_eq_true rfl)⟩ ⟨rfl, (Nat.le_of_ble_eq_true rfl)⟩ ?_
  refine c_r (RP_arr (fun j => rfl)) ?_
  refine c_f (zf_z (fun _ => rfl)) ?_
  refine c_putQ (pc := 118) (jI := 16) (n9 := 1) fl_X7_50 rfl (Or.inr ⟨rfl, rfl⟩) dX7_init_118 rfl rfl (by decide) (by decide) ?_
  refine c_r (RP_put (p' := 17) rfl rfl (fun j a b => by omega) (by decide) (by simp)) ?_
  refine r_aload_n (pc := 121) dX7_init_121 rfl ?_
  refine r_iconst (pc := 122) (n := 5) dX7_init_122 (by decide) ?_
  refine c_putI (pc := 123) (jI := 17) (n9 := 1) fl_X7_53 (Or.inl rfl) (Or.inl rfl) dX7_init_123 rfl rfl (by decide) (by decide) ?_
  refine c_f (show up1 (bpF 5 500 6 0 3 0 5) 7 0 17 5 = mdF (bpF 5 500 6 0 3 0 5) 5 0 0 0 0 from by have e := mdF_u (f := (bpF 5 500 6 0 3 0 5)) (u := 0) (v := 0) (a := 0) (b := 0) (c := 0) (x := 5); rw [mdF_0 ⟨rfl, rfl⟩] at e; exact e) ?_
  refine r_aload_n (pc := 126) dX7_init_126 rfl ?_
  refine r_bipush (pc := 127) (n := 18) dX7_init_127 rfl (by decide) ?_
  refine c_newa (pc := 129) (kk := 44) (N9 := 0) (cs' := 15) (sl' := 4774) rfl rfl (by decide) ⟨rfl, (by decide), (by decide)⟩ gt_112 dX7_init_129 rfl ⟨rfl, (Nat.le_of_ble_eq_true rfl)⟩ ⟨rfl, (Nat.le_of_ble_eq_true rfl)⟩ ?_
  refine c_r (RP_arr (fun j => rfl)) ?_
  refine c_f (zf_z (fun _ => by unfold mdF; rw [if_neg (by omega), if_neg (by omega), if_neg (by omega), if_neg (by omega), if_neg (by omega)]; rfl)) ?_
  refine c_putQ (pc := 131) (jI := 18) (n9 := 1) fl_X7_57 rfl (Or.inr ⟨rfl, rfl⟩) dX7_init_131 rfl rfl (by decide) (by decide) ?_
  refine c_r (RP_put (p' := 19) rfl rfl (fun j a b => by rcases (show j = 17 by omega) with e <;> rw [e] <;> rfl) (by decide) (by simp)) ?_
  refine r_aload_n (pc := 134) dX7_init_134 rfl ?_
  refine r_bipush (pc := 135) (n := 18) dX7_init_135 rfl (by decide) ?_
  refine c_newa (pc := 137) (kk := 45) (N9 := 0) (cs' := 16) (sl' := 4792) rfl rfl (by decide) ⟨rfl, (by decide), (by decide)⟩ gt_112 dX7_init_137 rfl ⟨rfl, (Nat.le_of_ble_eq_true rfl)⟩ ⟨rfl, (Nat.le_of_ble_eq_true rfl)⟩ ?_
  refine c_r (RP_arr (fun j => rfl)) ?_
  refine c_f (zf_z (fun _ => rfl)) ?_
  refine c_putQ (pc := 139) (jI := 19) (n9 := 1) fl_X7_60 rfl (Or.inr ⟨rfl, rfl⟩) dX7_init_139 rfl rfl (by decide) (by decide) ?_
  refine c_r (RP_put (p' := 20) rfl rfl (fun j a b => by omega) (by decide) (by simp)) ?_
  refine r_aload_n (pc := 142) dX7_init_142 rfl ?_
  refine r_bipush (pc := 143) (n := 18) dX7_init_143 rfl (by decide) ?_
  refine c_newa (pc := 145) (kk := 46) (N9 := 0) (cs' := 17) (sl' := 4810) rfl rfl (by decide) ⟨rfl, (by decide), (by decide)⟩ gt_112 dX7_init_145 rfl ⟨rfl, (Nat.le_of_ble_eq_true rfl)⟩ ⟨rfl, (Nat.le_of_ble_eq_true rfl)⟩ ?_
  refine c_r (RP_arr (fun j => rfl)) ?_
  refine c_f (zf_z (fun _ => rfl)) ?_
  refine c_putQ (pc := 147) (jI := 20) (n9 := 1) fl_X7_63 rfl (Or.inr ⟨rfl, rfl⟩) dX7_init_147 rfl rfl (by decide) (by decide) ?_
  refine c_r (RP_put (p' := 21) rfl rfl (fun j a b => by omega) (by decide) (by simp)) ?_
  refine r_aload_n (pc := 150) dX7_init_150 rfl ?_
  refine r_sipush (pc := 151) (n := 480) dX7_init_151 rfl (by decide) ?_
  refine c_newa (pc := 154) (kk := 47) (N9 := 0) (cs' := 18) (sl' := 5290) rfl rfl (by decide) ⟨rfl, (by decide), (by decide)⟩ gt_112 dX7_init_154 rfl ⟨rfl, (Nat.le_of_ble_eq_true rfl)⟩ ⟨rfl, (Nat.le_of_ble_eq_true rfl)⟩ ?_
  refine c_r (RP_arr (fun j => rfl)) ?_
  refine c_f (zf_z (fun _ => rfl)) ?_
  refine c_putQ (pc := 156) (jI := 21) (n9 := 1) fl_X7_66 rfl (Or.inr ⟨rfl, rfl⟩) dX7_init_156 rfl rfl (by decide) (by decide) ?_
  refine c_r (RP_put (p' := 22) rfl rfl (fun j a b => by omega) (by decide) (by simp)) ?_
  refine r_aload_n (pc := 159) dX7_init_159 rfl ?_
  refine r_sipush (pc := 160) (n := 480) dX7_init_160 rfl (by decide) ?_
  refine c_newa (pc := 163) (kk := 48) (N9 := 0) (cs' := 19) (sl' := 5770) rfl rfl (by decide) ⟨rfl, (by decide), (by decide)⟩ gt_112 dX7_init_163 rfl ⟨rfl, (Nat.le_of_ble_eq_true rfl)⟩ ⟨rfl, (Nat.le_of_ble_eq_true rfl)⟩ ?_
  refine c_r (RP_arr (fun j => rfl)) ?_
  refine c_f (zf_z (fun _ => rfl)) ?_
  refine c_putQ (pc := 165) (jI := 22) (n9 := 1) fl_X7_69 rfl (Or.inr ⟨rfl, rfl⟩) dX7_init_165 rfl rfl (by decide) (by decide) ?_
  refine c_r (RP_put (p' := 23) rfl rfl (fun j a b => by omega) (by decide) (by simp)) ?_
  refine r_aload_n (pc := 168) dX7_init_168 rfl ?_
  refine r_bipush (pc := 169) (n := 40) dX7_init_169 rfl (by decide) ?_
  refine c_newa (pc := 171) (kk := 49) (N9 := 0) (cs' := 20) (sl' := 5810) rfl rfl (by decide) ⟨rfl, (by decide), (by decide)⟩ gt_112 dX7_init_171 rfl ⟨rfl, (Nat.le_of_ble_eq_true rfl)⟩ ⟨rfl, (Nat.le_of_ble_eq_true rfl)⟩ ?_
  refine c_r (RP_arr (fun j => rfl)) ?_
  refine c_f (zf_z (fun _ => rfl)) ?_
  refine c_putQ (pc := 173) (jI := 23) (n9 := 1) fl_X7_72 rfl (Or.inr ⟨rfl, rfl⟩) dX7_init_173 rfl rfl (by decide) (by decide) ?_
  refine c_r (RP_put (p' := 24) rfl rfl (fun j a b => by omega) (by decide) (by simp)) ?_
  refine r_aload_n (pc := 176) dX7_init_176 rfl ?_
  refine r_iconst (pc := 177) (n := 5) dX7_init_177 (by decide) ?_
  refine c_newa (pc := 178) (kk := 50) (N9 := 0) (cs' := 21) (sl' := 5815) rfl rfl (by decide) ⟨rfl, (by decide), (by decide)⟩ gt_112 dX7_init_178 rfl ⟨rfl, (Nat.le_of_ble_eq_true rfl)⟩ ⟨rfl, (Nat.le_of_ble_eq_true rfl)⟩ ?_
  refine c_r (RP_arr (fun j => rfl)) ?_
  refine c_f (zf_z (fun _ => by unfold mdF; rw [if_neg (by omega), if_neg (by omega), if_neg (by omega), if_neg (by omega), if_neg (by omega)]; rfl)) ?_
  refine c_putQ (pc := 180) (jI := 24) (n9 := 1) fl_X7_75 rfl (Or.inr ⟨rfl, rfl⟩) dX7_init_180 rfl rfl (by decide) (by decide) ?_
  refine c_r (RP_put (p' := 25) rfl rfl (fun j a b => by omega) (by decide) (by simp)) ?_
  refine r_aload_n (pc := 183) dX7_init_183 rfl ?_
  refine r_sipush (pc := 184) (n := 500) dX7_init_184 rfl (by decide) ?_
  refine c_putI (pc := 187) (jI := 25) (n9 := 1) fl_X7_78 (Or.inl rfl) (Or.inl rfl) dX7_init_187 rfl rfl (by decide) (by decide) ?_
  refine c_f mdF_v ?_
  refine r_aload_n (pc := 190) dX7_init_190 rfl ?_
  refine r_bipush (pc := 191) (n := 20) dX7_init_191 rfl (by decide) ?_
  refine c_newa (pc := 193) (kk := 51) (N9 := 0) (cs' := 22) (sl' := 5835) rfl rfl (by decide) ⟨rfl, (by decide), (by decide)⟩ gt_112 dX7_init_193 rfl ⟨rfl, (Nat.le_of_ble_eq_true rfl)⟩ ⟨rfl, (Nat.le_of_ble_eq_true rfl)⟩ ?_
  refine c_r (RP_arr (fun j => rfl)) ?_
  refine c_f (zf_z (fun _ => rfl)) ?_
  refine c_putQ (pc := 195) (jI := 26) (n9 := 1) fl_X7_81 rfl (Or.inr ⟨rfl, rfl⟩) dX7_init_195 rfl rfl (by decide) (by decide) ?_
  refine c_r (RP_put (p' := 27) rfl rfl (fun j a b => by rcases (show j = 25 by omega) with e <;> rw [e] <;> rfl) (by decide) (by simp)) ?_
  refine r_aload_n (pc := 198) dX7_init_198 rfl ?_
  refine r_bipush (pc := 199) (n := 20) dX7_init_199 rfl (by decide) ?_
  refine c_newa (pc := 201) (kk := 52) (N9 := 0) (cs' := 23) (sl' := 5855) rfl rfl (by decide) ⟨rfl, (by decide), (by decide)⟩ gt_112 dX7_init_201 rfl ⟨rfl, (Nat.le_of_ble_eq_true rfl)⟩ ⟨rfl, (Nat.le_of_ble_eq_true rfl)⟩ ?_
  refine c_r (RP_arr (fun j => rfl)) ?_
  refine c_f (zf_z (fun _ => rfl)) ?_
  refine c_putQ (pc := 203) (jI := 27) (n9 := 1) fl_X7_84 rfl (Or.inr ⟨rfl, rfl⟩) dX7_init_203 rfl rfl (by decide) (by decide) ?_
  refine c_r (RP_put (p' := 28) rfl rfl (fun j a b => by omega) (by decide) (by simp)) ?_
  refine r_aload_n (pc := 206) dX7_init_206 rfl ?_
  refine r_bipush (pc := 207) (n := 20) dX7_init_207 rfl (by decide) ?_
  refine c_newa (pc := 209) (kk := 53) (N9 := 0) (cs' := 24) (sl' := 5875) rfl rfl (by decide) ⟨rfl, (by decide), (by decide)⟩ gt_112 dX7_init_209 rfl ⟨rfl, (Nat.le_of_ble_eq_true rfl)⟩ ⟨rfl, (Nat.le_of_ble_eq_true rfl)⟩ ?_
  refine c_r (RP_arr (fun j => rfl)) ?_
  refine c_f (zf_z (fun _ => rfl)) ?_
  refine c_putQ (pc := 211) (jI := 28) (n9 := 1) fl_X7_87 rfl (Or.inr ⟨rfl, rfl⟩) dX7_init_211 rfl rfl (by decide) (by decide) ?_
  refine c_r (RP_put (p' := 29) rfl rfl (fun j a b => by omega) (by decide) (by simp)) ?_
  refine r_aload_n (pc := 214) dX7_init_214 rfl ?_
  refine r_bipush (pc := 215) (n := 20) dX7_init_215 rfl (by decide) ?_
  refine c_newa (pc := 217) (kk := 54) (N9 := 0) (cs' := 25) (sl' := 5895) rfl rfl (by decide) ⟨rfl, (by decide), (by decide)⟩ gt_113 dX7_init_217 rfl ⟨rfl, (Nat.le_of_ble_eq_true rfl)⟩ ⟨rfl, (Nat.le_of_ble_eq_true rfl)⟩ ?_
  refine c_r (RP_arr (fun j => rfl)) ?_
  refine c_f (zf_z (fun _ => rfl)) ?_
  refine c_putQ (pc := 219) (jI := 29) (n9 := 1) fl_X7_90 rfl (Or.inr ⟨rfl, rfl⟩) dX7_init_219 rfl rfl (by decide) (by decide) ?_
  refine c_r (RP_put (p' := 30) rfl rfl (fun j a b => by omega) (by decide) (by simp)) ?_
  refine r_aload_n (pc := 222) dX7_init_222 rfl ?_
  refine r_iconst (pc := 223) (n := 5) dX7_init_223 (by decide) ?_
  refine c_newa (pc := 224) (kk := 55) (N9 := 0) (cs' := 26) (sl' := 5900) rfl rfl (by decide) ⟨rfl, (by decide), (by decide)⟩ gt_112 dX7_init_224 rfl ⟨rfl, (Nat.le_of_ble_eq_true rfl)⟩ ⟨rfl, (Nat.le_of_ble_eq_true rfl)⟩ ?_
  refine c_r (RP_arr (fun j => rfl)) ?_
  refine c_f (zf_z (fun _ => rfl)) ?_
  refine c_putQ (pc := 226) (jI := 31) (n9 := 1) fl_X7_93 rfl (Or.inr ⟨rfl, rfl⟩) dX7_init_226 rfl rfl (by decide) (by decide) ?_
  refine c_r (RP_put (p' := 32) rfl rfl (fun j a b => by rcases (show j = 30 by omega) with e <;> rw [e] <;> rfl) (by decide) (by simp)) ?_
  refine r_aload_n (pc := 229) dX7_init_229 rfl ?_
  refine r_bipush (pc := 230) (n := 40) dX7_init_230 rfl (by decide) ?_
  refine c_newa (pc := 232) (kk := 56) (N9 := 0) (cs' := 27) (sl' := 5940) rfl rfl (by decide) ⟨rfl, (by decide), (by decide)⟩ gt_112 dX7_init_232 rfl ⟨rfl, (Nat.le_of_ble_eq_true rfl)⟩ ⟨rfl, (Nat.le_of_ble_eq_true rfl)⟩ ?_
  refine c_r (RP_arr (fun j => rfl)) ?_
  refine c_f (zf_z (fun _ => rfl)) ?_
  refine c_putQ (pc := 234) (jI := 33) (n9 := 1) fl_X7_96 rfl (Or.inr ⟨rfl, rfl⟩) dX7_init_234 rfl rfl (by decide) (by decide) ?_
  refine c_r (RP_put (p' := 34) rfl rfl (fun j a b => by rcases (show j = 32 by omega) with e <;> rw [e] <;> rfl) (by decide) (by simp)) ?_
  refine r_aload_n (pc := 237) dX7_init_237 rfl ?_
  refine r_bipush (pc := 238) (n := 40) dX7_init_238 rfl (by decide) ?_
  refine c_newa (pc := 240) (kk := 57) (N9 := 0) (cs' := 28) (sl' := 5980) rfl rfl (by decide) ⟨rfl, (by decide), (by decide)⟩ gt_112 dX7_init_240 rfl ⟨rfl, (Nat.le_of_ble_eq_true rfl)⟩ ⟨rfl, (Nat.le_of_ble_eq_true rfl)⟩ ?_
  refine c_r (RP_arr (fun j => rfl)) ?_
  refine c_f (zf_z (fun _ => rfl)) ?_
  refine c_putQ (pc := 242) (jI := 34) (n9 := 1) fl_X7_99 rfl (Or.inr ⟨rfl, rfl⟩) dX7_init_242 rfl rfl (by decide) (by decide) ?_
  refine c_r (RP_put (p' := 35) rfl rfl (fun j a b => by omega) (by decide) (by simp)) ?_
  refine r_aload_n (pc := 245) dX7_init_245 rfl ?_
  refine r_iconst (pc := 246) (n := 5) dX7_init_246 (by decide) ?_
  refine c_newa (pc := 247) (kk := 58) (N9 := 0) (cs' := 29) (sl' := 5985) rfl rfl (by decide) ⟨rfl, (by decide), (by decide)⟩ gt_112 dX7_init_247 rfl ⟨rfl, (Nat.le_of_ble_eq_true rfl)⟩ ⟨rfl, (Nat.le_of_ble_eq_true rfl)⟩ ?_
  refine c_r (RP_arr (fun j => rfl)) ?_
  refine c_f (zf_z (fun _ => rfl)) ?_
  refine c_putQ (pc := 249) (jI := 36) (n9 := 1) fl_X7_102 rfl (Or.inr ⟨rfl, rfl⟩) dX7_init_249 rfl rfl (by decide) (by decide) ?_
  refine c_r (RP_put (p' := 37) rfl rfl (fun j a b => by rcases (show j = 35 by omega) with e <;> rw [e] <;> rfl) (by decide) (by simp)) ?_
  refine r_aload_n (pc := 252) dX7_init_252 rfl ?_
  refine r_bipush (pc := 253) (n := 32) dX7_init_253 rfl (by decide) ?_
  refine c_newa (pc := 255) (kk := 59) (N9 := 0) (cs' := 30) (sl' := 6017) rfl rfl (by decide) ⟨rfl, (by decide), (by decide)⟩ gt_112 dX7_init_255 rfl ⟨rfl, (Nat.le_of_ble_eq_true rfl)⟩ ⟨rfl, (Nat.le_of_ble_eq_true rfl)⟩ ?_
  refine c_r (RP_arr (fun j => rfl)) ?_
  refine c_f (zf_z (fun _ => rfl)) ?_
  refine c_putQ (pc := 257) (jI := 37) (n9 := 1) fl_X7_105 rfl (Or.inr ⟨rfl, rfl⟩) dX7_init_257 rfl rfl (by decide) (by decide) ?_
  refine c_r (RP_put (p' := 38) rfl rfl (fun j a b => by omega) (by decide) (by simp)) ?_
  refine c_r (RP_end (fun j a => (by simp only [HR]; repeat (rw [if_neg (by omega)])))) ?_
  refine c_r RP_nil ?_
  refine c_n (n' := n7) rfl ?_
  refine r_iconst (pc := 260) (n := 0) dX7_init_260 (by decide) ?_
  refine r_istore_n (pc := 261) (xs' := [some (aR 7 0), some (aI 0)]) dX7_init_261 (by decide) rfl ?_
  have loop : ∀ (n9 : Nat) (a : Int), (0 ≤ a ∧ a ≤ 36) → 36 - a < (n9 : Int) → Run I_X7_init 262 [some (aR 7 0), some (aI a)] [] ((mdF (bpF 5 500 6 0 3 0 5) 5 500 a 0 0), HR 0 0, n7) 30 6017 Q X := by
    intro n9
    induction n9 with
    | zero => intro a h0 hf9; exfalso; omega
    | succ n9 ih_loop =>
      intro a h0 hf9
      refine r_iload_n (pc := 262) dX7_init_262 rfl ?_
      refine r_bipush (pc := 263) (n := 36) dX7_init_263 rfl (by decide) ?_
      refine r_icmp_ge (pc := 265) (tgt := 297) dX7_init_265 rfl (fun c265 => ?_) (fun c265 => ?_)
      · refine r_iconst (pc := 297) (n := 0) dX7_init_297 (by decide) ?_
        refine r_istore_n (pc := 298) (xs' := [some (aR 7 0), some (aI 0)]) dX7_init_298 (by decide) rfl ?_
        have loop2 : ∀ (n9 : Nat) (b : Int), (0 ≤ b ∧ b ≤ 18) → 18 - b < (n9 : Int) → Run I_X7_init 299 [some (aR 7 0), some (aI b)] [] ((mdF (bpF 5 500 6 0 3 0 5) 5 500 36 b 0), HR 0 0, n7) 30 6017 Q X := by
          intro n9
          induction n9 with
          | zero => intro b h0 hf9; exfalso; omega
          | succ n9 ih_loop2 =>
            intro b h0 hf9
            refine r_iload_n (pc := 299) dX7_init_299 rfl ?_
            refine r_bipush (pc := 300) (n := 18) dX7_init_300 rfl (by decide) ?_
            refine r_icmp_ge (pc := 302) (tgt := 318) dX7_init_302 rfl (fun c302 => ?_) (fun c302 => ?_)
            · refine r_iconst (pc := 318) (n := 0) dX7_init_318 (by decide) ?_
              refine r_istore_n (pc := 319) (xs' := [some (aR 7 0), some (aI 0)]) dX7_init_319 (by decide) rfl ?_
              have loop3 : ∀ (n9 : Nat) (c : Int), (0 ≤ c ∧ c ≤ 5) → 5 - c < (n9 : Int) → Run I_X7_init 320 [some (aR 7 0), some (aI c)] [] ((mdF (bpF 5 500 6 0 3 0 5) 5 500 36 18 c), HR 0 0, n7) 30 6017 Q X := by
                intro n9
                induction n9 with
                | zero => intro c h0 hf9; exfalso; omega
                | succ n9 ih_loop3 =>
                  intro c h0 hf9
                  refine r_iload_n (pc := 320) dX7_init_320 rfl ?_
                  refine r_iconst (pc := 321) (n := 5) dX7_init_321 (by decide) ?_
                  refine r_icmp_ge (pc := 322) (tgt := 338) dX7_init_322 rfl (fun c322 => ?_) (fun c322 => ?_)
                  · refine r_vret (pc := 338) dX7_init_338 rfl (Nat.le_of_ble_eq_true rfl) (Nat.le_of_ble_eq_true rfl) ?_
                    exact qN hQ (by rw [show c = 5 by omega])
                  · refine r_aload_n (pc := 325) dX7_init_325 rfl ?_
                    refine c_getQ (pc := 326) (jI := 24) (n9 := 1) (x := some (50, 0)) fl_X7_75 rfl dX7_init_326 rfl rfl (by decide) (by decide) rfl ?_
                    refine r_iload_n (pc := 329) dX7_init_329 rfl ?_
                    refine r_iconst (pc := 330) (n := 3) dX7_init_330 (by decide) ?_
                    refine c_iast (pc := 331) (n9 := 1) (NI := 5) rfl dX7_init_331 rfl (by decide) (by decide) rfl (by omega) (by omega) ?_
                    refine r_iinc (pc := 332) (xs' := [some (aR 7 0), some (aI (c + 1))]) dX7_init_332 rfl (by decide) (by omega) rfl ?_
                    refine r_goto (pc := 335) (tgt := 320) dX7_init_335 rfl ?_
                    refine c_f (f' := (mdF (bpF 5 500 6 0 3 0 5) 5 500 36 18 (c + 1))) (by exact mdF_c h0.1) ?_
                    exact ih_loop3 (c + 1) (by omega) (by omega)
              refine c_f (f' := (mdF (bpF 5 500 6 0 3 0 5) 5 500 36 18 0)) (by rw [show b = 18 by omega]) ?_
              exact loop3 6 0 (by omega) (by omega)
            · refine r_aload_n (pc := 305) dX7_init_305 rfl ?_
              refine c_getQ (pc := 306) (jI := 18) (n9 := 1) (x := some (44, 0)) fl_X7_57 rfl dX7_init_306 rfl rfl (by decide) (by decide) rfl ?_
              refine r_iload_n (pc := 309) dX7_init_309 rfl ?_
              refine r_iconst (pc := 310) (n := 2) dX7_init_310 (by decide) ?_
              refine c_iast (pc := 311) (n9 := 1) (NI := 18) rfl dX7_init_311 rfl (by decide) (by decide) rfl (by omega) (by omega) ?_
              refine r_iinc (pc := 312) (xs' := [some (aR 7 0), some (aI (b + 1))]) dX7_init_312 rfl (by decide) (by omega) rfl ?_
              refine r_goto (pc := 315) (tgt := 299) dX7_init_315 rfl ?_
              refine c_f (f' := (mdF (bpF 5 500 6 0 3 0 5) 5 500 36 (b + 1) 0)) (by exact mdF_b h0.1) ?_
              exact ih_loop2 (b + 1) (by omega) (by omega)
        refine c_f (f' := (mdF (bpF 5 500 6 0 3 0 5) 5 500 36 0 0)) (by rw [show a = 36 by omega]) ?_
        exact loop2 19 0 (by omega) (by omega)
      · refine r_aload_n (pc := 268) dX7_init_268 rfl ?_
        refine c_getQ (pc := 269) (jI := 2) (n9 := 1) (x := some (30, 0)) fl_X7_7 rfl dX7_init_269 rfl rfl (by decide) (by decide) rfl ?_
        refine r_iload_n (pc := 272) dX7_init_272 rfl ?_
        refine r_iload_n (pc := 273) dX7_init_273 rfl ?_
        refine r_bipush (pc := 274) (n := 6) dX7_init_274 rfl (by decide) ?_
        refine r_idiv (pc := 276) dX7_init_276 (by omega) (by omega) ?_
        refine r_iload_n (pc := 277) dX7_init_277 rfl ?_
        refine r_bipush (pc := 278) (n := 6) dX7_init_278 rfl (by decide) ?_
        refine r_irem (pc := 280) dX7_init_280 (by omega) (by omega) ?_
        refine r_icmp_ne (pc := 281) (tgt := 288) dX7_init_281 rfl (fun c281 => ?_) (fun c281 => ?_)
        · refine r_bipush (pc := 288) (n := 100) dX7_init_288 rfl (by decide) ?_
          refine c_iast (pc := 290) (n9 := 1) (NI := 36) rfl dX7_init_290 rfl (by decide) (by decide) rfl (by omega) (by omega) ?_
          refine r_iinc (pc := 291) (xs' := [some (aR 7 0), some (aI (a + 1))]) dX7_init_291 rfl (by decide) (by omega) rfl ?_
          refine r_goto (pc := 294) (tgt := 262) dX7_init_294 rfl ?_
          refine c_f (f' := (mdF (bpF 5 500 6 0 3 0 5) 5 500 (a + 1) 0 0)) (by have e := mdF_a (f := (bpF 5 500 6 0 3 0 5)) (u := 5) (v := 500) (a := a) (b := 0) (c := 0) h0.1; rw [if_neg c281] at e; exact e) ?_
          exact ih_loop (a + 1) (by omega) (by omega)
        · refine r_iconst (pc := 284) (n := 0) dX7_init_284 (by decide) ?_
          refine r_goto (pc := 285) (tgt := 290) dX7_init_285 rfl ?_
          refine c_iast (pc := 290) (n9 := 1) (NI := 36) rfl dX7_init_290 rfl (by decide) (by decide) rfl (by omega) (by omega) ?_
          refine r_iinc (pc := 291) (xs' := [some (aR 7 0), some (aI (a + 1))]) dX7_init_291 rfl (by decide) (by omega) rfl ?_
          refine r_goto (pc := 294) (tgt := 262) dX7_init_294 rfl ?_
          refine c_f (f' := (mdF (bpF 5 500 6 0 3 0 5) 5 500 (a + 1) 0 0)) (by have e := mdF_a (f := (bpF 5 500 6 0 3 0 5)) (u := 5) (v := 500) (a := a) (b := 0) (c := 0) h0.1; rw [if_pos c281] at e; exact e) ?_
          exact ih_loop (a + 1) (by omega) (by omega)
  refine c_f (f' := (mdF (bpF 5 500 6 0 3 0 5) 5 500 0 0 0)) (by rfl) ?_
  exact loop 37 0 (by omega) (by omega)
