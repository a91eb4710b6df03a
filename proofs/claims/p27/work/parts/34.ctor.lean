/-! ===== constructors of the small classes, box, book (walks printed by wip/p27/tools/g34.py) ===== -/
def cF4 (f : Hi) (b : Int) : Hi := (up1 (up1 (zf (zf (zf (zf f 22 b) 23 b) 24 b) 25 b) 4 b 4 0) 4 b 5 0)
def cN4 (n : Nat → Int) : Nat → Int := (nS (nS (nS (nS n 22) 23) 24) 25)
theorem K_X4_init {f : Hi} {n : Nat → Int} {nb nk b m9 : Int} {L : List (Nat × Int × Int)} (hL : ∀ x ∈ L, x.1 ≠ 4) (hb0 : 0 ≤ b) (hb1 : b < m9) (h4 : n 4 = m9) (h22 : n 22 = b) (h23 : n 23 = b) (h24 : n 24 = b) (h25 : n 25 = b) : Det I_X4_init [aR 4 b] (f, RP nb nk ((4, b, 0) :: L), n) none (cF4 f b, RP nb nk L, cN4 n) := by
  refine st_d (xs := [some (aR 4 b)]) pn_X4 rfl rfl (Nat.le_of_ble_eq_true rfl) rfl rfl (fun Q X hQ => ?_)
  refine r_aload_n (pc := 0) dX4_init_0 rfl ?_
  refine c_obj (pc := 1) oi_X4_3 ⟨(Nat.le_of_ble_eq_true rfl), (Nat.le_of_ble_eq_true rfl)⟩ dX4_init_1 ?_
  refine r_aload_n (pc := 4) dX4_init_4 rfl ?_
  refine r_bipush (pc := 5) (n := 30) dX4_init_5 rfl (by decide) ?_
  refine c_newa (pc := 7) (kk := 22) (N9 := b) (cs' := 1) (sl' := 30) rfl rfl (by decide) ⟨rfl, (by decide), (by decide)⟩ gt_83 dX4_init_7 h22 ⟨rfl, (Nat.le_of_ble_eq_true rfl)⟩ ⟨rfl, (Nat.le_of_ble_eq_true rfl)⟩ ?_
  refine c_r (RP_arr (fun j => rfl)) ?_
  refine c_putQ (pc := 9) (jI := 0) (n9 := m9) fl_X4_9 rfl (Or.inr ⟨rfl, rfl⟩) dX4_init_9 rfl h4 hb0 hb1 ?_
  refine c_r (RP_put (p' := 1) rfl rfl (fun j a b => by omega) (by decide) hL) ?_
  refine r_aload_n (pc := 12) dX4_init_12 rfl ?_
  refine r_bipush (pc := 13) (n := 30) dX4_init_13 rfl (by decide) ?_
  refine c_newa (pc := 15) (kk := 23) (N9 := b) (cs' := 2) (sl' := 60) rfl rfl (by decide) ⟨rfl, (by decide), (by decide)⟩ gt_83 dX4_init_15 h23 ⟨rfl, (Nat.le_of_ble_eq_true rfl)⟩ ⟨rfl, (Nat.le_of_ble_eq_true rfl)⟩ ?_
  refine c_r (RP_arr (fun j => rfl)) ?_
  refine c_putQ (pc := 17) (jI := 1) (n9 := m9) fl_X4_15 rfl (Or.inr ⟨rfl, rfl⟩) dX4_init_17 rfl h4 hb0 hb1 ?_
  refine c_r (RP_put (p' := 2) rfl rfl (fun j a b => by omega) (by decide) hL) ?_
  refine r_aload_n (pc := 20) dX4_init_20 rfl ?_
  refine r_bipush (pc := 21) (n := 30) dX4_init_21 rfl (by decide) ?_
  refine c_newa (pc := 23) (kk := 24) (N9 := b) (cs' := 3) (sl' := 90) rfl rfl (by decide) ⟨rfl, (by decide), (by decide)⟩ gt_83 dX4_init_23 h24 ⟨rfl, (Nat.le_of_ble_eq_true rfl)⟩ ⟨rfl, (Nat.le_of_ble_eq_true rfl)⟩ ?_
  refine c_r (RP_arr (fun j => rfl)) ?_
  refine c_putQ (pc := 25) (jI := 2) (n9 := m9) fl_X4_18 rfl (Or.inr ⟨rfl, rfl⟩) dX4_init_25 rfl h4 hb0 hb1 ?_
  refine c_r (RP_put (p' := 3) rfl rfl (fun j a b => by omega) (by decide) hL) ?_
  refine r_aload_n (pc := 28) dX4_init_28 rfl ?_
  refine r_bipush (pc := 29) (n := 30) dX4_init_29 rfl (by decide) ?_
  refine c_newa (pc := 31) (kk := 25) (N9 := b) (cs' := 4) (sl' := 120) rfl rfl (by decide) ⟨rfl, (by decide), (by decide)⟩ gt_83 dX4_init_31 h25 ⟨rfl, (Nat.le_of_ble_eq_true rfl)⟩ ⟨rfl, (Nat.le_of_ble_eq_true rfl)⟩ ?_
  refine c_r (RP_arr (fun j => rfl)) ?_
  refine c_putQ (pc := 33) (jI := 3) (n9 := m9) fl_X4_21 rfl (Or.inr ⟨rfl, rfl⟩) dX4_init_33 rfl h4 hb0 hb1 ?_
  refine c_r (RP_put (p' := 4) rfl rfl (fun j a b => by omega) (by decide) hL) ?_
  refine r_aload_n (pc := 36) dX4_init_36 rfl ?_
  refine r_iconst (pc := 37) (n := 0) dX4_init_37 (by decide) ?_
  refine c_putI (pc := 38) (jI := 4) (n9 := m9) fl_X4_24 (Or.inl rfl) (Or.inl rfl) dX4_init_38 rfl h4 hb0 hb1 ?_
  refine r_aload_n (pc := 41) dX4_init_41 rfl ?_
  refine r_iconst (pc := 42) (n := 0) dX4_init_42 (by decide) ?_
  refine c_putI (pc := 43) (jI := 5) (n9 := m9) fl_X4_28 (Or.inl rfl) (Or.inl rfl) dX4_init_43 rfl h4 hb0 hb1 ?_
  refine c_r (RP_end (fun j a => (by first | rfl | (simp only [HR]; (repeat' split) <;> first | omega | rfl)))) ?_
  refine r_vret (pc := 46) dX4_init_46 rfl (Nat.le_of_ble_eq_true rfl) (Nat.le_of_ble_eq_true rfl) ?_
  exact qN hQ rfl

def cF3 (f : Hi) (b : Int) : Hi := (up1 (zf (zf f 26 b) 27 b) 3 b 2 0)
def cN3 (n : Nat → Int) : Nat → Int := (nS (nS n 26) 27)
theorem K_X3_init {f : Hi} {n : Nat → Int} {nb nk b m9 : Int} {L : List (Nat × Int × Int)} (hL : ∀ x ∈ L, x.1 ≠ 3) (hb0 : 0 ≤ b) (hb1 : b < m9) (h3 : n 3 = m9) (h26 : n 26 = b) (h27 : n 27 = b) : Det I_X3_init [aR 3 b] (f, RP nb nk ((3, b, 0) :: L), n) none (cF3 f b, RP nb nk L, cN3 n) := by
  refine st_d (xs := [some (aR 3 b)]) pn_X3 rfl rfl (Nat.le_of_ble_eq_true rfl) rfl rfl (fun Q X hQ => ?_)
  refine r_aload_n (pc := 0) dX3_init_0 rfl ?_
  refine c_obj (pc := 1) oi_X3_3 ⟨(Nat.le_of_ble_eq_true rfl), (Nat.le_of_ble_eq_true rfl)⟩ dX3_init_1 ?_
  refine r_aload_n (pc := 4) dX3_init_4 rfl ?_
  refine r_bipush (pc := 5) (n := 10) dX3_init_5 rfl (by decide) ?_
  refine c_newa (pc := 7) (kk := 26) (N9 := b) (cs' := 1) (sl' := 10) rfl rfl (by decide) ⟨rfl, (by decide), (by decide)⟩ gt_83 dX3_init_7 h26 ⟨rfl, (Nat.le_of_ble_eq_true rfl)⟩ ⟨rfl, (Nat.le_of_ble_eq_true rfl)⟩ ?_
  refine c_r (RP_arr (fun j => rfl)) ?_
  refine c_putQ (pc := 9) (jI := 0) (n9 := m9) fl_X3_9 rfl (Or.inr ⟨rfl, rfl⟩) dX3_init_9 rfl h3 hb0 hb1 ?_
  refine c_r (RP_put (p' := 1) rfl rfl (fun j a b => by omega) (by decide) hL) ?_
  refine r_aload_n (pc := 12) dX3_init_12 rfl ?_
  refine r_bipush (pc := 13) (n := 10) dX3_init_13 rfl (by decide) ?_
  refine c_newa (pc := 15) (kk := 27) (N9 := b) (cs' := 2) (sl' := 20) rfl rfl (by decide) ⟨rfl, (by decide), (by decide)⟩ gt_83 dX3_init_15 h27 ⟨rfl, (Nat.le_of_ble_eq_true rfl)⟩ ⟨rfl, (Nat.le_of_ble_eq_true rfl)⟩ ?_
  refine c_r (RP_arr (fun j => rfl)) ?_
  refine c_putQ (pc := 17) (jI := 1) (n9 := m9) fl_X3_15 rfl (Or.inr ⟨rfl, rfl⟩) dX3_init_17 rfl h3 hb0 hb1 ?_
  refine c_r (RP_put (p' := 2) rfl rfl (fun j a b => by omega) (by decide) hL) ?_
  refine r_aload_n (pc := 20) dX3_init_20 rfl ?_
  refine r_iconst (pc := 21) (n := 0) dX3_init_21 (by decide) ?_
  refine c_putI (pc := 22) (jI := 2) (n9 := m9) fl_X3_18 (Or.inl rfl) (Or.inl rfl) dX3_init_22 rfl h3 hb0 hb1 ?_
  refine c_r (RP_end (fun j a => (by first | rfl | (simp only [HR]; (repeat' split) <;> first | omega | rfl)))) ?_
  refine r_vret (pc := 25) dX3_init_25 rfl (Nat.le_of_ble_eq_true rfl) (Nat.le_of_ble_eq_true rfl) ?_
  exact qN hQ rfl

def cF2 (f : Hi) (b : Int) : Hi := (up1 (zf (zf f 28 b) 29 b) 2 b 2 0)
def cN2 (n : Nat → Int) : Nat → Int := (nS (nS n 28) 29)
theorem K_X2_init {f : Hi} {n : Nat → Int} {nb nk b m9 : Int} {L : List (Nat × Int × Int)} (hL : ∀ x ∈ L, x.1 ≠ 2) (hb0 : 0 ≤ b) (hb1 : b < m9) (h2 : n 2 = m9) (h28 : n 28 = b) (h29 : n 29 = b) : Det I_X2_init [aR 2 b] (f, RP nb nk ((2, b, 0) :: L), n) none (cF2 f b, RP nb nk L, cN2 n) := by
  refine st_d (xs := [some (aR 2 b)]) pn_X2 rfl rfl (Nat.le_of_ble_eq_true rfl) rfl rfl (fun Q X hQ => ?_)
  refine r_aload_n (pc := 0) dX2_init_0 rfl ?_
  refine c_obj (pc := 1) oi_X2_3 ⟨(Nat.le_of_ble_eq_true rfl), (Nat.le_of_ble_eq_true rfl)⟩ dX2_init_1 ?_
  refine r_aload_n (pc := 4) dX2_init_4 rfl ?_
  refine r_bipush (pc := 5) (n := 12) dX2_init_5 rfl (by decide) ?_
  refine c_newa (pc := 7) (kk := 28) (N9 := b) (cs' := 1) (sl' := 12) rfl rfl (by decide) ⟨rfl, (by decide), (by decide)⟩ gt_83 dX2_init_7 h28 ⟨rfl, (Nat.le_of_ble_eq_true rfl)⟩ ⟨rfl, (Nat.le_of_ble_eq_true rfl)⟩ ?_
  refine c_r (RP_arr (fun j => rfl)) ?_
  refine c_putQ (pc := 9) (jI := 0) (n9 := m9) fl_X2_9 rfl (Or.inr ⟨rfl, rfl⟩) dX2_init_9 rfl h2 hb0 hb1 ?_
  refine c_r (RP_put (p' := 1) rfl rfl (fun j a b => by omega) (by decide) hL) ?_
  refine r_aload_n (pc := 12) dX2_init_12 rfl ?_
  refine r_bipush (pc := 13) (n := 12) dX2_init_13 rfl (by decide) ?_
  refine c_newa (pc := 15) (kk := 29) (N9 := b) (cs' := 2) (sl' := 24) rfl rfl (by decide) ⟨rfl, (by decide), (by decide)⟩ gt_83 dX2_init_15 h29 ⟨rfl, (Nat.le_of_ble_eq_true rfl)⟩ ⟨rfl, (Nat.le_of_ble_eq_true rfl)⟩ ?_
  refine c_r (RP_arr (fun j => rfl)) ?_
  refine c_putQ (pc := 17) (jI := 1) (n9 := m9) fl_X2_15 rfl (Or.inr ⟨rfl, rfl⟩) dX2_init_17 rfl h2 hb0 hb1 ?_
  refine c_r (RP_put (p' := 2) rfl rfl (fun j a b => by omega) (by decide) hL) ?_
  refine r_aload_n (pc := 20) dX2_init_20 rfl ?_
  refine r_iconst (pc := 21) (n := 0) dX2_init_21 (by decide) ?_
  refine c_putI (pc := 22) (jI := 2) (n9 := m9) fl_X2_18 (Or.inl rfl) (Or.inl rfl) dX2_init_22 rfl h2 hb0 hb1 ?_
  refine c_r (RP_end (fun j a => (by first | rfl | (simp only [HR]; (repeat' split) <;> first | omega | rfl)))) ?_
  refine r_vret (pc := 25) dX2_init_25 rfl (Nat.le_of_ble_eq_true rfl) (Nat.le_of_ble_eq_true rfl) ?_
  exact qN hQ rfl

def cF0 (f : Hi) (b po kd wa : Int) : Hi := (up1 (up1 (up1 (up1 (up1 f 0 b 3 0) 0 b 4 0) 0 b 0 po) 0 b 1 kd) 0 b 2 wa)
def cN0 (n : Nat → Int) : Nat → Int := n
theorem K_X0_init {f : Hi} {n : Nat → Int} {nb nk b m9 po kd wa : Int} {L : List (Nat × Int × Int)} (hL : ∀ x ∈ L, x.1 ≠ 0) (hb0 : 0 ≤ b) (hb1 : b < m9) (h0 : n 0 = m9)  : Det I_X0_init [aR 0 b, aI po, aI kd, aI wa] (f, RP nb nk ((0, b, 0) :: L), n) none (cF0 f b po kd wa, RP nb nk L, cN0 n) := by
  refine st_d (xs := [some (aR 0 b), some (aI po), some (aI kd), some (aI wa)]) pn_X0 rfl rfl (Nat.le_of_ble_eq_true rfl) rfl rfl (fun Q X hQ => ?_)
  refine r_aload_n (pc := 0) dX0_init_0 rfl ?_
  refine c_obj (pc := 1) oi_X0_1 ⟨(Nat.le_of_ble_eq_true rfl), (Nat.le_of_ble_eq_true rfl)⟩ dX0_init_1 ?_
  refine r_aload_n (pc := 4) dX0_init_4 rfl ?_
  refine r_iconst (pc := 5) (n := 0) dX0_init_5 (by decide) ?_
  refine c_putI (pc := 6) (jI := 3) (n9 := m9) fl_X0_7 (Or.inl rfl) (Or.inl rfl) dX0_init_6 rfl h0 hb0 hb1 ?_
  refine r_aload_n (pc := 9) dX0_init_9 rfl ?_
  refine r_iconst (pc := 10) (n := 0) dX0_init_10 (by decide) ?_
  refine c_putI (pc := 11) (jI := 4) (n9 := m9) fl_X0_13 (Or.inr ⟨rfl, (by decide)⟩) (Or.inl rfl) dX0_init_11 rfl h0 hb0 hb1 ?_
  refine r_aload_n (pc := 14) dX0_init_14 rfl ?_
  refine r_iload_n (pc := 15) dX0_init_15 rfl ?_
  refine c_putI (pc := 16) (jI := 0) (n9 := m9) fl_X0_17 (Or.inl rfl) (Or.inr ⟨rfl, rfl⟩) dX0_init_16 rfl h0 hb0 hb1 ?_
  refine r_aload_n (pc := 19) dX0_init_19 rfl ?_
  refine r_iload_n (pc := 20) dX0_init_20 rfl ?_
  refine c_putI (pc := 21) (jI := 1) (n9 := m9) fl_X0_20 (Or.inl rfl) (Or.inr ⟨rfl, rfl⟩) dX0_init_21 rfl h0 hb0 hb1 ?_
  refine r_aload_n (pc := 24) dX0_init_24 rfl ?_
  refine r_iload_n (pc := 25) dX0_init_25 rfl ?_
  refine c_putI (pc := 26) (jI := 2) (n9 := m9) fl_X0_23 (Or.inl rfl) (Or.inr ⟨rfl, rfl⟩) dX0_init_26 rfl h0 hb0 hb1 ?_
  refine c_r (RP_end (fun j a => (by first | rfl | (simp only [HR]; (repeat' split) <;> first | omega | rfl)))) ?_
  refine r_vret (pc := 29) dX0_init_29 rfl (Nat.le_of_ble_eq_true rfl) (Nat.le_of_ble_eq_true rfl) ?_
  exact qN hQ rfl

def cF1 (f : Hi) (b kd ls un : Int) : Hi := (up1 (up1 (up1 (up1 (up1 (up1 (up1 (cF2 (zf (cF3 (zf (cF4 (zf f 4 b) b) 3 b) b) 2 b) b) 1 b 6 0) 1 b 7 (-1)) 1 b 8 (-1)) 1 b 9 (-1)) 1 b 0 kd) 1 b 1 ls) 1 b 5 un)
def cN1 (n : Nat → Int) : Nat → Int := (cN2 (nS (cN3 (nS (cN4 (nS n 4)) 3)) 2))
theorem K_X1_init {f : Hi} {n : Nat → Int} {nb nk b m9 kd ls un : Int} {L : List (Nat × Int × Int)} (hL : ∀ x ∈ L, x.1 ≠ 1 ∧ x.1 ≠ 4 ∧ x.1 ≠ 3 ∧ x.1 ≠ 2) (hb0 : 0 ≤ b) (hb1 : b < m9) (h1 : n 1 = m9) (h4 : n 4 = b) (h22 : n 22 = b) (h23 : n 23 = b) (h24 : n 24 = b) (h25 : n 25 = b) (h3 : n 3 = b) (h26 : n 26 = b) (h27 : n 27 = b) (h2 : n 2 = b) (h28 : n 28 = b) (h29 : n 29 = b) : Det I_X1_init [aR 1 b, aI kd, aI ls, aI un] (f, RP nb nk ((1, b, 0) :: L), n) none (cF1 f b kd ls un, RP nb nk L, cN1 n) := by
  refine st_d (xs := [some (aR 1 b), some (aI kd), some (aI ls), some (aI un)]) pn_X1 rfl rfl (Nat.le_of_ble_eq_true rfl) rfl rfl (fun Q X hQ => ?_)
  refine r_aload_n (pc := 0) dX1_init_0 rfl ?_
  refine c_obj (pc := 1) oi_X1_3 ⟨(Nat.le_of_ble_eq_true rfl), (Nat.le_of_ble_eq_true rfl)⟩ dX1_init_1 ?_
  refine r_aload_n (pc := 4) dX1_init_4 rfl ?_
  refine c_new (pc := 5) (N9 := b) (cs' := 1) (sl' := 6) nl_X1_9 dX1_init_5 h4 ⟨rfl, (Nat.le_of_ble_eq_true rfl)⟩ ⟨rfl, (Nat.le_of_ble_eq_true rfl)⟩ ?_
  refine c_r (RP_new (fun j a => (by first | rfl | (simp only [HR]; (repeat' split) <;> first | omega | rfl)))) ?_
  refine r_dup (pc := 8) dX1_init_8 (fun _ => rfl) ?_
  refine d0_IN (pc := 9) (t := 4) (i := b) (rest := [aR 4 b, aR 1 b]) (cs' := 5) (sl' := 126) mn_X1_11 (K_X4_init (m9 := b + 1) (fun x hx => by rcases List.mem_cons.mp hx with rfl | q; exact (by decide : (1 : Nat) ≠ 4); exact (hL x q).2.1) hb0 (by omega) (by show n 4 + 1 = b + 1; rw [h4]) h22 h23 h24 h25) rfl ⟨(Nat.le_of_ble_eq_true rfl), (Nat.le_of_ble_eq_true rfl)⟩ (Nat.le_of_ble_eq_true rfl) dX1_init_9 ⟨rfl, (Nat.le_of_ble_eq_true rfl)⟩ ⟨rfl, (Nat.le_of_ble_eq_true rfl)⟩ rfl ?_
  refine c_putQ (pc := 12) (jI := 2) (n9 := m9) fl_X1_12 rfl (Or.inr ⟨rfl, rfl⟩) dX1_init_12 rfl h1 hb0 hb1 ?_
  refine c_r (RP_put (p' := 3) rfl rfl (fun j a b => by rcases (show j = 0 ∨ j = 1 by omega) with e | e <;> rw [e] <;> rfl) (by decide) (fun x hx => (hL x hx).1)) ?_
  refine r_aload_n (pc := 15) dX1_init_15 rfl ?_
  refine c_new (pc := 16) (N9 := b) (cs' := 6) (sl' := 129) nl_X1_18 dX1_init_16 h3 ⟨rfl, (Nat.le_of_ble_eq_true rfl)⟩ ⟨rfl, (Nat.le_of_ble_eq_true rfl)⟩ ?_
  refine c_r (RP_new (fun j a => (by first | rfl | (simp only [HR]; (repeat' split) <;> first | omega | rfl)))) ?_
  refine r_dup (pc := 19) dX1_init_19 (fun _ => rfl) ?_
  refine d0_IN (pc := 20) (t := 3) (i := b) (rest := [aR 3 b, aR 1 b]) (cs' := 8) (sl' := 149) mn_X1_20 (K_X3_init (m9 := b + 1) (fun x hx => by rcases List.mem_cons.mp hx with rfl | q; exact (by decide : (1 : Nat) ≠ 3); exact (hL x q).2.2.1) hb0 (by omega) (by show n 3 + 1 = b + 1; rw [h3]) h26 h27) rfl ⟨(Nat.le_of_ble_eq_true rfl), (Nat.le_of_ble_eq_true rfl)⟩ (Nat.le_of_ble_eq_true rfl) dX1_init_20 ⟨rfl, (Nat.le_of_ble_eq_true rfl)⟩ ⟨rfl, (Nat.le_of_ble_eq_true rfl)⟩ rfl ?_
  refine c_putQ (pc := 23) (jI := 3) (n9 := m9) fl_X1_21 rfl (Or.inr ⟨rfl, rfl⟩) dX1_init_23 rfl h1 hb0 hb1 ?_
  refine c_r (RP_put (p' := 4) rfl rfl (fun j a b => by omega) (by decide) (fun x hx => (hL x hx).1)) ?_
  refine r_aload_n (pc := 26) dX1_init_26 rfl ?_
  refine c_new (pc := 27) (N9 := b) (cs' := 9) (sl' := 152) nl_X1_25 dX1_init_27 h2 ⟨rfl, (Nat.le_of_ble_eq_true rfl)⟩ ⟨rfl, (Nat.le_of_ble_eq_true rfl)⟩ ?_
  refine c_r (RP_new (fun j a => (by first | rfl | (simp only [HR]; (repeat' split) <;> first | omega | rfl)))) ?_
  refine r_dup (pc := 30) dX1_init_30 (fun _ => rfl) ?_
  refine d0_IN (pc := 31) (t := 2) (i := b) (rest := [aR 2 b, aR 1 b]) (cs' := 11) (sl' := 176) mn_X1_27 (K_X2_init (m9 := b + 1) (fun x hx => by rcases List.mem_cons.mp hx with rfl | q; exact (by decide : (1 : Nat) ≠ 2); exact (hL x q).2.2.2) hb0 (by omega) (by show n 2 + 1 = b + 1; rw [h2]) h28 h29) rfl ⟨(Nat.le_of_ble_eq_true rfl), (Nat.le_of_ble_eq_true rfl)⟩ (Nat.le_of_ble_eq_true rfl) dX1_init_31 ⟨rfl, (Nat.le_of_ble_eq_true rfl)⟩ ⟨rfl, (Nat.le_of_ble_eq_true rfl)⟩ rfl ?_
  refine c_putQ (pc := 34) (jI := 4) (n9 := m9) fl_X1_28 rfl (Or.inr ⟨rfl, rfl⟩) dX1_init_34 rfl h1 hb0 hb1 ?_
  refine c_r (RP_put (p' := 5) rfl rfl (fun j a b => by omega) (by decide) (fun x hx => (hL x hx).1)) ?_
  refine r_aload_n (pc := 37) dX1_init_37 rfl ?_
  refine r_iconst (pc := 38) (n := 0) dX1_init_38 (by decide) ?_
  refine c_putI (pc := 39) (jI := 6) (n9 := m9) fl_X1_32 (Or.inr ⟨rfl, (by decide)⟩) (Or.inl rfl) dX1_init_39 rfl h1 hb0 hb1 ?_
  refine r_aload_n (pc := 42) dX1_init_42 rfl ?_
  refine r_iconst (pc := 43) (n := (-1)) dX1_init_43 (by decide) ?_
  refine c_putI (pc := 44) (jI := 7) (n9 := m9) fl_X1_36 (Or.inl rfl) (Or.inl rfl) dX1_init_44 rfl h1 hb0 hb1 ?_
  refine r_aload_n (pc := 47) dX1_init_47 rfl ?_
  refine r_iconst (pc := 48) (n := (-1)) dX1_init_48 (by decide) ?_
  refine c_putI (pc := 49) (jI := 8) (n9 := m9) fl_X1_40 (Or.inl rfl) (Or.inl rfl) dX1_init_49 rfl h1 hb0 hb1 ?_
  refine r_aload_n (pc := 52) dX1_init_52 rfl ?_
  refine r_iconst (pc := 53) (n := (-1)) dX1_init_53 (by decide) ?_
  refine c_putI (pc := 54) (jI := 9) (n9 := m9) fl_X1_43 (Or.inl rfl) (Or.inl rfl) dX1_init_54 rfl h1 hb0 hb1 ?_
  refine r_aload_n (pc := 57) dX1_init_57 rfl ?_
  refine r_iload_n (pc := 58) dX1_init_58 rfl ?_
  refine c_putI (pc := 59) (jI := 0) (n9 := m9) fl_X1_46 (Or.inl rfl) (Or.inr ⟨rfl, rfl⟩) dX1_init_59 rfl h1 hb0 hb1 ?_
  refine r_aload_n (pc := 62) dX1_init_62 rfl ?_
  refine r_iload_n (pc := 63) dX1_init_63 rfl ?_
  refine c_putI (pc := 64) (jI := 1) (n9 := m9) fl_X1_49 (Or.inl rfl) (Or.inr ⟨rfl, rfl⟩) dX1_init_64 rfl h1 hb0 hb1 ?_
  refine r_aload_n (pc := 67) dX1_init_67 rfl ?_
  refine r_iload_n (pc := 68) dX1_init_68 rfl ?_
  refine c_putI (pc := 69) (jI := 5) (n9 := m9) fl_X1_52 (Or.inl rfl) (Or.inl rfl) dX1_init_69 rfl h1 hb0 hb1 ?_
  refine c_r (RP_end (fun j a => (by first | rfl | (simp only [HR]; (repeat' split) <;> first | omega | rfl)))) ?_
  refine r_vret (pc := 72) dX1_init_72 rfl (Nat.le_of_ble_eq_true rfl) (Nat.le_of_ble_eq_true rfl) ?_
  exact qN hQ rfl

theorem HR_13 {nb nk : Int} {i j : Int} : HR nb nk 13 i j = if i = 0 ∧ 0 ≤ j ∧ j < nb then some (1, j) else none := rfl
theorem HR_14 {nb nk : Int} {i j : Int} : HR nb nk 14 i j = if i = 0 ∧ 0 ≤ j ∧ j < nk then some (0, j) else none := rfl
theorem HR_o {nb nk nb' nk' : Int} {k : Nat} {i j : Int} (h : k ≠ 13 ∧ k ≠ 14) : HR nb nk k i j = HR nb' nk' k i j := by
  unfold HR
  split <;> first | rfl | (exfalso; omega)
theorem HR_box {nb nk : Int} (h : 0 ≤ nb) : up1 (HR nb nk) 13 0 nb (some (1, nb)) = HR (nb + 1) nk := by
  funext k i j
  unfold up1
  by_cases e : k = 13
  · subst e
    rw [HR_13, HR_13]
    by_cases q : i = 0 ∧ j = nb
    · obtain ⟨rfl, rfl⟩ := q
      rw [if_pos ⟨rfl, rfl, rfl⟩, if_pos ⟨rfl, h, by omega⟩]
    · rw [if_neg (fun z => q z.2)]
      have : (i = 0 ∧ 0 ≤ j ∧ j < nb) ↔ (i = 0 ∧ 0 ≤ j ∧ j < nb + 1) := by omega
      simp only [this]
  · rw [if_neg (fun z => e z.1)]
    by_cases e2 : k = 14
    · subst e2; rfl
    · exact HR_o ⟨e, e2⟩
theorem HR_book {nb nk : Int} (h : 0 ≤ nk) : up1 (HR nb nk) 14 0 nk (some (0, nk)) = HR nb (nk + 1) := by
  funext k i j
  unfold up1
  by_cases e : k = 14
  · subst e
    rw [HR_14, HR_14]
    by_cases q : i = 0 ∧ j = nk
    · obtain ⟨rfl, rfl⟩ := q
      rw [if_pos ⟨rfl, rfl, rfl⟩, if_pos ⟨rfl, h, by omega⟩]
    · rw [if_neg (fun z => q z.2)]
      have : (i = 0 ∧ 0 ≤ j ∧ j < nk) ↔ (i = 0 ∧ 0 ≤ j ∧ j < nk + 1) := by omega
      simp only [this]
  · rw [if_neg (fun z => e z.1)]
    by_cases e2 : k = 13
    · subst e2; rfl
    · exact HR_o ⟨e2, e⟩
def isBk (k : Nat) : Bool := k == 1 || k == 2 || k == 3 || k == 4 || k == 22 || k == 23 || k == 24 || k == 25 || k == 26 || k == 27 || k == 28 || k == 29
theorem CN_o {g nb nk nb' nk' : Int} {k : Nat} (h : isBk k = false) (h0 : k ≠ 0 ∨ nk = nk') : CN g nb nk k = CN g nb' nk' k := by
  unfold CN
  split <;> first | rfl | (exfalso; revert h; decide) | (rcases h0 with q | q; exact absurd rfl q; exact q)
theorem CN_box {g nb nk : Int} : cN1 (nS (CN g nb nk) 1) = CN g (nb + 1) nk := by
  funext k
  by_cases e : isBk k = true
  · simp only [isBk, Bool.or_eq_true, beq_iff_eq] at e
    rcases e with ((((((((((e | e) | e) | e) | e) | e) | e) | e) | e) | e) | e) | e <;> subst e <;> rfl
  · have e2 : isBk k = false := by simpa using e
    rw [← CN_o (g := g) (nb := nb) (nk := nk) e2 (Or.inr rfl)]
    have : k ≠ 1 ∧ k ≠ 2 ∧ k ≠ 3 ∧ k ≠ 4 ∧ k ≠ 22 ∧ k ≠ 23 ∧ k ≠ 24 ∧ k ≠ 25 ∧ k ≠ 26 ∧ k ≠ 27 ∧ k ≠ 28 ∧ k ≠ 29 := by
      refine ⟨?_, ?_, ?_, ?_, ?_, ?_, ?_, ?_, ?_, ?_, ?_, ?_⟩ <;> (rintro rfl; revert e2; decide)
    simp only [cN1, cN2, cN3, cN4, nS, this, if_false]
theorem CN_book {g nb nk : Int} : cN0 (nS (CN g nb nk) 0) = CN g nb (nk + 1) := by
  funext k
  by_cases e : k = 0
  · subst e; rfl
  · simp only [cN0, nS, e, if_false]
    by_cases e2 : isBk k = true
    · simp only [isBk, Bool.or_eq_true, beq_iff_eq] at e2
      rcases e2 with ((((((((((e | e) | e) | e) | e) | e) | e) | e) | e) | e) | e) | e <;> subst e <;> rfl
    · exact CN_o (by simpa using e2) (Or.inl e)
theorem c_hp {I : MI} {pc : Nat} {xs : List (Option Av)} {st : List Av} {f : Hi} {nb nk : Int} {cs sl : Nat} {Q : Option Av → Hp → Prop} {X : String → Hp → Prop} {g : Int} (hg : f 98 0 0 = g) (k : Run I pc xs st (hp f nb nk) cs sl Q X) : Run I pc xs st (f, HR nb nk, CN g nb nk) cs sl Q X := by
  subst hg
  exact k
def boxH (hi : Hi) (nb kd ls un : Int) : Hi := cF1 (zf hi 1 nb) nb kd ls un
def bokH (hi : Hi) (nk po kd wa : Int) : Hi := cF0 (zf hi 0 nk) nk po kd wa
theorem boxH_r {hi : Hi} {nb kd ls un : Int} {k : Nat} {i j : Int} (h : isBk k = false ∨ i ≠ nb) : boxH hi nb kd ls un k i j = hi k i j := by
  have : ∀ k' : Nat, isBk k' = true → ¬ (k = k' ∧ i = nb) := by
    rintro k' hk ⟨rfl, rfl⟩
    rcases h with h | h
    · rw [hk] at h; cases h
    · exact h rfl
  have t := fun k' hk => (⟨fun z => this k' hk ⟨z.1, z.2⟩, fun jj z => this k' hk ⟨z.1, z.2.1⟩⟩ : (¬ (k = k' ∧ i = nb)) ∧ ∀ jj : Int, ¬ (k = k' ∧ i = nb ∧ j = jj))
  have t1 := t 1 rfl
  have t2 := t 2 rfl
  have t3 := t 3 rfl
  have t4 := t 4 rfl
  simp only [boxH, cF1, cF2, cF3, cF4, zf, up1, t1, t2, t3, t4, this 22 rfl, this 23 rfl, this 24 rfl, this 25 rfl, this 26 rfl, this 27 rfl, this 28 rfl, this 29 rfl, if_false]
theorem bokH_r {hi : Hi} {nk po kd wa : Int} {k : Nat} {i j : Int} (h : k ≠ 0 ∨ i ≠ nk) : bokH hi nk po kd wa k i j = hi k i j := by
  have t : ¬ (k = 0 ∧ i = nk) := fun z => by rcases h with h | h; exact h z.1; exact h z.2
  have t2 : ∀ jj : Int, ¬ (k = 0 ∧ i = nk ∧ j = jj) := fun jj z => t ⟨z.1, z.2.1⟩
  simp only [bokH, cF0, zf, up1, t, t2, if_false]
def cC_box (nb kd ls un : Int) : Int := if ¬ (-1 ≤ ls ∧ ls ≤ 2) then 1 else if ¬ (0 ≤ kd ∧ kd ≤ 2 ∧ 0 ≤ un ∧ un ≤ 9999) then 2 else if 40 ≤ nb then 3 else 0
theorem K_X6_box {hi : Hi} {nb nk : Int} (hI : Inv hi nb nk) {kd ls un : Int}  : Op I_X6_box [aR 6 0, aI kd, aI ls, aI un] (hp hi nb nk) (cC_box nb kd ls un) (some (aI nb)) (hp (up1 (boxH hi nb kd ls un) 6 0 6 (nb + 1)) (nb + 1) nk) 1 2 3 := by
  have hN := hI.num
  have hD := hI.day
  unfold vNum at hN
  unfold vDay at hD
  refine st_o (xs := [some (aR 6 0), some (aI kd), some (aI ls), some (aI un), none]) pn_X6 rfl rfl (Nat.le_of_ble_eq_true rfl) rfl rfl (fun Q X hQ hXa hXb hXc => ?_)
  refine r_iload_n (pc := 0) dX6_box_0 rfl ?_
  refine r_iconst (pc := 1) (n := (-1)) dX6_box_1 (by decide) ?_
  refine r_icmp_eq (pc := 2) (tgt := 9) dX6_box_2 rfl (fun c2 => ?_) (fun c2 => ?_)
  · refine r_iload_n (pc := 9) dX6_box_9 rfl ?_
    refine n0_S (pc := 10) (rest := []) (cs' := 1) (sl' := 6) ms_X6_74 rfl (K_X6_needKind (p := kd)) rfl ⟨(Nat.le_of_ble_eq_true rfl), (Nat.le_of_ble_eq_true rfl)⟩ (Nat.le_of_ble_eq_true rfl) dX6_box_10 ⟨rfl, (Nat.le_of_ble_eq_true rfl)⟩ ⟨rfl, (Nat.le_of_ble_eq_true rfl)⟩ rfl (fun c10 => ?_) (fun c10 => ?_)
    · refine r_iload_n (pc := 13) dX6_box_13 rfl ?_
      refine r_iconst (pc := 14) (n := 0) dX6_box_14 (by decide) ?_
      refine r_sipush (pc := 15) (n := 9999) dX6_box_15 rfl (by decide) ?_
      refine n0_S (pc := 18) (rest := []) (cs' := 2) (sl' := 12) ms_X6_67 rfl (K_X6_needRange (v := un) (lo := 0) (up := 9999)) rfl ⟨(Nat.le_of_ble_eq_true rfl), (Nat.le_of_ble_eq_true rfl)⟩ (Nat.le_of_ble_eq_true rfl) dX6_box_18 ⟨rfl, (Nat.le_of_ble_eq_true rfl)⟩ ⟨rfl, (Nat.le_of_ble_eq_true rfl)⟩ rfl (fun c18 => ?_) (fun c18 => ?_)
      · refine r_aload_n (pc := 21) dX6_box_21 rfl ?_
        refine q_getI (pc := 22) (jI := 6) (n9 := 1) (v := nb) fl_X6_40 rfl dX6_box_22 rfl rfl (by decide) (by decide) (by omega) ?_
        refine r_bipush (pc := 25) (n := 40) dX6_box_25 rfl (by decide) ?_
        refine r_icmp_lt (pc := 27) (tgt := 40) dX6_box_27 rfl (fun c27 => ?_) (fun c27 => ?_)
        · refine r_aload_n (pc := 40) dX6_box_40 rfl ?_
          refine q_getI (pc := 41) (jI := 6) (n9 := 1) (v := nb) fl_X6_40 rfl dX6_box_41 rfl rfl (by decide) (by decide) (by omega) ?_
          refine r_istore (pc := 44) (xs' := [some (aR 6 0), some (aI kd), some (aI ls), some (aI un), some (aI nb)]) dX6_box_44 (by decide) rfl ?_
          refine r_aload_n (pc := 46) dX6_box_46 rfl ?_
          refine p_getQ (pc := 47) (jI := 3) (n9 := 1) (r := some (13, 0)) fl_X6_23 rfl dX6_box_47 rfl rfl (by decide) (by decide) rfl ?_
          refine r_iload (pc := 50) dX6_box_50 rfl ?_
          refine c_r RP_nil.symm ?_
          refine c_new (pc := 52) (N9 := nb) (cs' := 3) (sl' := 22) nl_X6_21 dX6_box_52 rfl ⟨rfl, (Nat.le_of_ble_eq_true rfl)⟩ ⟨rfl, (Nat.le_of_ble_eq_true rfl)⟩ ?_
          refine c_r (RP_new (fun j a => (by first | rfl | (simp only [HR]; (repeat' split) <;> first | omega | rfl)))) ?_
          refine r_dup (pc := 55) dX6_box_55 (fun _ => rfl) ?_
          refine r_iload_n (pc := 56) dX6_box_56 rfl ?_
          refine r_iload_n (pc := 57) dX6_box_57 rfl ?_
          refine r_iload_n (pc := 58) dX6_box_58 rfl ?_
          refine d0_I (pc := 59) (t := 1) (i := nb) (rest := [aR 1 nb, aI nb, aR 13 0]) (cs' := 14) (sl' := 198) mi_X6_82 (K_X1_init (m9 := nb + 1) (L := []) (fun x hx => by cases hx) (by omega) (by omega) rfl rfl rfl rfl rfl rfl rfl rfl rfl rfl rfl rfl) rfl ⟨(Nat.le_of_ble_eq_true rfl), (Nat.le_of_ble_eq_true rfl)⟩ (Nat.le_of_ble_eq_true rfl) dX6_box_59 ⟨rfl, (Nat.le_of_ble_eq_true rfl)⟩ ⟨rfl, (Nat.le_of_ble_eq_true rfl)⟩ rfl ?_
          refine c_r RP_nil ?_
          refine c_aast (pc := 62) (t := 1) (n9 := 1) (m9 := nb + 1) rfl (Or.inr rfl) dX6_box_62 rfl rfl (by decide) (by decide) (by omega) (by omega) (by omega) (by omega) ?_
          refine c_r (HR_box (by omega)) ?_
          refine c_n CN_box ?_
          refine c_hp (boxH_r (hi := hi) (nb := nb) (kd := kd) (ls := ls) (un := un) (Or.inl rfl)) ?_
          show Run _ 63 _ _ (hp (boxH hi nb kd ls un) _ _) _ _ _ _
          refine r_aload_n (pc := 63) dX6_box_63 rfl ?_
          refine r_dup (pc := 64) dX6_box_64 (fun _ => rfl) ?_
          refine q_getI (pc := 65) (jI := 6) (n9 := 1) (v := nb) fl_X6_40 rfl dX6_box_65 rfl rfl (by decide) (by decide) (by rw [boxH_r (Or.inl rfl)]; omega) ?_
          refine r_iconst (pc := 68) (n := 1) dX6_box_68 (by decide) ?_
          refine r_iadd (pc := 69) dX6_box_69 (by omega) ?_
          refine p_putI (pc := 70) (jI := 6) (n9 := 1) fl_X6_40 (Or.inl rfl) (Or.inl rfl) dX6_box_70 rfl rfl (by decide) (by decide) ?_
          refine r_iload (pc := 73) dX6_box_73 rfl ?_
          refine r_iret (pc := 75) dX6_box_75 (Or.inl rfl) (Nat.le_of_ble_eq_true rfl) (Nat.le_of_ble_eq_true rfl) ?_
          exact hQ (by unfold cC_box; (repeat' split) <;> omega)
        · refine r_throw (pc := 30) (text := "there are 40 boxes") rfl th_X6_81 (by decide) dX6_box_30 dX6_box_33 dX6_box_34 dX6_box_36 dX6_box_39 ⟨(Nat.le_of_ble_eq_true rfl), (Nat.le_of_ble_eq_true rfl), (Nat.le_of_ble_eq_true rfl), (Nat.le_of_ble_eq_true rfl)⟩ (hXc (by unfold cC_box; (repeat' split) <;> omega))
      · exact rx_out rfl (hXb (by unfold cC_box; (repeat' split) <;> omega)) (Nat.le_of_ble_eq_true rfl) (Nat.le_of_ble_eq_true rfl)
    · exact rx_out rfl (hXb (by unfold cC_box; (repeat' split) <;> omega)) (Nat.le_of_ble_eq_true rfl) (Nat.le_of_ble_eq_true rfl)
  · refine r_iload_n (pc := 5) dX6_box_5 rfl ?_
    refine n0_S (pc := 6) (rest := []) (cs' := 1) (sl' := 6) ms_X6_71 rfl (K_X6_needLessor (p := ls)) rfl ⟨(Nat.le_of_ble_eq_true rfl), (Nat.le_of_ble_eq_true rfl)⟩ (Nat.le_of_ble_eq_true rfl) dX6_box_6 ⟨rfl, (Nat.le_of_ble_eq_true rfl)⟩ ⟨rfl, (Nat.le_of_ble_eq_true rfl)⟩ rfl (fun c6 => ?_) (fun c6 => ?_)
    · refine r_iload_n (pc := 9) dX6_box_9 rfl ?_
      refine n0_S (pc := 10) (rest := []) (cs' := 2) (sl' := 12) ms_X6_74 rfl (K_X6_needKind (p := kd)) rfl ⟨(Nat.le_of_ble_eq_true rfl), (Nat.le_of_ble_eq_true rfl)⟩ (Nat.le_of_ble_eq_true rfl) dX6_box_10 ⟨rfl, (Nat.le_of_ble_eq_true rfl)⟩ ⟨rfl, (Nat.le_of_ble_eq_true rfl)⟩ rfl (fun c10 => ?_) (fun c10 => ?_)
      · refine r_iload_n (pc := 13) dX6_box_13 rfl ?_
        refine r_iconst (pc := 14) (n := 0) dX6_box_14 (by decide) ?_
        refine r_sipush (pc := 15) (n := 9999) dX6_box_15 rfl (by decide) ?_
        refine n0_S (pc := 18) (rest := []) (cs' := 3) (sl' := 18) ms_X6_67 rfl (K_X6_needRange (v := un) (lo := 0) (up := 9999)) rfl ⟨(Nat.le_of_ble_eq_true rfl), (Nat.le_of_ble_eq_true rfl)⟩ (Nat.le_of_ble_eq_true rfl) dX6_box_18 ⟨rfl, (Nat.le_of_ble_eq_true rfl)⟩ ⟨rfl, (Nat.le_of_ble_eq_true rfl)⟩ rfl (fun c18 => ?_) (fun c18 => ?_)
        · refine r_aload_n (pc := 21) dX6_box_21 rfl ?_
          refine q_getI (pc := 22) (jI := 6) (n9 := 1) (v := nb) fl_X6_40 rfl dX6_box_22 rfl rfl (by decide) (by decide) (by omega) ?_
          refine r_bipush (pc := 25) (n := 40) dX6_box_25 rfl (by decide) ?_
          refine r_icmp_lt (pc := 27) (tgt := 40) dX6_box_27 rfl (fun c27 => ?_) (fun c27 => ?_)
          · refine r_aload_n (pc := 40) dX6_box_40 rfl ?_
            refine q_getI (pc := 41) (jI := 6) (n9 := 1) (v := nb) fl_X6_40 rfl dX6_box_41 rfl rfl (by decide) (by decide) (by omega) ?_
            refine r_istore (pc := 44) (xs' := [some (aR 6 0), some (aI kd), some (aI ls), some (aI un), some (aI nb)]) dX6_box_44 (by decide) rfl ?_
            refine r_aload_n (pc := 46) dX6_box_46 rfl ?_
            refine p_getQ (pc := 47) (jI := 3) (n9 := 1) (r := some (13, 0)) fl_X6_23 rfl dX6_box_47 rfl rfl (by decide) (by decide) rfl ?_
            refine r_iload (pc := 50) dX6_box_50 rfl ?_
            refine c_r RP_nil.symm ?_
            refine c_new (pc := 52) (N9 := nb) (cs' := 4) (sl' := 28) nl_X6_21 dX6_box_52 rfl ⟨rfl, (Nat.le_of_ble_eq_true rfl)⟩ ⟨rfl, (Nat.le_of_ble_eq_true rfl)⟩ ?_
            refine c_r (RP_new (fun j a => (by first | rfl | (simp only [HR]; (repeat' split) <;> first | omega | rfl)))) ?_
            refine r_dup (pc := 55) dX6_box_55 (fun _ => rfl) ?_
            refine r_iload_n (pc := 56) dX6_box_56 rfl ?_
            refine r_iload_n (pc := 57) dX6_box_57 rfl ?_
            refine r_iload_n (pc := 58) dX6_box_58 rfl ?_
            refine d0_I (pc := 59) (t := 1) (i := nb) (rest := [aR 1 nb, aI nb, aR 13 0]) (cs' := 15) (sl' := 204) mi_X6_82 (K_X1_init (m9 := nb + 1) (L := []) (fun x hx => by cases hx) (by omega) (by omega) rfl rfl rfl rfl rfl rfl rfl rfl rfl rfl rfl rfl) rfl ⟨(Nat.le_of_ble_eq_true rfl), (Nat.le_of_ble_eq_true rfl)⟩ (Nat.le_of_ble_eq_true rfl) dX6_box_59 ⟨rfl, (Nat.le_of_ble_eq_true rfl)⟩ ⟨rfl, (Nat.le_of_ble_eq_true rfl)⟩ rfl ?_
            refine c_r RP_nil ?_
            refine c_aast (pc := 62) (t := 1) (n9 := 1) (m9 := nb + 1) rfl (Or.inr rfl) dX6_box_62 rfl rfl (by decide) (by decide) (by omega) (by omega) (by omega) (by omega) ?_
            refine c_r (HR_box (by omega)) ?_
            refine c_n CN_box ?_
            refine c_hp (boxH_r (hi := hi) (nb := nb) (kd := kd) (ls := ls) (un := un) (Or.inl rfl)) ?_
            show Run _ 63 _ _ (hp (boxH hi nb kd ls un) _ _) _ _ _ _
            refine r_aload_n (pc := 63) dX6_box_63 rfl ?_
            refine r_dup (pc := 64) dX6_box_64 (fun _ => rfl) ?_
            refine q_getI (pc := 65) (jI := 6) (n9 := 1) (v := nb) fl_X6_40 rfl dX6_box_65 rfl rfl (by decide) (by decide) (by rw [boxH_r (Or.inl rfl)]; omega) ?_
            refine r_iconst (pc := 68) (n := 1) dX6_box_68 (by decide) ?_
            refine r_iadd (pc := 69) dX6_box_69 (by omega) ?_
            refine p_putI (pc := 70) (jI := 6) (n9 := 1) fl_X6_40 (Or.inl rfl) (Or.inl rfl) dX6_box_70 rfl rfl (by decide) (by decide) ?_
            refine r_iload (pc := 73) dX6_box_73 rfl ?_
            refine r_iret (pc := 75) dX6_box_75 (Or.inl rfl) (Nat.le_of_ble_eq_true rfl) (Nat.le_of_ble_eq_true rfl) ?_
            exact hQ (by unfold cC_box; (repeat' split) <;> omega)
          · refine r_throw (pc := 30) (text := "there are 40 boxes") rfl th_X6_81 (by decide) dX6_box_30 dX6_box_33 dX6_box_34 dX6_box_36 dX6_box_39 ⟨(Nat.le_of_ble_eq_true rfl), (Nat.le_of_ble_eq_true rfl), (Nat.le_of_ble_eq_true rfl), (Nat.le_of_ble_eq_true rfl)⟩ (hXc (by unfold cC_box; (repeat' split) <;> omega))
        · exact rx_out rfl (hXb (by unfold cC_box; (repeat' split) <;> omega)) (Nat.le_of_ble_eq_true rfl) (Nat.le_of_ble_eq_true rfl)
      · exact rx_out rfl (hXb (by unfold cC_box; (repeat' split) <;> omega)) (Nat.le_of_ble_eq_true rfl) (Nat.le_of_ble_eq_true rfl)
    · exact rx_out rfl (hXa (by unfold cC_box; (repeat' split) <;> omega)) (Nat.le_of_ble_eq_true rfl) (Nat.le_of_ble_eq_true rfl)

def cC_book (nk po kd wa : Int) : Int := if ¬ (0 ≤ po ∧ po < 6) then 1 else if ¬ (0 ≤ kd ∧ kd ≤ 2 ∧ 1 ≤ wa ∧ wa ≤ 9) then 2 else if 20 ≤ nk then 3 else 0
theorem K_X6_book {hi : Hi} {nb nk : Int} (hI : Inv hi nb nk) {po kd wa : Int}  : Op I_X6_book [aR 6 0, aI po, aI kd, aI wa] (hp hi nb nk) (cC_book nk po kd wa) (some (aI nk)) (hp (up1 (bokH hi nk po kd wa) 6 0 7 (nk + 1)) nb (nk + 1)) 1 2 3 := by
  have hN := hI.num
  have hD := hI.day
  unfold vNum at hN
  unfold vDay at hD
  refine st_o (xs := [some (aR 6 0), some (aI po), some (aI kd), some (aI wa), none]) pn_X6 rfl rfl (Nat.le_of_ble_eq_true rfl) rfl rfl (fun Q X hQ hXa hXb hXc => ?_)
  refine r_iload_n (pc := 0) dX6_book_0 rfl ?_
  refine n0_S (pc := 1) (rest := []) (cs' := 1) (sl' := 6) ms_X6_56 rfl (K_X6_needPort (p := po)) rfl ⟨(Nat.le_of_ble_eq_true rfl), (Nat.le_of_ble_eq_true rfl)⟩ (Nat.le_of_ble_eq_true rfl) dX6_book_1 ⟨rfl, (Nat.le_of_ble_eq_true rfl)⟩ ⟨rfl, (Nat.le_of_ble_eq_true rfl)⟩ rfl (fun c1 => ?_) (fun c1 => ?_)
  · refine r_iload_n (pc := 4) dX6_book_4 rfl ?_
    refine n0_S (pc := 5) (rest := []) (cs' := 2) (sl' := 12) ms_X6_74 rfl (K_X6_needKind (p := kd)) rfl ⟨(Nat.le_of_ble_eq_true rfl), (Nat.le_of_ble_eq_true rfl)⟩ (Nat.le_of_ble_eq_true rfl) dX6_book_5 ⟨rfl, (Nat.le_of_ble_eq_true rfl)⟩ ⟨rfl, (Nat.le_of_ble_eq_true rfl)⟩ rfl (fun c5 => ?_) (fun c5 => ?_)
    · refine r_iload_n (pc := 8) dX6_book_8 rfl ?_
      refine r_iconst (pc := 9) (n := 1) dX6_book_9 (by decide) ?_
      refine r_bipush (pc := 10) (n := 9) dX6_book_10 rfl (by decide) ?_
      refine n0_S (pc := 12) (rest := []) (cs' := 3) (sl' := 18) ms_X6_67 rfl (K_X6_needRange (v := wa) (lo := 1) (up := 9)) rfl ⟨(Nat.le_of_ble_eq_true rfl), (Nat.le_of_ble_eq_true rfl)⟩ (Nat.le_of_ble_eq_true rfl) dX6_book_12 ⟨rfl, (Nat.le_of_ble_eq_true rfl)⟩ ⟨rfl, (Nat.le_of_ble_eq_true rfl)⟩ rfl (fun c12 => ?_) (fun c12 => ?_)
      · refine r_aload_n (pc := 15) dX6_book_15 rfl ?_
        refine q_getI (pc := 16) (jI := 7) (n9 := 1) (v := nk) fl_X6_44 rfl dX6_book_16 rfl rfl (by decide) (by decide) (by omega) ?_
        refine r_bipush (pc := 19) (n := 20) dX6_book_19 rfl (by decide) ?_
        refine r_icmp_lt (pc := 21) (tgt := 34) dX6_book_21 rfl (fun c21 => ?_) (fun c21 => ?_)
        · refine r_aload_n (pc := 34) dX6_book_34 rfl ?_
          refine q_getI (pc := 35) (jI := 7) (n9 := 1) (v := nk) fl_X6_44 rfl dX6_book_35 rfl rfl (by decide) (by decide) (by omega) ?_
          refine r_istore (pc := 38) (xs' := [some (aR 6 0), some (aI po), some (aI kd), some (aI wa), some (aI nk)]) dX6_book_38 (by decide) rfl ?_
          refine r_aload_n (pc := 40) dX6_book_40 rfl ?_
          refine p_getQ (pc := 41) (jI := 4) (n9 := 1) (r := some (14, 0)) fl_X6_29 rfl dX6_book_41 rfl rfl (by decide) (by decide) rfl ?_
          refine r_iload (pc := 44) dX6_book_44 rfl ?_
          refine c_r RP_nil.symm ?_
          refine c_new (pc := 46) (N9 := nk) (cs' := 4) (sl' := 23) nl_X6_27 dX6_book_46 rfl ⟨rfl, (Nat.le_of_ble_eq_true rfl)⟩ ⟨rfl, (Nat.le_of_ble_eq_true rfl)⟩ ?_
          refine c_r (RP_new (fun j a => (by first | rfl | (simp only [HR]; (repeat' split) <;> first | omega | rfl)))) ?_
          refine r_dup (pc := 49) dX6_book_49 (fun _ => rfl) ?_
          refine r_iload_n (pc := 50) dX6_book_50 rfl ?_
          refine r_iload_n (pc := 51) dX6_book_51 rfl ?_
          refine r_iload_n (pc := 52) dX6_book_52 rfl ?_
          refine d0_I (pc := 53) (t := 0) (i := nk) (rest := [aR 0 nk, aI nk, aR 14 0]) (cs' := 4) (sl' := 23) mi_X6_206 (K_X0_init (m9 := nk + 1) (L := []) (fun x hx => by cases hx) (by omega) (by omega) rfl) rfl ⟨(Nat.le_of_ble_eq_true rfl), (Nat.le_of_ble_eq_true rfl)⟩ (Nat.le_of_ble_eq_true rfl) dX6_book_53 ⟨rfl, (Nat.le_of_ble_eq_true rfl)⟩ ⟨rfl, (Nat.le_of_ble_eq_true rfl)⟩ rfl ?_
          refine c_r RP_nil ?_
          refine c_aast (pc := 56) (t := 0) (n9 := 1) (m9 := nk + 1) rfl (Or.inl rfl) dX6_book_56 rfl rfl (by decide) (by decide) (by omega) (by omega) (by omega) (by omega) ?_
          refine c_r (HR_book (by omega)) ?_
          refine c_n CN_book ?_
          refine c_hp (bokH_r (hi := hi) (nk := nk) (po := po) (kd := kd) (wa := wa) (Or.inl (by decide))) ?_
          show Run _ 57 _ _ (hp (bokH hi nk po kd wa) _ _) _ _ _ _
          refine r_aload_n (pc := 57) dX6_book_57 rfl ?_
          refine r_dup (pc := 58) dX6_book_58 (fun _ => rfl) ?_
          refine q_getI (pc := 59) (jI := 7) (n9 := 1) (v := nk) fl_X6_44 rfl dX6_book_59 rfl rfl (by decide) (by decide) (by rw [bokH_r (by omega)]; omega) ?_
          refine r_iconst (pc := 62) (n := 1) dX6_book_62 (by decide) ?_
          refine r_iadd (pc := 63) dX6_book_63 (by omega) ?_
          refine p_putI (pc := 64) (jI := 7) (n9 := 1) fl_X6_44 (Or.inl rfl) (Or.inl rfl) dX6_book_64 rfl rfl (by decide) (by decide) ?_
          refine r_iload (pc := 67) dX6_book_67 rfl ?_
          refine r_iret (pc := 69) dX6_book_69 (Or.inl rfl) (Nat.le_of_ble_eq_true rfl) (Nat.le_of_ble_eq_true rfl) ?_
          exact hQ (by unfold cC_book; (repeat' split) <;> omega)
        · refine r_throw (pc := 24) (text := "there are 20 bookings") rfl th_X6_81 (by decide) dX6_book_24 dX6_book_27 dX6_book_28 dX6_book_30 dX6_book_33 ⟨(Nat.le_of_ble_eq_true rfl), (Nat.le_of_ble_eq_true rfl), (Nat.le_of_ble_eq_true rfl), (Nat.le_of_ble_eq_true rfl)⟩ (hXc (by unfold cC_book; (repeat' split) <;> omega))
      · exact rx_out rfl (hXb (by unfold cC_book; (repeat' split) <;> omega)) (Nat.le_of_ble_eq_true rfl) (Nat.le_of_ble_eq_true rfl)
    · exact rx_out rfl (hXb (by unfold cC_book; (repeat' split) <;> omega)) (Nat.le_of_ble_eq_true rfl) (Nat.le_of_ble_eq_true rfl)
  · exact rx_out rfl (hXa (by unfold cC_book; (repeat' split) <;> omega)) (Nat.le_of_ble_eq_true rfl) (Nat.le_of_ble_eq_true rfl)
