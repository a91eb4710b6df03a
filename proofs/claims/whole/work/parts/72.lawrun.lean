/-! ===== the law: its loop and its start (printed by wip/whole/tools/g72.py) ===== -/
theorem and_31 (v : Int32) : v &&& 31 = Int32.ofInt (v.toInt % 32) := by
  apply Int32.toBitVec_inj.mp
  apply BitVec.eq_of_toNat_eq
  have h1 : (v &&& 31).toBitVec.toNat = v.toBitVec.toNat % 32 := by
    rw [Int32.toBitVec_and, BitVec.toNat_and]
    exact Nat.and_two_pow_sub_one_eq_mod v.toBitVec.toNat 5
  have h2 : v.toInt % 32 = ((v.toBitVec.toNat % 32 : Nat) : Int) := by
    have e : v.toInt = v.toBitVec.toInt := rfl
    rw [e, BitVec.toInt_eq_toNat_cond]
    split <;> omega
  rw [h1, h2]
  have : v.toBitVec.toNat % 32 < 32 := Nat.mod_lt _ (by decide)
  show _ = (BitVec.ofInt 32 ((v.toBitVec.toNat % 32 : Nat) : Int)).toNat
  rw [BitVec.toNat_ofInt]
  omega
theorem and_31i (v : Int32) : Int32.ofInt v.toInt &&& Int32.ofInt 31 = Int32.ofInt (v.toInt % 32) := by
  rw [Int32.ofInt_toInt]
  exact and_31 v
theorem sw_z {z : Int} (h0 : 0 ≤ z) : z = 0 ∨ z = 1 ∨ z = 2 ∨ z = 3 ∨ z = 4 ∨ z = 5 ∨ z = 6 ∨ z = 7 ∨ z = 8 ∨ z = 9 ∨ z = 10 ∨ z = 11 ∨ z = 12 ∨ z = 13 ∨ z = 14 ∨ z = 15 ∨ z = 16 ∨ z = 17 ∨ z = 18 ∨ z = 19 ∨ z = 20 ∨ z = 21 ∨ z = 22 ∨ z = 23 ∨ 23 < z := by omega
theorem law_run {nm : String} {hh : List (Nat × Nat × Nat × Nat)} {L : Nat} {sc : Nat → Int32} (hL : L ≤ 2560) {Q : Option Av → Hp → Prop} {X : String → Hp → Prop} (hQ : ∀ h, Q (some (aI 1)) h) : ∀ (n : Nat) (i : Int) (hi : Hi) (nb nk : Int) (cs sl : Nat), 0 ≤ i → i ≤ (L : Int) → (L : Int) - i < 5 * (n : Int) → Inv hi nb nk → cs + 40 * n ≤ 601024 → sl + 400 * n ≤ 7293034 →
    Run (I_law nm hh L sc) 23 [some (aR 99 0), some (aR 6 0), some (aR 7 0), some (aR 60 0), some (aI i), none, none] [] (hp hi nb nk) cs sl Q X := by
  intro n
  induction n with
  | zero => intro i hi nb nk cs sl h0 hiL hn; exfalso; omega
  | succ n ih =>
    intro i hi nb nk cs sl h0 hiL hn hI hcs hsl
    refine r_iload (pc := 23) dL_law_23 rfl ?_
    refine r_aload_n (pc := 25) dL_law_25 rfl ?_
    refine r_slen (pc := 26) (L := L) (sc := sc) rfl (by omega) dL_law_26 ?_
    refine r_iconst (pc := 27) (n := 5) dL_law_27 (by decide) ?_
    refine r_isub (pc := 28) dL_law_28 (by omega) ?_
    refine r_icmp_gt (pc := 29) (tgt := 1754) dL_law_29 rfl (fun c29 => ?_) (fun c29 => ?_)
    · refine r_iconst (pc := 1754) (n := 1) dL_law_1754 (by decide) ?_
      refine r_iret (pc := 1755) dL_law_1755 (Or.inr ⟨rfl, Or.inr rfl⟩) (by show _ ≤ 601024; omega) (by show _ ≤ 7293034; omega) ?_
      exact hQ _
    · have hcs4 : cs + 40 ≤ 601024 := by omega
      have hsl4 : sl + 400 ≤ 7293034 := Nat.le_trans (by clear hsl; omega) hsl
      have K : ∀ (hi' : Hi) (nb' nk' : Int), Inv hi' nb' nk' → Run (I_law nm hh L sc) 1748 [some (aR 99 0), some (aR 6 0), some (aR 7 0), some (aR 60 0), some (aI i), none, none] [] (hp hi' nb' nk') (cs + 40) (sl + 400) Q X := fun hi' nb' nk' hI' => by
        refine r_iinc (pc := 1748) (xs' := [some (aR 99 0), some (aR 6 0), some (aR 7 0), some (aR 60 0), some (aI (i + 5)), none, none]) dL_law_1748 rfl (Nat.le_of_ble_eq_true rfl) (by omega) rfl ?_
        refine r_goto (pc := 1751) (tgt := 23) dL_law_1751 rfl ?_
        exact ih (i + 5) hi' nb' nk' (cs + 40) (sl + 400) (by omega) (by omega) (by omega) hI' (by omega) (by omega)
      refine r_aload_n (pc := 32) dL_law_32 rfl ?_
      refine r_iload (pc := 33) dL_law_33 rfl ?_
      refine r_sld (pc := 35) (L := L) (sc := sc) rfl dL_law_35 (by omega) (by omega) ?_
      refine r_bipush (pc := 36) (n := 31) dL_law_36 rfl (by decide) ?_
      refine r_iand (pc := 38) (z := (sc i.toNat).toInt % 32) dL_law_38 (and_31i (sc i.toNat)) (by omega) ?_
      generalize hz : (sc i.toNat).toInt % 32 = z
      have hz0 : 0 ≤ z := by omega
      rcases sw_z hz0 with e | e | e | e | e | e | e | e | e | e | e | e | e | e | e | e | e | e | e | e | e | e | e | e | e
      · refine r_tableIn (pc := 39) (off := 109) (tgt := 148) dL_law_39 (by omega) (by omega) (by rw [e]; rfl) rfl ?_
        exact law_cost hI h0 (by omega) hL hcs4 hsl4 K
      · refine r_tableIn (pc := 39) (off := 189) (tgt := 228) dL_law_39 (by omega) (by omega) (by rw [e]; rfl) rfl ?_
        exact law_box hI h0 (by omega) hL hcs4 hsl4 K
      · refine r_tableIn (pc := 39) (off := 269) (tgt := 308) dL_law_39 (by omega) (by omega) (by rw [e]; rfl) rfl ?_
        exact law_wash hI h0 (by omega) hL hcs4 hsl4 K
      · refine r_tableIn (pc := 39) (off := 344) (tgt := 383) dL_law_39 (by omega) (by omega) (by rw [e]; rfl) rfl ?_
        exact law_report hI h0 (by omega) hL hcs4 hsl4 K
      · refine r_tableIn (pc := 39) (off := 436) (tgt := 475) dL_law_39 (by omega) (by omega) (by rw [e]; rfl) rfl ?_
        exact law_place hI h0 (by omega) hL hcs4 hsl4 K
      · refine r_tableIn (pc := 39) (off := 504) (tgt := 543) dL_law_39 (by omega) (by omega) (by rw [e]; rfl) rfl ?_
        exact law_count hI h0 (by omega) hL hcs4 hsl4 K
      · refine r_tableIn (pc := 39) (off := 584) (tgt := 623) dL_law_39 (by omega) (by omega) (by rw [e]; rfl) rfl ?_
        exact law_days hI h0 (by omega) hL hcs4 hsl4 K
      · refine r_tableIn (pc := 39) (off := 676) (tgt := 715) dL_law_39 (by omega) (by omega) (by rw [e]; rfl) rfl ?_
        exact law_lease hI h0 (by omega) hL hcs4 hsl4 K
      · refine r_tableIn (pc := 39) (off := 736) (tgt := 775) dL_law_39 (by omega) (by omega) (by rw [e]; rfl) rfl ?_
        exact law_free hI h0 (by omega) hL hcs4 hsl4 K
      · refine r_tableIn (pc := 39) (off := 792) (tgt := 831) dL_law_39 (by omega) (by omega) (by rw [e]; rfl) rfl ?_
        exact law_payer hI h0 (by omega) hL hcs4 hsl4 K
      · refine r_tableIn (pc := 39) (off := 860) (tgt := 899) dL_law_39 (by omega) (by omega) (by rw [e]; rfl) rfl ?_
        exact law_quota hI h0 (by omega) hL hcs4 hsl4 K
      · refine r_tableIn (pc := 39) (off := 940) (tgt := 979) dL_law_39 (by omega) (by omega) (by rw [e]; rfl) rfl ?_
        exact law_handIn hI h0 (by omega) hL hcs4 hsl4 K
      · refine r_tableIn (pc := 39) (off := 996) (tgt := 1035) dL_law_39 (by omega) (by omega) (by rw [e]; rfl) rfl ?_
        exact law_damage hI h0 (by omega) hL hcs4 hsl4 K
      · refine r_tableIn (pc := 39) (off := 1076) (tgt := 1115) dL_law_39 (by omega) (by omega) (by rw [e]; rfl) rfl ?_
        exact law_standard hI h0 (by omega) hL hcs4 hsl4 K
      · refine r_tableIn (pc := 39) (off := 1144) (tgt := 1183) dL_law_39 (by omega) (by omega) (by rw [e]; rfl) rfl ?_
        exact law_limit hI h0 (by omega) hL hcs4 hsl4 K
      · refine r_tableIn (pc := 39) (off := 1200) (tgt := 1239) dL_law_39 (by omega) (by omega) (by rw [e]; rfl) rfl ?_
        exact law_mend hI h0 (by omega) hL hcs4 hsl4 K
      · refine r_tableIn (pc := 39) (off := 1256) (tgt := 1295) dL_law_39 (by omega) (by omega) (by rw [e]; rfl) rfl ?_
        exact law_book hI h0 (by omega) hL hcs4 hsl4 K
      · refine r_tableIn (pc := 39) (off := 1336) (tgt := 1375) dL_law_39 (by omega) (by omega) (by rw [e]; rfl) rfl ?_
        exact law_serve hI h0 (by omega) hL hcs4 hsl4 K
      · refine r_tableIn (pc := 39) (off := 1349) (tgt := 1388) dL_law_39 (by omega) (by omega) (by rw [e]; rfl) rfl ?_
        exact law_end hI h0 (by omega) hL hcs4 hsl4 K
      · refine r_tableIn (pc := 39) (off := 1405) (tgt := 1444) dL_law_39 (by omega) (by omega) (by rw [e]; rfl) rfl ?_
        exact law_bring hI h0 (by omega) hL hcs4 hsl4 K
      · refine r_tableIn (pc := 39) (off := 1461) (tgt := 1500) dL_law_39 (by omega) (by omega) (by rw [e]; rfl) rfl ?_
        exact law_brings hI h0 (by omega) hL hcs4 hsl4 K
      · refine r_tableIn (pc := 39) (off := 1529) (tgt := 1568) dL_law_39 (by omega) (by omega) (by rw [e]; rfl) rfl ?_
        exact law_boxIs hI h0 (by omega) hL hcs4 hsl4 K
      · refine r_tableIn (pc := 39) (off := 1597) (tgt := 1636) dL_law_39 (by omega) (by omega) (by rw [e]; rfl) rfl ?_
        exact law_lacks hI h0 (by omega) hL hcs4 hsl4 K
      · refine r_tableIn (pc := 39) (off := 1653) (tgt := 1692) dL_law_39 (by omega) (by omega) (by rw [e]; rfl) rfl ?_
        exact law_pass hI h0 (by omega) hL hcs4 hsl4 K
      · refine r_tableOut (pc := 39) (tgt := 1748) dL_law_39 (Or.inr (by omega)) rfl ?_
        refine r_wide (cs' := cs + 40) (sl' := sl + 400) (by omega) (by omega) ?_
        exact K _ _ _ hI

theorem law_start {nm : String} {hh : List (Nat × Nat × Nat × Nat)} {L : Nat} {sc : Nat → Int32} (hL : L ≤ 2560) {Q : Option Av → Hp → Prop} {X : String → Hp → Prop} (hQ : ∀ h, Q (some (aI 1)) h) : Run (I_law nm hh L sc) 0 [some (aR 99 0), none, none, none, none, none, none] [] (zz, HR 0 0, nZ) 0 0 Q X := by
  refine c_r RP_nil.symm ?_
  refine c_new (pc := 0) (N9 := 0) (cs' := 1) (sl' := 11) nl_L_8 dL_law_0 rfl ⟨rfl, (Nat.le_of_ble_eq_true rfl)⟩ ⟨rfl, (Nat.le_of_ble_eq_true rfl)⟩ ?_
  refine c_r (RP_new (fun j a => (by first | rfl | (simp only [HR]; repeat rw [if_neg (by omega)]) | (simp only [HR]; (repeat' split) <;> first | omega | rfl)))) ?_
  refine c_f (zf_z (fun _ => rfl)) ?_
  refine r_dup (pc := 3) dL_law_3 (fun _ => rfl) ?_
  refine d0_I (pc := 4) (t := 6) (i := 0) (rest := [aR 6 0]) (cs' := 23) (sl' := 291) mi_L_90 K_X6_init rfl ⟨(Nat.le_of_ble_eq_true rfl), (Nat.le_of_ble_eq_true rfl)⟩ (Nat.le_of_ble_eq_true rfl) dL_law_4 ⟨rfl, (Nat.le_of_ble_eq_true rfl)⟩ ⟨rfl, (Nat.le_of_ble_eq_true rfl)⟩ rfl ?_
  refine r_astore_n (pc := 7) (xs' := [some (aR 99 0), some (aR 6 0), none, none, none, none, none]) dL_law_7 (Nat.le_of_ble_eq_true rfl) rfl ?_
  refine c_r RP_nil.symm ?_
  refine c_new (pc := 8) (N9 := 0) (cs' := 24) (sl' := 329) nl_L_91 dL_law_8 rfl ⟨rfl, (Nat.le_of_ble_eq_true rfl)⟩ ⟨rfl, (Nat.le_of_ble_eq_true rfl)⟩ ?_
  refine c_r (RP_new (fun j a => (by first | rfl | (simp only [HR]; repeat rw [if_neg (by omega)]) | (simp only [HR]; (repeat' split) <;> first | omega | rfl)))) ?_
  refine c_f (zf_z (fun _ => rfl)) ?_
  refine r_dup (pc := 11) dL_law_11 (fun _ => rfl) ?_
  refine d0_I (pc := 12) (t := 7) (i := 0) (rest := [aR 7 0]) (cs' := 54) (sl' := 6346) mi_L_93 K_X7_init rfl ⟨(Nat.le_of_ble_eq_true rfl), (Nat.le_of_ble_eq_true rfl)⟩ (Nat.le_of_ble_eq_true rfl) dL_law_12 ⟨rfl, (Nat.le_of_ble_eq_true rfl)⟩ ⟨rfl, (Nat.le_of_ble_eq_true rfl)⟩ rfl ?_
  refine r_astore_n (pc := 15) (xs' := [some (aR 99 0), some (aR 6 0), some (aR 7 0), none, none, none, none]) dL_law_15 (Nat.le_of_ble_eq_true rfl) rfl ?_
  refine r_iconst (pc := 16) (n := 1) dL_law_16 (by decide) ?_
  refine c_r RP_nil.symm ?_
  refine c_newa (pc := 17) (kk := 60) (N9 := 0) (cs' := 55) (sl' := 6347) rfl rfl (by decide) ⟨rfl, (by decide), (by decide)⟩ gt_1096 dL_law_17 rfl ⟨rfl, (Nat.le_of_ble_eq_true rfl)⟩ ⟨rfl, (Nat.le_of_ble_eq_true rfl)⟩ ?_
  refine c_r (RP_arr (fun j => rfl)) ?_
  refine c_r RP_nil ?_
  refine c_f (zf_z (fun _ => rfl)) ?_
  refine c_n CN_0 ?_
  refine r_astore_n (pc := 19) (xs' := [some (aR 99 0), some (aR 6 0), some (aR 7 0), some (aR 60 0), none, none, none]) dL_law_19 (Nat.le_of_ble_eq_true rfl) rfl ?_
  refine r_iconst (pc := 20) (n := 0) dL_law_20 (by decide) ?_
  refine r_istore (pc := 21) (xs' := [some (aR 99 0), some (aR 6 0), some (aR 7 0), some (aR 60 0), some (aI 0), none, none]) dL_law_21 (Nat.le_of_ble_eq_true rfl) rfl ?_
  exact law_run hL hQ 513 0 hi0 0 0 55 6347 (by omega) (by omega) (by omega) Inv_0 (Nat.le_of_ble_eq_true rfl) (Nat.le_of_ble_eq_true rfl)
