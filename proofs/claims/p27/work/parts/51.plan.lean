/-! ===== the plan: its small methods (walks printed by wip/p27/tools/g51.py) ===== -/
def p2 (p : Int) : Int := if p = 0 then 1 else if p = 1 then 2 else if p = 2 then 4 else if p = 3 then 8 else if p = 4 then 16 else 32
def bitI (x p : Int) : Int := x / p2 p % 2
def orI (x p : Int) : Int := if bitI x p = 1 then x else x + p2 p
theorem bt_shl {p : Int} (h : 0 ≤ p ∧ p < 6) : Int32.ofInt 1 <<< (Int32.ofInt p &&& 31) = Int32.ofInt (p2 p) := by
  rcases (show p = 0 ∨ p = 1 ∨ p = 2 ∨ p = 3 ∨ p = 4 ∨ p = 5 by omega) with e | e | e | e | e | e <;> subst e <;> decide +kernel
theorem bt_fin (P : Int → Int → Bool) (h : (List.range 64).all (fun x => (List.range 6).all (fun p => P x p)) = true) {x p : Int} (hx : 0 ≤ x ∧ x < 64) (hp : 0 ≤ p ∧ p < 6) : P x p = true := by
  have a := List.all_eq_true.mp h x.toNat (List.mem_range.mpr (by omega))
  have b := List.all_eq_true.mp a p.toNat (List.mem_range.mpr (by omega))
  rw [show ((x.toNat : Nat) : Int) = x by omega, show ((p.toNat : Nat) : Int) = p by omega] at b
  exact b
theorem bt_or {x p : Int} (hx : 0 ≤ x ∧ x < 64) (hp : 0 ≤ p ∧ p < 6) : Int32.ofInt x ||| Int32.ofInt (p2 p) = Int32.ofInt (orI x p) ∧ 0 ≤ orI x p ∧ orI x p < 64 := by
  have := bt_fin (fun x p => decide (Int32.ofInt x ||| Int32.ofInt (p2 p) = Int32.ofInt (orI x p) ∧ 0 ≤ orI x p ∧ orI x p < 64)) (by decide +kernel) hx hp
  simpa using this
theorem bt_and {x p : Int} (hx : 0 ≤ x ∧ x < 64) (hp : 0 ≤ p ∧ p < 6) : Int32.ofInt x &&& Int32.ofInt (p2 p) = Int32.ofInt (bitI x p * p2 p) ∧ 0 ≤ bitI x p * p2 p ∧ bitI x p * p2 p < 64 ∧ (bitI x p * p2 p = 0 ↔ bitI x p = 0) := by
  have := bt_fin (fun x p => decide (Int32.ofInt x &&& Int32.ofInt (p2 p) = Int32.ofInt (bitI x p * p2 p) ∧ 0 ≤ bitI x p * p2 p ∧ bitI x p * p2 p < 64 ∧ (bitI x p * p2 p = 0 ↔ bitI x p = 0))) (by decide +kernel) hx hp
  simpa using this
theorem bit_or {x p q : Int} (hx : 0 ≤ x ∧ x < 64) (hp : 0 ≤ p ∧ p < 6) (hq : 0 ≤ q ∧ q < 6) : bitI (orI x p) q = if q = p then 1 else bitI x q := by
  rcases (show q = 0 ∨ q = 1 ∨ q = 2 ∨ q = 3 ∨ q = 4 ∨ q = 5 by omega) with e | e | e | e | e | e <;> subst e
  · have := bt_fin (fun x p => decide (bitI (orI x p) 0 = if 0 = p then 1 else bitI x 0)) (by decide +kernel) hx hp; simpa using this
  · have := bt_fin (fun x p => decide (bitI (orI x p) 1 = if 1 = p then 1 else bitI x 1)) (by decide +kernel) hx hp; simpa using this
  · have := bt_fin (fun x p => decide (bitI (orI x p) 2 = if 2 = p then 1 else bitI x 2)) (by decide +kernel) hx hp; simpa using this
  · have := bt_fin (fun x p => decide (bitI (orI x p) 3 = if 3 = p then 1 else bitI x 3)) (by decide +kernel) hx hp; simpa using this
  · have := bt_fin (fun x p => decide (bitI (orI x p) 4 = if 4 = p then 1 else bitI x 4)) (by decide +kernel) hx hp; simpa using this
  · have := bt_fin (fun x p => decide (bitI (orI x p) 5 = if 5 = p then 1 else bitI x 5)) (by decide +kernel) hx hp; simpa using this
theorem p2_r {p : Int} : 1 ≤ p2 p ∧ p2 p ≤ 32 := by
  unfold p2
  (repeat' split) <;> omega
def clrH (hi : Hi) : Hi := up1 (up1 (up1 (up1 hi 5 0 7 0) 5 0 8 0) 5 0 9 0) 5 0 10 0
theorem K_X5_clear {hi : Hi} {nb nk : Int} : Det I_X5_clear [aR 5 0] (hp hi nb nk) none (hp (clrH hi) nb nk) := by
  refine st_d (xs := [some (aR 5 0)]) pn_X5 rfl rfl (Nat.le_of_ble_eq_true rfl) rfl rfl (fun Q X hQ => ?_)
  refine r_aload_n (pc := 0) dX5_clear_0 rfl ?_
  refine r_iconst (pc := 1) (n := 0) dX5_clear_1 (by decide) ?_
  refine p_putI (pc := 2) (jI := 7) (n9 := 1) fl_X5_34 (Or.inl rfl) (Or.inl rfl) dX5_clear_2 rfl rfl (by decide) (by decide) ?_
  refine r_aload_n (pc := 5) dX5_clear_5 rfl ?_
  refine r_iconst (pc := 6) (n := 0) dX5_clear_6 (by decide) ?_
  refine p_putI (pc := 7) (jI := 8) (n9 := 1) fl_X5_38 (Or.inl rfl) (Or.inl rfl) dX5_clear_7 rfl rfl (by decide) (by decide) ?_
  refine r_aload_n (pc := 10) dX5_clear_10 rfl ?_
  refine r_iconst (pc := 11) (n := 0) dX5_clear_11 (by decide) ?_
  refine p_putI (pc := 12) (jI := 9) (n9 := 1) fl_X5_41 (Or.inl rfl) (Or.inl rfl) dX5_clear_12 rfl rfl (by decide) (by decide) ?_
  refine r_aload_n (pc := 15) dX5_clear_15 rfl ?_
  refine r_iconst (pc := 16) (n := 0) dX5_clear_16 (by decide) ?_
  refine p_putI (pc := 17) (jI := 10) (n9 := 1) fl_X5_44 (Or.inl rfl) (Or.inl rfl) dX5_clear_17 rfl rfl (by decide) (by decide) ?_
  refine r_vret (pc := 20) dX5_clear_20 rfl (Nat.le_of_ble_eq_true rfl) (Nat.le_of_ble_eq_true rfl) ?_
  exact qN hQ rfl

theorem K_X5_boxOf {hi : Hi} {nb nk : Int} {u : Int} : Det I_X5_boxOf [aR 5 0, aI u] (hp hi nb nk) (some (aI (if 0 ≤ u ∧ u < hi 5 0 8 ∧ u < 5 then hi 20 0 u else -1))) (hp hi nb nk) := by
  refine st_d (xs := [some (aR 5 0), some (aI u)]) pn_X5 rfl rfl (Nat.le_of_ble_eq_true rfl) rfl rfl (fun Q X hQ => ?_)
  refine r_iload_n (pc := 0) dX5_boxOf_0 rfl ?_
  refine r_if_lt (pc := 1) (tgt := 30) dX5_boxOf_1 rfl (fun c1 => ?_) (fun c1 => ?_)
  · refine r_iconst (pc := 30) (n := (-1)) dX5_boxOf_30 (by decide) ?_
    refine r_iret (pc := 31) dX5_boxOf_31 (Or.inl rfl) (Nat.le_of_ble_eq_true rfl) (Nat.le_of_ble_eq_true rfl) ?_
    exact qI hQ (by rw [if_neg (by omega)]) rfl
  · refine r_iload_n (pc := 4) dX5_boxOf_4 rfl ?_
    refine r_aload_n (pc := 5) dX5_boxOf_5 rfl ?_
    refine q_getI (pc := 6) (jI := 8) (n9 := 1) (v := hi 5 0 8) fl_X5_38 rfl dX5_boxOf_6 rfl rfl (by decide) (by decide) rfl ?_
    refine r_icmp_ge (pc := 9) (tgt := 30) dX5_boxOf_9 rfl (fun c9 => ?_) (fun c9 => ?_)
    · refine r_iconst (pc := 30) (n := (-1)) dX5_boxOf_30 (by decide) ?_
      refine r_iret (pc := 31) dX5_boxOf_31 (Or.inl rfl) (Nat.le_of_ble_eq_true rfl) (Nat.le_of_ble_eq_true rfl) ?_
      exact qI hQ (by rw [if_neg (by omega)]) rfl
    · refine r_iload_n (pc := 12) dX5_boxOf_12 rfl ?_
      refine r_aload_n (pc := 13) dX5_boxOf_13 rfl ?_
      refine p_getQ (pc := 14) (jI := 5) (n9 := 1) (r := some (20, 0)) fl_X5_28 rfl dX5_boxOf_14 rfl rfl (by decide) (by decide) rfl ?_
      refine p_alen (pc := 17) (kk := 20) (n9 := 1) (nI := 5) rfl ⟨(by decide), (by decide), (by decide)⟩ (by decide) dX5_boxOf_17 rfl (by decide) (by decide) rfl ?_
      refine r_icmp_ge (pc := 18) (tgt := 30) dX5_boxOf_18 rfl (fun c18 => ?_) (fun c18 => ?_)
      · refine r_iconst (pc := 30) (n := (-1)) dX5_boxOf_30 (by decide) ?_
        refine r_iret (pc := 31) dX5_boxOf_31 (Or.inl rfl) (Nat.le_of_ble_eq_true rfl) (Nat.le_of_ble_eq_true rfl) ?_
        exact qI hQ (by rw [if_neg (by omega)]) rfl
      · refine r_aload_n (pc := 21) dX5_boxOf_21 rfl ?_
        refine p_getQ (pc := 22) (jI := 5) (n9 := 1) (r := some (20, 0)) fl_X5_28 rfl dX5_boxOf_22 rfl rfl (by decide) (by decide) rfl ?_
        refine r_iload_n (pc := 25) dX5_boxOf_25 rfl ?_
        refine q_iald (pc := 26) (n9 := 1) (nI := 5) (v := hi 20 0 u) rfl dX5_boxOf_26 rfl (by decide) (by decide) rfl (by omega) (by omega) rfl ?_
        refine r_goto (pc := 27) (tgt := 31) dX5_boxOf_27 rfl ?_
        refine r_iret (pc := 31) dX5_boxOf_31 (Or.inl rfl) (Nat.le_of_ble_eq_true rfl) (Nat.le_of_ble_eq_true rfl) ?_
        exact qI hQ (by rw [if_pos (by omega)]) rfl

def lckH (hi : Hi) (p c n : Int) : Hi := fun k i j => if k = 5 ∧ i = 0 ∧ j = 7 then orI (hi 5 0 7) p else if k = 15 ∧ i = 0 ∧ hi 5 0 8 ≤ j ∧ j < n then p else hi k i j
theorem lckH_0 {hi : Hi} {p c : Int} : up1 hi 5 0 7 (orI (hi 5 0 7) p) = lckH hi p c (hi 5 0 8) := by
  funext k i j
  simp only [up1, lckH]
  rw [if_neg (c := k = 15 ∧ _) (by omega)]
theorem lckH_s {hi : Hi} {p c n : Int} (h : hi 5 0 8 ≤ n) : up1 (lckH hi p c n) 15 0 n p = lckH hi p c (n + 1) := by
  funext k i j
  simp only [up1, lckH]
  by_cases q : k = 15 ∧ i = 0 ∧ j = n
  · obtain ⟨rfl, rfl, rfl⟩ := q
    rw [if_pos ⟨rfl, rfl, rfl⟩, if_neg (by omega), if_pos (by omega)]
  · rw [if_neg q]
    have : (k = 15 ∧ i = 0 ∧ hi 5 0 8 ≤ j ∧ j < n) ↔ (k = 15 ∧ i = 0 ∧ hi 5 0 8 ≤ j ∧ j < n + 1) := by omega
    simp only [this]
theorem lckH_r {hi : Hi} {p c n : Int} {k : Nat} {i j : Int} (h : (k = 5 ∧ j ≠ 7) ∨ (k ≠ 5 ∧ k ≠ 15)) : lckH hi p c n k i j = hi k i j := by
  unfold lckH
  rw [if_neg (by omega), if_neg (by omega)]
/-- what lacks at a port, told to the plan -/
def lakH (hi : Hi) (p c : Int) : Hi := if 0 < c then up1 (lckH hi p c (if hi 5 0 8 + c < 5 then hi 5 0 8 + c else if hi 5 0 8 < 5 then 5 else hi 5 0 8)) 5 0 8 (hi 5 0 8 + c) else hi
theorem K_X5_lack {hi : Hi} {nb nk : Int} {p c : Int} (hp0 : 0 ≤ p ∧ p < 6) (hm : 0 ≤ hi 5 0 7 ∧ hi 5 0 7 < 64) (hu : 0 ≤ hi 5 0 8 ∧ hi 5 0 8 ≤ 1000) (hc : c ≤ 1000) : Det I_X5_lack [aR 5 0, aI p, aI c] (hp hi nb nk) none (hp (lakH hi p c) nb nk) := by
  refine st_d (xs := [some (aR 5 0), some (aI p), some (aI c), none]) pn_X5 rfl rfl (Nat.le_of_ble_eq_true rfl) rfl rfl (fun Q X hQ => ?_)
  refine r_iload_n (pc := 0) dX5_lack_0 rfl ?_
  refine d1_SN (pc := 1) (rest := []) (cs' := 0) (sl' := 0) mt_X5_47 (K_X6_isPort (p := p)) rfl ⟨(Nat.le_of_ble_eq_true rfl), (Nat.le_of_ble_eq_true rfl)⟩ (Nat.le_of_ble_eq_true rfl) dX5_lack_1 ⟨rfl, (Nat.le_of_ble_eq_true rfl)⟩ ⟨rfl, (Nat.le_of_ble_eq_true rfl)⟩ rfl ?_
  refine q_ifeqB (pc := 4) (tgt := 11) dX5_lack_4 rfl (fun c4 => absurd hp0 c4) (fun c4 => ?_)
  refine r_iload_n (pc := 7) dX5_lack_7 rfl ?_
  refine r_if_gt (pc := 8) (tgt := 12) dX5_lack_8 rfl (fun c8 => ?_) (fun c8 => ?_)
  · refine r_aload_n (pc := 12) dX5_lack_12 rfl ?_
    refine r_dup (pc := 13) dX5_lack_13 (fun _ => rfl) ?_
    refine q_getI (pc := 14) (jI := 7) (n9 := 1) (v := hi 5 0 7) fl_X5_34 rfl dX5_lack_14 rfl rfl (by decide) (by decide) rfl ?_
    refine r_iconst (pc := 17) (n := 1) dX5_lack_17 (by decide) ?_
    refine r_iload_n (pc := 18) dX5_lack_18 rfl ?_
    refine r_ishl (pc := 19) (z := p2 p) dX5_lack_19 (bt_shl hp0) (by have := p2_r (p := p); omega) ?_
    refine r_ior (pc := 20) (z := orI (hi 5 0 7) p) dX5_lack_20 (bt_or hm hp0).1 (by have := bt_or hm hp0; omega) ?_
    refine p_putI (pc := 21) (jI := 7) (n9 := 1) fl_X5_34 (Or.inl rfl) (Or.inl rfl) dX5_lack_21 rfl rfl (by decide) (by decide) ?_
    refine r_aload_n (pc := 24) dX5_lack_24 rfl ?_
    refine q_getI (pc := 25) (jI := 8) (n9 := 1) (v := hi 5 0 8) fl_X5_38 rfl dX5_lack_25 rfl rfl (by decide) (by decide) (by simp [up1]) ?_
    refine r_istore_n (pc := 28) (xs' := [some (aR 5 0), some (aI p), some (aI c), some (aI (hi 5 0 8))]) dX5_lack_28 (by decide) rfl ?_
    have loop : ∀ (n9 : Nat) (i : Int), (hi 5 0 8 ≤ i ∧ (i ≤ hi 5 0 8 + c) ∧ (i ≤ 5 ∨ i = hi 5 0 8)) → hi 5 0 8 + c - i < (n9 : Int) → Run I_X5_lack 29 [some (aR 5 0), some (aI p), some (aI c), some (aI i)] [] (hp (lckH hi p c i) nb nk) 0 0 Q X := by
      intro n9
      induction n9 with
      | zero => intro i h0 hf9; exfalso; omega
      | succ n9 ih_loop =>
        intro i h0 hf9
        refine r_iload_n (pc := 29) dX5_lack_29 rfl ?_
        refine r_aload_n (pc := 30) dX5_lack_30 rfl ?_
        refine q_getI (pc := 31) (jI := 8) (n9 := 1) (v := hi 5 0 8) fl_X5_38 rfl dX5_lack_31 rfl rfl (by decide) (by decide) (by exact lckH_r (by omega)) ?_
        refine r_iload_n (pc := 34) dX5_lack_34 rfl ?_
        refine r_iadd (pc := 35) dX5_lack_35 (by omega) ?_
        refine r_icmp_ge (pc := 36) (tgt := 61) dX5_lack_36 rfl (fun c36 => ?_) (fun c36 => ?_)
        · refine r_aload_n (pc := 61) dX5_lack_61 rfl ?_
          refine r_dup (pc := 62) dX5_lack_62 (fun _ => rfl) ?_
          refine q_getI (pc := 63) (jI := 8) (n9 := 1) (v := hi 5 0 8) fl_X5_38 rfl dX5_lack_63 rfl rfl (by decide) (by decide) (by exact lckH_r (by omega)) ?_
          refine r_iload_n (pc := 66) dX5_lack_66 rfl ?_
          refine r_iadd (pc := 67) dX5_lack_67 (by omega) ?_
          refine p_putI (pc := 68) (jI := 8) (n9 := 1) fl_X5_38 (Or.inl rfl) (Or.inl rfl) dX5_lack_68 rfl rfl (by decide) (by decide) ?_
          refine r_vret (pc := 71) dX5_lack_71 rfl (Nat.le_of_ble_eq_true rfl) (Nat.le_of_ble_eq_true rfl) ?_
          exact qN hQ (hp_c (by unfold lakH; rw [if_pos (by omega), show (if hi 5 0 8 + c < 5 then hi 5 0 8 + c else if hi 5 0 8 < 5 then 5 else hi 5 0 8) = i by (repeat' split) <;> omega]))
        · refine r_iload_n (pc := 39) dX5_lack_39 rfl ?_
          refine r_aload_n (pc := 40) dX5_lack_40 rfl ?_
          refine p_getQ (pc := 41) (jI := 0) (n9 := 1) (r := some (15, 0)) fl_X5_9 rfl dX5_lack_41 rfl rfl (by decide) (by decide) rfl ?_
          refine p_alen (pc := 44) (kk := 15) (n9 := 1) (nI := 5) rfl ⟨(by decide), (by decide), (by decide)⟩ (by decide) dX5_lack_44 rfl (by decide) (by decide) rfl ?_
          refine r_icmp_ge (pc := 45) (tgt := 61) dX5_lack_45 rfl (fun c45 => ?_) (fun c45 => ?_)
          · refine r_aload_n (pc := 61) dX5_lack_61 rfl ?_
            refine r_dup (pc := 62) dX5_lack_62 (fun _ => rfl) ?_
            refine q_getI (pc := 63) (jI := 8) (n9 := 1) (v := hi 5 0 8) fl_X5_38 rfl dX5_lack_63 rfl rfl (by decide) (by decide) (by exact lckH_r (by omega)) ?_
            refine r_iload_n (pc := 66) dX5_lack_66 rfl ?_
            refine r_iadd (pc := 67) dX5_lack_67 (by omega) ?_
            refine p_putI (pc := 68) (jI := 8) (n9 := 1) fl_X5_38 (Or.inl rfl) (Or.inl rfl) dX5_lack_68 rfl rfl (by decide) (by decide) ?_
            refine r_vret (pc := 71) dX5_lack_71 rfl (Nat.le_of_ble_eq_true rfl) (Nat.le_of_ble_eq_true rfl) ?_
            exact qN hQ (hp_c (by unfold lakH; rw [if_pos (by omega), show (if hi 5 0 8 + c < 5 then hi 5 0 8 + c else if hi 5 0 8 < 5 then 5 else hi 5 0 8) = i by (repeat' split) <;> omega]))
          · refine r_aload_n (pc := 48) dX5_lack_48 rfl ?_
            refine p_getQ (pc := 49) (jI := 0) (n9 := 1) (r := some (15, 0)) fl_X5_9 rfl dX5_lack_49 rfl rfl (by decide) (by decide) rfl ?_
            refine r_iload_n (pc := 52) dX5_lack_52 rfl ?_
            refine r_iload_n (pc := 53) dX5_lack_53 rfl ?_
            refine p_iast (pc := 54) (n9 := 1) (nI := 5) rfl dX5_lack_54 rfl (by decide) (by decide) rfl (by omega) (by omega) ?_
            refine r_iinc (pc := 55) (xs' := [some (aR 5 0), some (aI p), some (aI c), some (aI (i + 1))]) dX5_lack_55 rfl (by decide) (by omega) rfl ?_
            refine r_goto (pc := 58) (tgt := 29) dX5_lack_58 rfl ?_
            refine r_hp (hi' := (lckH hi p c (i + 1))) (by exact lckH_s h0.1) ?_
            exact ih_loop (i + 1) (by omega) (by omega)
    refine r_hp (hi' := (lckH hi p c (hi 5 0 8))) (by exact lckH_0) ?_
    exact loop 2000 (hi 5 0 8) (by omega) (by omega)
  · refine r_vret (pc := 11) dX5_lack_11 rfl (Nat.le_of_ble_eq_true rfl) (Nat.le_of_ble_eq_true rfl) ?_
    exact qN hQ (hp_c (by unfold lakH; rw [if_neg (by omega)]))

def offH (hi : Hi) (b p : Int) : Hi := if (0 ≤ p ∧ p < 6) ∧ bitI (hi 5 0 7) p = 0 then up1 (up1 (up1 (up1 hi 16 0 (hi 5 0 9) b) 17 0 (hi 5 0 9) p) 18 0 (hi 5 0 9) 0) 5 0 9 (hi 5 0 9 + 1) else hi
theorem K_X5_offer {hi : Hi} {nb nk : Int} {b p : Int} (hm : 0 ≤ hi 5 0 7 ∧ hi 5 0 7 < 64) (ho : 0 ≤ hi 5 0 9 ∧ hi 5 0 9 < 40) : Det I_X5_offer [aR 5 0, aI b, aI p] (hp hi nb nk) none (hp (offH hi b p) nb nk) := by
  refine st_d (xs := [some (aR 5 0), some (aI b), some (aI p)]) pn_X5 rfl rfl (Nat.le_of_ble_eq_true rfl) rfl rfl (fun Q X hQ => ?_)
  refine r_iload_n (pc := 0) dX5_offer_0 rfl ?_
  refine d1_SN (pc := 1) (rest := []) (cs' := 0) (sl' := 0) mt_X5_47 (K_X6_isPort (p := p)) rfl ⟨(Nat.le_of_ble_eq_true rfl), (Nat.le_of_ble_eq_true rfl)⟩ (Nat.le_of_ble_eq_true rfl) dX5_offer_1 ⟨rfl, (Nat.le_of_ble_eq_true rfl)⟩ ⟨rfl, (Nat.le_of_ble_eq_true rfl)⟩ rfl ?_
  refine q_ifeqB (pc := 4) (tgt := 30) dX5_offer_4 rfl (fun c4 => ?_) (fun c4 => ?_)
  · refine r_vret (pc := 30) dX5_offer_30 rfl (Nat.le_of_ble_eq_true rfl) (Nat.le_of_ble_eq_true rfl) ?_
    exact qN hQ (hp_c (by unfold offH; rw [if_neg (by first | omega | (have := bt_and hm c4; omega))]))
  · refine r_aload_n (pc := 7) dX5_offer_7 rfl ?_
    refine q_getI (pc := 8) (jI := 7) (n9 := 1) (v := hi 5 0 7) fl_X5_34 rfl dX5_offer_8 rfl rfl (by decide) (by decide) rfl ?_
    refine r_iconst (pc := 11) (n := 1) dX5_offer_11 (by decide) ?_
    refine r_iload_n (pc := 12) dX5_offer_12 rfl ?_
    refine r_ishl (pc := 13) (z := p2 p) dX5_offer_13 (bt_shl c4) (by have := p2_r (p := p); omega) ?_
    refine r_iand (pc := 14) (z := bitI (hi 5 0 7) p * p2 p) dX5_offer_14 (bt_and hm c4).1 (by have := bt_and hm c4; omega) ?_
    refine r_if_ne (pc := 15) (tgt := 30) dX5_offer_15 rfl (fun c15 => ?_) (fun c15 => ?_)
    · refine r_vret (pc := 30) dX5_offer_30 rfl (Nat.le_of_ble_eq_true rfl) (Nat.le_of_ble_eq_true rfl) ?_
      exact qN hQ (hp_c (by unfold offH; rw [if_neg (by first | omega | (have := bt_and hm c4; omega))]))
    · refine r_aload_n (pc := 18) dX5_offer_18 rfl ?_
      refine q_getI (pc := 19) (jI := 9) (n9 := 1) (v := hi 5 0 9) fl_X5_41 rfl dX5_offer_19 rfl rfl (by decide) (by decide) rfl ?_
      refine r_aload_n (pc := 22) dX5_offer_22 rfl ?_
      refine p_getQ (pc := 23) (jI := 1) (n9 := 1) (r := some (16, 0)) fl_X5_15 rfl dX5_offer_23 rfl rfl (by decide) (by decide) rfl ?_
      refine p_alen (pc := 26) (kk := 16) (n9 := 1) (nI := 40) rfl ⟨(by decide), (by decide), (by decide)⟩ (by decide) dX5_offer_26 rfl (by decide) (by decide) rfl ?_
      refine r_icmp_lt (pc := 27) (tgt := 31) dX5_offer_27 rfl (fun c27 => ?_) (fun c27 => absurd c27 (by omega))
      refine r_aload_n (pc := 31) dX5_offer_31 rfl ?_
      refine p_getQ (pc := 32) (jI := 1) (n9 := 1) (r := some (16, 0)) fl_X5_15 rfl dX5_offer_32 rfl rfl (by decide) (by decide) rfl ?_
      refine r_aload_n (pc := 35) dX5_offer_35 rfl ?_
      refine q_getI (pc := 36) (jI := 9) (n9 := 1) (v := hi 5 0 9) fl_X5_41 rfl dX5_offer_36 rfl rfl (by decide) (by decide) rfl ?_
      refine r_iload_n (pc := 39) dX5_offer_39 rfl ?_
      refine p_iast (pc := 40) (n9 := 1) (nI := 40) rfl dX5_offer_40 rfl (by decide) (by decide) rfl (by omega) (by omega) ?_
      refine r_aload_n (pc := 41) dX5_offer_41 rfl ?_
      refine p_getQ (pc := 42) (jI := 2) (n9 := 1) (r := some (17, 0)) fl_X5_18 rfl dX5_offer_42 rfl rfl (by decide) (by decide) rfl ?_
      refine r_aload_n (pc := 45) dX5_offer_45 rfl ?_
      refine q_getI (pc := 46) (jI := 9) (n9 := 1) (v := hi 5 0 9) fl_X5_41 rfl dX5_offer_46 rfl rfl (by decide) (by decide) (by simp [up1]) ?_
      refine r_iload_n (pc := 49) dX5_offer_49 rfl ?_
      refine p_iast (pc := 50) (n9 := 1) (nI := 40) rfl dX5_offer_50 rfl (by decide) (by decide) rfl (by omega) (by omega) ?_
      refine r_aload_n (pc := 51) dX5_offer_51 rfl ?_
      refine p_getQ (pc := 52) (jI := 3) (n9 := 1) (r := some (18, 0)) fl_X5_21 rfl dX5_offer_52 rfl rfl (by decide) (by decide) rfl ?_
      refine r_aload_n (pc := 55) dX5_offer_55 rfl ?_
      refine q_getI (pc := 56) (jI := 9) (n9 := 1) (v := hi 5 0 9) fl_X5_41 rfl dX5_offer_56 rfl rfl (by decide) (by decide) (by simp [up1]) ?_
      refine r_iconst (pc := 59) (n := 0) dX5_offer_59 (by decide) ?_
      refine p_zast (pc := 60) (n9 := 1) (nI := 40) rfl (by decide) dX5_offer_60 rfl (by decide) (by decide) rfl (by omega) (by omega) ?_
      refine r_aload_n (pc := 61) dX5_offer_61 rfl ?_
      refine r_dup (pc := 62) dX5_offer_62 (fun _ => rfl) ?_
      refine q_getI (pc := 63) (jI := 9) (n9 := 1) (v := hi 5 0 9) fl_X5_41 rfl dX5_offer_63 rfl rfl (by decide) (by decide) (by simp [up1]) ?_
      refine r_iconst (pc := 66) (n := 1) dX5_offer_66 (by decide) ?_
      refine r_iadd (pc := 67) dX5_offer_67 (by omega) ?_
      refine p_putI (pc := 68) (jI := 9) (n9 := 1) fl_X5_41 (Or.inl rfl) (Or.inl rfl) dX5_offer_68 rfl rfl (by decide) (by decide) ?_
      refine r_vret (pc := 71) dX5_offer_71 rfl (Nat.le_of_ble_eq_true rfl) (Nat.le_of_ble_eq_true rfl) ?_
      exact qN hQ (hp_c (by unfold offH; rw [if_pos ⟨c4, by have := bt_and hm c4; omega⟩]))
