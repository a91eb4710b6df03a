/-! ===== the law: leases, call, ask (printed by wip/p27/tools/g67.py) ===== -/
theorem cs_IO : Cond.castable "java/lang/IndexOutOfBoundsException" "java/lang/IndexOutOfBoundsException" ∈ ax_NW := by simp [ax_NW]
theorem cs_IA : Cond.castable "java/lang/IllegalArgumentException" "java/lang/IllegalArgumentException" ∈ ax_NW := by simp [ax_NW]
theorem cs_IS : Cond.castable "java/lang/IllegalStateException" "java/lang/IllegalStateException" ∈ ax_NW := by simp [ax_NW]
theorem Con_mono {I : MI} {av : List Av} {h : Hp} {Q Q' : Option Av → Hp → Prop} {X X' : String → Hp → Prop} (c : Con I av h Q X) (hQ : ∀ r h, Q r h → Q' r h) (hX : ∀ E h, X E h → X' E h) : Con I av h Q' X' := by
  intro l D cA z0 ad hl p e a1 a2 a3 s m args below b1 b2 b3 b4
  obtain ⟨n, o, c1, c2, c3, c4⟩ := c l D cA z0 ad hl p e a1 a2 a3 s m args below b1 b2 b3 b4
  refine ⟨n, o, c1, c2, c3, ?_⟩
  rcases c4 with ⟨⟨r, h1, ad1, e1, q, w⟩, L⟩ | ⟨q, e1, E, ce, L, ⟨h1, ad1, x, y⟩, w⟩
  · exact Or.inl ⟨⟨r, h1, ad1, e1, hQ _ _ q, w⟩, L⟩
  · exact Or.inr ⟨q, e1, E, ce, L, ⟨h1, ad1, hX _ _ x, y⟩, w⟩
section ASK
variable {hi : Hi} {nb nk a b c d : Int} {Q0 : Option Av → Hp → Prop} {X0 : String → Hp → Prop}
theorem K_L_leases (hc : Con I_X6_lease [aR 6 0, aI a, aI b, aI c] (hp hi nb nk) Q0 X0) (hq : ∀ r h, Q0 r h → r = none) : Con I_L_leases [aR 6 0, aI a, aI b, aI c] (hp hi nb nk) (fun r h => r = some (aI 0) ∧ Q0 none h) X0 := by
  refine st_r (xs := [some (aR 6 0), some (aI a), some (aI b), some (aI c)]) pn_L rfl rfl (Nat.le_of_ble_eq_true rfl) rfl rfl (fun Q X hQ hX => ?_)
  refine r_aload_n (pc := 0) dL_leases_0 rfl ?_
  refine r_iload_n (pc := 1) dL_leases_1 rfl ?_
  refine r_iload_n (pc := 2) dL_leases_2 rfl ?_
  refine r_iload_n (pc := 3) dL_leases_3 rfl ?_
  refine r_callV (pc := 4) (t := 6) (i := 0) (rest := []) (cs' := 6) (sl' := 36) mv_L_50 hc rfl ⟨(Nat.le_of_ble_eq_true rfl), (Nat.le_of_ble_eq_true rfl)⟩ (Nat.le_of_ble_eq_true rfl) dL_leases_4 (show (0 : Int) ≤ 0 by decide) (show (0 : Int) < 1 by decide) ⟨rfl, (Nat.le_of_ble_eq_true rfl)⟩ ⟨rfl, (Nat.le_of_ble_eq_true rfl)⟩ rfl (fun r9 h9 hq9 => ?_) (fun E9 h9 hx9 => ?_)
  · have e := hq _ _ hq9
    subst e
    show Run _ 7 _ [] h9 _ _ _ _
    refine r_iconst (pc := 7) (n := 0) dL_leases_7 (by decide) ?_
    refine r_iret (pc := 8) dL_leases_8 (Or.inl rfl) (Nat.le_of_ble_eq_true rfl) (Nat.le_of_ble_eq_true rfl) ?_
    exact hQ _ _ ⟨rfl, hq9⟩
  · exact rx_out rfl (hX _ _ hx9) (Nat.le_of_ble_eq_true rfl) (Nat.le_of_ble_eq_true rfl)
theorem K_L_call_box (hc : Con I_X6_box [aR 6 0, aI a, aI b, aI c] (hp hi nb nk) Q0 X0) (hq : ∀ r h, Q0 r h → ∃ v : Int, r = some (aI v)) : Con I_L_call [aR 6 0, aI 0, aI a, aI b, aI c, aI d] (hp hi nb nk) Q0 X0 := by
  refine st_r (xs := [some (aR 6 0), some (aI 0), some (aI a), some (aI b), some (aI c), some (aI d)]) pn_L rfl rfl (Nat.le_of_ble_eq_true rfl) rfl rfl (fun Q X hQ hX => ?_)
  refine r_iload_n (pc := 0) dL_call_0 rfl ?_
  refine r_tableIn (pc := 1) (off := 55) (tgt := 56) dL_call_1 (by decide) (by decide) rfl rfl ?_
  refine r_aload_n (pc := 56) dL_call_56 rfl ?_
  refine r_iload_n (pc := 57) dL_call_57 rfl ?_
  refine r_iload_n (pc := 58) dL_call_58 rfl ?_
  refine r_iload (pc := 59) dL_call_59 rfl ?_
  refine r_callV (pc := 61) (t := 6) (i := 0) (rest := []) (cs' := 16) (sl' := 210) mv_L_7 hc rfl ⟨(Nat.le_of_ble_eq_true rfl), (Nat.le_of_ble_eq_true rfl)⟩ (Nat.le_of_ble_eq_true rfl) dL_call_61 (show (0 : Int) ≤ 0 by decide) (show (0 : Int) < 1 by decide) ⟨rfl, (Nat.le_of_ble_eq_true rfl)⟩ ⟨rfl, (Nat.le_of_ble_eq_true rfl)⟩ rfl (fun r9 h9 hq9 => ?_) (fun E9 h9 hx9 => ?_)
  · obtain ⟨v, rfl⟩ := hq _ _ hq9
    show Run _ 64 _ [aI v] h9 _ _ _ _
    refine r_iret (pc := 64) dL_call_64 (Or.inl rfl) (Nat.le_of_ble_eq_true rfl) (Nat.le_of_ble_eq_true rfl) ?_
    exact hQ _ _ hq9
  · exact rx_out rfl (hX _ _ hx9) (Nat.le_of_ble_eq_true rfl) (Nat.le_of_ble_eq_true rfl)
theorem K_L_call_wash (hc : Con I_X6_wash [aR 6 0, aI a, aI b] (hp hi nb nk) Q0 X0) (hq : ∀ r h, Q0 r h → ∃ v : Int, r = some (aI v) ∧ (v = 0 ∨ v = 1)) : Con I_L_call [aR 6 0, aI 1, aI a, aI b, aI c, aI d] (hp hi nb nk) Q0 X0 := by
  refine st_r (xs := [some (aR 6 0), some (aI 1), some (aI a), some (aI b), some (aI c), some (aI d)]) pn_L rfl rfl (Nat.le_of_ble_eq_true rfl) rfl rfl (fun Q X hQ hX => ?_)
  refine r_iload_n (pc := 0) dL_call_0 rfl ?_
  refine r_tableIn (pc := 1) (off := 64) (tgt := 65) dL_call_1 (by decide) (by decide) rfl rfl ?_
  refine r_aload_n (pc := 65) dL_call_65 rfl ?_
  refine r_iload_n (pc := 66) dL_call_66 rfl ?_
  refine r_iload_n (pc := 67) dL_call_67 rfl ?_
  refine r_callV (pc := 68) (t := 6) (i := 0) (rest := []) (cs' := 3) (sl' := 18) mv_L_13 hc rfl ⟨(Nat.le_of_ble_eq_true rfl), (Nat.le_of_ble_eq_true rfl)⟩ (Nat.le_of_ble_eq_true rfl) dL_call_68 (show (0 : Int) ≤ 0 by decide) (show (0 : Int) < 1 by decide) ⟨rfl, (Nat.le_of_ble_eq_true rfl)⟩ ⟨rfl, (Nat.le_of_ble_eq_true rfl)⟩ rfl (fun r9 h9 hq9 => ?_) (fun E9 h9 hx9 => ?_)
  · obtain ⟨v, rfl, hv⟩ := hq _ _ hq9
    show Run _ 71 _ [aI v] h9 _ _ _ _
    refine r_if_eq (pc := 71) (tgt := 78) dL_call_71 rfl (fun c0 => ?_) (fun c0 => ?_)
    · refine r_iconst (pc := 78) (n := 0) dL_call_78 (by decide) ?_
      refine r_iret (pc := 79) dL_call_79 (Or.inl rfl) (Nat.le_of_ble_eq_true rfl) (Nat.le_of_ble_eq_true rfl) ?_
      rw [c0] at hq9
      exact hQ _ _ hq9
    · refine r_iconst (pc := 74) (n := 1) dL_call_74 (by decide) ?_
      refine r_goto (pc := 75) (tgt := 79) dL_call_75 rfl ?_
      refine r_iret (pc := 79) dL_call_79 (Or.inl rfl) (Nat.le_of_ble_eq_true rfl) (Nat.le_of_ble_eq_true rfl) ?_
      rw [show v = 1 by omega] at hq9
      exact hQ _ _ hq9
  · exact rx_out rfl (hX _ _ hx9) (Nat.le_of_ble_eq_true rfl) (Nat.le_of_ble_eq_true rfl)
theorem K_L_call_report (hc : Con I_X6_report [aR 6 0, aI a, aI b, aI c, aI d] (hp hi nb nk) Q0 X0) (hq : ∀ r h, Q0 r h → ∃ v : Int, r = some (aI v)) : Con I_L_call [aR 6 0, aI 2, aI a, aI b, aI c, aI d] (hp hi nb nk) Q0 X0 := by
  refine st_r (xs := [some (aR 6 0), some (aI 2), some (aI a), some (aI b), some (aI c), some (aI d)]) pn_L rfl rfl (Nat.le_of_ble_eq_true rfl) rfl rfl (fun Q X hQ hX => ?_)
  refine r_iload_n (pc := 0) dL_call_0 rfl ?_
  refine r_tableIn (pc := 1) (off := 79) (tgt := 80) dL_call_1 (by decide) (by decide) rfl rfl ?_
  refine r_aload_n (pc := 80) dL_call_80 rfl ?_
  refine r_iload_n (pc := 81) dL_call_81 rfl ?_
  refine r_iload_n (pc := 82) dL_call_82 rfl ?_
  refine r_iload (pc := 83) dL_call_83 rfl ?_
  refine r_iload (pc := 85) dL_call_85 rfl ?_
  refine r_callV (pc := 87) (t := 6) (i := 0) (rest := []) (cs' := 6) (sl' := 36) mv_L_17 hc rfl ⟨(Nat.le_of_ble_eq_true rfl), (Nat.le_of_ble_eq_true rfl)⟩ (Nat.le_of_ble_eq_true rfl) dL_call_87 (show (0 : Int) ≤ 0 by decide) (show (0 : Int) < 1 by decide) ⟨rfl, (Nat.le_of_ble_eq_true rfl)⟩ ⟨rfl, (Nat.le_of_ble_eq_true rfl)⟩ rfl (fun r9 h9 hq9 => ?_) (fun E9 h9 hx9 => ?_)
  · obtain ⟨v, rfl⟩ := hq _ _ hq9
    show Run _ 90 _ [aI v] h9 _ _ _ _
    refine r_iret (pc := 90) dL_call_90 (Or.inl rfl) (Nat.le_of_ble_eq_true rfl) (Nat.le_of_ble_eq_true rfl) ?_
    exact hQ _ _ hq9
  · exact rx_out rfl (hX _ _ hx9) (Nat.le_of_ble_eq_true rfl) (Nat.le_of_ble_eq_true rfl)
theorem K_L_call_leases (hc : Con I_L_leases [aR 6 0, aI a, aI b, aI c] (hp hi nb nk) Q0 X0) (hq : ∀ r h, Q0 r h → ∃ v : Int, r = some (aI v)) : Con I_L_call [aR 6 0, aI 3, aI a, aI b, aI c, aI d] (hp hi nb nk) Q0 X0 := by
  refine st_r (xs := [some (aR 6 0), some (aI 3), some (aI a), some (aI b), some (aI c), some (aI d)]) pn_L rfl rfl (Nat.le_of_ble_eq_true rfl) rfl rfl (fun Q X hQ hX => ?_)
  refine r_iload_n (pc := 0) dL_call_0 rfl ?_
  refine r_tableIn (pc := 1) (off := 90) (tgt := 91) dL_call_1 (by decide) (by decide) rfl rfl ?_
  refine r_aload_n (pc := 91) dL_call_91 rfl ?_
  refine r_iload_n (pc := 92) dL_call_92 rfl ?_
  refine r_iload_n (pc := 93) dL_call_93 rfl ?_
  refine r_iload (pc := 94) dL_call_94 rfl ?_
  refine r_callS (pc := 96) (rest := []) (cs' := 6) (sl' := 36) ms_L_21 rfl hc rfl ⟨(Nat.le_of_ble_eq_true rfl), (Nat.le_of_ble_eq_true rfl)⟩ (Nat.le_of_ble_eq_true rfl) dL_call_96 ⟨rfl, (Nat.le_of_ble_eq_true rfl)⟩ ⟨rfl, (Nat.le_of_ble_eq_true rfl)⟩ rfl (fun r9 h9 hq9 => ?_) (fun E9 h9 hx9 => ?_)
  · obtain ⟨v, rfl⟩ := hq _ _ hq9
    show Run _ 99 _ [aI v] h9 _ _ _ _
    refine r_iret (pc := 99) dL_call_99 (Or.inl rfl) (Nat.le_of_ble_eq_true rfl) (Nat.le_of_ble_eq_true rfl) ?_
    exact hQ _ _ hq9
  · exact rx_out rfl (hX _ _ hx9) (Nat.le_of_ble_eq_true rfl) (Nat.le_of_ble_eq_true rfl)
theorem K_L_call_handIn (hc : Con I_X6_handIn [aR 6 0, aI a] (hp hi nb nk) Q0 X0) (hq : ∀ r h, Q0 r h → ∃ v : Int, r = some (aI v)) : Con I_L_call [aR 6 0, aI 4, aI a, aI b, aI c, aI d] (hp hi nb nk) Q0 X0 := by
  refine st_r (xs := [some (aR 6 0), some (aI 4), some (aI a), some (aI b), some (aI c), some (aI d)]) pn_L rfl rfl (Nat.le_of_ble_eq_true rfl) rfl rfl (fun Q X hQ hX => ?_)
  refine r_iload_n (pc := 0) dL_call_0 rfl ?_
  refine r_tableIn (pc := 1) (off := 99) (tgt := 100) dL_call_1 (by decide) (by decide) rfl rfl ?_
  refine r_aload_n (pc := 100) dL_call_100 rfl ?_
  refine r_iload_n (pc := 101) dL_call_101 rfl ?_
  refine r_callV (pc := 102) (t := 6) (i := 0) (rest := []) (cs' := 6) (sl' := 36) mv_L_27 hc rfl ⟨(Nat.le_of_ble_eq_true rfl), (Nat.le_of_ble_eq_true rfl)⟩ (Nat.le_of_ble_eq_true rfl) dL_call_102 (show (0 : Int) ≤ 0 by decide) (show (0 : Int) < 1 by decide) ⟨rfl, (Nat.le_of_ble_eq_true rfl)⟩ ⟨rfl, (Nat.le_of_ble_eq_true rfl)⟩ rfl (fun r9 h9 hq9 => ?_) (fun E9 h9 hx9 => ?_)
  · obtain ⟨v, rfl⟩ := hq _ _ hq9
    show Run _ 105 _ [aI v] h9 _ _ _ _
    refine r_iret (pc := 105) dL_call_105 (Or.inl rfl) (Nat.le_of_ble_eq_true rfl) (Nat.le_of_ble_eq_true rfl) ?_
    exact hQ _ _ hq9
  · exact rx_out rfl (hX _ _ hx9) (Nat.le_of_ble_eq_true rfl) (Nat.le_of_ble_eq_true rfl)
theorem K_L_call_damage (hc : Con I_X6_damage [aR 6 0, aI a, aI b, aI c] (hp hi nb nk) Q0 X0) (hq : ∀ r h, Q0 r h → ∃ v : Int, r = some (aI v)) : Con I_L_call [aR 6 0, aI 5, aI a, aI b, aI c, aI d] (hp hi nb nk) Q0 X0 := by
  refine st_r (xs := [some (aR 6 0), some (aI 5), some (aI a), some (aI b), some (aI c), some (aI d)]) pn_L rfl rfl (Nat.le_of_ble_eq_true rfl) rfl rfl (fun Q X hQ hX => ?_)
  refine r_iload_n (pc := 0) dL_call_0 rfl ?_
  refine r_tableIn (pc := 1) (off := 105) (tgt := 106) dL_call_1 (by decide) (by decide) rfl rfl ?_
  refine r_aload_n (pc := 106) dL_call_106 rfl ?_
  refine r_iload_n (pc := 107) dL_call_107 rfl ?_
  refine r_iload_n (pc := 108) dL_call_108 rfl ?_
  refine r_iload (pc := 109) dL_call_109 rfl ?_
  refine r_callV (pc := 111) (t := 6) (i := 0) (rest := []) (cs' := 5) (sl' := 30) mv_L_31 hc rfl ⟨(Nat.le_of_ble_eq_true rfl), (Nat.le_of_ble_eq_true rfl)⟩ (Nat.le_of_ble_eq_true rfl) dL_call_111 (show (0 : Int) ≤ 0 by decide) (show (0 : Int) < 1 by decide) ⟨rfl, (Nat.le_of_ble_eq_true rfl)⟩ ⟨rfl, (Nat.le_of_ble_eq_true rfl)⟩ rfl (fun r9 h9 hq9 => ?_) (fun E9 h9 hx9 => ?_)
  · obtain ⟨v, rfl⟩ := hq _ _ hq9
    show Run _ 114 _ [aI v] h9 _ _ _ _
    refine r_iret (pc := 114) dL_call_114 (Or.inl rfl) (Nat.le_of_ble_eq_true rfl) (Nat.le_of_ble_eq_true rfl) ?_
    exact hQ _ _ hq9
  · exact rx_out rfl (hX _ _ hx9) (Nat.le_of_ble_eq_true rfl) (Nat.le_of_ble_eq_true rfl)
theorem K_L_call_mend (hc : Con I_X6_mend [aR 6 0, aI a] (hp hi nb nk) Q0 X0) (hq : ∀ r h, Q0 r h → ∃ v : Int, r = some (aI v)) : Con I_L_call [aR 6 0, aI 6, aI a, aI b, aI c, aI d] (hp hi nb nk) Q0 X0 := by
  refine st_r (xs := [some (aR 6 0), some (aI 6), some (aI a), some (aI b), some (aI c), some (aI d)]) pn_L rfl rfl (Nat.le_of_ble_eq_true rfl) rfl rfl (fun Q X hQ hX => ?_)
  refine r_iload_n (pc := 0) dL_call_0 rfl ?_
  refine r_tableIn (pc := 1) (off := 114) (tgt := 115) dL_call_1 (by decide) (by decide) rfl rfl ?_
  refine r_aload_n (pc := 115) dL_call_115 rfl ?_
  refine r_iload_n (pc := 116) dL_call_116 rfl ?_
  refine r_callV (pc := 117) (t := 6) (i := 0) (rest := []) (cs' := 4) (sl' := 24) mv_L_34 hc rfl ⟨(Nat.le_of_ble_eq_true rfl), (Nat.le_of_ble_eq_true rfl)⟩ (Nat.le_of_ble_eq_true rfl) dL_call_117 (show (0 : Int) ≤ 0 by decide) (show (0 : Int) < 1 by decide) ⟨rfl, (Nat.le_of_ble_eq_true rfl)⟩ ⟨rfl, (Nat.le_of_ble_eq_true rfl)⟩ rfl (fun r9 h9 hq9 => ?_) (fun E9 h9 hx9 => ?_)
  · obtain ⟨v, rfl⟩ := hq _ _ hq9
    show Run _ 120 _ [aI v] h9 _ _ _ _
    refine r_iret (pc := 120) dL_call_120 (Or.inl rfl) (Nat.le_of_ble_eq_true rfl) (Nat.le_of_ble_eq_true rfl) ?_
    exact hQ _ _ hq9
  · exact rx_out rfl (hX _ _ hx9) (Nat.le_of_ble_eq_true rfl) (Nat.le_of_ble_eq_true rfl)
theorem K_L_call_book (hc : Con I_X6_book [aR 6 0, aI a, aI b, aI c] (hp hi nb nk) Q0 X0) (hq : ∀ r h, Q0 r h → ∃ v : Int, r = some (aI v)) : Con I_L_call [aR 6 0, aI 7, aI a, aI b, aI c, aI d] (hp hi nb nk) Q0 X0 := by
  refine st_r (xs := [some (aR 6 0), some (aI 7), some (aI a), some (aI b), some (aI c), some (aI d)]) pn_L rfl rfl (Nat.le_of_ble_eq_true rfl) rfl rfl (fun Q X hQ hX => ?_)
  refine r_iload_n (pc := 0) dL_call_0 rfl ?_
  refine r_tableIn (pc := 1) (off := 120) (tgt := 121) dL_call_1 (by decide) (by decide) rfl rfl ?_
  refine r_aload_n (pc := 121) dL_call_121 rfl ?_
  refine r_iload_n (pc := 122) dL_call_122 rfl ?_
  refine r_iload_n (pc := 123) dL_call_123 rfl ?_
  refine r_iload (pc := 124) dL_call_124 rfl ?_
  refine r_callV (pc := 126) (t := 6) (i := 0) (rest := []) (cs' := 5) (sl' := 29) mv_L_37 hc rfl ⟨(Nat.le_of_ble_eq_true rfl), (Nat.le_of_ble_eq_true rfl)⟩ (Nat.le_of_ble_eq_true rfl) dL_call_126 (show (0 : Int) ≤ 0 by decide) (show (0 : Int) < 1 by decide) ⟨rfl, (Nat.le_of_ble_eq_true rfl)⟩ ⟨rfl, (Nat.le_of_ble_eq_true rfl)⟩ rfl (fun r9 h9 hq9 => ?_) (fun E9 h9 hx9 => ?_)
  · obtain ⟨v, rfl⟩ := hq _ _ hq9
    show Run _ 129 _ [aI v] h9 _ _ _ _
    refine r_iret (pc := 129) dL_call_129 (Or.inl rfl) (Nat.le_of_ble_eq_true rfl) (Nat.le_of_ble_eq_true rfl) ?_
    exact hQ _ _ hq9
  · exact rx_out rfl (hX _ _ hx9) (Nat.le_of_ble_eq_true rfl) (Nat.le_of_ble_eq_true rfl)
theorem K_L_call_end (hc : Con I_X6_end [aR 6 0, aI a] (hp hi nb nk) Q0 X0) (hq : ∀ r h, Q0 r h → ∃ v : Int, r = some (aI v)) : Con I_L_call [aR 6 0, aI 8, aI a, aI b, aI c, aI d] (hp hi nb nk) Q0 X0 := by
  refine st_r (xs := [some (aR 6 0), some (aI 8), some (aI a), some (aI b), some (aI c), some (aI d)]) pn_L rfl rfl (Nat.le_of_ble_eq_true rfl) rfl rfl (fun Q X hQ hX => ?_)
  refine r_iload_n (pc := 0) dL_call_0 rfl ?_
  refine r_tableIn (pc := 1) (off := 129) (tgt := 130) dL_call_1 (by decide) (by decide) rfl rfl ?_
  refine r_aload_n (pc := 130) dL_call_130 rfl ?_
  refine r_iload_n (pc := 131) dL_call_131 rfl ?_
  refine r_callV (pc := 132) (t := 6) (i := 0) (rest := []) (cs' := 2) (sl' := 12) mv_L_40 hc rfl ⟨(Nat.le_of_ble_eq_true rfl), (Nat.le_of_ble_eq_true rfl)⟩ (Nat.le_of_ble_eq_true rfl) dL_call_132 (show (0 : Int) ≤ 0 by decide) (show (0 : Int) < 1 by decide) ⟨rfl, (Nat.le_of_ble_eq_true rfl)⟩ ⟨rfl, (Nat.le_of_ble_eq_true rfl)⟩ rfl (fun r9 h9 hq9 => ?_) (fun E9 h9 hx9 => ?_)
  · obtain ⟨v, rfl⟩ := hq _ _ hq9
    show Run _ 135 _ [aI v] h9 _ _ _ _
    refine r_iret (pc := 135) dL_call_135 (Or.inl rfl) (Nat.le_of_ble_eq_true rfl) (Nat.le_of_ble_eq_true rfl) ?_
    exact hQ _ _ hq9
  · exact rx_out rfl (hX _ _ hx9) (Nat.le_of_ble_eq_true rfl) (Nat.le_of_ble_eq_true rfl)
theorem K_L_call_bring (hc : Con I_X6_bring [aR 6 0, aI a] (hp hi nb nk) Q0 X0) (hq : ∀ r h, Q0 r h → ∃ v : Int, r = some (aI v)) : Con I_L_call [aR 6 0, aI 9, aI a, aI b, aI c, aI d] (hp hi nb nk) Q0 X0 := by
  refine st_r (xs := [some (aR 6 0), some (aI 9), some (aI a), some (aI b), some (aI c), some (aI d)]) pn_L rfl rfl (Nat.le_of_ble_eq_true rfl) rfl rfl (fun Q X hQ hX => ?_)
  refine r_iload_n (pc := 0) dL_call_0 rfl ?_
  refine r_tableIn (pc := 1) (off := 135) (tgt := 136) dL_call_1 (by decide) (by decide) rfl rfl ?_
  refine r_aload_n (pc := 136) dL_call_136 rfl ?_
  refine r_iload_n (pc := 137) dL_call_137 rfl ?_
  refine r_callV (pc := 138) (t := 6) (i := 0) (rest := []) (cs' := 2) (sl' := 12) mv_L_43 hc rfl ⟨(Nat.le_of_ble_eq_true rfl), (Nat.le_of_ble_eq_true rfl)⟩ (Nat.le_of_ble_eq_true rfl) dL_call_138 (show (0 : Int) ≤ 0 by decide) (show (0 : Int) < 1 by decide) ⟨rfl, (Nat.le_of_ble_eq_true rfl)⟩ ⟨rfl, (Nat.le_of_ble_eq_true rfl)⟩ rfl (fun r9 h9 hq9 => ?_) (fun E9 h9 hx9 => ?_)
  · obtain ⟨v, rfl⟩ := hq _ _ hq9
    show Run _ 141 _ [aI v] h9 _ _ _ _
    refine r_iret (pc := 141) dL_call_141 (Or.inl rfl) (Nat.le_of_ble_eq_true rfl) (Nat.le_of_ble_eq_true rfl) ?_
    exact hQ _ _ hq9
  · exact rx_out rfl (hX _ _ hx9) (Nat.le_of_ble_eq_true rfl) (Nat.le_of_ble_eq_true rfl)
theorem K_L_call_brings (hc : Con I_X6_brings [aR 6 0, aI a, aI b] (hp hi nb nk) Q0 X0) (hq : ∀ r h, Q0 r h → ∃ v : Int, r = some (aI v)) : Con I_L_call [aR 6 0, aI 10, aI a, aI b, aI c, aI d] (hp hi nb nk) Q0 X0 := by
  refine st_r (xs := [some (aR 6 0), some (aI 10), some (aI a), some (aI b), some (aI c), some (aI d)]) pn_L rfl rfl (Nat.le_of_ble_eq_true rfl) rfl rfl (fun Q X hQ hX => ?_)
  refine r_iload_n (pc := 0) dL_call_0 rfl ?_
  refine r_tableOut (pc := 1) (tgt := 142) dL_call_1 (by decide) rfl ?_
  refine r_aload_n (pc := 142) dL_call_142 rfl ?_
  refine r_iload_n (pc := 143) dL_call_143 rfl ?_
  refine r_iload_n (pc := 144) dL_call_144 rfl ?_
  refine r_callV (pc := 145) (t := 6) (i := 0) (rest := []) (cs' := 3) (sl' := 18) mv_L_46 hc rfl ⟨(Nat.le_of_ble_eq_true rfl), (Nat.le_of_ble_eq_true rfl)⟩ (Nat.le_of_ble_eq_true rfl) dL_call_145 (show (0 : Int) ≤ 0 by decide) (show (0 : Int) < 1 by decide) ⟨rfl, (Nat.le_of_ble_eq_true rfl)⟩ ⟨rfl, (Nat.le_of_ble_eq_true rfl)⟩ rfl (fun r9 h9 hq9 => ?_) (fun E9 h9 hx9 => ?_)
  · obtain ⟨v, rfl⟩ := hq _ _ hq9
    show Run _ 148 _ [aI v] h9 _ _ _ _
    refine r_iret (pc := 148) dL_call_148 (Or.inl rfl) (Nat.le_of_ble_eq_true rfl) (Nat.le_of_ble_eq_true rfl) ?_
    exact hQ _ _ hq9
  · exact rx_out rfl (hX _ _ hx9) (Nat.le_of_ble_eq_true rfl) (Nat.le_of_ble_eq_true rfl)
/-- what ask answers, where call answers with Q0 or throws with X0 -/
def askQ (Q0 : Option Av → Hp → Prop) (X0 : String → Hp → Prop) (r : Option Av) (h : Hp) : Prop := Q0 r h ∨ (X0 "java/lang/IndexOutOfBoundsException" h ∧ r = some (aI (-1011))) ∨ (X0 "java/lang/IllegalArgumentException" h ∧ r = some (aI (-1012))) ∨ (X0 "java/lang/IllegalStateException" h ∧ r = some (aI (-1013)))
theorem K_L_ask {w : Int} (hc : Con I_L_call [aR 6 0, aI w, aI a, aI b, aI c, aI d] (hp hi nb nk) Q0 X0) (hq : ∀ r h, Q0 r h → ∃ v : Int, r = some (aI v)) (hx : ∀ E h, X0 E h → E = "java/lang/IndexOutOfBoundsException" ∨ E = "java/lang/IllegalArgumentException" ∨ E = "java/lang/IllegalStateException") : Con I_L_ask [aR 6 0, aI w, aI a, aI b, aI c, aI d] (hp hi nb nk) (askQ Q0 X0) (fun _ _ => False) := by
  refine st_r (xs := [some (aR 6 0), some (aI w), some (aI a), some (aI b), some (aI c), some (aI d), none]) pn_L rfl rfl (Nat.le_of_ble_eq_true rfl) rfl rfl (fun Q X hQ hX => ?_)
  refine r_aload_n (pc := 0) dL_ask_0 rfl ?_
  refine r_iload_n (pc := 1) dL_ask_1 rfl ?_
  refine r_iload_n (pc := 2) dL_ask_2 rfl ?_
  refine r_iload_n (pc := 3) dL_ask_3 rfl ?_
  refine r_iload (pc := 4) dL_ask_4 rfl ?_
  refine r_iload (pc := 6) dL_ask_6 rfl ?_
  refine r_callS (pc := 8) (rest := []) (cs' := 58) (sl' := 461) ms_L_54 rfl hc rfl ⟨(Nat.le_of_ble_eq_true rfl), (Nat.le_of_ble_eq_true rfl)⟩ (Nat.le_of_ble_eq_true rfl) dL_ask_8 ⟨rfl, (Nat.le_of_ble_eq_true rfl)⟩ ⟨rfl, (Nat.le_of_ble_eq_true rfl)⟩ rfl (fun r9 h9 hq9 => ?_) (fun E9 h9 hx9 => ?_)
  · obtain ⟨v, rfl⟩ := hq _ _ hq9
    show Run _ 11 _ [aI v] h9 _ _ _ _
    refine r_iret (pc := 11) dL_ask_11 (Or.inl rfl) (Nat.le_of_ble_eq_true rfl) (Nat.le_of_ble_eq_true rfl) ?_
    exact hQ _ _ (Or.inl hq9)
  · rcases hx _ _ hx9 with rfl | rfl | rfl
    · refine rx_catch (pre := []) (suf := [(0, 11, 18, 60), (0, 11, 24, 62)]) (x := (0, 11, 12, 58)) (i := 6) (ln := 2) (xs' := [some (aR 6 0), some (aI w), some (aI a), some (aI b), some (aI c), some (aI d), none]) rfl ⟨by decide, by decide⟩ (by decide) hl_58 cs_IO (fun z hz => by cases hz) (Or.inl ⟨dL_ask_12, rfl⟩) (by decide) rfl ?_
      show Run _ 14 _ _ _ _ _ _ _
      refine r_sipush (pc := 14) (n := (-1011)) dL_ask_14 rfl (by decide) ?_
      refine r_iret (pc := 17) dL_ask_17 (Or.inl rfl) (Nat.le_of_ble_eq_true rfl) (Nat.le_of_ble_eq_true rfl) ?_
      exact hQ _ _ (Or.inr (Or.inl ⟨hx9, rfl⟩))
    · refine rx_catch (pre := [(0, 11, 12, 58)]) (suf := [(0, 11, 24, 62)]) (x := (0, 11, 18, 60)) (i := 6) (ln := 2) (xs' := [some (aR 6 0), some (aI w), some (aI a), some (aI b), some (aI c), some (aI d), none]) rfl ⟨by decide, by decide⟩ (by decide) hl_60 cs_IA (fun z hz => by rcases List.mem_singleton.mp hz with rfl; exact ⟨by decide, _, hl_58, by simp⟩) (Or.inl ⟨dL_ask_18, rfl⟩) (by decide) rfl ?_
      show Run _ 20 _ _ _ _ _ _ _
      refine r_sipush (pc := 20) (n := (-1012)) dL_ask_20 rfl (by decide) ?_
      refine r_iret (pc := 23) dL_ask_23 (Or.inl rfl) (Nat.le_of_ble_eq_true rfl) (Nat.le_of_ble_eq_true rfl) ?_
      exact hQ _ _ (Or.inr (Or.inr (Or.inl ⟨hx9, rfl⟩)))
    · refine rx_catch (pre := [(0, 11, 12, 58), (0, 11, 18, 60)]) (suf := []) (x := (0, 11, 24, 62)) (i := 6) (ln := 2) (xs' := [some (aR 6 0), some (aI w), some (aI a), some (aI b), some (aI c), some (aI d), none]) rfl ⟨by decide, by decide⟩ (by decide) hl_62 cs_IS (fun z hz => by rcases List.mem_cons.mp hz with rfl | hz; (exact ⟨by decide, _, hl_58, by simp⟩); rcases List.mem_singleton.mp hz with rfl; exact ⟨by decide, _, hl_60, by simp⟩) (Or.inl ⟨dL_ask_24, rfl⟩) (by decide) rfl ?_
      show Run _ 26 _ _ _ _ _ _ _
      refine r_sipush (pc := 26) (n := (-1013)) dL_ask_26 rfl (by decide) ?_
      refine r_iret (pc := 29) dL_ask_29 (Or.inl rfl) (Nat.le_of_ble_eq_true rfl) (Nat.le_of_ble_eq_true rfl) ?_
      exact hQ _ _ (Or.inr (Or.inr (Or.inr ⟨hx9, rfl⟩)))
/-- ask, where call has an answer that is told, or throws and leaves the heap: what is needed of it -/
theorem ask_ok {w v : Int} {cd x y z : Int} {h2 : Hp} (hc : Op I_L_call [aR 6 0, aI w, aI a, aI b, aI c, aI d] (hp hi nb nk) cd (some (aI v)) h2 x y z) (h0 : cd = 0) (hx : x ≠ 0) (hy : y ≠ 0) (hz : z ≠ 0) : Det I_L_ask [aR 6 0, aI w, aI a, aI b, aI c, aI d] (hp hi nb nk) (some (aI v)) h2 := by
  refine Con_mono (K_L_ask hc (fun r h q => ⟨v, q.2.1⟩) (fun E h q => q.2.imp (fun t => t.1) (fun t => t.imp (fun t => t.1) (fun t => t.1)))) ?_ (fun _ _ z => z)
  rintro r h (q | ⟨q, rfl⟩ | ⟨q, rfl⟩ | ⟨q, rfl⟩)
  · exact q.2
  all_goals (rcases q.2 with q2 | q2 | q2 <;> exact absurd q2.2 (by omega))
theorem ask_no {w v : Int} {cd x y z : Int} {h2 : Hp} (hc : Op I_L_call [aR 6 0, aI w, aI a, aI b, aI c, aI d] (hp hi nb nk) cd (some (aI v)) h2 x y z) (h0 : cd = z) (hx : z ≠ 0) (hy : z ≠ x) (hz : z ≠ y) : Det I_L_ask [aR 6 0, aI w, aI a, aI b, aI c, aI d] (hp hi nb nk) (some (aI (-1013))) (hp hi nb nk) := by
  refine Con_mono (K_L_ask hc (fun r h q => ⟨v, q.2.1⟩) (fun E h q => q.2.imp (fun t => t.1) (fun t => t.imp (fun t => t.1) (fun t => t.1)))) ?_ (fun _ _ z => z)
  rintro r h (q | ⟨q, rfl⟩ | ⟨q, rfl⟩ | ⟨q, rfl⟩)
  · exact absurd q.1 (by omega)
  · rcases q.2 with q2 | q2 | q2
    · exact absurd q2.2 (by omega)
    · exact absurd q2.1 (by decide)
    · exact absurd q2.1 (by decide)
  · rcases q.2 with q2 | q2 | q2
    · exact absurd q2.1 (by decide)
    · exact absurd q2.2 (by omega)
    · exact absurd q2.1 (by decide)
  · exact ⟨rfl, q.1⟩
theorem A_box (hI : Inv hi nb nk) {kd ls un : Int} : Op I_L_call [aR 6 0, aI 0, aI kd, aI ls, aI un, aI d] (hp hi nb nk) (cC_box nb kd ls un) (some (aI nb)) (hp (up1 (boxH hi nb kd ls un) 6 0 6 (nb + 1)) (nb + 1) nk) 1 2 3 := K_L_call_box (K_X6_box hI) (fun r h q => ⟨_, q.2.1⟩)
theorem A_wash (hI : Inv hi nb nk) {x u : Int} : Op I_L_call [aR 6 0, aI 1, aI x, aI u, aI c, aI d] (hp hi nb nk) (cC_wash hi nb x u) (some (aI (hi 1 x 6))) (hp (up1 (up1 hi 1 x 6 0) 1 x 5 u) nb nk) 1 2 3 := K_L_call_wash (K_X6_wash hI) (fun r h q => ⟨_, q.2.1, by have := hI.box x (by have := q.1; unfold cC_wash at this; (repeat' split at this) <;> omega) (by have := q.1; unfold cC_wash at this; (repeat' split at this) <;> omega); omega⟩)
theorem A_report (hI : Inv hi nb nk) {x dy ev po : Int} : Op I_L_call [aR 6 0, aI 2, aI x, aI dy, aI ev, aI po] (hp hi nb nk) (cC_report hi nb x dy ev po) (some (aI (if bI (knoC hi x dy ev po) = 1 then -1 else telH hi x dy ev po 4 x 5))) (hp (if bI (knoC hi x dy ev po) = 1 then hi else telH hi x dy ev po) nb nk) 1 2 3 := K_L_call_report (K_X6_report hI) (fun r h q => ⟨_, q.2.1⟩)
theorem A_handIn (hI : Inv hi nb nk) {x : Int} : Op I_L_call [aR 6 0, aI 4, aI x, aI b, aI c, aI d] (hp hi nb nk) (cC_handIn hi nb x) (some (aI (lefC hi nb x - 1))) (hp (hanH hi x) nb nk) 1 99 2 := K_L_call_handIn (K_X6_handIn hI) (fun r h q => ⟨_, q.2.1⟩)
theorem A_damage (hI : Inv hi nb nk) {x co si : Int} : Op I_L_call [aR 6 0, aI 5, aI x, aI co, aI si, aI d] (hp hi nb nk) (cC_damage hi nb x co si) (some (aI (menC (damH hi x co si) x))) (hp (damH hi x co si) nb nk) 1 2 3 := K_L_call_damage (K_X6_damage hI) (fun r h q => ⟨_, q.2.1⟩)
theorem A_mend (hI : Inv hi nb nk) {x : Int} : Op I_L_call [aR 6 0, aI 6, aI x, aI b, aI c, aI d] (hp hi nb nk) (cC_mend hi nb x) (some (aI (menC hi x))) (hp (up1 hi 2 x 2 0) nb nk) 1 99 2 := K_L_call_mend (K_X6_mend hI) (fun r h q => ⟨_, q.2.1⟩)
theorem A_book (hI : Inv hi nb nk) {po kd wa : Int} : Op I_L_call [aR 6 0, aI 7, aI po, aI kd, aI wa, aI d] (hp hi nb nk) (cC_book nk po kd wa) (some (aI nk)) (hp (up1 (bokH hi nk po kd wa) 6 0 7 (nk + 1)) nb (nk + 1)) 1 2 3 := K_L_call_book (K_X6_book hI) (fun r h q => ⟨_, q.2.1⟩)
theorem A_end (hI : Inv hi nb nk) {k : Int} : Op I_L_call [aR 6 0, aI 8, aI k, aI b, aI c, aI d] (hp hi nb nk) (cC_end hi nk k) (some (aI (hi 0 k 3))) (hp (enH hi k nb) nb nk) 1 99 2 := K_L_call_end (K_X6_end hI) (fun r h q => ⟨_, q.2.1⟩)
theorem A_lease (hI : Inv hi nb nk) {x fr to : Int} : Op I_L_call [aR 6 0, aI 3, aI x, aI fr, aI to, aI d] (hp hi nb nk) (cC_lease hi nb x fr to) (some (aI 0)) (hp (leaH hi x fr to) nb nk) 1 2 3 := by
  refine Con_mono (K_L_call_leases (K_L_leases (K_X6_lease hI) (fun r h q => q.2.1)) (fun r h q => ⟨_, q.1⟩)) ?_ (fun _ _ z => z)
  rintro r h ⟨q1, q2⟩
  exact ⟨q2.1, q1, q2.2.2⟩
theorem A_bring (hI : Inv hi nb nk) {kd : Int} (hk : 0 ≤ kd ∧ kd ≤ 2) : Con I_L_ask [aR 6 0, aI 9, aI kd, aI b, aI c, aI d] (hp hi nb nk) (fun r h => ∃ g : Hi, h = hp (mix hi g) nb nk ∧ ((sI (laC hi nk kd) 6 ≤ 5 ∧ r = some (aI (g 5 0 10)) ∧ PlnC hi nb nk kd g) ∨ (5 < sI (laC hi nk kd) 6 ∧ r = some (aI (-1013))))) (fun _ _ => False) := by
  refine Con_mono (K_L_ask (K_L_call_bring (K_X6_bring hI) (fun r h q => by obtain ⟨-, g, q, -⟩ := q; exact ⟨_, q⟩)) (fun r h q => by obtain ⟨-, g, q, -⟩ := q; exact ⟨_, q⟩) (fun E h q => by obtain ⟨g, -, q⟩ := q; rcases q with q | q; (exact Or.inr (Or.inl q.1)); exact Or.inr (Or.inr q.1))) ?_ (fun _ _ z => z)
  rintro r h (⟨q1, g, q2, q3, q4⟩ | ⟨⟨g, q1, q2⟩, rfl⟩ | ⟨⟨g, q1, q2⟩, rfl⟩ | ⟨⟨g, q1, q2⟩, rfl⟩)
  · refine ⟨g, q3, Or.inl ⟨?_, q2, q4⟩⟩
    unfold cdB at q1
    (repeat' split at q1) <;> omega
  · rcases q2 with q2 | q2 <;> exact absurd q2.1 (by decide)
  · rcases q2 with q2 | q2
    · have := q2.2
      unfold cdB at this
      (repeat' split at this) <;> omega
    · exact absurd q2.1 (by decide)
  · rcases q2 with q2 | q2
    · exact absurd q2.1 (by decide)
    · refine ⟨g, q1, Or.inr ⟨?_, rfl⟩⟩
      have := q2.2
      unfold cdB at this
      (repeat' split at this) <;> omega
theorem A_brings (hI : Inv hi nb nk) {kd u : Int} (hk : 0 ≤ kd ∧ kd ≤ 2) (hu : 0 ≤ u) : Con I_L_ask [aR 6 0, aI 10, aI kd, aI u, aI c, aI d] (hp hi nb nk) (fun r h => ∃ g : Hi, h = hp (mix hi g) nb nk ∧ ((sI (laC hi nk kd) 6 ≤ 5 ∧ r = some (aI (if 0 ≤ u ∧ u < g 5 0 8 ∧ u < 5 then g 20 0 u else -1)) ∧ PlnC hi nb nk kd g) ∨ (5 < sI (laC hi nk kd) 6 ∧ r = some (aI (-1013))))) (fun _ _ => False) := by
  refine Con_mono (K_L_ask (K_L_call_brings (K_X6_brings hI) (fun r h q => by obtain ⟨-, g, q, -⟩ := q; exact ⟨_, q⟩)) (fun r h q => by obtain ⟨-, g, q, -⟩ := q; exact ⟨_, q⟩) (fun E h q => by obtain ⟨g, -, q⟩ := q; rcases q with q | q | q; (exact Or.inr (Or.inl q.1)); (exact Or.inl q.1); exact Or.inr (Or.inr q.1))) ?_ (fun _ _ z => z)
  rintro r h (⟨q1, g, q2, q3, q4⟩ | ⟨⟨g, q1, q2⟩, rfl⟩ | ⟨⟨g, q1, q2⟩, rfl⟩ | ⟨⟨g, q1, q2⟩, rfl⟩)
  · refine ⟨g, q3, Or.inl ⟨?_, q2, q4⟩⟩
    unfold cdS at q1
    (repeat' split at q1) <;> omega
  · rcases q2 with q2 | q2 | q2
    · exact absurd q2.1 (by decide)
    · have := q2.2
      unfold cdS at this
      (repeat' split at this) <;> omega
    · exact absurd q2.1 (by decide)
  · rcases q2 with q2 | q2 | q2
    · have := q2.2
      unfold cdS at this
      (repeat' split at this) <;> omega
    · exact absurd q2.1 (by decide)
    · exact absurd q2.1 (by decide)
  · rcases q2 with q2 | q2 | q2
    · exact absurd q2.1 (by decide)
    · exact absurd q2.1 (by decide)
    · refine ⟨g, q1, Or.inr ⟨?_, rfl⟩⟩
      have := q2.2
      unfold cdS at this
      (repeat' split at this) <;> omega
end ASK
