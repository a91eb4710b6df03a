/-! ===== the reference: its middle methods (walks printed by wip/whole/tools/g37.py) ===== -/
theorem K_X7_wasTold {hi : Hi} {nb nk : Int} (hM : MV hi nb nk) {b : Int} (hb0 : 0 ≤ b) (hb1 : b < nb) {day ev po : Int} : Det I_X7_wasTold [aR 7 0, aI b, aI day, aI ev, aI po] (hp hi nb nk) (some (aI (bI (knoM hi b day ev po)))) (hp hi nb nk) := by
  have hN := hM.num
  unfold mNum at hN
  have hB9 := hM.box b hb0 hb1
  refine st_d (xs := [some (aR 7 0), some (aI b), some (aI day), some (aI ev), some (aI po), none, none]) pn_X7 rfl rfl (Nat.le_of_ble_eq_true rfl) rfl rfl (fun Q X hQ => ?_)
  refine r_iconst (pc := 0) (n := 0) dX7_wasTold_0 (by decide) ?_
  refine r_istore (pc := 1) (xs' := [some (aR 7 0), some (aI b), some (aI day), some (aI ev), some (aI po), some (aI 0), none]) dX7_wasTold_1 (by decide) rfl ?_
  refine r_bipush (pc := 3) (n := 30) dX7_wasTold_3 rfl (by decide) ?_
  refine r_iload_n (pc := 5) dX7_wasTold_5 rfl ?_
  refine r_imul (pc := 6) dX7_wasTold_6 (by omega) ?_
  refine r_istore (pc := 7) (xs' := [some (aR 7 0), some (aI b), some (aI day), some (aI ev), some (aI po), some (aI 0), some (aI (30 * b))]) dX7_wasTold_7 (by decide) rfl ?_
  have loop : ∀ (n9 : Nat) (q i w : Int), (q = 30 * b + i) → (0 ≤ i ∧ i ≤ hi 40 0 b) → ((w = 1 ∧ ∃ k, 0 ≤ k ∧ k < i ∧ mD hi b k = day ∧ mE hi b k = ev ∧ mP hi b k = po) ∨ (w = 0 ∧ ∀ k, 0 ≤ k → k < i → ¬ (mD hi b k = day ∧ mE hi b k = ev ∧ mP hi b k = po))) → hi 40 0 b - i < (n9 : Int) → Run I_X7_wasTold 9 [some (aR 7 0), some (aI b), some (aI day), some (aI ev), some (aI po), some (aI w), some (aI q)] [] (hp hi nb nk) 0 0 Q X := by
    intro n9
    induction n9 with
    | zero => intro q i w h3 h0 h2 hf9; exfalso; omega
    | succ n9 ih_loop =>
      intro q i w h3 h0 h2 hf9
      refine r_iload (pc := 9) dX7_wasTold_9 rfl ?_
      refine r_bipush (pc := 11) (n := 30) dX7_wasTold_11 rfl (by decide) ?_
      refine r_iload_n (pc := 13) dX7_wasTold_13 rfl ?_
      refine r_imul (pc := 14) dX7_wasTold_14 (by omega) ?_
      refine r_aload_n (pc := 15) dX7_wasTold_15 rfl ?_
      refine p_getQ (pc := 16) (jI := 13) (n9 := 1) (r := some (40, 0)) fl_X7_41 rfl dX7_wasTold_16 rfl rfl (by decide) (by decide) rfl ?_
      refine r_iload_n (pc := 19) dX7_wasTold_19 rfl ?_
      refine q_iald (pc := 20) (n9 := 1) (nI := 40) (v := hi 40 0 b) rfl dX7_wasTold_20 rfl (by decide) (by decide) rfl (by omega) (by omega) rfl ?_
      refine r_iadd (pc := 21) dX7_wasTold_21 (by omega) ?_
      refine r_icmp_ge (pc := 22) (tgt := 77) dX7_wasTold_22 rfl (fun c22 => ?_) (fun c22 => ?_)
      · refine r_iload (pc := 77) dX7_wasTold_77 rfl ?_
        refine r_iret (pc := 79) dX7_wasTold_79 (Or.inr ⟨rfl, (by omega)⟩) (Nat.le_of_ble_eq_true rfl) (Nat.le_of_ble_eq_true rfl) ?_
        exact qI hQ (by rcases h2 with q2 | q2; (rw [q2.1]; exact (bI_t (by obtain ⟨k, x1, x2, x3⟩ := q2.2; exact ⟨k, x1, by omega, x3⟩)).symm); (rw [q2.1]; exact (bI_f (fun ⟨k, x1, x2, x3⟩ => q2.2 k x1 (by omega) x3)).symm)) rfl
      · refine r_iload (pc := 25) dX7_wasTold_25 rfl ?_
        refine r_if_ne (pc := 27) (tgt := 64) dX7_wasTold_27 rfl (fun c27 => ?_) (fun c27 => ?_)
        · refine r_iconst (pc := 64) (n := 1) dX7_wasTold_64 (by decide) ?_
          refine r_goto (pc := 65) (tgt := 69) dX7_wasTold_65 rfl ?_
          refine r_istore (pc := 69) (xs' := [some (aR 7 0), some (aI b), some (aI day), some (aI ev), some (aI po), some (aI 1), some (aI q)]) dX7_wasTold_69 (by decide) rfl ?_
          refine r_iinc (pc := 71) (xs' := [some (aR 7 0), some (aI b), some (aI day), some (aI ev), some (aI po), some (aI 1), some (aI (q + 1))]) dX7_wasTold_71 rfl (by decide) (by omega) rfl ?_
          refine r_goto (pc := 74) (tgt := 9) dX7_wasTold_74 rfl ?_
          exact ih_loop (q + 1) (i + 1) 1 (by omega) (by omega) (Or.inl ⟨rfl, by rcases h2 with q | q; (obtain ⟨k, x1, x2, x3⟩ := q.2; exact ⟨k, x1, by omega, x3⟩); exact ⟨i, by omega, by omega, by unfold mD mE mP; rw [← h3]; omega⟩⟩) (by omega)
        · refine r_aload_n (pc := 30) dX7_wasTold_30 rfl ?_
          refine p_getQ (pc := 31) (jI := 10) (n9 := 1) (r := some (37, 0)) fl_X7_32 rfl dX7_wasTold_31 rfl rfl (by decide) (by decide) rfl ?_
          refine r_iload (pc := 34) dX7_wasTold_34 rfl ?_
          refine q_iald (pc := 36) (n9 := 1) (nI := 1200) (v := hi 37 0 q) rfl dX7_wasTold_36 rfl (by decide) (by decide) rfl (by omega) (by omega) rfl ?_
          refine r_iload_n (pc := 37) dX7_wasTold_37 rfl ?_
          refine r_icmp_ne (pc := 38) (tgt := 68) dX7_wasTold_38 rfl (fun c38 => ?_) (fun c38 => ?_)
          · refine r_iconst (pc := 68) (n := 0) dX7_wasTold_68 (by decide) ?_
            refine r_istore (pc := 69) (xs' := [some (aR 7 0), some (aI b), some (aI day), some (aI ev), some (aI po), some (aI 0), some (aI q)]) dX7_wasTold_69 (by decide) rfl ?_
            refine r_iinc (pc := 71) (xs' := [some (aR 7 0), some (aI b), some (aI day), some (aI ev), some (aI po), some (aI 0), some (aI (q + 1))]) dX7_wasTold_71 rfl (by decide) (by omega) rfl ?_
            refine r_goto (pc := 74) (tgt := 9) dX7_wasTold_74 rfl ?_
            exact ih_loop (q + 1) (i + 1) 0 (by omega) (by omega) (Or.inr ⟨rfl, fun k x1 x2 x3 => by rcases h2 with q | q; omega; by_cases e : k = i; (subst e; unfold mD mE mP at x3; rw [← h3] at x3; omega); exact q.2 k x1 (by omega) x3⟩) (by omega)
          · refine r_aload_n (pc := 41) dX7_wasTold_41 rfl ?_
            refine p_getQ (pc := 42) (jI := 11) (n9 := 1) (r := some (38, 0)) fl_X7_35 rfl dX7_wasTold_42 rfl rfl (by decide) (by decide) rfl ?_
            refine r_iload (pc := 45) dX7_wasTold_45 rfl ?_
            refine q_iald (pc := 47) (n9 := 1) (nI := 1200) (v := hi 38 0 q) rfl dX7_wasTold_47 rfl (by decide) (by decide) rfl (by omega) (by omega) rfl ?_
            refine r_iload_n (pc := 48) dX7_wasTold_48 rfl ?_
            refine r_icmp_ne (pc := 49) (tgt := 68) dX7_wasTold_49 rfl (fun c49 => ?_) (fun c49 => ?_)
            · refine r_iconst (pc := 68) (n := 0) dX7_wasTold_68 (by decide) ?_
              refine r_istore (pc := 69) (xs' := [some (aR 7 0), some (aI b), some (aI day), some (aI ev), some (aI po), some (aI 0), some (aI q)]) dX7_wasTold_69 (by decide) rfl ?_
              refine r_iinc (pc := 71) (xs' := [some (aR 7 0), some (aI b), some (aI day), some (aI ev), some (aI po), some (aI 0), some (aI (q + 1))]) dX7_wasTold_71 rfl (by decide) (by omega) rfl ?_
              refine r_goto (pc := 74) (tgt := 9) dX7_wasTold_74 rfl ?_
              exact ih_loop (q + 1) (i + 1) 0 (by omega) (by omega) (Or.inr ⟨rfl, fun k x1 x2 x3 => by rcases h2 with q | q; omega; by_cases e : k = i; (subst e; unfold mD mE mP at x3; rw [← h3] at x3; omega); exact q.2 k x1 (by omega) x3⟩) (by omega)
            · refine r_aload_n (pc := 52) dX7_wasTold_52 rfl ?_
              refine p_getQ (pc := 53) (jI := 12) (n9 := 1) (r := some (39, 0)) fl_X7_38 rfl dX7_wasTold_53 rfl rfl (by decide) (by decide) rfl ?_
              refine r_iload (pc := 56) dX7_wasTold_56 rfl ?_
              refine q_iald (pc := 58) (n9 := 1) (nI := 1200) (v := hi 39 0 q) rfl dX7_wasTold_58 rfl (by decide) (by decide) rfl (by omega) (by omega) rfl ?_
              refine r_iload (pc := 59) dX7_wasTold_59 rfl ?_
              refine r_icmp_ne (pc := 61) (tgt := 68) dX7_wasTold_61 rfl (fun c61 => ?_) (fun c61 => ?_)
              · refine r_iconst (pc := 68) (n := 0) dX7_wasTold_68 (by decide) ?_
                refine r_istore (pc := 69) (xs' := [some (aR 7 0), some (aI b), some (aI day), some (aI ev), some (aI po), some (aI 0), some (aI q)]) dX7_wasTold_69 (by decide) rfl ?_
                refine r_iinc (pc := 71) (xs' := [some (aR 7 0), some (aI b), some (aI day), some (aI ev), some (aI po), some (aI 0), some (aI (q + 1))]) dX7_wasTold_71 rfl (by decide) (by omega) rfl ?_
                refine r_goto (pc := 74) (tgt := 9) dX7_wasTold_74 rfl ?_
                exact ih_loop (q + 1) (i + 1) 0 (by omega) (by omega) (Or.inr ⟨rfl, fun k x1 x2 x3 => by rcases h2 with q | q; omega; by_cases e : k = i; (subst e; unfold mD mE mP at x3; rw [← h3] at x3; omega); exact q.2 k x1 (by omega) x3⟩) (by omega)
              · refine r_iconst (pc := 64) (n := 1) dX7_wasTold_64 (by decide) ?_
                refine r_goto (pc := 65) (tgt := 69) dX7_wasTold_65 rfl ?_
                refine r_istore (pc := 69) (xs' := [some (aR 7 0), some (aI b), some (aI day), some (aI ev), some (aI po), some (aI 1), some (aI q)]) dX7_wasTold_69 (by decide) rfl ?_
                refine r_iinc (pc := 71) (xs' := [some (aR 7 0), some (aI b), some (aI day), some (aI ev), some (aI po), some (aI 1), some (aI (q + 1))]) dX7_wasTold_71 rfl (by decide) (by omega) rfl ?_
                refine r_goto (pc := 74) (tgt := 9) dX7_wasTold_74 rfl ?_
                exact ih_loop (q + 1) (i + 1) 1 (by omega) (by omega) (Or.inl ⟨rfl, by rcases h2 with q | q; (obtain ⟨k, x1, x2, x3⟩ := q.2; exact ⟨k, x1, by omega, x3⟩); exact ⟨i, by omega, by omega, by unfold mD mE mP; rw [← h3]; omega⟩⟩) (by omega)
  exact loop 31 (30 * b) 0 0 (by omega) (by omega) (Or.inr ⟨rfl, fun k x1 x2 => by omega⟩) (by omega)

theorem K_X7_mending {hi : Hi} {nb nk : Int} (hM : MV hi nb nk) {b : Int} (hb0 : 0 ≤ b) (hb1 : b < nb) : Det I_X7_mending [aR 7 0, aI b] (hp hi nb nk) (some (aI (menM hi b))) (hp hi nb nk) := by
  have hN := hM.num
  unfold mNum at hN
  have hB9 := hM.box b hb0 hb1
  refine st_d (xs := [some (aR 7 0), some (aI b), none, none]) pn_X7 rfl rfl (Nat.le_of_ble_eq_true rfl) rfl rfl (fun Q X hQ => ?_)
  refine r_iconst (pc := 0) (n := 0) dX7_mending_0 (by decide) ?_
  refine r_istore_n (pc := 1) (xs' := [some (aR 7 0), some (aI b), some (aI 0), none]) dX7_mending_1 (by decide) rfl ?_
  refine r_bipush (pc := 2) (n := 12) dX7_mending_2 rfl (by decide) ?_
  refine r_iload_n (pc := 4) dX7_mending_4 rfl ?_
  refine r_imul (pc := 5) dX7_mending_5 (by omega) ?_
  refine r_istore_n (pc := 6) (xs' := [some (aR 7 0), some (aI b), some (aI 0), some (aI (12 * b))]) dX7_mending_6 (by decide) rfl ?_
  have loop : ∀ (n9 : Nat) (q i c : Int), (q = 12 * b + i) → (0 ≤ i ∧ i ≤ hi 49 0 b) → (0 ≤ c ∧ c ≤ 1000 * i) → (c = menI (fun k => hi 47 0 (12 * b + k)) (fun k => hi 48 0 (12 * b + k)) (hi 50 0) i) → hi 49 0 b - i < (n9 : Int) → Run I_X7_mending 7 [some (aR 7 0), some (aI b), some (aI c), some (aI q)] [] (hp hi nb nk) 0 0 Q X := by
    intro n9
    induction n9 with
    | zero => intro q i c h3 h0 h1 h2 hf9; exfalso; omega
    | succ n9 ih_loop =>
      intro q i c h3 h0 h1 h2 hf9
      have hs9 : 0 ≤ i → i < hi 49 0 b → (0 ≤ hi 47 0 q ∧ hi 47 0 q ≤ 4) ∧ (1 ≤ hi 48 0 q ∧ hi 48 0 q ≤ 20) := fun x1 x2 => by rw [h3]; exact hB9.2.2.2.2.2 i x1 x2
      have hm9 : 0 ≤ i → i < hi 49 0 b → 0 ≤ 10 * (hi 47 0 q + 1) * hi 48 0 q ∧ 10 * (hi 47 0 q + 1) * hi 48 0 q ≤ 1000 := fun x1 x2 => by
          have x5 := hs9 x1 x2
          rcases (show hi 47 0 q = 0 ∨ hi 47 0 q = 1 ∨ hi 47 0 q = 2 ∨ hi 47 0 q = 3 ∨ hi 47 0 q = 4 by omega) with e | e | e | e | e <;> rw [e] <;> omega
      refine r_iload_n (pc := 7) dX7_mending_7 rfl ?_
      refine r_bipush (pc := 8) (n := 12) dX7_mending_8 rfl (by decide) ?_
      refine r_iload_n (pc := 10) dX7_mending_10 rfl ?_
      refine r_imul (pc := 11) dX7_mending_11 (by omega) ?_
      refine r_aload_n (pc := 12) dX7_mending_12 rfl ?_
      refine p_getQ (pc := 13) (jI := 23) (n9 := 1) (r := some (49, 0)) fl_X7_72 rfl dX7_mending_13 rfl rfl (by decide) (by decide) rfl ?_
      refine r_iload_n (pc := 16) dX7_mending_16 rfl ?_
      refine q_iald (pc := 17) (n9 := 1) (nI := 40) (v := hi 49 0 b) rfl dX7_mending_17 rfl (by decide) (by decide) rfl (by omega) (by omega) rfl ?_
      refine r_iadd (pc := 18) dX7_mending_18 (by omega) ?_
      refine r_icmp_ge (pc := 19) (tgt := 73) dX7_mending_19 rfl (fun c19 => ?_) (fun c19 => ?_)
      · refine r_iload_n (pc := 73) dX7_mending_73 rfl ?_
        refine r_iret (pc := 74) dX7_mending_74 (Or.inl rfl) (Nat.le_of_ble_eq_true rfl) (Nat.le_of_ble_eq_true rfl) ?_
        exact qI hQ (by rw [h2]; unfold menM; rw [show i = hi 49 0 b by omega]) rfl
      · refine r_iload_n (pc := 22) dX7_mending_22 rfl ?_
        refine r_aload_n (pc := 23) dX7_mending_23 rfl ?_
        refine p_getQ (pc := 24) (jI := 22) (n9 := 1) (r := some (48, 0)) fl_X7_69 rfl dX7_mending_24 rfl rfl (by decide) (by decide) rfl ?_
        refine r_iload_n (pc := 27) dX7_mending_27 rfl ?_
        refine q_iald (pc := 28) (n9 := 1) (nI := 480) (v := hi 48 0 q) rfl dX7_mending_28 rfl (by decide) (by decide) rfl (by omega) (by omega) rfl ?_
        refine r_aload_n (pc := 29) dX7_mending_29 rfl ?_
        refine p_getQ (pc := 30) (jI := 24) (n9 := 1) (r := some (50, 0)) fl_X7_75 rfl dX7_mending_30 rfl rfl (by decide) (by decide) rfl ?_
        refine r_aload_n (pc := 33) dX7_mending_33 rfl ?_
        refine p_getQ (pc := 34) (jI := 21) (n9 := 1) (r := some (47, 0)) fl_X7_66 rfl dX7_mending_34 rfl rfl (by decide) (by decide) rfl ?_
        refine r_iload_n (pc := 37) dX7_mending_37 rfl ?_
        refine q_iald (pc := 38) (n9 := 1) (nI := 480) (v := hi 47 0 q) rfl dX7_mending_38 rfl (by decide) (by decide) rfl (by omega) (by omega) rfl ?_
        refine q_iald (pc := 39) (n9 := 1) (nI := 5) (v := hi 50 0 (hi 47 0 q)) rfl dX7_mending_39 rfl (by decide) (by decide) rfl (by omega) (by omega) rfl ?_
        refine r_icmp_le (pc := 40) (tgt := 64) dX7_mending_40 rfl (fun c40 => ?_) (fun c40 => ?_)
        · refine r_iconst (pc := 64) (n := 0) dX7_mending_64 (by decide) ?_
          refine r_iadd (pc := 65) dX7_mending_65 (by omega) ?_
          refine r_istore_n (pc := 66) (xs' := [some (aR 7 0), some (aI b), some (aI (c + 0)), some (aI q)]) dX7_mending_66 (by decide) rfl ?_
          refine r_iinc (pc := 67) (xs' := [some (aR 7 0), some (aI b), some (aI (c + 0)), some (aI (q + 1))]) dX7_mending_67 rfl (by decide) (by omega) rfl ?_
          refine r_goto (pc := 70) (tgt := 7) dX7_mending_70 rfl ?_
          exact ih_loop (q + 1) (i + 1) (c + 0) (by omega) (by omega) (by omega) (by rw [menI_s (by omega), ← h2, ← h3, if_neg (by omega)]) (by omega)
        · refine r_bipush (pc := 43) (n := 10) dX7_mending_43 rfl (by decide) ?_
          refine r_aload_n (pc := 45) dX7_mending_45 rfl ?_
          refine p_getQ (pc := 46) (jI := 21) (n9 := 1) (r := some (47, 0)) fl_X7_66 rfl dX7_mending_46 rfl rfl (by decide) (by decide) rfl ?_
          refine r_iload_n (pc := 49) dX7_mending_49 rfl ?_
          refine q_iald (pc := 50) (n9 := 1) (nI := 480) (v := hi 47 0 q) rfl dX7_mending_50 rfl (by decide) (by decide) rfl (by omega) (by omega) rfl ?_
          refine r_iconst (pc := 51) (n := 1) dX7_mending_51 (by decide) ?_
          refine r_iadd (pc := 52) dX7_mending_52 (by omega) ?_
          refine r_imul (pc := 53) dX7_mending_53 (by omega) ?_
          refine r_aload_n (pc := 54) dX7_mending_54 rfl ?_
          refine p_getQ (pc := 55) (jI := 22) (n9 := 1) (r := some (48, 0)) fl_X7_69 rfl dX7_mending_55 rfl rfl (by decide) (by decide) rfl ?_
          refine r_iload_n (pc := 58) dX7_mending_58 rfl ?_
          refine q_iald (pc := 59) (n9 := 1) (nI := 480) (v := hi 48 0 q) rfl dX7_mending_59 rfl (by decide) (by decide) rfl (by omega) (by omega) rfl ?_
          refine r_imul (pc := 60) dX7_mending_60 (by omega) ?_
          refine r_goto (pc := 61) (tgt := 65) dX7_mending_61 rfl ?_
          refine r_iadd (pc := 65) dX7_mending_65 (by omega) ?_
          refine r_istore_n (pc := 66) (xs' := [some (aR 7 0), some (aI b), some (aI (c + ((10 * ((hi 47 0 q) + 1)) * (hi 48 0 q)))), some (aI q)]) dX7_mending_66 (by decide) rfl ?_
          refine r_iinc (pc := 67) (xs' := [some (aR 7 0), some (aI b), some (aI (c + ((10 * ((hi 47 0 q) + 1)) * (hi 48 0 q)))), some (aI (q + 1))]) dX7_mending_67 rfl (by decide) (by omega) rfl ?_
          refine r_goto (pc := 70) (tgt := 7) dX7_mending_70 rfl ?_
          exact ih_loop (q + 1) (i + 1) (c + ((10 * ((hi 47 0 q) + 1)) * (hi 48 0 q))) (by omega) (by omega) (by omega) (by rw [menI_s (by omega), ← h2, ← h3, if_pos (by omega), men_mul]) (by omega)
  exact loop 13 (12 * b) 0 0 (by omega) (by omega) (by omega) rfl (by omega)

theorem K_X7_isLeased {hi : Hi} {nb nk : Int} (hM : MV hi nb nk) {b : Int} (hb0 : 0 ≤ b) (hb1 : b < nb) {day : Int} : Det I_X7_isLeased [aR 7 0, aI b, aI day] (hp hi nb nk) (some (aI (bI (holM hi b day)))) (hp hi nb nk) := by
  have hN := hM.num
  unfold mNum at hN
  have hB9 := hM.box b hb0 hb1
  refine st_d (xs := [some (aR 7 0), some (aI b), some (aI day), none, none]) pn_X7 rfl rfl (Nat.le_of_ble_eq_true rfl) rfl rfl (fun Q X hQ => ?_)
  refine r_iconst (pc := 0) (n := (-1)) dX7_isLeased_0 (by decide) ?_
  refine r_istore_n (pc := 1) (xs' := [some (aR 7 0), some (aI b), some (aI day), some (aI (-1)), none]) dX7_isLeased_1 (by decide) rfl ?_
  refine r_bipush (pc := 2) (n := 10) dX7_isLeased_2 rfl (by decide) ?_
  refine r_iload_n (pc := 4) dX7_isLeased_4 rfl ?_
  refine r_imul (pc := 5) dX7_isLeased_5 (by omega) ?_
  refine r_istore (pc := 6) (xs' := [some (aR 7 0), some (aI b), some (aI day), some (aI (-1)), some (aI (10 * b))]) dX7_isLeased_6 (by decide) rfl ?_
  have loop : ∀ (n9 : Nat) (q i f : Int), (q = 10 * b + i) → (0 ≤ i ∧ i ≤ hi 43 0 b) → ((lasI (fun k => hi 41 0 (10 * b + k)) day i = -1 ∧ f = -1) ∨ (0 ≤ lasI (fun k => hi 41 0 (10 * b + k)) day i ∧ f = 10 * b + lasI (fun k => hi 41 0 (10 * b + k)) day i)) → hi 43 0 b - i < (n9 : Int) → Run I_X7_isLeased 8 [some (aR 7 0), some (aI b), some (aI day), some (aI f), some (aI q)] [] (hp hi nb nk) 0 0 Q X := by
    intro n9
    induction n9 with
    | zero => intro q i f h3 h0 h2 hf9; exfalso; omega
    | succ n9 ih_loop =>
      intro q i f h3 h0 h2 hf9
      have hr9 := lasI_r (fs := fun k => hi 41 0 (10 * b + k)) (day := day) h0.1
      refine r_iload (pc := 8) dX7_isLeased_8 rfl ?_
      refine r_bipush (pc := 10) (n := 10) dX7_isLeased_10 rfl (by decide) ?_
      refine r_iload_n (pc := 12) dX7_isLeased_12 rfl ?_
      refine r_imul (pc := 13) dX7_isLeased_13 (by omega) ?_
      refine r_aload_n (pc := 14) dX7_isLeased_14 rfl ?_
      refine p_getQ (pc := 15) (jI := 16) (n9 := 1) (r := some (43, 0)) fl_X7_50 rfl dX7_isLeased_15 rfl rfl (by decide) (by decide) rfl ?_
      refine r_iload_n (pc := 18) dX7_isLeased_18 rfl ?_
      refine q_iald (pc := 19) (n9 := 1) (nI := 40) (v := hi 43 0 b) rfl dX7_isLeased_19 rfl (by decide) (by decide) rfl (by omega) (by omega) rfl ?_
      refine r_iadd (pc := 20) dX7_isLeased_20 (by omega) ?_
      refine r_icmp_ge (pc := 21) (tgt := 48) dX7_isLeased_21 rfl (fun c21 => ?_) (fun c21 => ?_)
      · refine r_iload_n (pc := 48) dX7_isLeased_48 rfl ?_
        refine r_iconst (pc := 49) (n := (-1)) dX7_isLeased_49 (by decide) ?_
        refine r_icmp_eq (pc := 50) (tgt := 85) dX7_isLeased_50 rfl (fun c50 => ?_) (fun c50 => ?_)
        · refine r_iconst (pc := 85) (n := 0) dX7_isLeased_85 (by decide) ?_
          refine r_iret (pc := 86) dX7_isLeased_86 (Or.inr ⟨rfl, (by decide)⟩) (Nat.le_of_ble_eq_true rfl) (Nat.le_of_ble_eq_true rfl) ?_
          have e8 : lasM hi b day = lasI (fun k => hi 41 0 (10 * b + k)) day i := by unfold lasM; rw [show i = hi 43 0 b by omega]
          exact qI hQ (bI_f (by unfold holM; rw [e8]; rcases h2 with z | z; omega; (rw [← z.2]; omega))).symm rfl
        · refine r_iload_n (pc := 53) dX7_isLeased_53 rfl ?_
          refine r_aload_n (pc := 54) dX7_isLeased_54 rfl ?_
          refine p_getQ (pc := 55) (jI := 15) (n9 := 1) (r := some (42, 0)) fl_X7_47 rfl dX7_isLeased_55 rfl rfl (by decide) (by decide) rfl ?_
          refine r_iload_n (pc := 58) dX7_isLeased_58 rfl ?_
          refine q_iald (pc := 59) (n9 := 1) (nI := 400) (v := hi 42 0 f) rfl dX7_isLeased_59 rfl (by decide) (by decide) rfl (by omega) (by omega) rfl ?_
          refine r_icmp_gt (pc := 60) (tgt := 85) dX7_isLeased_60 rfl (fun c60 => ?_) (fun c60 => ?_)
          · refine r_iconst (pc := 85) (n := 0) dX7_isLeased_85 (by decide) ?_
            refine r_iret (pc := 86) dX7_isLeased_86 (Or.inr ⟨rfl, (by decide)⟩) (Nat.le_of_ble_eq_true rfl) (Nat.le_of_ble_eq_true rfl) ?_
            have e8 : lasM hi b day = lasI (fun k => hi 41 0 (10 * b + k)) day i := by unfold lasM; rw [show i = hi 43 0 b by omega]
            exact qI hQ (bI_f (by unfold holM; rw [e8]; rcases h2 with z | z; omega; (rw [← z.2]; omega))).symm rfl
          · refine r_aload_n (pc := 63) dX7_isLeased_63 rfl ?_
            refine r_iload_n (pc := 64) dX7_isLeased_64 rfl ?_
            refine d1_V (pc := 65) (t := 7) (i := 0) (rest := []) (cs' := 0) (sl' := 0) mv_X7_134 (K_X7_isGone (b := b) (by omega) (by omega)) rfl ⟨(Nat.le_of_ble_eq_true rfl), (Nat.le_of_ble_eq_true rfl)⟩ (Nat.le_of_ble_eq_true rfl) dX7_isLeased_65 (show (0 : Int) ≤ 0 by omega) (show 0 < 1 by omega) ⟨rfl, (Nat.le_of_ble_eq_true rfl)⟩ ⟨rfl, (Nat.le_of_ble_eq_true rfl)⟩ rfl ?_
            refine q_ifeqB (pc := 68) (tgt := 81) dX7_isLeased_68 rfl (fun c68 => ?_) (fun c68 => ?_)
            · refine r_iconst (pc := 81) (n := 1) dX7_isLeased_81 (by decide) ?_
              refine r_goto (pc := 82) (tgt := 86) dX7_isLeased_82 rfl ?_
              refine r_iret (pc := 86) dX7_isLeased_86 (Or.inr ⟨rfl, (by decide)⟩) (Nat.le_of_ble_eq_true rfl) (Nat.le_of_ble_eq_true rfl) ?_
              have e8 : lasM hi b day = lasI (fun k => hi 41 0 (10 * b + k)) day i := by unfold lasM; rw [show i = hi 43 0 b by omega]
              exact qI hQ (bI_t (by unfold holM; rw [e8]; rcases h2 with z | z; omega; (rw [← z.2]; omega))).symm rfl
            · refine r_iload_n (pc := 71) dX7_isLeased_71 rfl ?_
              refine r_aload_n (pc := 72) dX7_isLeased_72 rfl ?_
              refine p_getQ (pc := 73) (jI := 7) (n9 := 1) (r := some (35, 0)) fl_X7_26 rfl dX7_isLeased_73 rfl rfl (by decide) (by decide) rfl ?_
              refine r_iload_n (pc := 76) dX7_isLeased_76 rfl ?_
              refine q_iald (pc := 77) (n9 := 1) (nI := 40) (v := hi 35 0 b) rfl dX7_isLeased_77 rfl (by decide) (by decide) rfl (by omega) (by omega) rfl ?_
              refine r_icmp_gt (pc := 78) (tgt := 85) dX7_isLeased_78 rfl (fun c78 => ?_) (fun c78 => ?_)
              · refine r_iconst (pc := 85) (n := 0) dX7_isLeased_85 (by decide) ?_
                refine r_iret (pc := 86) dX7_isLeased_86 (Or.inr ⟨rfl, (by decide)⟩) (Nat.le_of_ble_eq_true rfl) (Nat.le_of_ble_eq_true rfl) ?_
                have e8 : lasM hi b day = lasI (fun k => hi 41 0 (10 * b + k)) day i := by unfold lasM; rw [show i = hi 43 0 b by omega]
                exact qI hQ (bI_f (by unfold holM; rw [e8]; rcases h2 with z | z; omega; (rw [← z.2]; omega))).symm rfl
              · refine r_iconst (pc := 81) (n := 1) dX7_isLeased_81 (by decide) ?_
                refine r_goto (pc := 82) (tgt := 86) dX7_isLeased_82 rfl ?_
                refine r_iret (pc := 86) dX7_isLeased_86 (Or.inr ⟨rfl, (by decide)⟩) (Nat.le_of_ble_eq_true rfl) (Nat.le_of_ble_eq_true rfl) ?_
                have e8 : lasM hi b day = lasI (fun k => hi 41 0 (10 * b + k)) day i := by unfold lasM; rw [show i = hi 43 0 b by omega]
                exact qI hQ (bI_t (by unfold holM; rw [e8]; rcases h2 with z | z; omega; (rw [← z.2]; omega))).symm rfl
      · refine r_aload_n (pc := 24) dX7_isLeased_24 rfl ?_
        refine p_getQ (pc := 25) (jI := 14) (n9 := 1) (r := some (41, 0)) fl_X7_44 rfl dX7_isLeased_25 rfl rfl (by decide) (by decide) rfl ?_
        refine r_iload (pc := 28) dX7_isLeased_28 rfl ?_
        refine q_iald (pc := 30) (n9 := 1) (nI := 400) (v := hi 41 0 q) rfl dX7_isLeased_30 rfl (by decide) (by decide) rfl (by omega) (by omega) rfl ?_
        refine r_iload_n (pc := 31) dX7_isLeased_31 rfl ?_
        refine r_icmp_gt (pc := 32) (tgt := 40) dX7_isLeased_32 rfl (fun c32 => ?_) (fun c32 => ?_)
        · refine r_iload_n (pc := 40) dX7_isLeased_40 rfl ?_
          refine r_istore_n (pc := 41) (xs' := [some (aR 7 0), some (aI b), some (aI day), some (aI f), some (aI q)]) dX7_isLeased_41 (by decide) rfl ?_
          refine r_iinc (pc := 42) (xs' := [some (aR 7 0), some (aI b), some (aI day), some (aI f), some (aI (q + 1))]) dX7_isLeased_42 rfl (by decide) (by omega) rfl ?_
          refine r_goto (pc := 45) (tgt := 8) dX7_isLeased_45 rfl ?_
          exact ih_loop (q + 1) (i + 1) f (by omega) (by omega) (by have e9 := lasI_s (fs := fun k => hi 41 0 (10 * b + k)) (day := day) h0.1; rw [← h3] at e9; rw [if_neg (by omega)] at e9; rw [e9]; exact h2) (by omega)
        · refine r_iload (pc := 35) dX7_isLeased_35 rfl ?_
          refine r_goto (pc := 37) (tgt := 41) dX7_isLeased_37 rfl ?_
          refine r_istore_n (pc := 41) (xs' := [some (aR 7 0), some (aI b), some (aI day), some (aI q), some (aI q)]) dX7_isLeased_41 (by decide) rfl ?_
          refine r_iinc (pc := 42) (xs' := [some (aR 7 0), some (aI b), some (aI day), some (aI q), some (aI (q + 1))]) dX7_isLeased_42 rfl (by decide) (by omega) rfl ?_
          refine r_goto (pc := 45) (tgt := 8) dX7_isLeased_45 rfl ?_
          exact ih_loop (q + 1) (i + 1) q (by omega) (by omega) (Or.inr (by have e9 := lasI_s (fs := fun k => hi 41 0 (10 * b + k)) (day := day) h0.1; rw [← h3] at e9; rw [if_pos (by omega)] at e9; rw [e9]; omega)) (by omega)
  exact loop 11 (10 * b) 0 (-1) (by omega) (by omega) (Or.inl ⟨rfl, rfl⟩) (by omega)

def cusM (hi : Hi) (b day : Int) : Prop := hi 7 0 17 ≤ day ∧ ∀ d, day - hi 7 0 17 ≤ d → d ≤ day → plcM hi b d = 11
theorem K_X7_isCustomers {hi : Hi} {nb nk : Int} (hM : MV hi nb nk) {b : Int} (hb0 : 0 ≤ b) (hb1 : b < nb) {day : Int} (hd : 0 ≤ day ∧ day ≤ 9999) : Det I_X7_isCustomers [aR 7 0, aI b, aI day] (hp hi nb nk) (some (aI (bI (cusM hi b day)))) (hp hi nb nk) := by
  have hN := hM.num
  unfold mNum at hN
  refine st_d (xs := [some (aR 7 0), some (aI b), some (aI day), none, none]) pn_X7 rfl rfl (Nat.le_of_ble_eq_true rfl) rfl rfl (fun Q X hQ => ?_)
  refine r_iload_n (pc := 0) dX7_isCustomers_0 rfl ?_
  refine r_aload_n (pc := 1) dX7_isCustomers_1 rfl ?_
  refine q_getI (pc := 2) (jI := 17) (n9 := 1) (v := hi 7 0 17) fl_X7_53 rfl dX7_isCustomers_2 rfl rfl (by decide) (by decide) rfl ?_
  refine r_icmp_lt (pc := 5) (tgt := 12) dX7_isCustomers_5 rfl (fun c5 => ?_) (fun c5 => ?_)
  · refine r_iconst (pc := 12) (n := 0) dX7_isCustomers_12 (by decide) ?_
    refine r_istore_n (pc := 13) (xs' := [some (aR 7 0), some (aI b), some (aI day), some (aI 0), none]) dX7_isCustomers_13 (by decide) rfl ?_
    refine r_iload_n (pc := 14) dX7_isCustomers_14 rfl ?_
    refine r_aload_n (pc := 15) dX7_isCustomers_15 rfl ?_
    refine q_getI (pc := 16) (jI := 17) (n9 := 1) (v := hi 7 0 17) fl_X7_53 rfl dX7_isCustomers_16 rfl rfl (by decide) (by decide) rfl ?_
    refine r_isub (pc := 19) dX7_isCustomers_19 (by omega) ?_
    refine r_istore (pc := 20) (xs' := [some (aR 7 0), some (aI b), some (aI day), some (aI 0), some (aI (day - (hi 7 0 17)))]) dX7_isCustomers_20 (by decide) rfl ?_
    have loop : ∀ (n9 : Nat) (q w : Int), (day - hi 7 0 17 ≤ q ∧ q ≤ day + 1) → ((w = 1 ∧ hi 7 0 17 ≤ day ∧ ∀ d, day - hi 7 0 17 ≤ d → d < q → plcM hi b d = 11) ∨ (w = 0 ∧ ¬ cusM hi b day)) → day + 1 - q < (n9 : Int) → Run I_X7_isCustomers 22 [some (aR 7 0), some (aI b), some (aI day), some (aI w), some (aI q)] [] (hp hi nb nk) 0 0 Q X := by
      intro n9
      induction n9 with
      | zero => intro q w h0 h2 hf9; exfalso; omega
      | succ n9 ih_loop =>
        intro q w h0 h2 hf9
        refine r_iload (pc := 22) dX7_isCustomers_22 rfl ?_
        refine r_iload_n (pc := 24) dX7_isCustomers_24 rfl ?_
        refine r_icmp_gt (pc := 25) (tgt := 56) dX7_isCustomers_25 rfl (fun c25 => ?_) (fun c25 => ?_)
        · refine r_iload_n (pc := 56) dX7_isCustomers_56 rfl ?_
          refine r_iret (pc := 57) dX7_isCustomers_57 (Or.inr ⟨rfl, (by omega)⟩) (Nat.le_of_ble_eq_true rfl) (Nat.le_of_ble_eq_true rfl) ?_
          exact qI hQ (by rcases h2 with z | z; (rw [z.1]; exact (bI_t ⟨z.2.1, fun d x1 x2 => z.2.2 d x1 (by omega)⟩).symm); (rw [z.1]; exact (bI_f z.2).symm)) rfl
        · refine r_iload_n (pc := 28) dX7_isCustomers_28 rfl ?_
          refine r_if_eq (pc := 29) (tgt := 56) dX7_isCustomers_29 rfl (fun c29 => ?_) (fun c29 => ?_)
          · refine r_iload_n (pc := 56) dX7_isCustomers_56 rfl ?_
            refine r_iret (pc := 57) dX7_isCustomers_57 (Or.inr ⟨rfl, (by omega)⟩) (Nat.le_of_ble_eq_true rfl) (Nat.le_of_ble_eq_true rfl) ?_
            exact qI hQ (by rcases h2 with z | z; (rw [z.1]; exact (bI_t ⟨z.2.1, fun d x1 x2 => z.2.2 d x1 (by omega)⟩).symm); (rw [z.1]; exact (bI_f z.2).symm)) rfl
          · refine r_aload_n (pc := 32) dX7_isCustomers_32 rfl ?_
            refine r_iload_n (pc := 33) dX7_isCustomers_33 rfl ?_
            refine r_iload (pc := 34) dX7_isCustomers_34 rfl ?_
            refine d1_V (pc := 36) (t := 7) (i := 0) (rest := []) (cs' := 0) (sl' := 0) mv_X7_158 (K_X7_placeOn hM (by omega) (by omega)) rfl ⟨(Nat.le_of_ble_eq_true rfl), (Nat.le_of_ble_eq_true rfl)⟩ (Nat.le_of_ble_eq_true rfl) dX7_isCustomers_36 (show (0 : Int) ≤ 0 by omega) (show 0 < 1 by omega) ⟨rfl, (Nat.le_of_ble_eq_true rfl)⟩ ⟨rfl, (Nat.le_of_ble_eq_true rfl)⟩ rfl ?_
            refine r_bipush (pc := 39) (n := 11) dX7_isCustomers_39 rfl (by decide) ?_
            refine r_icmp_ne (pc := 41) (tgt := 48) dX7_isCustomers_41 rfl (fun c41 => ?_) (fun c41 => ?_)
            · refine r_iconst (pc := 48) (n := 0) dX7_isCustomers_48 (by decide) ?_
              refine r_istore_n (pc := 49) (xs' := [some (aR 7 0), some (aI b), some (aI day), some (aI 0), some (aI q)]) dX7_isCustomers_49 (by decide) rfl ?_
              refine r_iinc (pc := 50) (xs' := [some (aR 7 0), some (aI b), some (aI day), some (aI 0), some (aI (q + 1))]) dX7_isCustomers_50 rfl (by decide) (by omega) rfl ?_
              refine r_goto (pc := 53) (tgt := 22) dX7_isCustomers_53 rfl ?_
              exact ih_loop (q + 1) 0 (by omega) (Or.inr ⟨rfl, fun z => c41 (z.2 q (by omega) (by omega))⟩) (by omega)
            · refine r_iconst (pc := 44) (n := 1) dX7_isCustomers_44 (by decide) ?_
              refine r_goto (pc := 45) (tgt := 49) dX7_isCustomers_45 rfl ?_
              refine r_istore_n (pc := 49) (xs' := [some (aR 7 0), some (aI b), some (aI day), some (aI 1), some (aI q)]) dX7_isCustomers_49 (by decide) rfl ?_
              refine r_iinc (pc := 50) (xs' := [some (aR 7 0), some (aI b), some (aI day), some (aI 1), some (aI (q + 1))]) dX7_isCustomers_50 rfl (by decide) (by omega) rfl ?_
              refine r_goto (pc := 53) (tgt := 22) dX7_isCustomers_53 rfl ?_
              exact ih_loop (q + 1) 1 (by omega) (Or.inl ⟨rfl, by omega, fun d x1 x2 => by by_cases e : d = q; (rw [e]; exact c41); (rcases h2 with z | z; exact z.2.2 d x1 (by omega); omega)⟩) (by omega)
    exact loop 32 (day - hi 7 0 17) 0 (by omega) (Or.inr ⟨rfl, fun z => by have := z.1; omega⟩) (by omega)
  · refine r_iconst (pc := 8) (n := 1) dX7_isCustomers_8 (by decide) ?_
    refine r_goto (pc := 9) (tgt := 13) dX7_isCustomers_9 rfl ?_
    refine r_istore_n (pc := 13) (xs' := [some (aR 7 0), some (aI b), some (aI day), some (aI 1), none]) dX7_isCustomers_13 (by decide) rfl ?_
    refine r_iload_n (pc := 14) dX7_isCustomers_14 rfl ?_
    refine r_aload_n (pc := 15) dX7_isCustomers_15 rfl ?_
    refine q_getI (pc := 16) (jI := 17) (n9 := 1) (v := hi 7 0 17) fl_X7_53 rfl dX7_isCustomers_16 rfl rfl (by decide) (by decide) rfl ?_
    refine r_isub (pc := 19) dX7_isCustomers_19 (by omega) ?_
    refine r_istore (pc := 20) (xs' := [some (aR 7 0), some (aI b), some (aI day), some (aI 1), some (aI (day - (hi 7 0 17)))]) dX7_isCustomers_20 (by decide) rfl ?_
    have loop : ∀ (n9 : Nat) (q w : Int), (day - hi 7 0 17 ≤ q ∧ q ≤ day + 1) → ((w = 1 ∧ hi 7 0 17 ≤ day ∧ ∀ d, day - hi 7 0 17 ≤ d → d < q → plcM hi b d = 11) ∨ (w = 0 ∧ ¬ cusM hi b day)) → day + 1 - q < (n9 : Int) → Run I_X7_isCustomers 22 [some (aR 7 0), some (aI b), some (aI day), some (aI w), some (aI q)] [] (hp hi nb nk) 0 0 Q X := by
      intro n9
      induction n9 with
      | zero => intro q w h0 h2 hf9; exfalso; omega
      | succ n9 ih_loop =>
        intro q w h0 h2 hf9
        refine r_iload (pc := 22) dX7_isCustomers_22 rfl ?_
        refine r_iload_n (pc := 24) dX7_isCustomers_24 rfl ?_
        refine r_icmp_gt (pc := 25) (tgt := 56) dX7_isCustomers_25 rfl (fun c25 => ?_) (fun c25 => ?_)
        · refine r_iload_n (pc := 56) dX7_isCustomers_56 rfl ?_
          refine r_iret (pc := 57) dX7_isCustomers_57 (Or.inr ⟨rfl, (by omega)⟩) (Nat.le_of_ble_eq_true rfl) (Nat.le_of_ble_eq_true rfl) ?_
          exact qI hQ (by rcases h2 with z | z; (rw [z.1]; exact (bI_t ⟨z.2.1, fun d x1 x2 => z.2.2 d x1 (by omega)⟩).symm); (rw [z.1]; exact (bI_f z.2).symm)) rfl
        · refine r_iload_n (pc := 28) dX7_isCustomers_28 rfl ?_
          refine r_if_eq (pc := 29) (tgt := 56) dX7_isCustomers_29 rfl (fun c29 => ?_) (fun c29 => ?_)
          · refine r_iload_n (pc := 56) dX7_isCustomers_56 rfl ?_
            refine r_iret (pc := 57) dX7_isCustomers_57 (Or.inr ⟨rfl, (by omega)⟩) (Nat.le_of_ble_eq_true rfl) (Nat.le_of_ble_eq_true rfl) ?_
            exact qI hQ (by rcases h2 with z | z; (rw [z.1]; exact (bI_t ⟨z.2.1, fun d x1 x2 => z.2.2 d x1 (by omega)⟩).symm); (rw [z.1]; exact (bI_f z.2).symm)) rfl
          · refine r_aload_n (pc := 32) dX7_isCustomers_32 rfl ?_
            refine r_iload_n (pc := 33) dX7_isCustomers_33 rfl ?_
            refine r_iload (pc := 34) dX7_isCustomers_34 rfl ?_
            refine d1_V (pc := 36) (t := 7) (i := 0) (rest := []) (cs' := 0) (sl' := 0) mv_X7_158 (K_X7_placeOn hM (by omega) (by omega)) rfl ⟨(Nat.le_of_ble_eq_true rfl), (Nat.le_of_ble_eq_true rfl)⟩ (Nat.le_of_ble_eq_true rfl) dX7_isCustomers_36 (show (0 : Int) ≤ 0 by omega) (show 0 < 1 by omega) ⟨rfl, (Nat.le_of_ble_eq_true rfl)⟩ ⟨rfl, (Nat.le_of_ble_eq_true rfl)⟩ rfl ?_
            refine r_bipush (pc := 39) (n := 11) dX7_isCustomers_39 rfl (by decide) ?_
            refine r_icmp_ne (pc := 41) (tgt := 48) dX7_isCustomers_41 rfl (fun c41 => ?_) (fun c41 => ?_)
            · refine r_iconst (pc := 48) (n := 0) dX7_isCustomers_48 (by decide) ?_
              refine r_istore_n (pc := 49) (xs' := [some (aR 7 0), some (aI b), some (aI day), some (aI 0), some (aI q)]) dX7_isCustomers_49 (by decide) rfl ?_
              refine r_iinc (pc := 50) (xs' := [some (aR 7 0), some (aI b), some (aI day), some (aI 0), some (aI (q + 1))]) dX7_isCustomers_50 rfl (by decide) (by omega) rfl ?_
              refine r_goto (pc := 53) (tgt := 22) dX7_isCustomers_53 rfl ?_
              exact ih_loop (q + 1) 0 (by omega) (Or.inr ⟨rfl, fun z => c41 (z.2 q (by omega) (by omega))⟩) (by omega)
            · refine r_iconst (pc := 44) (n := 1) dX7_isCustomers_44 (by decide) ?_
              refine r_goto (pc := 45) (tgt := 49) dX7_isCustomers_45 rfl ?_
              refine r_istore_n (pc := 49) (xs' := [some (aR 7 0), some (aI b), some (aI day), some (aI 1), some (aI q)]) dX7_isCustomers_49 (by decide) rfl ?_
              refine r_iinc (pc := 50) (xs' := [some (aR 7 0), some (aI b), some (aI day), some (aI 1), some (aI (q + 1))]) dX7_isCustomers_50 rfl (by decide) (by omega) rfl ?_
              refine r_goto (pc := 53) (tgt := 22) dX7_isCustomers_53 rfl ?_
              exact ih_loop (q + 1) 1 (by omega) (Or.inl ⟨rfl, by omega, fun d x1 x2 => by by_cases e : d = q; (rw [e]; exact c41); (rcases h2 with z | z; exact z.2.2 d x1 (by omega); omega)⟩) (by omega)
    exact loop 32 (day - hi 7 0 17) 1 (by omega) (Or.inl ⟨rfl, by omega, fun d x1 x2 => by omega⟩) (by omega)

noncomputable def payM (hi : Hi) (b day : Int) : Int := if bI (cusM hi b day) = 1 then 2 else if hi 32 0 b = -1 ∨ bI (holM hi b day) = 1 then 0 else 1
theorem K_X7_pays {hi : Hi} {nb nk : Int} (hM : MV hi nb nk) {b : Int} (hb0 : 0 ≤ b) (hb1 : b < nb) {day : Int} (hd : 0 ≤ day ∧ day ≤ 9999) : Det I_X7_pays [aR 7 0, aI b, aI day] (hp hi nb nk) (some (aI (payM hi b day))) (hp hi nb nk) := by
  have hN := hM.num
  unfold mNum at hN
  refine st_d (xs := [some (aR 7 0), some (aI b), some (aI day)]) pn_X7 rfl rfl (Nat.le_of_ble_eq_true rfl) rfl rfl (fun Q X hQ => ?_)
  refine r_aload_n (pc := 0) dX7_pays_0 rfl ?_
  refine r_iload_n (pc := 1) dX7_pays_1 rfl ?_
  refine r_iload_n (pc := 2) dX7_pays_2 rfl ?_
  refine d1_V (pc := 3) (t := 7) (i := 0) (rest := []) (cs' := 0) (sl' := 0) mv_X7_161 (K_X7_isCustomers hM hb0 hb1 hd) rfl ⟨(Nat.le_of_ble_eq_true rfl), (Nat.le_of_ble_eq_true rfl)⟩ (Nat.le_of_ble_eq_true rfl) dX7_pays_3 (show (0 : Int) ≤ 0 by omega) (show 0 < 1 by omega) ⟨rfl, (Nat.le_of_ble_eq_true rfl)⟩ ⟨rfl, (Nat.le_of_ble_eq_true rfl)⟩ rfl ?_
  refine q_ifeqB (pc := 6) (tgt := 13) dX7_pays_6 rfl (fun c6 => ?_) (fun c6 => ?_)
  · refine r_aload_n (pc := 13) dX7_pays_13 rfl ?_
    refine p_getQ (pc := 14) (jI := 4) (n9 := 1) (r := some (32, 0)) fl_X7_16 rfl dX7_pays_14 rfl rfl (by decide) (by decide) rfl ?_
    refine r_iload_n (pc := 17) dX7_pays_17 rfl ?_
    refine q_iald (pc := 18) (n9 := 1) (nI := 40) (v := hi 32 0 b) rfl dX7_pays_18 rfl (by decide) (by decide) rfl (by omega) (by omega) rfl ?_
    refine r_iconst (pc := 19) (n := (-1)) dX7_pays_19 (by decide) ?_
    refine r_icmp_eq (pc := 20) (tgt := 32) dX7_pays_20 rfl (fun c20 => ?_) (fun c20 => ?_)
    · refine r_iconst (pc := 32) (n := 0) dX7_pays_32 (by decide) ?_
      refine r_goto (pc := 33) (tgt := 37) dX7_pays_33 rfl ?_
      refine r_iret (pc := 37) dX7_pays_37 (Or.inl rfl) (Nat.le_of_ble_eq_true rfl) (Nat.le_of_ble_eq_true rfl) ?_
      exact qI hQ (by unfold payM; rw [if_neg (by rw [bI_f c6]; decide), if_pos (Or.inl c20)]) rfl
    · refine r_aload_n (pc := 23) dX7_pays_23 rfl ?_
      refine r_iload_n (pc := 24) dX7_pays_24 rfl ?_
      refine r_iload_n (pc := 25) dX7_pays_25 rfl ?_
      refine d1_V (pc := 26) (t := 7) (i := 0) (rest := []) (cs' := 0) (sl' := 0) mv_X7_165 (K_X7_isLeased hM (by omega) (by omega)) rfl ⟨(Nat.le_of_ble_eq_true rfl), (Nat.le_of_ble_eq_true rfl)⟩ (Nat.le_of_ble_eq_true rfl) dX7_pays_26 (show (0 : Int) ≤ 0 by omega) (show 0 < 1 by omega) ⟨rfl, (Nat.le_of_ble_eq_true rfl)⟩ ⟨rfl, (Nat.le_of_ble_eq_true rfl)⟩ rfl ?_
      refine q_ifeqB (pc := 29) (tgt := 36) dX7_pays_29 rfl (fun c29 => ?_) (fun c29 => ?_)
      · refine r_iconst (pc := 36) (n := 1) dX7_pays_36 (by decide) ?_
        refine r_iret (pc := 37) dX7_pays_37 (Or.inl rfl) (Nat.le_of_ble_eq_true rfl) (Nat.le_of_ble_eq_true rfl) ?_
        exact qI hQ (by unfold payM; rw [if_neg (by rw [bI_f c6]; decide), if_neg (by rw [bI_f c29]; omega)]) rfl
      · refine r_iconst (pc := 32) (n := 0) dX7_pays_32 (by decide) ?_
        refine r_goto (pc := 33) (tgt := 37) dX7_pays_33 rfl ?_
        refine r_iret (pc := 37) dX7_pays_37 (Or.inl rfl) (Nat.le_of_ble_eq_true rfl) (Nat.le_of_ble_eq_true rfl) ?_
        exact qI hQ (by unfold payM; rw [if_neg (by rw [bI_f c6]; decide), if_pos (Or.inr (bI_t c29))]) rfl
  · refine r_iconst (pc := 9) (n := 2) dX7_pays_9 (by decide) ?_
    refine r_goto (pc := 10) (tgt := 37) dX7_pays_10 rfl ?_
    refine r_iret (pc := 37) dX7_pays_37 (Or.inl rfl) (Nat.le_of_ble_eq_true rfl) (Nat.le_of_ble_eq_true rfl) ?_
    exact qI hQ (by unfold payM; rw [if_pos (bI_t c6)]) rfl

def morM (hi : Hi) (k : Int) : Int := hi 44 0 k - (if hi 46 0 k = hi 7 0 1 / 30 then hi 45 0 k else 0)
theorem K_X7_more {hi : Hi} {nb nk : Int} {k : Int} (hk : 0 ≤ k ∧ k < 18) (hd : 0 ≤ hi 7 0 1) (hq : -1000 ≤ hi 44 0 k ∧ hi 44 0 k ≤ 1000 ∧ 0 ≤ hi 45 0 k ∧ hi 45 0 k ≤ 1000) : Det I_X7_more [aR 7 0, aI k] (hp hi nb nk) (some (aI (morM hi k))) (hp hi nb nk) := by
  refine st_d (xs := [some (aR 7 0), some (aI k)]) pn_X7 rfl rfl (Nat.le_of_ble_eq_true rfl) rfl rfl (fun Q X hQ => ?_)
  refine r_aload_n (pc := 0) dX7_more_0 rfl ?_
  refine p_getQ (pc := 1) (jI := 18) (n9 := 1) (r := some (44, 0)) fl_X7_57 rfl dX7_more_1 rfl rfl (by decide) (by decide) rfl ?_
  refine r_iload_n (pc := 4) dX7_more_4 rfl ?_
  refine q_iald (pc := 5) (n9 := 1) (nI := 18) (v := hi 44 0 k) rfl dX7_more_5 rfl (by decide) (by decide) rfl (by omega) (by omega) rfl ?_
  refine r_aload_n (pc := 6) dX7_more_6 rfl ?_
  refine p_getQ (pc := 7) (jI := 20) (n9 := 1) (r := some (46, 0)) fl_X7_63 rfl dX7_more_7 rfl rfl (by decide) (by decide) rfl ?_
  refine r_iload_n (pc := 10) dX7_more_10 rfl ?_
  refine q_iald (pc := 11) (n9 := 1) (nI := 18) (v := hi 46 0 k) rfl dX7_more_11 rfl (by decide) (by decide) rfl (by omega) (by omega) rfl ?_
  refine r_aload_n (pc := 12) dX7_more_12 rfl ?_
  refine q_getI (pc := 13) (jI := 1) (n9 := 1) (v := hi 7 0 1) fl_X7_152 rfl dX7_more_13 rfl rfl (by decide) (by decide) rfl ?_
  refine r_bipush (pc := 16) (n := 30) dX7_more_16 rfl (by decide) ?_
  refine r_idiv (pc := 18) dX7_more_18 (by omega) (by omega) ?_
  refine r_icmp_ne (pc := 19) (tgt := 31) dX7_more_19 rfl (fun c19 => ?_) (fun c19 => ?_)
  · refine r_iconst (pc := 31) (n := 0) dX7_more_31 (by decide) ?_
    refine r_isub (pc := 32) dX7_more_32 (by omega) ?_
    refine r_iret (pc := 33) dX7_more_33 (Or.inl rfl) (Nat.le_of_ble_eq_true rfl) (Nat.le_of_ble_eq_true rfl) ?_
    exact qI hQ (by unfold morM; rw [if_neg c19]) rfl
  · refine r_aload_n (pc := 22) dX7_more_22 rfl ?_
    refine p_getQ (pc := 23) (jI := 19) (n9 := 1) (r := some (45, 0)) fl_X7_60 rfl dX7_more_23 rfl rfl (by decide) (by decide) rfl ?_
    refine r_iload_n (pc := 26) dX7_more_26 rfl ?_
    refine q_iald (pc := 27) (n9 := 1) (nI := 18) (v := hi 45 0 k) rfl dX7_more_27 rfl (by decide) (by decide) rfl (by omega) (by omega) rfl ?_
    refine r_goto (pc := 28) (tgt := 32) dX7_more_28 rfl ?_
    refine r_isub (pc := 32) dX7_more_32 (by omega) ?_
    refine r_iret (pc := 33) dX7_more_33 (Or.inl rfl) (Nat.le_of_ble_eq_true rfl) (Nat.le_of_ble_eq_true rfl) ?_
    exact qI hQ (by unfold morM; rw [if_pos c19]) rfl

def chaM (hi : Hi) (b : Int) : Prop := hi 35 0 b = -1 ∧ holM hi b (hi 7 0 1) ∧ (0 ≤ plcM hi b (hi 7 0 1) ∧ plcM hi b (hi 7 0 1) < 6) ∧ hi 36 0 b = -1 ∧ 0 < morM hi (6 * hi 32 0 b + plcM hi b (hi 7 0 1))
theorem MV.less {hi : Hi} {nb nk : Int} (hM : MV hi nb nk) {b day : Int} (h0 : 0 ≤ b) (h1 : b < nb) (h : holM hi b day) : 0 ≤ hi 32 0 b ∧ hi 32 0 b < 3 := by
  have a1 := hM.box b h0 h1
  have a2 := lasI_r (fs := fun k => hi 41 0 (10 * b + k)) (day := day) a1.2.2.2.1.1
  have a4 := h.1
  unfold lasM at a4
  omega
theorem K_X7_canHand {hi : Hi} {nb nk : Int} (hM : MV hi nb nk) {b : Int} (hb0 : 0 ≤ b) (hb1 : b < nb) : Det I_X7_canHand [aR 7 0, aI b] (hp hi nb nk) (some (aI (bI (chaM hi b)))) (hp hi nb nk) := by
  have hN := hM.num
  unfold mNum at hN
  have hB9 := hM.box b hb0 hb1
  refine st_d (xs := [some (aR 7 0), some (aI b), none]) pn_X7 rfl rfl (Nat.le_of_ble_eq_true rfl) rfl rfl (fun Q X hQ => ?_)
  refine r_aload_n (pc := 0) dX7_canHand_0 rfl ?_
  refine r_iload_n (pc := 1) dX7_canHand_1 rfl ?_
  refine r_aload_n (pc := 2) dX7_canHand_2 rfl ?_
  refine q_getI (pc := 3) (jI := 1) (n9 := 1) (v := hi 7 0 1) fl_X7_152 rfl dX7_canHand_3 rfl rfl (by decide) (by decide) rfl ?_
  refine d1_V (pc := 6) (t := 7) (i := 0) (rest := []) (cs' := 0) (sl' := 0) mv_X7_158 (K_X7_placeOn hM (by omega) (by omega)) rfl ⟨(Nat.le_of_ble_eq_true rfl), (Nat.le_of_ble_eq_true rfl)⟩ (Nat.le_of_ble_eq_true rfl) dX7_canHand_6 (show (0 : Int) ≤ 0 by omega) (show 0 < 1 by omega) ⟨rfl, (Nat.le_of_ble_eq_true rfl)⟩ ⟨rfl, (Nat.le_of_ble_eq_true rfl)⟩ rfl ?_
  refine r_istore_n (pc := 9) (xs' := [some (aR 7 0), some (aI b), some (aI (plcM hi b (hi 7 0 1)))]) dX7_canHand_9 (by decide) rfl ?_
  refine r_aload_n (pc := 10) dX7_canHand_10 rfl ?_
  refine r_iload_n (pc := 11) dX7_canHand_11 rfl ?_
  refine d1_V (pc := 12) (t := 7) (i := 0) (rest := []) (cs' := 0) (sl' := 0) mv_X7_134 (K_X7_isGone (b := b) (by omega) (by omega)) rfl ⟨(Nat.le_of_ble_eq_true rfl), (Nat.le_of_ble_eq_true rfl)⟩ (Nat.le_of_ble_eq_true rfl) dX7_canHand_12 (show (0 : Int) ≤ 0 by omega) (show 0 < 1 by omega) ⟨rfl, (Nat.le_of_ble_eq_true rfl)⟩ ⟨rfl, (Nat.le_of_ble_eq_true rfl)⟩ rfl ?_
  refine q_ifneB (pc := 15) (tgt := 69) dX7_canHand_15 rfl (fun c15 => ?_) (fun c15 => ?_)
  · refine r_iconst (pc := 69) (n := 0) dX7_canHand_69 (by decide) ?_
    refine r_iret (pc := 70) dX7_canHand_70 (Or.inr ⟨rfl, (by decide)⟩) (Nat.le_of_ble_eq_true rfl) (Nat.le_of_ble_eq_true rfl) ?_
    exact qI hQ (bI_f (fun z => by have z1 := z.1; have z2 := z.2.1; have z3 := z.2.2.1; have z4 := z.2.2.2.1; have z5 := z.2.2.2.2; first | omega | contradiction)).symm rfl
  · refine r_aload_n (pc := 18) dX7_canHand_18 rfl ?_
    refine r_iload_n (pc := 19) dX7_canHand_19 rfl ?_
    refine r_aload_n (pc := 20) dX7_canHand_20 rfl ?_
    refine q_getI (pc := 21) (jI := 1) (n9 := 1) (v := hi 7 0 1) fl_X7_152 rfl dX7_canHand_21 rfl rfl (by decide) (by decide) rfl ?_
    refine d1_V (pc := 24) (t := 7) (i := 0) (rest := []) (cs' := 0) (sl' := 0) mv_X7_165 (K_X7_isLeased hM (by omega) (by omega)) rfl ⟨(Nat.le_of_ble_eq_true rfl), (Nat.le_of_ble_eq_true rfl)⟩ (Nat.le_of_ble_eq_true rfl) dX7_canHand_24 (show (0 : Int) ≤ 0 by omega) (show 0 < 1 by omega) ⟨rfl, (Nat.le_of_ble_eq_true rfl)⟩ ⟨rfl, (Nat.le_of_ble_eq_true rfl)⟩ rfl ?_
    refine q_ifeqB (pc := 27) (tgt := 69) dX7_canHand_27 rfl (fun c27 => ?_) (fun c27 => ?_)
    · refine r_iconst (pc := 69) (n := 0) dX7_canHand_69 (by decide) ?_
      refine r_iret (pc := 70) dX7_canHand_70 (Or.inr ⟨rfl, (by decide)⟩) (Nat.le_of_ble_eq_true rfl) (Nat.le_of_ble_eq_true rfl) ?_
      exact qI hQ (bI_f (fun z => by have z1 := z.1; have z2 := z.2.1; have z3 := z.2.2.1; have z4 := z.2.2.2.1; have z5 := z.2.2.2.2; first | omega | contradiction)).symm rfl
    · refine r_iload_n (pc := 30) dX7_canHand_30 rfl ?_
      refine d1_S (pc := 31) (rest := []) (cs' := 0) (sl' := 0) ms_X7_118 rfl (K_X7_isPort (p := plcM hi b (hi 7 0 1))) rfl ⟨(Nat.le_of_ble_eq_true rfl), (Nat.le_of_ble_eq_true rfl)⟩ (Nat.le_of_ble_eq_true rfl) dX7_canHand_31 ⟨rfl, (Nat.le_of_ble_eq_true rfl)⟩ ⟨rfl, (Nat.le_of_ble_eq_true rfl)⟩ rfl ?_
      refine q_ifeqB (pc := 34) (tgt := 69) dX7_canHand_34 rfl (fun c34 => ?_) (fun c34 => ?_)
      · refine r_iconst (pc := 69) (n := 0) dX7_canHand_69 (by decide) ?_
        refine r_iret (pc := 70) dX7_canHand_70 (Or.inr ⟨rfl, (by decide)⟩) (Nat.le_of_ble_eq_true rfl) (Nat.le_of_ble_eq_true rfl) ?_
        exact qI hQ (bI_f (fun z => by have z1 := z.1; have z2 := z.2.1; have z3 := z.2.2.1; have z4 := z.2.2.2.1; have z5 := z.2.2.2.2; first | omega | contradiction)).symm rfl
      · refine r_aload_n (pc := 37) dX7_canHand_37 rfl ?_
        refine p_getQ (pc := 38) (jI := 8) (n9 := 1) (r := some (36, 0)) fl_X7_29 rfl dX7_canHand_38 rfl rfl (by decide) (by decide) rfl ?_
        refine r_iload_n (pc := 41) dX7_canHand_41 rfl ?_
        refine q_iald (pc := 42) (n9 := 1) (nI := 40) (v := hi 36 0 b) rfl dX7_canHand_42 rfl (by decide) (by decide) rfl (by omega) (by omega) rfl ?_
        refine r_iconst (pc := 43) (n := (-1)) dX7_canHand_43 (by decide) ?_
        refine r_icmp_ne (pc := 44) (tgt := 69) dX7_canHand_44 rfl (fun c44 => ?_) (fun c44 => ?_)
        · refine r_iconst (pc := 69) (n := 0) dX7_canHand_69 (by decide) ?_
          refine r_iret (pc := 70) dX7_canHand_70 (Or.inr ⟨rfl, (by decide)⟩) (Nat.le_of_ble_eq_true rfl) (Nat.le_of_ble_eq_true rfl) ?_
          exact qI hQ (bI_f (fun z => by have z1 := z.1; have z2 := z.2.1; have z3 := z.2.2.1; have z4 := z.2.2.2.1; have z5 := z.2.2.2.2; first | omega | contradiction)).symm rfl
        · have hl9 := hM.less hb0 hb1 c27
          refine r_aload_n (pc := 47) dX7_canHand_47 rfl ?_
          refine r_bipush (pc := 48) (n := 6) dX7_canHand_48 rfl (by decide) ?_
          refine r_aload_n (pc := 50) dX7_canHand_50 rfl ?_
          refine p_getQ (pc := 51) (jI := 4) (n9 := 1) (r := some (32, 0)) fl_X7_16 rfl dX7_canHand_51 rfl rfl (by decide) (by decide) rfl ?_
          refine r_iload_n (pc := 54) dX7_canHand_54 rfl ?_
          refine q_iald (pc := 55) (n9 := 1) (nI := 40) (v := hi 32 0 b) rfl dX7_canHand_55 rfl (by decide) (by decide) rfl (by omega) (by omega) rfl ?_
          refine r_imul (pc := 56) dX7_canHand_56 (by omega) ?_
          refine r_iload_n (pc := 57) dX7_canHand_57 rfl ?_
          refine r_iadd (pc := 58) dX7_canHand_58 (by omega) ?_
          refine d1_V (pc := 59) (t := 7) (i := 0) (rest := []) (cs' := 0) (sl' := 0) mv_X7_171 (K_X7_more (k := (6 * (hi 32 0 b)) + (plcM hi b (hi 7 0 1))) (by omega) (by omega) (by have := hM.quo ((6 * (hi 32 0 b)) + (plcM hi b (hi 7 0 1))) (by omega) (by omega); omega)) rfl ⟨(Nat.le_of_ble_eq_true rfl), (Nat.le_of_ble_eq_true rfl)⟩ (Nat.le_of_ble_eq_true rfl) dX7_canHand_59 (show (0 : Int) ≤ 0 by omega) (show 0 < 1 by omega) ⟨rfl, (Nat.le_of_ble_eq_true rfl)⟩ ⟨rfl, (Nat.le_of_ble_eq_true rfl)⟩ rfl ?_
          refine r_if_le (pc := 62) (tgt := 69) dX7_canHand_62 rfl (fun c62 => ?_) (fun c62 => ?_)
          · refine r_iconst (pc := 69) (n := 0) dX7_canHand_69 (by decide) ?_
            refine r_iret (pc := 70) dX7_canHand_70 (Or.inr ⟨rfl, (by decide)⟩) (Nat.le_of_ble_eq_true rfl) (Nat.le_of_ble_eq_true rfl) ?_
            exact qI hQ (bI_f (fun z => by have z1 := z.1; have z2 := z.2.1; have z3 := z.2.2.1; have z4 := z.2.2.2.1; have z5 := z.2.2.2.2; first | omega | contradiction)).symm rfl
          · refine r_iconst (pc := 65) (n := 1) dX7_canHand_65 (by decide) ?_
            refine r_goto (pc := 66) (tgt := 70) dX7_canHand_66 rfl ?_
            refine r_iret (pc := 70) dX7_canHand_70 (Or.inr ⟨rfl, (by decide)⟩) (Nat.le_of_ble_eq_true rfl) (Nat.le_of_ble_eq_true rfl) ?_
            exact qI hQ (bI_t ⟨by omega, c27, c34, c44, by omega⟩).symm rfl

theorem K_X7_given {hi : Hi} {nb nk : Int} (hM : MV hi nb nk) {k : Int} : Det I_X7_given [aR 7 0, aI k] (hp hi nb nk) (some (aI (givI (hi 36 0) nb k))) (hp hi nb nk) := by
  have hN := hM.num
  unfold mNum at hN
  refine st_d (xs := [some (aR 7 0), some (aI k), none, none]) pn_X7 rfl rfl (Nat.le_of_ble_eq_true rfl) rfl rfl (fun Q X hQ => ?_)
  refine r_iconst (pc := 0) (n := 0) dX7_given_0 (by decide) ?_
  refine r_istore_n (pc := 1) (xs' := [some (aR 7 0), some (aI k), some (aI 0), none]) dX7_given_1 (by decide) rfl ?_
  refine r_iconst (pc := 2) (n := 0) dX7_given_2 (by decide) ?_
  refine r_istore_n (pc := 3) (xs' := [some (aR 7 0), some (aI k), some (aI 0), some (aI 0)]) dX7_given_3 (by decide) rfl ?_
  have loop : ∀ (n9 : Nat) (i c : Int), (0 ≤ i ∧ i ≤ nb) → (0 ≤ c ∧ c ≤ i) → (c = givI (hi 36 0) i k) → nb - i < (n9 : Int) → Run I_X7_given 4 [some (aR 7 0), some (aI k), some (aI c), some (aI i)] [] (hp hi nb nk) 0 0 Q X := by
    intro n9
    induction n9 with
    | zero => intro i c h0 h1 h2 hf9; exfalso; omega
    | succ n9 ih_loop =>
      intro i c h0 h1 h2 hf9
      refine r_iload_n (pc := 4) dX7_given_4 rfl ?_
      refine r_aload_n (pc := 5) dX7_given_5 rfl ?_
      refine q_getI (pc := 6) (jI := 9) (n9 := 1) (v := hi 7 0 9) fl_X7_115 rfl dX7_given_6 rfl rfl (by decide) (by decide) rfl ?_
      refine r_icmp_ge (pc := 9) (tgt := 36) dX7_given_9 rfl (fun c9 => ?_) (fun c9 => ?_)
      · refine r_iload_n (pc := 36) dX7_given_36 rfl ?_
        refine r_iret (pc := 37) dX7_given_37 (Or.inl rfl) (Nat.le_of_ble_eq_true rfl) (Nat.le_of_ble_eq_true rfl) ?_
        exact qI hQ (by rw [h2, show i = nb by omega]) rfl
      · refine r_iload_n (pc := 12) dX7_given_12 rfl ?_
        refine r_aload_n (pc := 13) dX7_given_13 rfl ?_
        refine p_getQ (pc := 14) (jI := 8) (n9 := 1) (r := some (36, 0)) fl_X7_29 rfl dX7_given_14 rfl rfl (by decide) (by decide) rfl ?_
        refine r_iload_n (pc := 17) dX7_given_17 rfl ?_
        refine q_iald (pc := 18) (n9 := 1) (nI := 40) (v := hi 36 0 i) rfl dX7_given_18 rfl (by decide) (by decide) rfl (by omega) (by omega) rfl ?_
        refine r_iload_n (pc := 19) dX7_given_19 rfl ?_
        refine r_icmp_ne (pc := 20) (tgt := 27) dX7_given_20 rfl (fun c20 => ?_) (fun c20 => ?_)
        · refine r_iconst (pc := 27) (n := 0) dX7_given_27 (by decide) ?_
          refine r_iadd (pc := 28) dX7_given_28 (by omega) ?_
          refine r_istore_n (pc := 29) (xs' := [some (aR 7 0), some (aI k), some (aI (c + 0)), some (aI i)]) dX7_given_29 (by decide) rfl ?_
          refine r_iinc (pc := 30) (xs' := [some (aR 7 0), some (aI k), some (aI (c + 0)), some (aI (i + 1))]) dX7_given_30 rfl (by decide) (by omega) rfl ?_
          refine r_goto (pc := 33) (tgt := 4) dX7_given_33 rfl ?_
          exact ih_loop (i + 1) (c + 0) (by omega) (by omega) (by rw [h2]; unfold givI; rw [sI_s (by omega), bI_f c20]) (by omega)
        · refine r_iconst (pc := 23) (n := 1) dX7_given_23 (by decide) ?_
          refine r_goto (pc := 24) (tgt := 28) dX7_given_24 rfl ?_
          refine r_iadd (pc := 28) dX7_given_28 (by omega) ?_
          refine r_istore_n (pc := 29) (xs' := [some (aR 7 0), some (aI k), some (aI (c + 1)), some (aI i)]) dX7_given_29 (by decide) rfl ?_
          refine r_iinc (pc := 30) (xs' := [some (aR 7 0), some (aI k), some (aI (c + 1)), some (aI (i + 1))]) dX7_given_30 rfl (by decide) (by omega) rfl ?_
          refine r_goto (pc := 33) (tgt := 4) dX7_given_33 rfl ?_
          exact ih_loop (i + 1) (c + 1) (by omega) (by omega) (by rw [h2]; unfold givI; rw [sI_s (by omega), bI_t c20]) (by omega)
  exact loop 41 0 0 (by omega) (by omega) rfl (by omega)

theorem K_X7_lacking {hi : Hi} {nb nk : Int} (hM : MV hi nb nk) {k : Int} (hk0 : 0 ≤ k) (hk1 : k < nk) : Det I_X7_lacking [aR 7 0, aI k] (hp hi nb nk) (some (aI (lacM hi nb k))) (hp hi nb nk) := by
  have hN := hM.num
  unfold mNum at hN
  have hK9 := hM.bok k hk0 hk1
  refine st_d (xs := [some (aR 7 0), some (aI k)]) pn_X7 rfl rfl (Nat.le_of_ble_eq_true rfl) rfl rfl (fun Q X hQ => ?_)
  refine r_aload_n (pc := 0) dX7_lacking_0 rfl ?_
  refine p_getQ (pc := 1) (jI := 29) (n9 := 1) (r := some (54, 0)) fl_X7_90 rfl dX7_lacking_1 rfl rfl (by decide) (by decide) rfl ?_
  refine r_iload_n (pc := 4) dX7_lacking_4 rfl ?_
  refine q_zald (pc := 5) (n9 := 1) (nI := 20) (v := hi 54 0 k) rfl dX7_lacking_5 rfl (by decide) (by decide) rfl (by omega) (by omega) rfl ?_
  refine r_if_eq (pc := 6) (tgt := 13) dX7_lacking_6 rfl (fun c6 => ?_) (fun c6 => ?_)
  · refine r_aload_n (pc := 13) dX7_lacking_13 rfl ?_
    refine p_getQ (pc := 14) (jI := 28) (n9 := 1) (r := some (53, 0)) fl_X7_87 rfl dX7_lacking_14 rfl rfl (by decide) (by decide) rfl ?_
    refine r_iload_n (pc := 17) dX7_lacking_17 rfl ?_
    refine q_iald (pc := 18) (n9 := 1) (nI := 20) (v := hi 53 0 k) rfl dX7_lacking_18 rfl (by decide) (by decide) rfl (by omega) (by omega) rfl ?_
    refine r_aload_n (pc := 19) dX7_lacking_19 rfl ?_
    refine r_iload_n (pc := 20) dX7_lacking_20 rfl ?_
    refine d1_V (pc := 21) (t := 7) (i := 0) (rest := [aI (hi 53 0 k)]) (cs' := 0) (sl' := 0) mv_X7_189 (K_X7_given hM (k := k)) rfl ⟨(Nat.le_of_ble_eq_true rfl), (Nat.le_of_ble_eq_true rfl)⟩ (Nat.le_of_ble_eq_true rfl) dX7_lacking_21 (show (0 : Int) ≤ 0 by omega) (show 0 < 1 by omega) ⟨rfl, (Nat.le_of_ble_eq_true rfl)⟩ ⟨rfl, (Nat.le_of_ble_eq_true rfl)⟩ rfl ?_
    refine r_isub (pc := 24) dX7_lacking_24 (by have := givI_r (B := hi 36 0) (k := k) (nb := nb) (by omega); omega) ?_
    refine r_iret (pc := 25) dX7_lacking_25 (Or.inl rfl) (Nat.le_of_ble_eq_true rfl) (Nat.le_of_ble_eq_true rfl) ?_
    exact qI hQ (by unfold lacM; rw [if_pos c6]) rfl
  · refine r_iconst (pc := 9) (n := 0) dX7_lacking_9 (by decide) ?_
    refine r_goto (pc := 10) (tgt := 25) dX7_lacking_10 rfl ?_
    refine r_iret (pc := 25) dX7_lacking_25 (Or.inl rfl) (Nat.le_of_ble_eq_true rfl) (Nat.le_of_ble_eq_true rfl) ?_
    exact qI hQ (by unfold lacM; rw [if_neg c6]) rfl

theorem K_X7_canServe {hi : Hi} {nb nk : Int} (hM : MV hi nb nk) {b : Int} (hb0 : 0 ≤ b) (hb1 : b < nb) : Det I_X7_canServe [aR 7 0, aI b] (hp hi nb nk) (some (aI (bI (canM hi b)))) (hp hi nb nk) := by
  have hN := hM.num
  unfold mNum at hN
  refine st_d (xs := [some (aR 7 0), some (aI b)]) pn_X7 rfl rfl (Nat.le_of_ble_eq_true rfl) rfl rfl (fun Q X hQ => ?_)
  refine r_aload_n (pc := 0) dX7_canServe_0 rfl ?_
  refine r_iload_n (pc := 1) dX7_canServe_1 rfl ?_
  refine r_aload_n (pc := 2) dX7_canServe_2 rfl ?_
  refine q_getI (pc := 3) (jI := 1) (n9 := 1) (v := hi 7 0 1) fl_X7_152 rfl dX7_canServe_3 rfl rfl (by decide) (by decide) rfl ?_
  refine d1_V (pc := 6) (t := 7) (i := 0) (rest := []) (cs' := 0) (sl' := 0) mv_X7_158 (K_X7_placeOn hM (by omega) (by omega)) rfl ⟨(Nat.le_of_ble_eq_true rfl), (Nat.le_of_ble_eq_true rfl)⟩ (Nat.le_of_ble_eq_true rfl) dX7_canServe_6 (show (0 : Int) ≤ 0 by omega) (show 0 < 1 by omega) ⟨rfl, (Nat.le_of_ble_eq_true rfl)⟩ ⟨rfl, (Nat.le_of_ble_eq_true rfl)⟩ rfl ?_
  refine d1_S (pc := 9) (rest := []) (cs' := 0) (sl' := 0) ms_X7_118 rfl (K_X7_isPort (p := plcM hi b (hi 7 0 1))) rfl ⟨(Nat.le_of_ble_eq_true rfl), (Nat.le_of_ble_eq_true rfl)⟩ (Nat.le_of_ble_eq_true rfl) dX7_canServe_9 ⟨rfl, (Nat.le_of_ble_eq_true rfl)⟩ ⟨rfl, (Nat.le_of_ble_eq_true rfl)⟩ rfl ?_
  refine q_ifeqB (pc := 12) (tgt := 67) dX7_canServe_12 rfl (fun c12 => ?_) (fun c12 => ?_)
  · refine r_iconst (pc := 67) (n := 0) dX7_canServe_67 (by decide) ?_
    refine r_iret (pc := 68) dX7_canServe_68 (Or.inr ⟨rfl, (by decide)⟩) (Nat.le_of_ble_eq_true rfl) (Nat.le_of_ble_eq_true rfl) ?_
    exact qI hQ (bI_f (by unfold canM; omega)).symm rfl
  · refine r_aload_n (pc := 15) dX7_canServe_15 rfl ?_
    refine r_iload_n (pc := 16) dX7_canServe_16 rfl ?_
    refine d1_V (pc := 17) (t := 7) (i := 0) (rest := []) (cs' := 0) (sl' := 0) mv_X7_134 (K_X7_isGone (b := b) (by omega) (by omega)) rfl ⟨(Nat.le_of_ble_eq_true rfl), (Nat.le_of_ble_eq_true rfl)⟩ (Nat.le_of_ble_eq_true rfl) dX7_canServe_17 (show (0 : Int) ≤ 0 by omega) (show 0 < 1 by omega) ⟨rfl, (Nat.le_of_ble_eq_true rfl)⟩ ⟨rfl, (Nat.le_of_ble_eq_true rfl)⟩ rfl ?_
    refine q_ifneB (pc := 20) (tgt := 67) dX7_canServe_20 rfl (fun c20 => ?_) (fun c20 => ?_)
    · refine r_iconst (pc := 67) (n := 0) dX7_canServe_67 (by decide) ?_
      refine r_iret (pc := 68) dX7_canServe_68 (Or.inr ⟨rfl, (by decide)⟩) (Nat.le_of_ble_eq_true rfl) (Nat.le_of_ble_eq_true rfl) ?_
      exact qI hQ (bI_f (by unfold canM; omega)).symm rfl
    · refine r_aload_n (pc := 23) dX7_canServe_23 rfl ?_
      refine p_getQ (pc := 24) (jI := 8) (n9 := 1) (r := some (36, 0)) fl_X7_29 rfl dX7_canServe_24 rfl rfl (by decide) (by decide) rfl ?_
      refine r_iload_n (pc := 27) dX7_canServe_27 rfl ?_
      refine q_iald (pc := 28) (n9 := 1) (nI := 40) (v := hi 36 0 b) rfl dX7_canServe_28 rfl (by decide) (by decide) rfl (by omega) (by omega) rfl ?_
      refine r_iconst (pc := 29) (n := (-1)) dX7_canServe_29 (by decide) ?_
      refine r_icmp_ne (pc := 30) (tgt := 67) dX7_canServe_30 rfl (fun c30 => ?_) (fun c30 => ?_)
      · refine r_iconst (pc := 67) (n := 0) dX7_canServe_67 (by decide) ?_
        refine r_iret (pc := 68) dX7_canServe_68 (Or.inr ⟨rfl, (by decide)⟩) (Nat.le_of_ble_eq_true rfl) (Nat.le_of_ble_eq_true rfl) ?_
        exact qI hQ (bI_f (by unfold canM; omega)).symm rfl
      · refine r_aload_n (pc := 33) dX7_canServe_33 rfl ?_
        refine p_getQ (pc := 34) (jI := 6) (n9 := 1) (r := some (34, 0)) fl_X7_22 rfl dX7_canServe_34 rfl rfl (by decide) (by decide) rfl ?_
        refine r_iload_n (pc := 37) dX7_canServe_37 rfl ?_
        refine q_zald (pc := 38) (n9 := 1) (nI := 40) (v := hi 34 0 b) rfl dX7_canServe_38 rfl (by decide) (by decide) rfl (by omega) (by omega) rfl ?_
        refine r_if_ne (pc := 39) (tgt := 67) dX7_canServe_39 rfl (fun c39 => ?_) (fun c39 => ?_)
        · refine r_iconst (pc := 67) (n := 0) dX7_canServe_67 (by decide) ?_
          refine r_iret (pc := 68) dX7_canServe_68 (Or.inr ⟨rfl, (by decide)⟩) (Nat.le_of_ble_eq_true rfl) (Nat.le_of_ble_eq_true rfl) ?_
          exact qI hQ (bI_f (by unfold canM; omega)).symm rfl
        · refine r_aload_n (pc := 42) dX7_canServe_42 rfl ?_
          refine p_getQ (pc := 43) (jI := 5) (n9 := 1) (r := some (33, 0)) fl_X7_19 rfl dX7_canServe_43 rfl rfl (by decide) (by decide) rfl ?_
          refine r_iload_n (pc := 46) dX7_canServe_46 rfl ?_
          refine q_iald (pc := 47) (n9 := 1) (nI := 40) (v := hi 33 0 b) rfl dX7_canServe_47 rfl (by decide) (by decide) rfl (by omega) (by omega) rfl ?_
          refine r_aload_n (pc := 48) dX7_canServe_48 rfl ?_
          refine q_getI (pc := 49) (jI := 1) (n9 := 1) (v := hi 7 0 1) fl_X7_152 rfl dX7_canServe_49 rfl rfl (by decide) (by decide) rfl ?_
          refine r_icmp_lt (pc := 52) (tgt := 67) dX7_canServe_52 rfl (fun c52 => ?_) (fun c52 => ?_)
          · refine r_iconst (pc := 67) (n := 0) dX7_canServe_67 (by decide) ?_
            refine r_iret (pc := 68) dX7_canServe_68 (Or.inr ⟨rfl, (by decide)⟩) (Nat.le_of_ble_eq_true rfl) (Nat.le_of_ble_eq_true rfl) ?_
            exact qI hQ (bI_f (by unfold canM; omega)).symm rfl
          · refine r_aload_n (pc := 55) dX7_canServe_55 rfl ?_
            refine r_iload_n (pc := 56) dX7_canServe_56 rfl ?_
            refine d1_V (pc := 57) (t := 7) (i := 0) (rest := []) (cs' := 0) (sl' := 0) mv_X7_183 (K_X7_mending hM (by omega) (by omega)) rfl ⟨(Nat.le_of_ble_eq_true rfl), (Nat.le_of_ble_eq_true rfl)⟩ (Nat.le_of_ble_eq_true rfl) dX7_canServe_57 (show (0 : Int) ≤ 0 by omega) (show 0 < 1 by omega) ⟨rfl, (Nat.le_of_ble_eq_true rfl)⟩ ⟨rfl, (Nat.le_of_ble_eq_true rfl)⟩ rfl ?_
            refine r_if_ne (pc := 60) (tgt := 67) dX7_canServe_60 rfl (fun c60 => ?_) (fun c60 => ?_)
            · refine r_iconst (pc := 67) (n := 0) dX7_canServe_67 (by decide) ?_
              refine r_iret (pc := 68) dX7_canServe_68 (Or.inr ⟨rfl, (by decide)⟩) (Nat.le_of_ble_eq_true rfl) (Nat.le_of_ble_eq_true rfl) ?_
              exact qI hQ (bI_f (by unfold canM; omega)).symm rfl
            · refine r_iconst (pc := 63) (n := 1) dX7_canServe_63 (by decide) ?_
              refine r_goto (pc := 64) (tgt := 68) dX7_canServe_64 rfl ?_
              refine r_iret (pc := 68) dX7_canServe_68 (Or.inr ⟨rfl, (by decide)⟩) (Nat.le_of_ble_eq_true rfl) (Nat.le_of_ble_eq_true rfl) ?_
              exact qI hQ (bI_t (by unfold canM; omega)).symm rfl

noncomputable def laaM (hi : Hi) (nb nk kd po : Int) : Int := sI (fun k => if hi 52 0 k = kd ∧ hi 51 0 k = po then lacM hi nb k else 0) nk
theorem lacM_r {hi : Hi} {nb nk : Int} (hM : MV hi nb nk) {k : Int} (h0 : 0 ≤ k) (h1 : k < nk) : -40 ≤ lacM hi nb k ∧ lacM hi nb k ≤ 9 := by
  have a := hM.num
  unfold mNum at a
  have b := hM.bok k h0 h1
  have c := givI_r (B := hi 36 0) (k := k) (nb := nb) (by omega)
  unfold lacM
  split <;> omega
theorem laaM_r {hi : Hi} {nb nk kd po : Int} (hM : MV hi nb nk) : -800 ≤ laaM hi nb nk kd po ∧ laaM hi nb nk kd po ≤ 180 := by
  have a := hM.num
  unfold mNum at a
  have := sI_r (f := fun k => if hi 52 0 k = kd ∧ hi 51 0 k = po then lacM hi nb k else 0) (n := nk) (a := -40) (b := 9) (fun i h0 h1 => by have := lacM_r hM h0 h1; by_cases q : hi 52 0 i = kd ∧ hi 51 0 i = po; (rw [if_pos q]; exact this); (rw [if_neg q]; omega)) (by omega)
  unfold laaM
  omega
theorem K_X7_lacksAt {hi : Hi} {nb nk : Int} (hM : MV hi nb nk) {kd po : Int} : Det I_X7_lacksAt [aR 7 0, aI kd, aI po] (hp hi nb nk) (some (aI (laaM hi nb nk kd po))) (hp hi nb nk) := by
  have hN := hM.num
  unfold mNum at hN
  refine st_d (xs := [some (aR 7 0), some (aI kd), some (aI po), none, none]) pn_X7 rfl rfl (Nat.le_of_ble_eq_true rfl) rfl rfl (fun Q X hQ => ?_)
  refine r_iconst (pc := 0) (n := 0) dX7_lacksAt_0 (by decide) ?_
  refine r_istore_n (pc := 1) (xs' := [some (aR 7 0), some (aI kd), some (aI po), some (aI 0), none]) dX7_lacksAt_1 (by decide) rfl ?_
  refine r_iconst (pc := 2) (n := 0) dX7_lacksAt_2 (by decide) ?_
  refine r_istore (pc := 3) (xs' := [some (aR 7 0), some (aI kd), some (aI po), some (aI 0), some (aI 0)]) dX7_lacksAt_3 (by decide) rfl ?_
  have loop : ∀ (n9 : Nat) (i c : Int), (0 ≤ i ∧ i ≤ nk) → (-40 * i ≤ c ∧ c ≤ 9 * i) → (c = sI (fun k => if hi 52 0 k = kd ∧ hi 51 0 k = po then lacM hi nb k else 0) i) → nk - i < (n9 : Int) → Run I_X7_lacksAt 5 [some (aR 7 0), some (aI kd), some (aI po), some (aI c), some (aI i)] [] (hp hi nb nk) 0 0 Q X := by
    intro n9
    induction n9 with
    | zero => intro i c h0 h1 h2 hf9; exfalso; omega
    | succ n9 ih_loop =>
      intro i c h0 h1 h2 hf9
      have hl9 := fun z => lacM_r hM (k := i) h0.1 z
      refine r_iload (pc := 5) dX7_lacksAt_5 rfl ?_
      refine r_aload_n (pc := 7) dX7_lacksAt_7 rfl ?_
      refine q_getI (pc := 8) (jI := 30) (n9 := 1) (v := hi 7 0 30) fl_X7_186 rfl dX7_lacksAt_8 rfl rfl (by decide) (by decide) rfl ?_
      refine r_icmp_ge (pc := 11) (tgt := 55) dX7_lacksAt_11 rfl (fun c11 => ?_) (fun c11 => ?_)
      · refine r_iload_n (pc := 55) dX7_lacksAt_55 rfl ?_
        refine r_iret (pc := 56) dX7_lacksAt_56 (Or.inl rfl) (Nat.le_of_ble_eq_true rfl) (Nat.le_of_ble_eq_true rfl) ?_
        exact qI hQ (by rw [h2, show i = nk by omega]; rfl) rfl
      · refine r_iload_n (pc := 14) dX7_lacksAt_14 rfl ?_
        refine r_aload_n (pc := 15) dX7_lacksAt_15 rfl ?_
        refine p_getQ (pc := 16) (jI := 27) (n9 := 1) (r := some (52, 0)) fl_X7_84 rfl dX7_lacksAt_16 rfl rfl (by decide) (by decide) rfl ?_
        refine r_iload (pc := 19) dX7_lacksAt_19 rfl ?_
        refine q_iald (pc := 21) (n9 := 1) (nI := 20) (v := hi 52 0 i) rfl dX7_lacksAt_21 rfl (by decide) (by decide) rfl (by omega) (by omega) rfl ?_
        refine r_iload_n (pc := 22) dX7_lacksAt_22 rfl ?_
        refine r_icmp_ne (pc := 23) (tgt := 46) dX7_lacksAt_23 rfl (fun c23 => ?_) (fun c23 => ?_)
        · refine r_iconst (pc := 46) (n := 0) dX7_lacksAt_46 (by decide) ?_
          refine r_iadd (pc := 47) dX7_lacksAt_47 (by omega) ?_
          refine r_istore_n (pc := 48) (xs' := [some (aR 7 0), some (aI kd), some (aI po), some (aI (c + 0)), some (aI i)]) dX7_lacksAt_48 (by decide) rfl ?_
          refine r_iinc (pc := 49) (xs' := [some (aR 7 0), some (aI kd), some (aI po), some (aI (c + 0)), some (aI (i + 1))]) dX7_lacksAt_49 rfl (by decide) (by omega) rfl ?_
          refine r_goto (pc := 52) (tgt := 5) dX7_lacksAt_52 rfl ?_
          exact ih_loop (i + 1) (c + 0) (by omega) (by omega) (by rw [h2, sI_s (by omega), if_neg (by omega)]) (by omega)
        · refine r_aload_n (pc := 26) dX7_lacksAt_26 rfl ?_
          refine p_getQ (pc := 27) (jI := 26) (n9 := 1) (r := some (51, 0)) fl_X7_81 rfl dX7_lacksAt_27 rfl rfl (by decide) (by decide) rfl ?_
          refine r_iload (pc := 30) dX7_lacksAt_30 rfl ?_
          refine q_iald (pc := 32) (n9 := 1) (nI := 20) (v := hi 51 0 i) rfl dX7_lacksAt_32 rfl (by decide) (by decide) rfl (by omega) (by omega) rfl ?_
          refine r_iload_n (pc := 33) dX7_lacksAt_33 rfl ?_
          refine r_icmp_ne (pc := 34) (tgt := 46) dX7_lacksAt_34 rfl (fun c34 => ?_) (fun c34 => ?_)
          · refine r_iconst (pc := 46) (n := 0) dX7_lacksAt_46 (by decide) ?_
            refine r_iadd (pc := 47) dX7_lacksAt_47 (by omega) ?_
            refine r_istore_n (pc := 48) (xs' := [some (aR 7 0), some (aI kd), some (aI po), some (aI (c + 0)), some (aI i)]) dX7_lacksAt_48 (by decide) rfl ?_
            refine r_iinc (pc := 49) (xs' := [some (aR 7 0), some (aI kd), some (aI po), some (aI (c + 0)), some (aI (i + 1))]) dX7_lacksAt_49 rfl (by decide) (by omega) rfl ?_
            refine r_goto (pc := 52) (tgt := 5) dX7_lacksAt_52 rfl ?_
            exact ih_loop (i + 1) (c + 0) (by omega) (by omega) (by rw [h2, sI_s (by omega), if_neg (by omega)]) (by omega)
          · refine r_aload_n (pc := 37) dX7_lacksAt_37 rfl ?_
            refine r_iload (pc := 38) dX7_lacksAt_38 rfl ?_
            refine d1_V (pc := 40) (t := 7) (i := 0) (rest := [aI c]) (cs' := 0) (sl' := 0) mv_X7_192 (K_X7_lacking hM (k := i) (by omega) (by omega)) rfl ⟨(Nat.le_of_ble_eq_true rfl), (Nat.le_of_ble_eq_true rfl)⟩ (Nat.le_of_ble_eq_true rfl) dX7_lacksAt_40 (show (0 : Int) ≤ 0 by omega) (show 0 < 1 by omega) ⟨rfl, (Nat.le_of_ble_eq_true rfl)⟩ ⟨rfl, (Nat.le_of_ble_eq_true rfl)⟩ rfl ?_
            refine r_goto (pc := 43) (tgt := 47) dX7_lacksAt_43 rfl ?_
            refine r_iadd (pc := 47) dX7_lacksAt_47 (by omega) ?_
            refine r_istore_n (pc := 48) (xs' := [some (aR 7 0), some (aI kd), some (aI po), some (aI (c + (lacM hi nb i))), some (aI i)]) dX7_lacksAt_48 (by decide) rfl ?_
            refine r_iinc (pc := 49) (xs' := [some (aR 7 0), some (aI kd), some (aI po), some (aI (c + (lacM hi nb i))), some (aI (i + 1))]) dX7_lacksAt_49 rfl (by decide) (by omega) rfl ?_
            refine r_goto (pc := 52) (tgt := 5) dX7_lacksAt_52 rfl ?_
            exact ih_loop (i + 1) (c + (lacM hi nb i)) (by omega) (by omega) (by rw [h2, sI_s (by omega), if_pos (by omega)]) (by omega)
  exact loop 21 0 0 (by omega) (by omega) rfl (by omega)

noncomputable def laoM (hi : Hi) (nb nk kd : Int) : Int := sI (fun p => laaM hi nb nk kd p) 6
theorem K_X7_lacksOf {hi : Hi} {nb nk : Int} (hM : MV hi nb nk) {kd : Int} : Det I_X7_lacksOf [aR 7 0, aI kd] (hp hi nb nk) (some (aI (laoM hi nb nk kd))) (hp hi nb nk) := by
  have hN := hM.num
  unfold mNum at hN
  refine st_d (xs := [some (aR 7 0), some (aI kd), none, none]) pn_X7 rfl rfl (Nat.le_of_ble_eq_true rfl) rfl rfl (fun Q X hQ => ?_)
  refine r_iconst (pc := 0) (n := 0) dX7_lacksOf_0 (by decide) ?_
  refine r_istore_n (pc := 1) (xs' := [some (aR 7 0), some (aI kd), some (aI 0), none]) dX7_lacksOf_1 (by decide) rfl ?_
  refine r_iconst (pc := 2) (n := 0) dX7_lacksOf_2 (by decide) ?_
  refine r_istore_n (pc := 3) (xs' := [some (aR 7 0), some (aI kd), some (aI 0), some (aI 0)]) dX7_lacksOf_3 (by decide) rfl ?_
  have loop : ∀ (n9 : Nat) (i c : Int), (0 ≤ i ∧ i ≤ 6) → (-800 * i ≤ c ∧ c ≤ 180 * i) → (c = sI (fun p => laaM hi nb nk kd p) i) → 6 - i < (n9 : Int) → Run I_X7_lacksOf 4 [some (aR 7 0), some (aI kd), some (aI c), some (aI i)] [] (hp hi nb nk) 0 0 Q X := by
    intro n9
    induction n9 with
    | zero => intro i c h0 h1 h2 hf9; exfalso; omega
    | succ n9 ih_loop =>
      intro i c h0 h1 h2 hf9
      have hl9 := laaM_r hM (kd := kd) (po := i)
      refine r_iload_n (pc := 4) dX7_lacksOf_4 rfl ?_
      refine r_bipush (pc := 5) (n := 6) dX7_lacksOf_5 rfl (by decide) ?_
      refine r_icmp_ge (pc := 7) (tgt := 25) dX7_lacksOf_7 rfl (fun c7 => ?_) (fun c7 => ?_)
      · refine r_iload_n (pc := 25) dX7_lacksOf_25 rfl ?_
        refine r_iret (pc := 26) dX7_lacksOf_26 (Or.inl rfl) (Nat.le_of_ble_eq_true rfl) (Nat.le_of_ble_eq_true rfl) ?_
        exact qI hQ (by rw [h2, show i = 6 by omega]; rfl) rfl
      · refine r_iload_n (pc := 10) dX7_lacksOf_10 rfl ?_
        refine r_aload_n (pc := 11) dX7_lacksOf_11 rfl ?_
        refine r_iload_n (pc := 12) dX7_lacksOf_12 rfl ?_
        refine r_iload_n (pc := 13) dX7_lacksOf_13 rfl ?_
        refine d1_V (pc := 14) (t := 7) (i := 0) (rest := [aI c]) (cs' := 0) (sl' := 0) mv_X7_204 (K_X7_lacksAt hM (kd := kd) (po := i)) rfl ⟨(Nat.le_of_ble_eq_true rfl), (Nat.le_of_ble_eq_true rfl)⟩ (Nat.le_of_ble_eq_true rfl) dX7_lacksOf_14 (show (0 : Int) ≤ 0 by omega) (show 0 < 1 by omega) ⟨rfl, (Nat.le_of_ble_eq_true rfl)⟩ ⟨rfl, (Nat.le_of_ble_eq_true rfl)⟩ rfl ?_
        refine r_iadd (pc := 17) dX7_lacksOf_17 (by omega) ?_
        refine r_istore_n (pc := 18) (xs' := [some (aR 7 0), some (aI kd), some (aI (c + (laaM hi nb nk kd i))), some (aI i)]) dX7_lacksOf_18 (by decide) rfl ?_
        refine r_iinc (pc := 19) (xs' := [some (aR 7 0), some (aI kd), some (aI (c + (laaM hi nb nk kd i))), some (aI (i + 1))]) dX7_lacksOf_19 rfl (by decide) (by omega) rfl ?_
        refine r_goto (pc := 22) (tgt := 4) dX7_lacksOf_22 rfl ?_
        exact ih_loop (i + 1) (c + (laaM hi nb nk kd i)) (by omega) (by omega) (by rw [h2, sI_s (by omega)]) (by omega)
  exact loop 7 0 0 (by omega) (by omega) rfl (by omega)

noncomputable def isM (hi : Hi) (b w : Int) : Int := if w = 0 then hi 31 0 b else if w = 1 then hi 32 0 b else if w = 2 then bI (hi 35 0 b ≠ -1) else if w = 3 then hi 34 0 b else if w = 4 then hi 36 0 b else if w = 5 then menM hi b else if w = 6 then dbtM hi b else bI (holM hi b (hi 7 0 1))
theorem K_X7_told {hi : Hi} {nb nk : Int} (hM : MV hi nb nk) {b : Int} (hb0 : 0 ≤ b) (hb1 : b < nb) {w : Int} : Det I_X7_told [aR 7 0, aI b, aI w] (hp hi nb nk) (some (aI (isM hi b w))) (hp hi nb nk) := by
  have hN := hM.num
  unfold mNum at hN
  have hB9 := hM.box b hb0 hb1
  refine st_d (xs := [some (aR 7 0), some (aI b), some (aI w)]) pn_X7 rfl rfl (Nat.le_of_ble_eq_true rfl) rfl rfl (fun Q X hQ => ?_)
  refine r_iload_n (pc := 0) dX7_told_0 rfl ?_
  rcases (show w = 0 ∨ w = 1 ∨ w = 2 ∨ w = 3 ∨ w = 4 ∨ w = 5 ∨ w = 6 ∨ (w ≠ 0 ∧ w ≠ 1 ∧ w ≠ 2 ∧ w ≠ 3 ∧ w ≠ 4 ∧ w ≠ 5 ∧ w ≠ 6) by omega) with c1 | c1 | c1 | c1 | c1 | c1 | c1 | c1
  · refine r_tableIn (pc := 1) (tgt := 44) dX7_told_1 (by omega) (by omega) (by rw [c1]; try rfl) rfl ?_
    refine r_aload_n (pc := 44) dX7_told_44 rfl ?_
    refine p_getQ (pc := 45) (jI := 3) (n9 := 1) (r := some (31, 0)) fl_X7_13 rfl dX7_told_45 rfl rfl (by decide) (by decide) rfl ?_
    refine r_iload_n (pc := 48) dX7_told_48 rfl ?_
    refine q_iald (pc := 49) (n9 := 1) (nI := 40) (v := hi 31 0 b) rfl dX7_told_49 rfl (by decide) (by decide) rfl (by omega) (by omega) rfl ?_
    refine r_iret (pc := 50) dX7_told_50 (Or.inl rfl) (Nat.le_of_ble_eq_true rfl) (Nat.le_of_ble_eq_true rfl) ?_
    exact qI hQ (by rw [c1]; rfl) rfl
  · refine r_tableIn (pc := 1) (tgt := 51) dX7_told_1 (by omega) (by omega) (by rw [c1]; try rfl) rfl ?_
    refine r_aload_n (pc := 51) dX7_told_51 rfl ?_
    refine p_getQ (pc := 52) (jI := 4) (n9 := 1) (r := some (32, 0)) fl_X7_16 rfl dX7_told_52 rfl rfl (by decide) (by decide) rfl ?_
    refine r_iload_n (pc := 55) dX7_told_55 rfl ?_
    refine q_iald (pc := 56) (n9 := 1) (nI := 40) (v := hi 32 0 b) rfl dX7_told_56 rfl (by decide) (by decide) rfl (by omega) (by omega) rfl ?_
    refine r_iret (pc := 57) dX7_told_57 (Or.inl rfl) (Nat.le_of_ble_eq_true rfl) (Nat.le_of_ble_eq_true rfl) ?_
    exact qI hQ (by rw [c1]; rfl) rfl
  · refine r_tableIn (pc := 1) (tgt := 58) dX7_told_1 (by omega) (by omega) (by rw [c1]; try rfl) rfl ?_
    refine r_aload_n (pc := 58) dX7_told_58 rfl ?_
    refine r_iload_n (pc := 59) dX7_told_59 rfl ?_
    refine d1_V (pc := 60) (t := 7) (i := 0) (rest := []) (cs' := 0) (sl' := 0) mv_X7_134 (K_X7_isGone (b := b) (by omega) (by omega)) rfl ⟨(Nat.le_of_ble_eq_true rfl), (Nat.le_of_ble_eq_true rfl)⟩ (Nat.le_of_ble_eq_true rfl) dX7_told_60 (show (0 : Int) ≤ 0 by omega) (show 0 < 1 by omega) ⟨rfl, (Nat.le_of_ble_eq_true rfl)⟩ ⟨rfl, (Nat.le_of_ble_eq_true rfl)⟩ rfl ?_
    refine q_ifeqB (pc := 63) (tgt := 70) dX7_told_63 rfl (fun c63 => ?_) (fun c63 => ?_)
    · refine r_iconst (pc := 70) (n := 0) dX7_told_70 (by decide) ?_
      refine r_iret (pc := 71) dX7_told_71 (Or.inl rfl) (Nat.le_of_ble_eq_true rfl) (Nat.le_of_ble_eq_true rfl) ?_
      exact qI hQ (by rw [c1]; show _ = bI (hi 35 0 b ≠ -1); exact (bI_f c63).symm) rfl
    · refine r_iconst (pc := 66) (n := 1) dX7_told_66 (by decide) ?_
      refine r_goto (pc := 67) (tgt := 71) dX7_told_67 rfl ?_
      refine r_iret (pc := 71) dX7_told_71 (Or.inl rfl) (Nat.le_of_ble_eq_true rfl) (Nat.le_of_ble_eq_true rfl) ?_
      exact qI hQ (by rw [c1]; show _ = bI (hi 35 0 b ≠ -1); exact (bI_t c63).symm) rfl
  · refine r_tableIn (pc := 1) (tgt := 72) dX7_told_1 (by omega) (by omega) (by rw [c1]; try rfl) rfl ?_
    refine r_aload_n (pc := 72) dX7_told_72 rfl ?_
    refine p_getQ (pc := 73) (jI := 6) (n9 := 1) (r := some (34, 0)) fl_X7_22 rfl dX7_told_73 rfl rfl (by decide) (by decide) rfl ?_
    refine r_iload_n (pc := 76) dX7_told_76 rfl ?_
    refine q_zald (pc := 77) (n9 := 1) (nI := 40) (v := hi 34 0 b) rfl dX7_told_77 rfl (by decide) (by decide) rfl (by omega) (by omega) rfl ?_
    refine r_if_eq (pc := 78) (tgt := 85) dX7_told_78 rfl (fun c78 => ?_) (fun c78 => ?_)
    · refine r_iconst (pc := 85) (n := 0) dX7_told_85 (by decide) ?_
      refine r_iret (pc := 86) dX7_told_86 (Or.inl rfl) (Nat.le_of_ble_eq_true rfl) (Nat.le_of_ble_eq_true rfl) ?_
      exact qI hQ (by rw [c1]; show _ = hi 34 0 b; omega) rfl
    · refine r_iconst (pc := 81) (n := 1) dX7_told_81 (by decide) ?_
      refine r_goto (pc := 82) (tgt := 86) dX7_told_82 rfl ?_
      refine r_iret (pc := 86) dX7_told_86 (Or.inl rfl) (Nat.le_of_ble_eq_true rfl) (Nat.le_of_ble_eq_true rfl) ?_
      exact qI hQ (by rw [c1]; show _ = hi 34 0 b; omega) rfl
  · refine r_tableIn (pc := 1) (tgt := 87) dX7_told_1 (by omega) (by omega) (by rw [c1]; try rfl) rfl ?_
    refine r_aload_n (pc := 87) dX7_told_87 rfl ?_
    refine p_getQ (pc := 88) (jI := 8) (n9 := 1) (r := some (36, 0)) fl_X7_29 rfl dX7_told_88 rfl rfl (by decide) (by decide) rfl ?_
    refine r_iload_n (pc := 91) dX7_told_91 rfl ?_
    refine q_iald (pc := 92) (n9 := 1) (nI := 40) (v := hi 36 0 b) rfl dX7_told_92 rfl (by decide) (by decide) rfl (by omega) (by omega) rfl ?_
    refine r_iret (pc := 93) dX7_told_93 (Or.inl rfl) (Nat.le_of_ble_eq_true rfl) (Nat.le_of_ble_eq_true rfl) ?_
    exact qI hQ (by rw [c1]; rfl) rfl
  · refine r_tableIn (pc := 1) (tgt := 94) dX7_told_1 (by omega) (by omega) (by rw [c1]; try rfl) rfl ?_
    refine r_aload_n (pc := 94) dX7_told_94 rfl ?_
    refine r_iload_n (pc := 95) dX7_told_95 rfl ?_
    refine d1_V (pc := 96) (t := 7) (i := 0) (rest := []) (cs' := 0) (sl' := 0) mv_X7_183 (K_X7_mending hM (by omega) (by omega)) rfl ⟨(Nat.le_of_ble_eq_true rfl), (Nat.le_of_ble_eq_true rfl)⟩ (Nat.le_of_ble_eq_true rfl) dX7_told_96 (show (0 : Int) ≤ 0 by omega) (show 0 < 1 by omega) ⟨rfl, (Nat.le_of_ble_eq_true rfl)⟩ ⟨rfl, (Nat.le_of_ble_eq_true rfl)⟩ rfl ?_
    refine r_iret (pc := 99) dX7_told_99 (Or.inl rfl) (Nat.le_of_ble_eq_true rfl) (Nat.le_of_ble_eq_true rfl) ?_
    exact qI hQ (by rw [c1]; rfl) rfl
  · refine r_tableIn (pc := 1) (tgt := 100) dX7_told_1 (by omega) (by omega) (by rw [c1]; try rfl) rfl ?_
    refine r_aload_n (pc := 100) dX7_told_100 rfl ?_
    refine r_iload_n (pc := 101) dX7_told_101 rfl ?_
    refine d1_V (pc := 102) (t := 7) (i := 0) (rest := []) (cs' := 0) (sl' := 0) mv_X7_148 (K_X7_doubtful hM (by omega) (by omega)) rfl ⟨(Nat.le_of_ble_eq_true rfl), (Nat.le_of_ble_eq_true rfl)⟩ (Nat.le_of_ble_eq_true rfl) dX7_told_102 (show (0 : Int) ≤ 0 by omega) (show 0 < 1 by omega) ⟨rfl, (Nat.le_of_ble_eq_true rfl)⟩ ⟨rfl, (Nat.le_of_ble_eq_true rfl)⟩ rfl ?_
    refine r_iret (pc := 105) dX7_told_105 (Or.inl rfl) (Nat.le_of_ble_eq_true rfl) (Nat.le_of_ble_eq_true rfl) ?_
    exact qI hQ (by rw [c1]; rfl) rfl
  · refine r_tableOut (pc := 1) (tgt := 106) dX7_told_1 (by omega) rfl ?_
    refine r_aload_n (pc := 106) dX7_told_106 rfl ?_
    refine r_iload_n (pc := 107) dX7_told_107 rfl ?_
    refine r_aload_n (pc := 108) dX7_told_108 rfl ?_
    refine q_getI (pc := 109) (jI := 1) (n9 := 1) (v := hi 7 0 1) fl_X7_152 rfl dX7_told_109 rfl rfl (by decide) (by decide) rfl ?_
    refine d1_V (pc := 112) (t := 7) (i := 0) (rest := []) (cs' := 0) (sl' := 0) mv_X7_165 (K_X7_isLeased hM (by omega) (by omega)) rfl ⟨(Nat.le_of_ble_eq_true rfl), (Nat.le_of_ble_eq_true rfl)⟩ (Nat.le_of_ble_eq_true rfl) dX7_told_112 (show (0 : Int) ≤ 0 by omega) (show 0 < 1 by omega) ⟨rfl, (Nat.le_of_ble_eq_true rfl)⟩ ⟨rfl, (Nat.le_of_ble_eq_true rfl)⟩ rfl ?_
    refine q_ifeqB (pc := 115) (tgt := 122) dX7_told_115 rfl (fun c115 => ?_) (fun c115 => ?_)
    · refine r_iconst (pc := 122) (n := 0) dX7_told_122 (by decide) ?_
      refine r_iret (pc := 123) dX7_told_123 (Or.inl rfl) (Nat.le_of_ble_eq_true rfl) (Nat.le_of_ble_eq_true rfl) ?_
      exact qI hQ (by unfold isM; rw [if_neg (by omega), if_neg (by omega), if_neg (by omega), if_neg (by omega), if_neg (by omega), if_neg (by omega), if_neg (by omega)]; exact (bI_f c115).symm) rfl
    · refine r_iconst (pc := 118) (n := 1) dX7_told_118 (by decide) ?_
      refine r_goto (pc := 119) (tgt := 123) dX7_told_119 rfl ?_
      refine r_iret (pc := 123) dX7_told_123 (Or.inl rfl) (Nat.le_of_ble_eq_true rfl) (Nat.le_of_ble_eq_true rfl) ?_
      exact qI hQ (by unfold isM; rw [if_neg (by omega), if_neg (by omega), if_neg (by omega), if_neg (by omega), if_neg (by omega), if_neg (by omega), if_neg (by omega)]; exact (bI_t c115).symm) rfl
