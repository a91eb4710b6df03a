/-! ===== the calls, one after another: wash, mend, lease, damage ===== -/
def BothZ (IL IM : MI) (avL avM : List Av) (hi : Hi) (nb nk : Int) : Prop := ∃ (cd b : Int) (hi1 hi2 : Hi) (nb1 nk1 : Int), Det IL avL (hp hi nb nk) (some (aI cd)) (hp hi1 nb1 nk1) ∧ Det IM avM (hp hi1 nb1 nk1) (some (aI b)) (hp hi2 nb1 nk1) ∧ hi2 7 0 0 = cd ∧ (cd = 0 → hi2 60 0 0 = b) ∧ Inv hi2 nb1 nk1 ∧ (b = 0 ∨ b = 1)
def BothL (IL IM : MI) (avL avM : List Av) (hi : Hi) (nb nk : Int) : Prop := ∃ (cd : Int) (hi1 hi2 : Hi) (nb1 nk1 : Int), Det IL avL (hp hi nb nk) (some (aI cd)) (hp hi1 nb1 nk1) ∧ Det IM avM (hp hi1 nb1 nk1) none (hp hi2 nb1 nk1) ∧ hi2 7 0 0 = cd ∧ Inv hi2 nb1 nk1
section ST2
variable {hi : Hi} {nb nk : Int}
theorem vHan.c {hi' : Hi} (h : vHan hi nb) (e1 : hi' 46 = hi 46) (e2 : hi' 45 = hi 45) (e3 : hi' 6 0 8 = hi 6 0 8) (e4 : ∀ x, hi' 1 x 8 = hi 1 x 8 ∧ hi' 1 x 1 = hi 1 x 1 ∧ hi' 1 x 9 = hi 1 x 9) : vHan hi' nb := by
  have e : ∀ l p M, hanI hi' nb l p M = hanI hi nb l p M := fun l p M => by
    unfold hanI
    exact sI_c (fun b _ _ => by rw [(e4 b).1, (e4 b).2.1, (e4 b).2.2])
  intro l p l0 l1 p0 p1
  rw [e1, e2, e3]
  simp only [e]
  exact h l p l0 l1 p0 p1
theorem vLea.c {hi' : Hi} (h : vLea hi nb) (e43 : hi' 43 = hi 43) (e41 : hi' 41 = hi 41) (e42 : hi' 42 = hi 42) (e26 : hi' 26 = hi 26) (e27 : hi' 27 = hi 27) (e3 : hi' 3 = hi 3) (e1 : ∀ x, hi' 1 x 1 = hi 1 x 1 ∧ hi' 1 x 8 = hi 1 x 8) : vLea hi' nb := by
  intro x x0 x1
  rw [e43, e41, e42, e26, e27, e3, (e1 x).1, (e1 x).2]
  exact h x x0 x1
theorem vBok.c {hi' : Hi} (h : vBok hi nb nk) (e51 : hi' 51 = hi 51) (e52 : hi' 52 = hi 52) (e53 : hi' 53 = hi 53) (e54 : hi' 54 = hi 54) (e0 : hi' 0 = hi 0) (e1 : ∀ x, hi' 1 x 7 = hi 1 x 7) : vBok hi' nb nk := by
  intro x x0 x1
  rw [e51, e52, e53, e54, e0]
  simp only [e1]
  exact h x x0 x1
theorem J_wash (hI : Inv hi nb nk) {b u : Int} : BothZ I_L_wash I_X7_wash [aR 6 0, aI b, aI u, aR 60 0] [aR 7 0, aI b, aI u] hi nb nk := by
  have c9 : cM_wash hi nb b u = cC_wash hi nb b u := by
    unfold cM_wash cC_wash
    by_cases q : 0 ≤ b ∧ b < nb
    · have g := hI.box b q.1 q.2
      rw [g.2.2.2.2.1.1]
    · rw [if_pos q, if_pos q]
  have hW := W_wash hI (b := b) (u := u)
  by_cases h : cC_wash hi nb b u = 0
  · rw [if_pos h] at hW
    have r : 0 ≤ b ∧ b < nb ∧ 0 ≤ u ∧ u ≤ 9999 := by unfold cC_wash at h; (repeat' split at h) <;> omega
    have g := hI.box b r.1 r.2.1
    have k := (K_X7_wash (hi := up1 (up1 (up1 hi 1 b 6 0) 1 b 5 u) 60 0 0 (hi 1 b 6)) (nb := nb) (nk := nk) (b := b) (u := u) hI.mv).ok (c9.trans h)
    rw [show thr (up1 (up1 (up1 hi 1 b 6 0) 1 b 5 u) 60 0 0 (hi 1 b 6)) 34 0 b = hi 1 b 6 from g.2.2.2.1.1] at k
    refine ⟨_, _, _, _, nb, nk, hW, k, h.symm, fun _ => rfl, ⟨hI.num, hI.day, hI.cst, hI.quo, hI.std, fun x x0 x1 => ?_, fun x x0 x1 => ?_, hI.rep, hI.lea.c rfl rfl rfl rfl rfl rfl (fun x => by simp [thr, up1]), hI.dam, hI.han.c rfl rfl rfl (fun x => by simp [thr, up1]), hI.bok.c rfl rfl rfl rfl rfl (fun x => by simp [thr, up1]), hI.nov⟩, g.2.2.2.1.2⟩
    · have o := hI.box x x0 x1
      by_cases q : x = b
      · subst q
        simp [thr, up1]
        omega
      · simp [thr, up1, q]
        exact o
    · have o := hI.fre x x0 x1
      have q : x ≠ b := by omega
      simp [thr, up1, q]
      exact o
  · rw [if_neg h] at hW
    have k := (K_X7_wash (b := b) (u := u) hI.mv).no (by rw [c9]; exact h)
    rw [c9] at k
    exact ⟨_, 0, hi, _, nb, nk, hW, k, up1_s, fun z => absurd z h, hI.thrI, Or.inl rfl⟩
theorem mendMC (hI : Inv hi nb nk) {b : Int} : cM_mend hi nb b = cC_mend hi nb b := by
  have e := hI.day
  unfold vDay at e
  unfold cM_mend cC_mend
  by_cases q : 0 ≤ b ∧ b < nb
  · have g := hI.box b q.1 q.2
    rw [g.2.2.2.2.1.1, menMC hI q.1 q.2, e.2.2.2.2.2.2.1]
  · rw [if_pos q, if_pos q]
theorem J_mend (hI : Inv hi nb nk) {b : Int} : Both I_L_mend I_X7_mend [aR 6 0, aI b, aR 60 0] [aR 7 0, aI b] hi nb nk := by
  have c9 := mendMC hI (b := b)
  refine both_mk (v := menC hi b) (H2 := up1 (thr (up1 (up1 hi 2 b 2 0) 60 0 0 (menC hi b))) 49 0 b 0) hI (W_mend hI) (fun h => by have k := (K_X7_mend (b := b) hI.mv).no (by rw [c9]; exact h); rw [c9] at k; exact k) (fun h => ?_) (fun h => ?_)
  · have r : 0 ≤ b ∧ b < nb := by unfold cC_mend at h; (repeat' split at h) <;> omega
    have k := (K_X7_mend (hi := up1 (up1 hi 2 b 2 0) 60 0 0 (menC hi b)) (nb := nb) (nk := nk) (b := b) hI.mv).ok (c9.trans h)
    rw [show menM (up1 (up1 hi 2 b 2 0) 60 0 0 (menC hi b)) b = menC hi b from menMC hI r.1 r.2] at k
    exact k
  · have r : 0 ≤ b ∧ b < nb := by unfold cC_mend at h; (repeat' split at h) <;> omega
    refine ⟨rfl, rfl, hI.num, hI.day, hI.cst, hI.quo, hI.std, hI.box, fun x x0 x1 => ?_, hI.rep, hI.lea, fun x x0 x1 => ?_, hI.han, hI.bok, hI.nov⟩
    · have o := hI.fre x x0 x1
      have q : x ≠ b := by omega
      simp [thr, up1, q]
      exact o
    · have o := hI.dam x x0 x1
      by_cases q : x = b
      · subst q
        refine ⟨by simp [thr, up1], fun k k0 k1 => ?_⟩
        exfalso
        simp [thr, up1] at k1
        omega
      · refine ⟨by simp [thr, up1, q]; exact o.1, fun k k0 k1 => ?_⟩
        simp [thr, up1, q] at k1
        exact o.2 k k0 k1
theorem leasMC (hI : Inv hi nb nk) {b fr to : Int} : cM_lease hi nb b fr to = cC_lease hi nb b fr to := by
  unfold cM_lease cC_lease
  by_cases q : 0 ≤ b ∧ b < nb
  · have g := hI.box b q.1 q.2
    have l := (hI.lea b q.1 q.2).1
    rw [g.2.2.2.2.1.1, g.2.1.1, l.1]
    (repeat' split) <;> omega
  · rw [if_pos q, if_pos q]
theorem J_lease (hI : Inv hi nb nk) {b fr to : Int} : BothL I_L_lease I_X7_lease [aR 6 0, aI b, aI fr, aI to] [aR 7 0, aI b, aI fr, aI to] hi nb nk := by
  have c9 := leasMC hI (b := b) (fr := fr) (to := to)
  have hW := W_lease hI (b := b) (fr := fr) (to := to)
  by_cases h : cC_lease hi nb b fr to = 0
  · rw [if_pos h] at hW
    have r : 0 ≤ b ∧ b < nb ∧ hi 3 b 2 < 10 ∧ hi 1 b 1 ≠ -1 ∧ hi 1 b 8 = -1 := by unfold cC_lease at h; (repeat' split at h) <;> omega
    have l := hI.lea b r.1 r.2.1
    have k := (K_X7_lease (hi := leaH hi b fr to) (nb := nb) (nk := nk) (b := b) (fr := fr) (to := to) hI.mv).ok (c9.trans h)
    refine ⟨_, _, _, nb, nk, hW, k, h.symm, hI.num, hI.day, hI.cst, hI.quo, hI.std, hI.box, fun x x0 x1 => ?_, hI.rep, fun x x0 x1 => ?_, hI.dam, hI.han, hI.bok, hI.nov⟩
    · have o := hI.fre x x0 x1
      have q : x ≠ b := by omega
      simp [mleH, leaH, thr, up1, q]
      exact o
    · have o := hI.lea x x0 x1
      have e1 : thr (leaH hi b fr to) 43 0 b = hi 43 0 b := rfl
      by_cases q : x = b
      · subst q
        refine ⟨by simp [mleH, leaH, thr, up1]; omega, fun k k0 k1 => ?_⟩
        simp [mleH, leaH, thr, up1] at k1
        have e2 : (10 * x + k = 10 * x + hi 43 0 x) ↔ k = hi 3 x 2 := by omega
        simp [mleH, leaH, thr, up1, r.2.2.2.2]
        rw [o.1.1]
        by_cases z : k = hi 3 x 2
        · simp [z]
        · have o2 := o.2 k k0 (by omega)
          simp [z]
          rw [if_pos r.2.2.2.2] at o2
          exact o2
      · refine ⟨by simp [mleH, leaH, thr, up1, q]; exact o.1, fun k k0 k1 => ?_⟩
        simp [mleH, leaH, thr, up1, q] at k1
        have o2 := o.2 k k0 k1
        have e2 : ¬ (10 * x + k = 10 * b + hi 43 0 b) := by omega
        simp [mleH, leaH, thr, up1, q, e2]
        exact o2
  · rw [if_neg h] at hW
    have k := (K_X7_lease (b := b) (fr := fr) (to := to) hI.mv).no (by rw [c9]; exact h)
    rw [c9] at k
    exact ⟨_, hi, _, nb, nk, hW, k, up1_s, hI.thrI⟩
theorem damaMC (hI : Inv hi nb nk) {b co si : Int} : cM_damage hi nb b co si = cC_damage hi nb b co si := by
  unfold cM_damage cC_damage
  by_cases q : 0 ≤ b ∧ b < nb
  · have g := hI.box b q.1 q.2
    have l := (hI.dam b q.1 q.2).1
    rw [g.2.2.2.2.1.1, l.1]
    (repeat' split) <;> omega
  · rw [if_pos (by omega), if_pos (by omega)]
theorem J_damage (hI : Inv hi nb nk) {b co si : Int} : Both I_L_damage I_X7_damage [aR 6 0, aI b, aI co, aI si, aR 60 0] [aR 7 0, aI b, aI co, aI si] hi nb nk := by
  have c9 := damaMC hI (b := b) (co := co) (si := si)
  have inv : cC_damage hi nb b co si = 0 → ∀ v, Inv (mdaH (up1 (damH hi b co si) 60 0 0 v) b co si) nb nk := fun h v => by
    have r : 0 ≤ b ∧ b < nb ∧ hi 2 b 2 < 12 ∧ 0 ≤ co ∧ co < 5 ∧ 1 ≤ si ∧ si ≤ 20 := by unfold cC_damage at h; (repeat' split at h) <;> omega
    have l := hI.dam b r.1 r.2.1
    refine ⟨hI.num, hI.day, hI.cst, hI.quo, hI.std, hI.box, fun x x0 x1 => ?_, hI.rep, hI.lea, fun x x0 x1 => ?_, hI.han, hI.bok, hI.nov⟩
    · have o := hI.fre x x0 x1
      have q : x ≠ b := by omega
      simp [mdaH, damH, thr, up1, q]
      exact o
    · have o := hI.dam x x0 x1
      by_cases q : x = b
      · subst q
        refine ⟨by simp [mdaH, damH, thr, up1]; omega, fun k k0 k1 => ?_⟩
        simp [mdaH, damH, thr, up1] at k1
        simp [mdaH, damH, thr, up1]
        rw [o.1.1]
        by_cases z : k = hi 2 x 2
        · simp [z]; omega
        · have o2 := o.2 k k0 (by omega)
          simp [z]
          exact o2
      · refine ⟨by simp [mdaH, damH, thr, up1, q]; exact o.1, fun k k0 k1 => ?_⟩
        simp [mdaH, damH, thr, up1, q] at k1
        have o2 := o.2 k k0 k1
        have e2 : ¬ (12 * x + k = 12 * b + hi 49 0 b) := by omega
        simp [mdaH, damH, thr, up1, q, e2]
        exact o2
  refine both_mk (v := menC (damH hi b co si) b) (H2 := mdaH (up1 (damH hi b co si) 60 0 0 (menC (damH hi b co si) b)) b co si) hI (W_damage hI) (fun h => by have k := (K_X7_damage (b := b) (co := co) (si := si) hI.mv).no (by rw [c9]; exact h); rw [c9] at k; exact k) (fun h => ?_) (fun h => ?_)
  · have r : 0 ≤ b ∧ b < nb := by unfold cC_damage at h; (repeat' split at h) <;> omega
    have k := (K_X7_damage (hi := up1 (damH hi b co si) 60 0 0 (menC (damH hi b co si) b)) (nb := nb) (nk := nk) (b := b) (co := co) (si := si) hI.mv).ok (c9.trans h)
    have i9 := inv h (menC (damH hi b co si) b)
    rw [show menM (mdaH (up1 (damH hi b co si) 60 0 0 (menC (damH hi b co si) b)) b co si) b = menC (damH hi b co si) b from menMC i9 r.1 r.2] at k
    exact k
  · exact ⟨rfl, rfl, inv h _⟩
end ST2
