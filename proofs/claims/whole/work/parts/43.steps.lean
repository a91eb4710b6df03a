/-! ===== the calls, one after another ===== -/
section ST1
variable {hi : Hi} {nb nk : Int}
theorem J_free (hI : Inv hi nb nk) {d : Int} : Both I_L_free I_X7_free [aR 6 0, aI d, aR 60 0] [aR 7 0, aI d] hi nb nk := by
  have e := hI.day
  unfold vDay at e
  refine both_mk (v := hi 6 0 9) (H2 := up1 (thr (up1 (up1 hi 6 0 9 d) 60 0 0 (hi 6 0 9))) 7 0 17 d) hI (W_free hI) (fun h => (K_X7_free hI.mv).no h) (fun h => ?_) (fun h => ?_)
  · have k := (K_X7_free (hi := up1 (up1 hi 6 0 9 d) 60 0 0 (hi 6 0 9)) (nb := nb) (nk := nk) (d := d) hI.mv).ok h
    rw [show thr (up1 (up1 hi 6 0 9 d) 60 0 0 (hi 6 0 9)) 7 0 17 = hi 6 0 9 from e.2.2.2.1] at k
    exact k
  · have r : 0 ≤ d ∧ d ≤ 30 := by unfold cC_free at h; (repeat' split at h) <;> omega
    refine ⟨rfl, rfl, hI.num, ?_, hI.cst, hI.quo, hI.std, hI.box, hI.fre, hI.rep, hI.lea, hI.dam, hI.han, hI.bok, hI.nov⟩
    show hi 7 0 1 = hi 6 0 8 ∧ 0 ≤ hi 6 0 8 ∧ hi 6 0 8 ≤ 9999 ∧ d = d ∧ 0 ≤ d ∧ d ≤ 30 ∧ hi 7 0 25 = hi 6 0 10 ∧ 0 ≤ hi 6 0 10 ∧ hi 6 0 10 ≤ 9999
    omega
theorem J_limit (hI : Inv hi nb nk) {d : Int} : Both I_L_limit I_X7_limit [aR 6 0, aI d, aR 60 0] [aR 7 0, aI d] hi nb nk := by
  have e := hI.day
  unfold vDay at e
  refine both_mk (v := hi 6 0 10) (H2 := up1 (thr (up1 (up1 hi 6 0 10 d) 60 0 0 (hi 6 0 10))) 7 0 25 d) hI (W_limit hI) (fun h => (K_X7_limit hI.mv).no h) (fun h => ?_) (fun h => ?_)
  · have k := (K_X7_limit (hi := up1 (up1 hi 6 0 10 d) 60 0 0 (hi 6 0 10)) (nb := nb) (nk := nk) (m := d) hI.mv).ok h
    rw [show thr (up1 (up1 hi 6 0 10 d) 60 0 0 (hi 6 0 10)) 7 0 25 = hi 6 0 10 from e.2.2.2.2.2.2.1] at k
    exact k
  · have r : 0 ≤ d ∧ d ≤ 9999 := by unfold cC_limit at h; (repeat' split at h) <;> omega
    refine ⟨rfl, rfl, hI.num, ?_, hI.cst, hI.quo, hI.std, hI.box, hI.fre, hI.rep, hI.lea, hI.dam, hI.han, hI.bok, hI.nov⟩
    show hi 7 0 1 = hi 6 0 8 ∧ 0 ≤ hi 6 0 8 ∧ hi 6 0 8 ≤ 9999 ∧ hi 7 0 17 = hi 6 0 9 ∧ 0 ≤ hi 6 0 9 ∧ hi 6 0 9 ≤ 30 ∧ d = d ∧ 0 ≤ d ∧ d ≤ 9999
    omega
theorem J_quota (hI : Inv hi nb nk) {a b c : Int} : Both I_L_quota I_X7_quota [aR 6 0, aI a, aI b, aI c, aR 60 0] [aR 7 0, aI a, aI b, aI c] hi nb nk := by
  refine both_mk (v := hi 11 a b) (H2 := up1 (thr (up1 (up1 hi 11 a b c) 60 0 0 (hi 11 a b))) 44 0 (6 * a + b) c) hI (W_quota hI) (fun h => (K_X7_quota hI.mv).no h) (fun h => ?_) (fun h => ?_)
  · have r : 0 ≤ a ∧ a < 3 ∧ 0 ≤ b ∧ b < 6 ∧ 0 ≤ c ∧ c ≤ 9 := by unfold cC_quota at h; (repeat' split at h) <;> omega
    have k := (K_X7_quota (hi := up1 (up1 hi 11 a b c) 60 0 0 (hi 11 a b)) (nb := nb) (nk := nk) (l := a) (p := b) (c := c) hI.mv).ok h
    have e : thr (up1 (up1 hi 11 a b c) 60 0 0 (hi 11 a b)) 44 0 (6 * a + b) = hi 11 a b := (hI.quo a b r.1 r.2.1 r.2.2.1 r.2.2.2.1).1
    rw [e] at k
    exact k
  · have r : 0 ≤ a ∧ a < 3 ∧ 0 ≤ b ∧ b < 6 ∧ 0 ≤ c ∧ c ≤ 9 := by unfold cC_quota at h; (repeat' split at h) <;> omega
    refine ⟨rfl, rfl, hI.num, hI.day, hI.cst, fun x y x0 x1 y0 y1 => ?_, hI.std, hI.box, hI.fre, hI.rep, hI.lea, hI.dam, hI.han, hI.bok, hI.nov⟩
    show up1 hi 44 0 (6 * a + b) c 44 0 (6 * x + y) = up1 hi 11 a b c 11 x y ∧ 0 ≤ up1 hi 11 a b c 11 x y ∧ up1 hi 11 a b c 11 x y ≤ 9
    have o := hI.quo x y x0 x1 y0 y1
    by_cases q : x = a ∧ y = b
    · obtain ⟨rfl, rfl⟩ := q
      rw [up1_s, up1_s]
      omega
    · rw [up1_n (by omega), up1_n (by omega)]
      exact o
theorem J_standard (hI : Inv hi nb nk) {a c : Int} : Both I_L_standard I_X7_standard [aR 6 0, aI a, aI c, aR 60 0] [aR 7 0, aI a, aI c] hi nb nk := by
  refine both_mk (v := hi 12 0 a) (H2 := up1 (thr (up1 (up1 hi 12 0 a c) 60 0 0 (hi 12 0 a))) 50 0 a c) hI (W_standard hI) (fun h => (K_X7_standard hI.mv).no h) (fun h => ?_) (fun h => ?_)
  · have r : 0 ≤ a ∧ a < 5 ∧ 0 ≤ c ∧ c ≤ 20 := by unfold cC_standard at h; (repeat' split at h) <;> omega
    have k := (K_X7_standard (hi := up1 (up1 hi 12 0 a c) 60 0 0 (hi 12 0 a)) (nb := nb) (nk := nk) (c := a) (si := c) hI.mv).ok h
    have e : thr (up1 (up1 hi 12 0 a c) 60 0 0 (hi 12 0 a)) 50 0 a = hi 12 0 a := (hI.std a r.1 r.2.1).1
    rw [e] at k
    exact k
  · have r : 0 ≤ a ∧ a < 5 ∧ 0 ≤ c ∧ c ≤ 20 := by unfold cC_standard at h; (repeat' split at h) <;> omega
    refine ⟨rfl, rfl, hI.num, hI.day, hI.cst, hI.quo, fun x x0 x1 => ?_, hI.box, hI.fre, hI.rep, hI.lea, hI.dam, hI.han, hI.bok, hI.nov⟩
    show up1 hi 50 0 a c 50 0 x = up1 hi 12 0 a c 12 0 x ∧ 0 ≤ up1 hi 12 0 a c 12 0 x ∧ up1 hi 12 0 a c 12 0 x ≤ 20
    have o := hI.std x x0 x1
    by_cases q : x = a
    · obtain rfl := q
      rw [up1_s, up1_s]
      omega
    · rw [up1_n (by omega), up1_n (by omega)]
      exact o
theorem Inv.out (hI : Inv hi nb nk) {v : Int} : Inv (thr (up1 hi 60 0 0 v)) nb nk :=
  ⟨hI.num, hI.day, hI.cst, hI.quo, hI.std, hI.box, hI.fre, hI.rep, hI.lea, hI.dam, hI.han, hI.bok, hI.nov⟩
theorem J_place (hI : Inv hi nb nk) {b d : Int} : Both I_L_place I_X7_place [aR 6 0, aI b, aI d, aR 60 0] [aR 7 0, aI b, aI d] hi nb nk := by
  refine both_mk (v := plcC hi b d) (H2 := thr (up1 hi 60 0 0 (plcC hi b d))) hI (W_place hI) (fun h => (K_X7_place hI.mv).no h) (fun h => ?_) (fun h => ⟨rfl, rfl, hI.out⟩)
  have r : 0 ≤ b ∧ b < nb := by unfold cC_place at h; (repeat' split at h) <;> omega
  have k := (K_X7_place (hi := up1 hi 60 0 0 (plcC hi b d)) (nb := nb) (nk := nk) (b := b) (d := d) hI.mv).ok h
  rw [show plcM (thr (up1 hi 60 0 0 (plcC hi b d))) b d = plcC hi b d from plcMC hI r.1 r.2] at k
  exact k
theorem J_count (hI : Inv hi nb nk) {p kd d : Int} : Both I_L_count I_X7_count [aR 6 0, aI p, aI kd, aI d, aR 60 0] [aR 7 0, aI p, aI kd, aI d] hi nb nk := by
  refine both_mk (v := sI (fun b => bI ((kd = -1 ∨ hi 1 b 0 = kd) ∧ plcC hi b d = p)) nb) (H2 := thr (up1 hi 60 0 0 (sI (fun b => bI ((kd = -1 ∨ hi 1 b 0 = kd) ∧ plcC hi b d = p)) nb))) hI (W_count hI) (fun h => (K_X7_count hI.mv).no h) (fun h => ?_) (fun h => ⟨rfl, rfl, hI.out⟩)
  generalize hv : sI (fun b => bI ((kd = -1 ∨ hi 1 b 0 = kd) ∧ plcC hi b d = p)) nb = v
  have k := (K_X7_count (hi := up1 hi 60 0 0 v) (nb := nb) (nk := nk) (p := p) (kd := kd) (d := d) hI.mv).ok h
  have e : sI (fun b => bI ((kd = -1 ∨ thr (up1 hi 60 0 0 v) 31 0 b = kd) ∧ plcM (thr (up1 hi 60 0 0 v)) b d = p)) nb = v := by
    rw [← hv]
    refine sI_c (fun b b0 b1 => bI_iff ?_)
    rw [show plcM (thr (up1 hi 60 0 0 _)) b d = plcC hi b d from plcMC hI b0 b1, show thr (up1 hi 60 0 0 _) 31 0 b = hi 1 b 0 from (hI.box b b0 b1).1.1]
  rw [e] at k
  exact k
theorem J_days (hI : Inv hi nb nk) {b fr to pl : Int} : Both I_L_days I_X7_days [aR 6 0, aI b, aI fr, aI to, aI pl, aR 60 0] [aR 7 0, aI b, aI fr, aI to, aI pl] hi nb nk := by
  refine both_mk (v := sI (fun t => bI (plcC hi b (fr + t) = pl)) (to - fr + 1)) (H2 := thr (up1 hi 60 0 0 (sI (fun t => bI (plcC hi b (fr + t) = pl)) (to - fr + 1)))) hI (W_days hI) (fun h => (K_X7_days hI.mv).no h) (fun h => ?_) (fun h => ⟨rfl, rfl, hI.out⟩)
  have r : 0 ≤ b ∧ b < nb := by unfold cC_days at h; (repeat' split at h) <;> omega
  generalize hv : sI (fun t => bI (plcC hi b (fr + t) = pl)) (to - fr + 1) = v
  have k := (K_X7_days (hi := up1 hi 60 0 0 v) (nb := nb) (nk := nk) (b := b) (fr := fr) (to := to) (pl := pl) hI.mv).ok h
  have e : sI (fun t => bI (plcM (thr (up1 hi 60 0 0 v)) b (fr + t) = pl)) (to - fr + 1) = v := by
    rw [← hv]
    refine sI_c (fun t t0 t1 => ?_)
    rw [show plcM (thr (up1 hi 60 0 0 _)) b (fr + t) = plcC hi b (fr + t) from plcMC hI r.1 r.2]
  rw [e] at k
  exact k
theorem J_payer (hI : Inv hi nb nk) {b d : Int} : Both I_L_payer I_X7_payer [aR 6 0, aI b, aI d, aR 60 0] [aR 7 0, aI b, aI d] hi nb nk := by
  refine both_mk (v := payC hi b d) (H2 := thr (up1 hi 60 0 0 (payC hi b d))) hI (W_payer hI) (fun h => (K_X7_payer hI.mv).no h) (fun h => ?_) (fun h => ⟨rfl, rfl, hI.out⟩)
  have r : 0 ≤ b ∧ b < nb := by unfold cC_payer at h; (repeat' split at h) <;> omega
  have k := (K_X7_payer (hi := up1 hi 60 0 0 (payC hi b d)) (nb := nb) (nk := nk) (b := b) (d := d) hI.mv).ok h
  rw [show payM (thr (up1 hi 60 0 0 (payC hi b d))) b d = payC hi b d from payMC hI r.1 r.2] at k
  exact k
theorem J_boxIs (hI : Inv hi nb nk) {b d : Int} : Both I_L_boxIs I_X7_boxIs [aR 6 0, aI b, aI d, aR 60 0] [aR 7 0, aI b, aI d] hi nb nk := by
  refine both_mk (v := isC hi b d) (H2 := thr (up1 hi 60 0 0 (isC hi b d))) hI (W_boxIs hI) (fun h => (K_X7_boxIs hI.mv).no h) (fun h => ?_) (fun h => ⟨rfl, rfl, hI.out⟩)
  have r : 0 ≤ b ∧ b < nb := by unfold cC_boxIs at h; (repeat' split at h) <;> omega
  have k := (K_X7_boxIs (hi := up1 hi 60 0 0 (isC hi b d)) (nb := nb) (nk := nk) (b := b) (w := d) hI.mv).ok h
  rw [show isM (thr (up1 hi 60 0 0 (isC hi b d))) b d = isC hi b d from isMC hI r.1 r.2] at k
  exact k
theorem J_lacks (hI : Inv hi nb nk) {b : Int} : Both I_L_lacks I_X7_lacks [aR 6 0, aI b, aR 60 0] [aR 7 0, aI b] hi nb nk := by
  refine both_mk (v := lacC hi b) (H2 := thr (up1 hi 60 0 0 (lacC hi b))) hI (W_lacks hI) (fun h => (K_X7_lacks hI.mv).no h) (fun h => ?_) (fun h => ⟨rfl, rfl, hI.out⟩)
  have r : 0 ≤ b ∧ b < nk := by unfold cC_lacks at h; (repeat' split at h) <;> omega
  have k := (K_X7_lacks (hi := up1 hi 60 0 0 (lacC hi b)) (nb := nb) (nk := nk) (k := b) hI.mv).ok h
  rw [show lacM (thr (up1 hi 60 0 0 (lacC hi b))) nb b = lacC hi b from lacMC hI r.1 r.2] at k
  exact k
theorem J_pass (hI : Inv hi nb nk) {d : Int} : Both I_L_pass I_X7_pass [aR 6 0, aI d, aR 60 0] [aR 7 0, aI d] hi nb nk := by
  have e := hI.day
  unfold vDay at e
  have c9 : cM_pass hi d = cC_pass hi d := by unfold cM_pass cC_pass; rw [e.1]
  refine both_mk (v := hi 6 0 8 + d) (H2 := up1 (thr (up1 (up1 hi 6 0 8 (hi 6 0 8 + d)) 60 0 0 (hi 6 0 8 + d))) 7 0 1 (hi 6 0 8 + d)) hI (W_pass hI) (fun h => by have k := (K_X7_pass (d := d) hI.mv).no (by rw [c9]; exact h); rw [c9] at k; exact k) (fun h => ?_) (fun h => ?_)
  · have k := (K_X7_pass (hi := up1 (up1 hi 6 0 8 (hi 6 0 8 + d)) 60 0 0 (hi 6 0 8 + d)) (nb := nb) (nk := nk) (d := d) hI.mv).ok (c9.trans h)
    rw [show thr (up1 (up1 hi 6 0 8 (hi 6 0 8 + d)) 60 0 0 (hi 6 0 8 + d)) 7 0 1 = hi 6 0 8 from e.1] at k
    exact k
  · have r : 1 ≤ d ∧ d ≤ 400 ∧ hi 6 0 8 + d ≤ 9999 := by unfold cC_pass at h; (repeat' split at h) <;> omega
    refine ⟨rfl, rfl, hI.num, ?_, hI.cst, hI.quo, hI.std, fun b b0 b1 => ?_, hI.fre, hI.rep, hI.lea, hI.dam, fun l p l0 l1 p0 p1 => ?_, hI.bok, hI.nov⟩
    · show hi 6 0 8 + d = hi 6 0 8 + d ∧ 0 ≤ hi 6 0 8 + d ∧ hi 6 0 8 + d ≤ 9999 ∧ hi 7 0 17 = hi 6 0 9 ∧ 0 ≤ hi 6 0 9 ∧ hi 6 0 9 ≤ 30 ∧ hi 7 0 25 = hi 6 0 10 ∧ 0 ≤ hi 6 0 10 ∧ hi 6 0 10 ≤ 9999
      omega
    · have g := hI.box b b0 b1
      exact ⟨g.1, g.2.1, g.2.2.1, g.2.2.2.1, ⟨g.2.2.2.2.1.1, g.2.2.2.2.1.2.1, by show hi 1 b 8 ≤ hi 6 0 8 + d; omega⟩, g.2.2.2.2.2⟩
    · have g := hI.han l p l0 l1 p0 p1
      exact ⟨g.1, by show hi 46 0 (6 * l + p) ≤ (hi 6 0 8 + d) / 30; omega, g.2.2⟩
end ST1
