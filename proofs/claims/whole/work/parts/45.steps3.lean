/-! ===== the calls, one after another: report, handIn ===== -/
section ST3
variable {hi : Hi} {nb nk : Int}
theorem reportMC (hI : Inv hi nb nk) {b d e p : Int} : cM_report hi nb b d e p = cC_report hi nb b d e p := by
  have y := hI.day
  unfold vDay at y
  unfold cM_report cC_report
  by_cases q : 0 ≤ b ∧ b < nb
  · have g := hI.box b q.1 q.2
    have l := (hI.rep b q.1 q.2).1
    rw [g.2.2.2.2.1.1, l.1, y.1]
    (repeat' split) <;> omega
  · rw [if_pos (by omega), if_pos (by omega)]
theorem insH_k {b n P d e p k : Int} : insH hi b n P d e p 22 b k = (if k = P then d else if P < k ∧ k ≤ n then hi 22 b (k - 1) else hi 22 b k) ∧ insH hi b n P d e p 23 b k = (if k = P then e else if P < k ∧ k ≤ n then hi 23 b (k - 1) else hi 23 b k) ∧ insH hi b n P d e p 24 b k = (if k = P then p else if P < k ∧ k ≤ n then hi 24 b (k - 1) else hi 24 b k) := by
  refine ⟨?_, ?_, ?_⟩ <;> simp [insH, up1, shH]
theorem repH_k {T : Hi} {b d e p k : Int} : repH T b d e p 37 0 (30 * b + k) = (if k = posI (mD T b) d (T 40 0 b) then d else if posI (mD T b) d (T 40 0 b) < k ∧ k ≤ T 40 0 b then T 37 0 (30 * b + (k - 1)) else T 37 0 (30 * b + k)) ∧
    repH T b d e p 38 0 (30 * b + k) = (if k = posI (mD T b) d (T 40 0 b) then e else if posI (mD T b) d (T 40 0 b) < k ∧ k ≤ T 40 0 b then T 38 0 (30 * b + (k - 1)) else T 38 0 (30 * b + k)) ∧
    repH T b d e p 39 0 (30 * b + k) = (if k = posI (mD T b) d (T 40 0 b) then p else if posI (mD T b) d (T 40 0 b) < k ∧ k ≤ T 40 0 b then T 39 0 (30 * b + (k - 1)) else T 39 0 (30 * b + k)) := by
  have e1 : 30 * b + (k - 1) = 30 * b + k - 1 := by omega
  rw [e1]
  refine ⟨?_, ?_, ?_⟩ <;> simp [repH, up1, shM]
theorem repH_o {T : Hi} {b d e p : Int} {kk : Nat} {i j : Int} (hT : 0 ≤ T 40 0 b ∧ T 40 0 b < 30) (h : (kk ≠ 37 ∧ kk ≠ 38 ∧ kk ≠ 39 ∧ (kk ≠ 40 ∨ j ≠ b)) ∨ (kk ≠ 40 ∧ (j < 30 * b ∨ 30 * b + 30 ≤ j))) : repH T b d e p kk i j = T kk i j := by
  have r := posI_r (ds := mD T b) (day := d) hT.1
  unfold repH
  rw [up1_n (by omega), up1_n (by omega), up1_n (by omega), up1_n (by omega)]
  unfold shM
  rw [if_neg (by omega)]
theorem telH_o {b d e p : Int} {kk : Nat} {i j : Int} (h : i ≠ b ∨ (kk ≠ 4 ∧ kk ≠ 22 ∧ kk ≠ 23 ∧ kk ≠ 24 ∧ kk ≠ 25)) : telH hi b d e p kk i j = hi kk i j := by
  unfold telH livH
  rw [if_neg (by omega), if_neg (by omega)]
  unfold insH
  rw [up1_n (by omega), up1_n (by omega), up1_n (by omega), up1_n (by omega)]
  unfold shH
  rw [if_neg (by omega)]
theorem Inv.told (hI : Inv hi nb nk) {b d e p v : Int} (b0 : 0 ≤ b) (b1 : b < nb) (ht : hi 4 b 4 < 30) (hd : 0 ≤ d ∧ d ≤ hi 6 0 8) : Inv (repH (thr (up1 (telH hi b d e p) 60 0 0 v)) b d e p) nb nk := by
  have y := hI.day
  unfold vDay at y
  have l := hI.rep b b0 b1
  have eN : thr (up1 (telH hi b d e p) 60 0 0 v) 40 0 b = hi 4 b 4 := l.1.1
  have eD : mD (thr (up1 (telH hi b d e p) 60 0 0 v)) b = mD hi b := rfl
  have eP : posI (mD hi b) d (hi 4 b 4) = posI (hi 22 b) d (hi 4 b 4) := posI_c (fun k k0 k1 => (l.2 k k0 k1).1)
  have r := posI_r (ds := hi 22 b) (day := d) l.1.2.1
  refine ⟨hI.num, hI.day, hI.cst, hI.quo, hI.std, hI.box, fun x x0 x1 => ?_, fun x x0 x1 => ?_, hI.lea, hI.dam, hI.han, hI.bok, hI.nov⟩
  · have o := hI.fre x x0 x1
    refine ⟨?_, o.2⟩
    rw [repH_o (by rw [eN]; omega) (by omega)]
    exact o.1
  · have o := hI.rep x x0 x1
    by_cases q : x = b
    · subst q
      have c4 : repH (thr (up1 (telH hi x d e p) 60 0 0 v)) x d e p 4 x 4 = hi 4 x 4 + 1 := by
        rw [repH_o (by rw [eN]; omega) (by omega)]
        show telH hi x d e p 4 x 4 = _
        unfold telH livH
        rw [if_neg (by omega), if_neg (by omega)]
        unfold insH
        exact up1_s
      have m40 : repH (thr (up1 (telH hi x d e p) 60 0 0 v)) x d e p 40 0 x = hi 4 x 4 + 1 := by
        unfold repH
        rw [up1_s, eN]
      rw [c4, m40]
      refine ⟨⟨rfl, by omega, by omega, ?_⟩, fun k k0 k1 => ?_⟩
      · show telH hi x d e p 4 x 5 = dbtI (insH hi x (hi 4 x 4) (posI (hi 22 x) d (hi 4 x 4)) d e p 23 x) (insH hi x (hi 4 x 4) (posI (hi 22 x) d (hi 4 x 4)) d e p 24 x) (hi 4 x 4 + 1)
        unfold telH livH
        rw [if_neg (by omega), if_pos ⟨rfl, rfl, rfl⟩]
      · have rk := repH_k (T := thr (up1 (telH hi x d e p) 60 0 0 v)) (b := x) (d := d) (e := e) (p := p) (k := k)
        rw [eN, eD, eP] at rk
        have ik := insH_k (hi := hi) (b := x) (n := hi 4 x 4) (P := posI (hi 22 x) d (hi 4 x 4)) (d := d) (e := e) (p := p) (k := k)
        have s22 : repH (thr (up1 (telH hi x d e p) 60 0 0 v)) x d e p 22 x k = insH hi x (hi 4 x 4) (posI (hi 22 x) d (hi 4 x 4)) d e p 22 x k := rfl
        have s23 : repH (thr (up1 (telH hi x d e p) 60 0 0 v)) x d e p 23 x = insH hi x (hi 4 x 4) (posI (hi 22 x) d (hi 4 x 4)) d e p 23 x := rfl
        have s24 : repH (thr (up1 (telH hi x d e p) 60 0 0 v)) x d e p 24 x = insH hi x (hi 4 x 4) (posI (hi 22 x) d (hi 4 x 4)) d e p 24 x := rfl
        have s25 : repH (thr (up1 (telH hi x d e p) 60 0 0 v)) x d e p 25 x k = livI (insH hi x (hi 4 x 4) (posI (hi 22 x) d (hi 4 x 4)) d e p 23 x) (insH hi x (hi 4 x 4) (posI (hi 22 x) d (hi 4 x 4)) d e p 24 x) (k + 1) := by
          show telH hi x d e p 25 x k = _
          unfold telH livH
          rw [if_pos ⟨rfl, rfl, k0, by omega⟩]
        rw [s22, s23, s24, s25, rk.1, rk.2.1, rk.2.2, ik.1, ik.2.1, ik.2.2]
        have t37 : ∀ z, thr (up1 (telH hi x d e p) 60 0 0 v) 37 0 z = hi 37 0 z := fun z => rfl
        have t38 : ∀ z, thr (up1 (telH hi x d e p) 60 0 0 v) 38 0 z = hi 38 0 z := fun z => rfl
        have t39 : ∀ z, thr (up1 (telH hi x d e p) 60 0 0 v) 39 0 z = hi 39 0 z := fun z => rfl
        simp only [t37, t38, t39]
        by_cases z1 : k = posI (hi 22 x) d (hi 4 x 4)
        · simp only [if_pos z1]
          exact ⟨trivial, trivial, trivial, trivial, by omega, by omega⟩
        · simp only [if_neg z1]
          by_cases z2 : posI (hi 22 x) d (hi 4 x 4) < k ∧ k ≤ hi 4 x 4
          · simp only [if_pos z2]
            have u := o.2 (k - 1) (by omega) (by omega)
            exact ⟨u.1, u.2.1, u.2.2.1, trivial, u.2.2.2.2⟩
          · simp only [if_neg z2]
            have u := o.2 k (by omega) (by omega)
            exact ⟨u.1, u.2.1, u.2.2.1, trivial, u.2.2.2.2⟩
    · have t : ∀ (kk : Nat) (j : Int), kk ≠ 37 → kk ≠ 38 → kk ≠ 39 → kk ≠ 40 → kk ≠ 7 → kk ≠ 60 → repH (thr (up1 (telH hi b d e p) 60 0 0 v)) b d e p kk x j = hi kk x j := fun kk j h1 h2 h3 h4 h5 h6 => by
        rw [repH_o (by rw [eN]; omega) (by omega)]
        unfold thr
        rw [up1_n (by omega), up1_n (by omega), telH_o (Or.inl q)]
      have tf : ∀ (kk : Nat), kk ≠ 37 → kk ≠ 38 → kk ≠ 39 → kk ≠ 40 → kk ≠ 7 → kk ≠ 60 → repH (thr (up1 (telH hi b d e p) 60 0 0 v)) b d e p kk x = hi kk x := fun kk h1 h2 h3 h4 h5 h6 => funext fun j => t kk j h1 h2 h3 h4 h5 h6
      have m40 : repH (thr (up1 (telH hi b d e p) 60 0 0 v)) b d e p 40 0 x = hi 40 0 x := by
        rw [repH_o (by rw [eN]; omega) (by omega)]
        rfl
      rw [m40, tf 4 (by decide) (by decide) (by decide) (by decide) (by decide) (by decide), tf 22 (by decide) (by decide) (by decide) (by decide) (by decide) (by decide), tf 23 (by decide) (by decide) (by decide) (by decide) (by decide) (by decide), tf 24 (by decide) (by decide) (by decide) (by decide) (by decide) (by decide), tf 25 (by decide) (by decide) (by decide) (by decide) (by decide) (by decide)]
      refine ⟨o.1, fun k k0 k1 => ?_⟩
      have u := o.2 k k0 k1
      rw [repH_o (kk := 37) (by rw [eN]; omega) (by omega), repH_o (kk := 38) (by rw [eN]; omega) (by omega), repH_o (kk := 39) (by rw [eN]; omega) (by omega)]
      exact u
theorem J_report (hI : Inv hi nb nk) {b d e p : Int} : Both I_L_report I_X7_report [aR 6 0, aI b, aI d, aI e, aI p, aR 60 0] [aR 7 0, aI b, aI d, aI e, aI p] hi nb nk := by
  have c9 := reportMC hI (b := b) (d := d) (e := e) (p := p)
  have hW := W_report hI (b := b) (d := d) (e := e) (p := p)
  have hA : cC_report hi nb b d e p ≠ 0 → Det I_X7_report [aR 7 0, aI b, aI d, aI e, aI p] (hp hi nb nk) (some (aI 0)) (hp (up1 hi 7 0 0 (cC_report hi nb b d e p)) nb nk) := fun h => by
    have k := (K_X7_report (b := b) (d := d) (e := e) (p := p) hI.mv).no (by rw [c9]; exact h)
    rw [c9] at k
    exact k
  by_cases z : knoC hi b d e p
  · rw [if_pos (bI_t z), if_pos (bI_t z)] at hW
    refine both_mk hI hW hA (fun h => ?_) (H2 := thr (up1 hi 60 0 0 (-1))) (v := -1) (fun h => ⟨rfl, rfl, hI.out⟩)
    have r : 0 ≤ b ∧ b < nb := by unfold cC_report at h; (repeat' split at h) <;> omega
    have k := (K_X7_report (hi := up1 hi 60 0 0 (-1)) (nb := nb) (nk := nk) (b := b) (d := d) (e := e) (p := p) hI.mv).ok (c9.trans h)
    have zM : knoM (thr (up1 hi 60 0 0 (-1))) b d e p := (knoMC hI r.1 r.2).mpr z
    rw [if_pos (bI_t zM), if_pos (bI_t zM)] at k
    exact k
  · rw [if_neg (c := bI (knoC hi b d e p) = 1) (by rw [bI_f z]; decide), if_neg (c := bI (knoC hi b d e p) = 1) (by rw [bI_f z]; decide)] at hW
    have i9 : cC_report hi nb b d e p = 0 → Inv (repH (thr (up1 (telH hi b d e p) 60 0 0 (telH hi b d e p 4 b 5))) b d e p) nb nk := fun h => by
      have r : 0 ≤ b ∧ b < nb ∧ hi 4 b 4 < 30 ∧ 0 ≤ d ∧ d ≤ hi 6 0 8 := by unfold cC_report at h; (repeat' split at h) <;> omega
      exact hI.told r.1 r.2.1 r.2.2.1 r.2.2.2
    refine both_mk hI hW hA (fun h => ?_) (H2 := repH (thr (up1 (telH hi b d e p) 60 0 0 (telH hi b d e p 4 b 5))) b d e p) (v := telH hi b d e p 4 b 5) (fun h => ⟨rfl, rfl, i9 h⟩)
    have r : 0 ≤ b ∧ b < nb := by unfold cC_report at h; (repeat' split at h) <;> omega
    have k := (K_X7_report (hi := up1 (telH hi b d e p) 60 0 0 (telH hi b d e p 4 b 5)) (nb := nb) (nk := nk) (b := b) (d := d) (e := e) (p := p) hI.mv).ok (c9.trans h)
    have zM : ¬ knoM (thr (up1 (telH hi b d e p) 60 0 0 (telH hi b d e p 4 b 5))) b d e p := fun q => z ((knoMC hI r.1 r.2).mp q)
    rw [if_neg (by rw [bI_f zM]; decide), if_neg (by rw [bI_f zM]; decide)] at k
    have e9 := dbtMC (i9 h) r.1 r.2
    rw [show repH (thr (up1 (telH hi b d e p) 60 0 0 (telH hi b d e p 4 b 5))) b d e p 4 b 5 = telH hi b d e p 4 b 5 from rfl] at e9
    rw [e9] at k
    exact k
theorem hanI_in {hi hi' : Hi} {nb b l p M : Int} (b0 : 0 ≤ b) (b1 : b < nb) (h : hi 1 b 8 = -1) (h1 : ∀ x, hi' 1 x 1 = hi 1 x 1) (h8 : ∀ x, x ≠ b → hi' 1 x 8 = hi 1 x 8 ∧ hi' 1 x 9 = hi 1 x 9) : hanI hi' nb l p M = hanI hi nb l p M + bI (hi' 1 b 8 ≠ -1 ∧ hi 1 b 1 = l ∧ hi' 1 b 9 = p ∧ hi' 1 b 8 / 30 = M) := by
  unfold hanI
  obtain ⟨m, rfl⟩ := Int.eq_ofNat_of_zero_le (show 0 ≤ nb by omega)
  have key : ∀ n : Nat, sI (fun x => bI (hi' 1 x 8 ≠ -1 ∧ hi' 1 x 1 = l ∧ hi' 1 x 9 = p ∧ hi' 1 x 8 / 30 = M)) (n : Int) = sI (fun x => bI (hi 1 x 8 ≠ -1 ∧ hi 1 x 1 = l ∧ hi 1 x 9 = p ∧ hi 1 x 8 / 30 = M)) (n : Int) + (if b < (n : Int) then bI (hi' 1 b 8 ≠ -1 ∧ hi 1 b 1 = l ∧ hi' 1 b 9 = p ∧ hi' 1 b 8 / 30 = M) else 0) := by
    intro n
    induction n with
    | zero => rw [if_neg (by omega)]; rfl
    | succ n ih =>
      have e : ((n + 1 : Nat) : Int) = (n : Int) + 1 := by omega
      rw [e, sI_s (by omega), sI_s (by omega), ih]
      by_cases q : (n : Int) = b
      · rw [if_neg (by omega), if_pos (by omega), q, h1 b, bI_f (P := hi 1 b 8 ≠ -1 ∧ hi 1 b 1 = l ∧ hi 1 b 9 = p ∧ hi 1 b 8 / 30 = M) (fun z => z.1 h)]
      · rw [h1 n, (h8 n q).1, (h8 n q).2]
        by_cases z : b < (n : Int)
        · rw [if_pos z, if_pos (by omega)]; omega
        · rw [if_neg z, if_neg (by omega)]; omega
  rw [key m, if_pos b1]
theorem J_handIn (hI : Inv hi nb nk) {b : Int} : Both I_L_handIn I_X7_handIn [aR 6 0, aI b, aR 60 0] [aR 7 0, aI b] hi nb nk := by
  have c9 := handMC hI (b := b)
  have y := hI.day
  unfold vDay at y
  have hn := hI.num
  unfold vNum at hn
  generalize hv : lefC hi nb b - 1 = v
  have hT : cC_handIn hi nb b = 0 → Inv (mhaH (thr (up1 (hanH hi b) 60 0 0 v)) b) nb nk ∧ morM (mhaH (thr (up1 (hanH hi b) 60 0 0 v)) b) (mkk (thr (up1 (hanH hi b) 60 0 0 v)) b) = v := fun h => by
    have r : (0 ≤ b ∧ b < nb) ∧ hi 1 b 8 = -1 ∧ bI (holC hi b (hi 6 0 8)) ≠ 0 ∧ (0 ≤ plcC hi b (hi 6 0 8) ∧ plcC hi b (hi 6 0 8) < 6) ∧ hi 1 b 7 = -1 ∧ 0 < lefC hi nb b := by unfold cC_handIn at h; (repeat' split at h) <;> omega
    obtain ⟨⟨b0, b1⟩, g8, hc, pp, g7, gl⟩ := r
    have hc2 := bI_ne.mp hc
    have ls := hI.less b0 b1 hc2
    have g := hI.box b b0 b1
    have l9 := hI.lea b b0 b1
    have kk : mkk (thr (up1 (hanH hi b) 60 0 0 v)) b = 6 * hi 1 b 1 + plcC hi b (hi 6 0 8) := by
      show 6 * hi 32 0 b + plcM hi b (hi 7 0 1) = _
      rw [plcMC hI b0 b1, y.1, g.2.1.1]
    have lf := lefMC hI b0 b1 ls.1 ls.2 pp.1 pp.2
    rw [plcMC hI b0 b1, y.1, g.2.1.1] at lf
    generalize hK : 6 * hi 1 b 1 + plcC hi b (hi 6 0 8) = K at *
    have hM : mhaH (thr (up1 (hanH hi b) 60 0 0 v)) b = up1 (up1 (up1 (thr (up1 (hanH hi b) 60 0 0 v)) 45 0 K (if hi 46 0 K = hi 6 0 8 / 30 then hi 45 0 K + 1 else 1)) 46 0 K (hi 6 0 8 / 30)) 35 0 b (hi 6 0 8) := by
      unfold mhaH
      rw [kk]
      show up1 (up1 (up1 _ 45 0 K (if hi 46 0 K = hi 7 0 1 / 30 then hi 45 0 K + 1 else 1)) 46 0 K (hi 7 0 1 / 30)) 35 0 b (hi 7 0 1) = _
      rw [y.1]
    rw [hM, kk]
    have hh := hI.han (hi 1 b 1) (plcC hi b (hi 6 0 8)) ls.1 ls.2 pp.1 pp.2
    rw [hK] at hh
    have x1 : ∀ x j, j ≠ 8 → j ≠ 9 → (up1 (up1 (up1 (thr (up1 (hanH hi b) 60 0 0 v)) 45 0 K (if hi 46 0 K = hi 6 0 8 / 30 then hi 45 0 K + 1 else 1)) 46 0 K (hi 6 0 8 / 30)) 35 0 b (hi 6 0 8)) 1 x j = hi 1 x j := fun x j j8 j9 => by
      simp [thr, hanH, up1, endH, j8, j9]
    have x2 : ∀ x, x ≠ b → (up1 (up1 (up1 (thr (up1 (hanH hi b) 60 0 0 v)) 45 0 K (if hi 46 0 K = hi 6 0 8 / 30 then hi 45 0 K + 1 else 1)) 46 0 K (hi 6 0 8 / 30)) 35 0 b (hi 6 0 8)) 1 x 8 = hi 1 x 8 ∧ (up1 (up1 (up1 (thr (up1 (hanH hi b) 60 0 0 v)) 45 0 K (if hi 46 0 K = hi 6 0 8 / 30 then hi 45 0 K + 1 else 1)) 46 0 K (hi 6 0 8 / 30)) 35 0 b (hi 6 0 8)) 1 x 9 = hi 1 x 9 := fun x hx => by
      simp [thr, hanH, up1, endH, hx]
    have x3 : (up1 (up1 (up1 (thr (up1 (hanH hi b) 60 0 0 v)) 45 0 K (if hi 46 0 K = hi 6 0 8 / 30 then hi 45 0 K + 1 else 1)) 46 0 K (hi 6 0 8 / 30)) 35 0 b (hi 6 0 8)) 1 b 8 = hi 6 0 8 ∧ (up1 (up1 (up1 (thr (up1 (hanH hi b) 60 0 0 v)) 45 0 K (if hi 46 0 K = hi 6 0 8 / 30 then hi 45 0 K + 1 else 1)) 46 0 K (hi 6 0 8 / 30)) 35 0 b (hi 6 0 8)) 1 b 9 = plcC hi b (hi 6 0 8) := by
      simp [thr, hanH, up1]
    refine ⟨⟨hI.num, hI.day, hI.cst, ?_, hI.std, fun x x0 xn => ?_, hI.fre, hI.rep, fun x x0 xn => ?_, hI.dam, fun l p l0 l1 p0 p1 => ?_, hI.bok.c rfl rfl rfl rfl rfl (fun x => x1 x 7 (by decide) (by decide)), hI.nov⟩, ?_⟩
    · exact hI.quo
    · have o := hI.box x x0 xn
      rw [x1 x 0 (by decide) (by decide), x1 x 1 (by decide) (by decide), x1 x 5 (by decide) (by decide), x1 x 6 (by decide) (by decide), x1 x 7 (by decide) (by decide)]
      by_cases q : x = b
      · subst q
        rw [x3.1, up1_s]
        exact ⟨o.1, o.2.1, o.2.2.1, o.2.2.2.1, ⟨rfl, by omega, Int.le_refl _⟩, o.2.2.2.2.2⟩
      · rw [(x2 x q).1]
        exact ⟨o.1, o.2.1, o.2.2.1, o.2.2.2.1, ⟨(up1_n (by omega)).trans o.2.2.2.2.1.1, o.2.2.2.2.1.2⟩, o.2.2.2.2.2⟩
    · have o := hI.lea x x0 xn
      rw [x1 x 1 (by decide) (by decide)]
      refine ⟨o.1, fun k k0 k1 => ?_⟩
      have o2 := o.2 k k0 k1
      refine ⟨o2.1, ?_⟩
      show endH hi b (hi 6 0 8) (hi 3 b 2) 27 x k = _
      by_cases q : x = b
      · subst q
        rw [x3.1, if_neg (by omega)]
        show _ = if hi 6 0 8 < hi 42 0 (10 * x + k) then hi 6 0 8 else hi 42 0 (10 * x + k)
        unfold endH
        have k1' : k < hi 3 x 2 := k1
        rw [if_pos ⟨rfl, rfl, k0, k1'⟩, o2.2, if_pos g8]
      · rw [(x2 x q).1]
        unfold endH
        rw [if_neg (by omega)]
        exact o2.2
    · have o := hI.han l p l0 l1 p0 p1
      have ad := fun M => hanI_in (hi := hi) (hi' := (up1 (up1 (up1 (thr (up1 (hanH hi b) 60 0 0 v)) 45 0 K (if hi 46 0 K = hi 6 0 8 / 30 then hi 45 0 K + 1 else 1)) 46 0 K (hi 6 0 8 / 30)) 35 0 b (hi 6 0 8))) (nb := nb) (l := l) (p := p) (M := M) b0 b1 g8 (fun x => x1 x 1 (by decide) (by decide)) x2
      rw [x3.1, x3.2] at ad
      have s6 : ∀ F : Hi, up1 (up1 (up1 (thr (up1 F 60 0 0 v)) 45 0 K (if hi 46 0 K = hi 6 0 8 / 30 then hi 45 0 K + 1 else 1)) 46 0 K (hi 6 0 8 / 30)) 35 0 b (hi 6 0 8) 6 0 8 = F 6 0 8 := fun F => rfl
      rw [s6]
      show 0 ≤ up1 hi 46 0 K (hi 6 0 8 / 30) 46 0 (6 * l + p) ∧ up1 hi 46 0 K (hi 6 0 8 / 30) 46 0 (6 * l + p) ≤ hi 6 0 8 / 30 ∧ up1 hi 45 0 K (if hi 46 0 K = hi 6 0 8 / 30 then hi 45 0 K + 1 else 1) 45 0 (6 * l + p) = hanI _ nb l p (up1 hi 46 0 K (hi 6 0 8 / 30) 46 0 (6 * l + p)) ∧ ∀ M, up1 hi 46 0 K (hi 6 0 8 / 30) 46 0 (6 * l + p) < M → hanI _ nb l p M = 0
      simp only [ad]
      by_cases q : hi 1 b 1 = l ∧ plcC hi b (hi 6 0 8) = p
      · have eK : 6 * l + p = K := by omega
        rw [eK, up1_s, up1_s]
        rw [q.1, q.2] at hh
        rw [bI_t (P := hi 6 0 8 ≠ -1 ∧ hi 1 b 1 = l ∧ plcC hi b (hi 6 0 8) = p ∧ hi 6 0 8 / 30 = hi 6 0 8 / 30) ⟨by omega, q.1, q.2, rfl⟩]
        refine ⟨by omega, by omega, ?_, fun M hM => ?_⟩
        · by_cases z : hi 46 0 K = hi 6 0 8 / 30
          · rw [if_pos z, hh.2.2.1, z]
          · rw [if_neg z, hh.2.2.2 _ (by omega)]; omega
        · rw [hh.2.2.2 M (by omega), bI_f (fun z => by omega)]
          rfl
      · have eK : ¬ (6 * l + p = K) := by omega
        rw [up1_n (by omega), up1_n (by omega)]
        have zf : ∀ M, bI (hi 6 0 8 ≠ -1 ∧ hi 1 b 1 = l ∧ plcC hi b (hi 6 0 8) = p ∧ hi 6 0 8 / 30 = M) = 0 := fun M => bI_f (fun z => q ⟨z.2.1, z.2.2.1⟩)
        simp only [zf, Int.add_zero]
        exact o
    · unfold morM
      show hi 44 0 K - (if up1 _ 46 0 K (hi 6 0 8 / 30) 46 0 K = hi 7 0 1 / 30 then up1 _ 45 0 K (if hi 46 0 K = hi 6 0 8 / 30 then hi 45 0 K + 1 else 1) 45 0 K else 0) = v
      rw [up1_s, up1_s, y.1, if_pos rfl]
      unfold morM at lf
      rw [y.1] at lf
      by_cases z : hi 46 0 K = hi 6 0 8 / 30
      · rw [if_pos z] at lf
        rw [if_pos z]
        omega
      · rw [if_neg z] at lf
        rw [if_neg z]
        omega
  have hW := W_handIn hI (b := b)
  rw [hv] at hW
  refine both_mk (v := v) (H2 := mhaH (thr (up1 (hanH hi b) 60 0 0 v)) b) hI hW (fun h => by have k := (K_X7_handIn (b := b) hI.mv).no (by rw [c9]; exact h); rw [c9] at k; exact k) (fun h => ?_) (fun h => ⟨rfl, rfl, (hT h).1⟩)
  have k := (K_X7_handIn (hi := up1 (hanH hi b) 60 0 0 v) (nb := nb) (nk := nk) (b := b) hI.mv).ok (c9.trans h)
  rw [(hT h).2] at k
  exact k
end ST3
