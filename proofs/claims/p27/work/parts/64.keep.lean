/-! ===== the calls of the class leave what holds between calls ===== -/
section KP1
variable {hi : Hi} {nb nk : Int}
theorem vLea.c {hi' : Hi} (h : vLea hi nb) (e26 : hi' 26 = hi 26) (e27 : hi' 27 = hi 27) (e3 : hi' 3 = hi 3) (e1 : ∀ x, hi' 1 x 1 = hi 1 x 1 ∧ hi' 1 x 8 = hi 1 x 8) : vLea hi' nb := by
  intro x x0 x1
  rw [e26, e27, e3, (e1 x).1, (e1 x).2]
  exact h x x0 x1
theorem vBok.c {hi' : Hi} (h : vBok hi nb nk) (e0 : hi' 0 = hi 0) (e1 : ∀ x, hi' 1 x 7 = hi 1 x 7) : vBok hi' nb nk := by
  intro x x0 x1
  have e : (fun b => hi' 1 b 7) = fun b => hi 1 b 7 := funext e1
  rw [e0, e]
  exact h x x0 x1
theorem vExt.c {hi' : Hi} (h : vExt hi nb) (e0 : hi' 0 = hi 0) (e1 : ∀ x, hi' 1 x 7 = hi 1 x 7 ∧ hi' 1 x 8 = hi 1 x 8) : vExt hi' nb := by
  intro x x0 x1
  rw [e0, (e1 x).1, (e1 x).2]
  exact h x x0 x1
theorem Inv.wash (hI : Inv hi nb nk) {b u : Int} (h : cC_wash hi nb b u = 0) : Inv (up1 (up1 hi 1 b 6 0) 1 b 5 u) nb nk := by
  have r : 0 ≤ b ∧ b < nb ∧ 0 ≤ u ∧ u ≤ 9999 := by unfold cC_wash at h; (repeat' split at h) <;> omega
  refine ⟨hI.num, hI.day, hI.cst, hI.quo, hI.std, fun x x0 x1 => ?_, hI.rep, hI.lea.c rfl rfl rfl (fun x => by simp [up1]), hI.dam, hI.bok.c rfl (fun x => by simp [up1]), hI.ext.c rfl (fun x => by simp [up1])⟩
  have o := hI.box x x0 x1
  by_cases q : x = b
  · subst q
    simp [up1]
    omega
  · simp [up1, q]
    simp at o
    exact o
theorem Inv.mend (hI : Inv hi nb nk) {b : Int} (h : cC_mend hi nb b = 0) : Inv (up1 hi 2 b 2 0) nb nk := by
  refine ⟨hI.num, hI.day, hI.cst, hI.quo, hI.std, hI.box, hI.rep, hI.lea, fun x x0 x1 => ?_, hI.bok, hI.ext⟩
  have o := hI.dam x x0 x1
  by_cases q : x = b
  · subst q
    refine ⟨by simp [up1], fun k k0 k1 => ?_⟩
    exfalso
    simp [up1] at k1
    omega
  · have e : up1 hi 2 b 2 0 2 x 2 = hi 2 x 2 := up1_n (by omega)
    rw [e]
    exact o
theorem Inv.lease (hI : Inv hi nb nk) {b fr to : Int} (h : cC_lease hi nb b fr to = 0) : Inv (leaH hi b fr to) nb nk := by
  have r : 0 ≤ b ∧ b < nb ∧ hi 3 b 2 < 10 ∧ hi 1 b 1 ≠ -1 ∧ hi 1 b 8 = -1 := by unfold cC_lease at h; (repeat' split at h) <;> omega
  refine ⟨hI.num, hI.day, hI.cst, hI.quo, hI.std, hI.box, hI.rep, fun x x0 x1 => ?_, hI.dam, hI.bok, hI.ext⟩
  have o := hI.lea x x0 x1
  show (leaH hi b fr to 3 x 2 = leaH hi b fr to 3 x 2 ∧ 0 ≤ leaH hi b fr to 3 x 2 ∧ leaH hi b fr to 3 x 2 ≤ 10 ∧ (0 < leaH hi b fr to 3 x 2 → hi 1 x 1 ≠ -1)) ∧ ∀ k, 0 ≤ k → k < leaH hi b fr to 3 x 2 → leaH hi b fr to 26 x k = leaH hi b fr to 26 x k ∧ (hi 1 x 8 ≠ -1 → leaH hi b fr to 27 x k ≤ hi 1 x 8)
  by_cases q : x = b
  · subst q
    have e : leaH hi x fr to 3 x 2 = hi 3 x 2 + 1 := up1_s
    rw [e]
    exact ⟨⟨rfl, by omega, by omega, fun _ => r.2.2.2.1⟩, fun k k0 k1 => ⟨rfl, fun z => absurd r.2.2.2.2 z⟩⟩
  · have e : leaH hi b fr to 3 x 2 = hi 3 x 2 := by unfold leaH; rw [up1_n (by omega), up1_n (by omega), up1_n (by omega)]
    rw [e]
    refine ⟨o.1, fun k k0 k1 => ⟨rfl, fun z => ?_⟩⟩
    have e2 : leaH hi b fr to 27 x k = hi 27 x k := by unfold leaH; rw [up1_n (by omega), up1_n (by omega), up1_n (by omega)]
    rw [e2]
    exact (o.2 k k0 k1).2 z
theorem damH_n {b co si x k : Int} (q : x ≠ b) {kk : Nat} : damH hi b co si kk x k = hi kk x k := by
  unfold damH
  rw [up1_n (by omega), up1_n (by omega), up1_n (by omega)]
theorem Inv.damage (hI : Inv hi nb nk) {b co si : Int} (h : cC_damage hi nb b co si = 0) : Inv (damH hi b co si) nb nk := by
  have r : 0 ≤ b ∧ b < nb ∧ hi 2 b 2 < 12 ∧ 0 ≤ co ∧ co < 5 ∧ 1 ≤ si ∧ si ≤ 20 := by unfold cC_damage at h; (repeat' split at h) <;> omega
  refine ⟨hI.num, hI.day, hI.cst, hI.quo, hI.std, hI.box, hI.rep, hI.lea, fun x x0 x1 => ?_, hI.bok, hI.ext⟩
  have o := hI.dam x x0 x1
  by_cases q : x = b
  · subst q
    have e : damH hi x co si 2 x 2 = hi 2 x 2 + 1 := up1_s
    rw [e]
    refine ⟨by omega, fun k k0 k1 => ?_⟩
    by_cases z : k = hi 2 x 2
    · have e28 : damH hi x co si 28 x k = co := by unfold damH; rw [up1_n (by omega), up1_n (by omega), z]; exact up1_s
      have e29 : damH hi x co si 29 x k = si := by unfold damH; rw [up1_n (by omega), z]; exact up1_s
      rw [e28, e29]
      omega
    · have e28 : damH hi x co si 28 x k = hi 28 x k := by unfold damH; rw [up1_n (by omega), up1_n (by omega), up1_n (by omega)]
      have e29 : damH hi x co si 29 x k = hi 29 x k := by unfold damH; rw [up1_n (by omega), up1_n (by omega), up1_n (by omega)]
      rw [e28, e29]
      exact o.2 k k0 (by omega)
  · have e : ∀ kk : Nat, damH hi b co si kk x = hi kk x := fun kk => funext fun k => damH_n q
    rw [e 2, e 28, e 29]
    exact o
theorem Inv.pass (hI : Inv hi nb nk) {d : Int} (h : cC_pass hi d = 0) : Inv (up1 hi 6 0 8 (hi 6 0 8 + d)) nb nk := by
  have r : 1 ≤ d ∧ d ≤ 400 ∧ hi 6 0 8 + d ≤ 9999 := by unfold cC_pass at h; (repeat' split at h) <;> omega
  have e := hI.day
  unfold vDay at e
  refine ⟨hI.num, ?_, hI.cst, hI.quo, hI.std, fun b b0 b1 => ?_, fun b b0 b1 => ?_, hI.lea, hI.dam, hI.bok, hI.ext⟩
  · show hi 6 0 8 + d = hi 6 0 8 + d ∧ 0 ≤ hi 6 0 8 + d ∧ hi 6 0 8 + d ≤ 9999 ∧ hi 6 0 9 = 5 ∧ 0 ≤ hi 6 0 9 ∧ hi 6 0 9 ≤ 30 ∧ hi 6 0 10 = 500 ∧ 0 ≤ hi 6 0 10 ∧ hi 6 0 10 ≤ 9999
    omega
  · have g := hI.box b b0 b1
    exact ⟨g.1, g.2.1, g.2.2.1, g.2.2.2.1, ⟨rfl, g.2.2.2.2.1.2.1, by show hi 1 b 8 ≤ hi 6 0 8 + d; omega⟩, g.2.2.2.2.2⟩
  · have g := hI.rep b b0 b1
    refine ⟨g.1, fun k k0 k1 => ?_⟩
    have g2 := g.2 k k0 k1
    exact ⟨by show hi 22 b k ≤ hi 6 0 8 + d; omega, g2.2⟩
theorem insH_k {b n P d e p k : Int} : insH hi b n P d e p 22 b k = (if k = P then d else if P < k ∧ k ≤ n then hi 22 b (k - 1) else hi 22 b k) ∧ insH hi b n P d e p 23 b k = (if k = P then e else if P < k ∧ k ≤ n then hi 23 b (k - 1) else hi 23 b k) ∧ insH hi b n P d e p 24 b k = (if k = P then p else if P < k ∧ k ≤ n then hi 24 b (k - 1) else hi 24 b k) := by
  refine ⟨?_, ?_, ?_⟩ <;> simp [insH, up1, shH]
theorem telH_o {b d e p : Int} {kk : Nat} {i j : Int} (h : i ≠ b ∨ (kk ≠ 4 ∧ kk ≠ 22 ∧ kk ≠ 23 ∧ kk ≠ 24 ∧ kk ≠ 25)) : telH hi b d e p kk i j = hi kk i j := by
  unfold telH livH
  rw [if_neg (by omega), if_neg (by omega)]
  unfold insH
  rw [up1_n (by omega), up1_n (by omega), up1_n (by omega), up1_n (by omega)]
  unfold shH
  rw [if_neg (by omega)]
/-- the rows of reports of the box told of: those of insH -/
theorem telH_v {b d e p : Int} : telH hi b d e p 4 b 4 = hi 4 b 4 + 1 ∧ telH hi b d e p 22 b = insH hi b (hi 4 b 4) (posI (hi 22 b) d (hi 4 b 4)) d e p 22 b ∧ telH hi b d e p 23 b = insH hi b (hi 4 b 4) (posI (hi 22 b) d (hi 4 b 4)) d e p 23 b ∧ telH hi b d e p 24 b = insH hi b (hi 4 b 4) (posI (hi 22 b) d (hi 4 b 4)) d e p 24 b := by
  refine ⟨?_, rfl, rfl, rfl⟩
  unfold telH livH
  rw [if_neg (by omega), if_neg (by omega)]
  unfold insH
  exact up1_s
theorem Inv.told (hI : Inv hi nb nk) {b d e p : Int} (b0 : 0 ≤ b) (b1 : b < nb) (ht : hi 4 b 4 < 30) (hd : 0 ≤ d ∧ d ≤ hi 6 0 8) (he : 0 ≤ e ∧ e ≤ 3) (hp : 0 ≤ p ∧ p < 6) : Inv (telH hi b d e p) nb nk := by
  have y := hI.day
  unfold vDay at y
  have l := hI.rep b b0 b1
  have r := posI_r (ds := hi 22 b) (day := d) l.1.2.1
  refine ⟨hI.num, hI.day, hI.cst, hI.quo, hI.std, hI.box, fun x x0 x1 => ?_, hI.lea, hI.dam, hI.bok, hI.ext⟩
  have o := hI.rep x x0 x1
  by_cases q : x = b
  · subst q
    have tv := telH_v (hi := hi) (b := x) (d := d) (e := e) (p := p)
    have t5 : telH hi x d e p 4 x 5 = dbtI (telH hi x d e p 23 x) (telH hi x d e p 24 x) (hi 4 x 4 + 1) := by
      rw [tv.2.2.1, tv.2.2.2]
      unfold telH livH
      rw [if_neg (by omega), if_pos ⟨rfl, rfl, rfl⟩]
    have t6 : telH hi x d e p 6 0 8 = hi 6 0 8 := rfl
    rw [tv.1, t5, t6]
    refine ⟨⟨rfl, by omega, by omega, rfl⟩, fun k k0 k1 => ?_⟩
    have t25 : telH hi x d e p 25 x k = livI (telH hi x d e p 23 x) (telH hi x d e p 24 x) (k + 1) := by
      rw [tv.2.2.1, tv.2.2.2]
      unfold telH livH
      rw [if_pos ⟨rfl, rfl, k0, k1⟩]
    rw [t25]
    have ik := insH_k (hi := hi) (b := x) (n := hi 4 x 4) (P := posI (hi 22 x) d (hi 4 x 4)) (d := d) (e := e) (p := p) (k := k)
    have a22 : hi 22 x k ≤ hi 6 0 8 ∨ k = hi 4 x 4 := by
      by_cases z : k = hi 4 x 4
      · exact Or.inr z
      · exact Or.inl (o.2 k k0 (by omega)).1
    rw [show telH hi x d e p 22 x k = _ from congrFun tv.2.1 k, show telH hi x d e p 23 x k = _ from congrFun tv.2.2.1 k, show telH hi x d e p 24 x k = _ from congrFun tv.2.2.2 k, ik.1, ik.2.1, ik.2.2]
    by_cases z1 : k = posI (hi 22 x) d (hi 4 x 4)
    · simp only [if_pos z1]
      exact ⟨hd.2, he, hp, trivial, by omega, by omega⟩
    · simp only [if_neg z1]
      by_cases z2 : posI (hi 22 x) d (hi 4 x 4) < k ∧ k ≤ hi 4 x 4
      · simp only [if_pos z2]
        have u := o.2 (k - 1) (by omega) (by omega)
        exact ⟨u.1, u.2.1, u.2.2.1, trivial, u.2.2.2.2⟩
      · simp only [if_neg z2]
        have u := o.2 k (by omega) (by omega)
        exact ⟨u.1, u.2.1, u.2.2.1, trivial, u.2.2.2.2⟩
  · have tf : ∀ (kk : Nat), telH hi b d e p kk x = hi kk x := fun kk => funext fun j => telH_o (Or.inl q)
    have t6 : telH hi b d e p 6 0 8 = hi 6 0 8 := rfl
    rw [tf 4, tf 22, tf 23, tf 24, tf 25, t6]
    exact o
theorem Inv.handed (hI : Inv hi nb nk) {b : Int} (h : cC_handIn hi nb b = 0) : Inv (hanH hi b) nb nk := by
  have y := hI.day
  unfold vDay at y
  have r : (0 ≤ b ∧ b < nb) ∧ hi 1 b 8 = -1 ∧ hi 1 b 7 = -1 := by unfold cC_handIn at h; (repeat' split at h) <;> omega
  have x1 : ∀ x j, j ≠ 8 → j ≠ 9 → hanH hi b 1 x j = hi 1 x j := fun x j j8 j9 => by
    simp [hanH, up1, endH, j8, j9]
  have x2 : ∀ x, x ≠ b → hanH hi b 1 x 8 = hi 1 x 8 := fun x hx => by
    simp [hanH, up1, endH, hx]
  have x3 : hanH hi b 1 b 8 = hi 6 0 8 := by
    simp [hanH, up1]
  refine ⟨hI.num, hI.day, hI.cst, hI.quo, hI.std, fun x x0 xn => ?_, hI.rep, fun x x0 xn => ?_, hI.dam, hI.bok.c rfl (fun x => x1 x 7 (by decide) (by decide)), fun x x0 xn => ?_⟩
  · have o := hI.box x x0 xn
    rw [x1 x 0 (by decide) (by decide), x1 x 1 (by decide) (by decide), x1 x 5 (by decide) (by decide), x1 x 6 (by decide) (by decide), x1 x 7 (by decide) (by decide)]
    by_cases q : x = b
    · subst q
      rw [x3]
      exact ⟨o.1, o.2.1, o.2.2.1, o.2.2.2.1, ⟨rfl, by omega, Int.le_refl _⟩, o.2.2.2.2.2⟩
    · rw [x2 x q]
      exact o
  · have o := hI.lea x x0 xn
    rw [x1 x 1 (by decide) (by decide)]
    refine ⟨o.1, fun k k0 k1 => ⟨rfl, fun z => ?_⟩⟩
    have o2 := o.2 k k0 k1
    show endH hi b (hi 6 0 8) (hi 3 b 2) 27 x k ≤ _
    unfold endH
    by_cases q : x = b
    · subst q
      have k1' : k < hi 3 x 2 := k1
      rw [x3, if_pos ⟨rfl, rfl, k0, k1'⟩]
      split <;> omega
    · rw [x2 x q] at z ⊢
      rw [if_neg (by omega)]
      exact o2.2 z
  · have o := hI.ext x x0 xn
    show 0 ≤ hanH hi b 1 x 7 → hanH hi b 1 x 8 = -1 ∧ hi 0 (hanH hi b 1 x 7) 4 = 0
    rw [x1 x 7 (by decide) (by decide)]
    intro z
    have hx : x ≠ b := fun e => by rw [e] at z; omega
    rw [x2 x hx]
    exact o z
end KP1
