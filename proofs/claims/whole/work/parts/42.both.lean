/-! ===== a call of the class and the same call of the reference ===== -/
def Both (IL IM : MI) (avL avM : List Av) (hi : Hi) (nb nk : Int) : Prop := ∃ (cd b : Int) (hi1 hi2 : Hi) (nb1 nk1 : Int), Det IL avL (hp hi nb nk) (some (aI cd)) (hp hi1 nb1 nk1) ∧ Det IM avM (hp hi1 nb1 nk1) (some (aI b)) (hp hi2 nb1 nk1) ∧ hi2 7 0 0 = cd ∧ (cd = 0 → hi2 60 0 0 = b) ∧ Inv hi2 nb1 nk1
theorem Con_mono {I : MI} {av : List Av} {h : Hp} {Q Q' : Option Av → Hp → Prop} {X X' : String → Hp → Prop} (c : Con I av h Q X) (hQ : ∀ r h, Q r h → Q' r h) (hX : ∀ E h, X E h → X' E h) : Con I av h Q' X' := by
  intro l D cA z0 ad hl p e a1 a2 a3 s m args below b1 b2 b3 b4
  obtain ⟨n, o, c1, c2, c3, c4⟩ := c l D cA z0 ad hl p e a1 a2 a3 s m args below b1 b2 b3 b4
  refine ⟨n, o, c1, c2, c3, ?_⟩
  rcases c4 with ⟨⟨r, h1, ad1, e1, q, w⟩, L⟩ | ⟨q, e1, E, ce, L, ⟨h1, ad1, x, y⟩, w⟩
  · exact Or.inl ⟨⟨r, h1, ad1, e1, hQ _ _ q, w⟩, L⟩
  · exact Or.inr ⟨q, e1, E, ce, L, ⟨h1, ad1, hX _ _ x, y⟩, w⟩
theorem MOp.no {I : MI} {av : List Av} {hi : Hi} {nb nk cd : Int} {r0 res : Option Av} {h2 : Hp} (h : MOp I av hi nb nk cd r0 res h2) (hc : cd ≠ 0) : Det I av (hp hi nb nk) r0 (hp (up1 hi 7 0 0 cd) nb nk) := by
  unfold Det
  refine Con_mono h ?_ (fun _ _ z => z)
  rintro r1 h1 (⟨z, _⟩ | ⟨_, z1, z2⟩)
  · exact absurd z hc
  · exact ⟨z1, z2⟩
theorem MOp.ok {I : MI} {av : List Av} {hi : Hi} {nb nk cd : Int} {r0 res : Option Av} {h2 : Hp} (h : MOp I av hi nb nk cd r0 res h2) (hc : cd = 0) : Det I av (hp hi nb nk) res h2 := by
  unfold Det
  refine Con_mono h ?_ (fun _ _ z => z)
  rintro r1 h1 (⟨_, z1, z2⟩ | ⟨z, _⟩)
  · exact ⟨z1, z2⟩
  · exact absurd hc z
section BO
variable {hi : Hi} {nb nk : Int}
theorem Inv.mv (hI : Inv hi nb nk) : MV hi nb nk := by
  have n := hI.num
  have d := hI.day
  unfold vNum at n
  unfold vDay at d
  refine ⟨by unfold mNum; omega, fun x x0 x1 => ?_, fun x x0 x1 => ?_, fun c c0 c1 => ?_, fun b b0 b1 => ?_, fun k k0 k1 => ?_⟩
  · have := hI.cst (x / 6) (x % 6) (by omega) (by omega) (by omega) (by omega)
    rw [show 6 * (x / 6) + x % 6 = x by omega] at this
    omega
  · have a := hI.quo (x / 6) (x % 6) (by omega) (by omega) (by omega) (by omega)
    have c := hI.han (x / 6) (x % 6) (by omega) (by omega) (by omega) (by omega)
    rw [show 6 * (x / 6) + x % 6 = x by omega] at a c
    have e := hanI_r (hi := hi) (nb := nb) (l := x / 6) (p := x % 6) (M := hi 46 0 x) (by omega)
    omega
  · have := hI.std c c0 c1
    omega
  · have g := hI.box b b0 b1
    have r := (hI.rep b b0 b1).1
    have l := (hI.lea b b0 b1).1
    have m := hI.dam b b0 b1
    refine ⟨by omega, by omega, by omega, ⟨by omega, by omega, fun z => by rw [g.2.1.1]; exact l.2.2.2 (by omega)⟩, by omega, fun k k0 k1 => ?_⟩
    have := m.2 k k0 (by omega)
    omega
  · have := hI.bok k k0 k1
    omega
theorem Inv.thrI (hI : Inv hi nb nk) {c : Int} : Inv (up1 hi 7 0 0 c) nb nk :=
  ⟨hI.num, hI.day, hI.cst, hI.quo, hI.std, hI.box, hI.fre, hI.rep, hI.lea, hI.dam, hI.han, hI.bok, hI.nov⟩
theorem both_mk {IL IM : MI} {avL avM : List Av} {cd v nb1 nk1 : Int} {H1 H2 : Hi} (hI : Inv hi nb nk) (hW : Det IL avL (hp hi nb nk) (some (aI cd)) (if cd = 0 then hp H1 nb1 nk1 else hp hi nb nk)) (hA : cd ≠ 0 → Det IM avM (hp hi nb nk) (some (aI 0)) (hp (up1 hi 7 0 0 cd) nb nk))
    (hB : cd = 0 → Det IM avM (hp H1 nb1 nk1) (some (aI v)) (hp H2 nb1 nk1)) (hT : cd = 0 → H2 7 0 0 = 0 ∧ H2 60 0 0 = v ∧ Inv H2 nb1 nk1) : Both IL IM avL avM hi nb nk := by
  by_cases h : cd = 0
  · rw [if_pos h] at hW
    obtain ⟨t1, t2, t3⟩ := hT h
    exact ⟨cd, v, H1, H2, nb1, nk1, hW, hB h, by rw [t1, h], fun _ => t2, t3⟩
  · rw [if_neg h] at hW
    exact ⟨cd, 0, hi, up1 hi 7 0 0 cd, nb, nk, hW, hA h, up1_s, fun z => absurd z h, hI.thrI⟩
theorem J_cost (hI : Inv hi nb nk) {a b c : Int} : Both I_L_cost I_X7_cost [aR 6 0, aI a, aI b, aI c, aR 60 0] [aR 7 0, aI a, aI b, aI c] hi nb nk := by
  refine both_mk (v := hi 9 a b) (H2 := up1 (thr (up1 (up1 hi 9 a b c) 60 0 0 (hi 9 a b))) 30 0 (6 * a + b) c) hI (W_cost hI) (fun h => (K_X7_cost hI.mv).no h) (fun h => ?_) (fun h => ?_)
  · have r : 0 ≤ a ∧ a < 6 ∧ 0 ≤ b ∧ b < 6 ∧ a ≠ b ∧ 0 ≤ c ∧ c ≤ 9999 := by unfold cC_cost at h; (repeat' split at h) <;> omega
    have k := (K_X7_cost (hi := up1 (up1 hi 9 a b c) 60 0 0 (hi 9 a b)) (nb := nb) (nk := nk) (a := a) (b := b) (c := c) hI.mv).ok h
    have e : thr (up1 (up1 hi 9 a b c) 60 0 0 (hi 9 a b)) 30 0 (6 * a + b) = hi 9 a b := (hI.cst a b r.1 r.2.1 r.2.2.1 r.2.2.2.1).1
    rw [e] at k
    exact k
  · have r : 0 ≤ a ∧ a < 6 ∧ 0 ≤ b ∧ b < 6 ∧ a ≠ b ∧ 0 ≤ c ∧ c ≤ 9999 := by unfold cC_cost at h; (repeat' split at h) <;> omega
    refine ⟨rfl, rfl, hI.num, hI.day, fun x y x0 x1 y0 y1 => ?_, hI.quo, hI.std, hI.box, hI.fre, hI.rep, hI.lea, hI.dam, hI.han, hI.bok, hI.nov⟩
    show up1 hi 30 0 (6 * a + b) c 30 0 (6 * x + y) = up1 hi 9 a b c 9 x y ∧ 0 ≤ up1 hi 9 a b c 9 x y ∧ up1 hi 9 a b c 9 x y ≤ 9999
    have o := hI.cst x y x0 x1 y0 y1
    by_cases q : x = a ∧ y = b
    · obtain ⟨rfl, rfl⟩ := q
      rw [up1_s, up1_s]
      omega
    · rw [up1_n (by omega), up1_n (by omega)]
      exact o
end BO
