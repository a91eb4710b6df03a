/-! ===== the calls, one after another: bring, brings ===== -/
def BothR (IL IM : MI) (avL avM : List Av) (hi : Hi) (nb nk : Int) : Prop := Con IL avL (hp hi nb nk) (fun r h => ∃ (cd : Int) (hi1 : Hi) (nb1 nk1 : Int), r = some (aI cd) ∧ h = hp hi1 nb1 nk1 ∧
  Con IM avM (hp hi1 nb1 nk1) (fun r h => ∃ (b : Int) (hi2 : Hi), r = some (aI b) ∧ h = hp hi2 nb1 nk1 ∧ hi2 7 0 0 = cd ∧ (cd = 0 → hi2 60 0 0 = b) ∧ Inv hi2 nb1 nk1) (fun _ _ => False)) (fun _ _ => False)
theorem Both.r {IL IM : MI} {avL avM : List Av} {hi : Hi} {nb nk : Int} (h : Both IL IM avL avM hi nb nk) : BothR IL IM avL avM hi nb nk := by
  obtain ⟨cd, b, hi1, hi2, nb1, nk1, d1, d2, e1, e2, e3⟩ := h
  refine Con_mono d1 ?_ (fun _ _ z => z)
  rintro r h ⟨rfl, rfl⟩
  refine ⟨cd, hi1, nb1, nk1, rfl, rfl, Con_mono d2 ?_ (fun _ _ z => z)⟩
  rintro r h ⟨rfl, rfl⟩
  exact ⟨b, hi2, rfl, rfl, e1, e2, e3⟩
section ST6
variable {hi : Hi} {nb nk : Int}
theorem laMC (hI : Inv hi nb nk) {kd p : Int} : laaM hi nb nk kd p = laC hi nk kd p := laaMC hI
theorem ovMC (hI : Inv hi nb nk) {kd b : Int} (h0 : 0 ≤ b) (h1 : b < nb) : ovM hi nb nk kd b ↔ ovP hi nk kd b := by
  have g := hI.box b h0 h1
  have d := hI.day
  unfold vDay at d
  unfold ovM ovP
  rw [canMC hI h0 h1, plcMC hI h0 h1, d.1, laMC hI, g.1.1]
  have := laC_r (kd := kd) (p := plcC hi b (hi 6 0 8)) hI
  constructor
  · rintro ⟨a1, ⟨a2, a3⟩, a4⟩
    exact ⟨a1, a2, a3, by omega⟩
  · rintro ⟨a1, a2, a3, a4⟩
    exact ⟨a1, ⟨a2, a3⟩, by omega⟩
theorem lasMC6 (hI : Inv hi nb nk) {kd : Int} : sI (laaM hi nb nk kd) 6 = sI (laC hi nk kd) 6 := sI_c (fun p _ _ => laMC hI)
theorem plnMC (hI : Inv hi nb nk) {kd C : Int} {g g' : Hi} (hT : sI (laC hi nk kd) 6 ≤ 5) (hC : PlnC hi nb nk kd g) (hM : PlnM hi nb nk kd C g') :
    g 5 0 10 = C ∧ ∀ u, 0 ≤ u → (if 0 ≤ u ∧ u < g 5 0 8 ∧ u < 5 then g 20 0 u else -1) = (if sI (laaM hi nb nk kd) 6 ≤ u then -1 else if g' 58 0 u = -1 then -1 else g' 56 0 (g' 58 0 u)) := by
  obtain ⟨hD, h8, a, hB, hb⟩ := hC
  obtain ⟨⟨hD', h32, h35⟩, hB', hC0⟩ := hM
  have hn := hI.num
  unfold vNum at hn
  have d := hI.day
  unfold vDay at d
  have eU := lasMC6 hI (kd := kd)
  have eS : ovI (ovM hi nb nk kd) nb = ovI (ovP hi nk kd) nb := sI_c (fun b b0 b1 => bI_iff (ovMC hI b0 b1))
  have D2 : DatP (laC hi nk kd) (ovP hi nk kd) (fun b => plcC hi b (hi 6 0 8)) nb (g' 55 0) (g' 56 0) (g' 57 0) := hD'.c (fun q => laMC hI) (fun b b0 b1 => ovMC hI b0 b1) (fun b b0 b1 => by
    show plcM hi b (hi 7 0 1) = plcC hi b (hi 6 0 8)
    rw [plcMC hI b0 b1, d.1])
  obtain ⟨q1, q2⟩ := hD.eq D2 (by omega)
  have hun := hD.unit
  have hov := hD.over (by omega) (fun b hb => hb.2.2.1)
  rw [eU, eS] at hB'
  have hU0 : 0 ≤ sI (laC hi nk kd) 6 := by
    have := sI_r (f := laC hi nk kd) (n := 6) (a := 0) (b := 180) (fun q _ _ => laC_r hI) (by decide)
    omega
  have E := Bst.eq hU0 hB hB' (fun i v i0 i1 v0 v1 => by
    show hi 9 (g 17 0 i) (g 15 0 v) = hi 30 0 (6 * g' 57 0 i + g' 55 0 v)
    rw [← (q2 i i0 i1).2, ← q1 v v0 v1]
    have a := hov i i0 i1
    have b := hun v v0 v1
    exact (hI.cst _ _ a.1 a.2 b.1 b.2).1.symm)
  refine ⟨E.1, fun u u0 => ?_⟩
  rw [eU, h8]
  by_cases z : u < sI (laC hi nk kd) 6
  · rw [if_pos ⟨u0, z, by omega⟩, if_neg (by omega), hb u u0 z, E.2 u u0 z]
    by_cases y : g' 58 0 u = -1
    · rw [if_pos y, if_pos y]
    · rw [if_neg y, if_neg y]
      rcases hB'.1.rng u u0 z with x | x
      · exact absurd x y
      · exact (q2 _ x.1 x.2).1
  · rw [if_neg (by omega), if_pos (by omega)]
theorem Inv.o60 (hI : Inv hi nb nk) {v : Int} : Inv (up1 hi 60 0 0 v) nb nk := ⟨hI.num, hI.day, hI.cst, hI.quo, hI.std, hI.box, hI.fre, hI.rep, hI.lea, hI.dam, hI.han, hI.bok, hI.nov⟩
theorem J_bring (hI : Inv hi nb nk) {kd : Int} : BothR I_L_bring I_X7_bring [aR 6 0, aI kd, aR 60 0] [aR 7 0, aI kd] hi nb nk := by
  refine Con_mono (W_bring hI) ?_ (fun _ _ z => z)
  have hl : ∀ p, 0 ≤ laaM hi nb nk kd p := fun p => by rw [laMC hI]; exact (laC_r hI).1
  have ecd : mdB hi nb nk kd = cdB hi nk kd := by unfold mdB cdB; rw [laoM_e, lasMC6 hI]
  rintro r h ⟨g, ⟨h0, rfl, rfl, hP⟩ | ⟨h0, rfl, rfl⟩⟩
  · refine ⟨0, _, nb, nk, rfl, rfl, ?_⟩
    have hI1 : Inv (up1 (mix hi g) 60 0 0 (g 5 0 10)) nb nk := hI.mx.o60
    refine Con_mono (K_X7_bring (hi := up1 (mix hi g) 60 0 0 (g 5 0 10)) hI1.mv hl) ?_ (fun _ _ z => z)
    rintro r h (⟨c0, g', C, rfl, rfl, hM⟩ | ⟨c0, _, _⟩)
    · have hM' : PlnM hi nb nk kd C g' := hM
      have hT : sI (laC hi nk kd) 6 ≤ 5 := by unfold cdB at h0; (repeat' split at h0) <;> omega
      have E := plnMC hI hT hP hM'
      exact ⟨C, _, rfl, rfl, rfl, fun _ => E.1, hI1.thrI.mx⟩
    · exact absurd (show mdB hi nb nk kd = 0 by rw [ecd]; exact h0) c0
  · refine ⟨cdB hi nk kd, _, nb, nk, rfl, rfl, ?_⟩
    refine Con_mono (K_X7_bring (hi := mix hi g) hI.mx.mv hl) ?_ (fun _ _ z => z)
    rintro r h (⟨c0, _⟩ | ⟨c0, rfl, rfl⟩)
    · exact absurd (show mdB hi nb nk kd = 0 from c0) (by rw [ecd]; exact h0)
    · exact ⟨0, _, rfl, rfl, (show mdB hi nb nk kd = cdB hi nk kd from ecd), fun z => absurd z h0, hI.mx.thrI⟩
theorem J_brings (hI : Inv hi nb nk) {kd u : Int} : BothR I_L_brings I_X7_brings [aR 6 0, aI kd, aI u, aR 60 0] [aR 7 0, aI kd, aI u] hi nb nk := by
  refine Con_mono (W_brings hI) ?_ (fun _ _ z => z)
  have hl : ∀ p, 0 ≤ laaM hi nb nk kd p := fun p => by rw [laMC hI]; exact (laC_r hI).1
  have ecd : mdS hi nb nk kd u = cdS hi nk kd u := by unfold mdS cdS; rw [laoM_e, lasMC6 hI]
  rintro r h ⟨g, ⟨h0, rfl, rfl, hP⟩ | ⟨h0, rfl, rfl⟩⟩
  · refine ⟨0, _, nb, nk, rfl, rfl, ?_⟩
    have hI1 : Inv (up1 (mix hi g) 60 0 0 (if 0 ≤ u ∧ u < g 5 0 8 ∧ u < 5 then g 20 0 u else -1)) nb nk := hI.mx.o60
    refine Con_mono (K_X7_brings (hi := up1 (mix hi g) 60 0 0 (if 0 ≤ u ∧ u < g 5 0 8 ∧ u < 5 then g 20 0 u else -1)) hI1.mv hl) ?_ (fun _ _ z => z)
    rintro r h (⟨c0, g', C, rfl, rfl, hM⟩ | ⟨c0, _, _⟩)
    · have hM' : PlnM hi nb nk kd C g' := hM
      have hT : sI (laC hi nk kd) 6 ≤ 5 ∧ 0 ≤ u := by unfold cdS at h0; (repeat' split at h0) <;> omega
      have E := plnMC hI hT.1 hP hM'
      exact ⟨_, _, rfl, rfl, rfl, fun _ => E.2 u hT.2, hI1.thrI.mx⟩
    · exact absurd (show mdS hi nb nk kd u = 0 by rw [ecd]; exact h0) c0
  · refine ⟨cdS hi nk kd u, _, nb, nk, rfl, rfl, ?_⟩
    refine Con_mono (K_X7_brings (hi := mix hi g) hI.mx.mv hl) ?_ (fun _ _ z => z)
    rintro r h (⟨c0, _⟩ | ⟨c0, rfl, rfl⟩)
    · exact absurd (show mdS hi nb nk kd u = 0 from c0) (by rw [ecd]; exact h0)
    · exact ⟨0, _, rfl, rfl, (show mdS hi nb nk kd u = cdS hi nk kd u from ecd), fun z => absurd z h0, hI.mx.thrI⟩
end ST6
