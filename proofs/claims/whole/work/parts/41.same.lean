/-! ===== the class and the reference answer alike ===== -/
section SAME
variable {hi : Hi} {nb nk : Int}
theorem plcMC (hI : Inv hi nb nk) {b day : Int} (h0 : 0 ≤ b) (h1 : b < nb) : plcM hi b day = plcC hi b day := by
  have a := hI.rep b h0 h1
  unfold plcM plcC plcI mD mE mP
  rw [a.1.1]
  have e := upI_c (ds := fun k => hi 37 0 (30 * b + k)) (es := hi 22 b) (day := day) (n := hi 4 b 4) (fun k k0 k1 => (a.2 k k0 k1).1)
  rw [e]
  have r := upI_r (ds := hi 22 b) (day := day) a.1.2.1
  exact livI_c (fun k k0 k1 => ⟨(a.2 k k0 (by omega)).2.1, (a.2 k k0 (by omega)).2.2.1⟩)
theorem dbtMC (hI : Inv hi nb nk) {b : Int} (h0 : 0 ≤ b) (h1 : b < nb) : dbtM hi b = hi 4 b 5 := by
  have a := hI.rep b h0 h1
  unfold dbtM mE mP
  rw [a.1.1, a.1.2.2.2]
  exact dbtI_c (fun k k0 k1 => ⟨(a.2 k k0 k1).2.1, (a.2 k k0 k1).2.2.1⟩)
theorem knoMC (hI : Inv hi nb nk) {b day ev po : Int} (h0 : 0 ≤ b) (h1 : b < nb) : knoM hi b day ev po ↔ knoC hi b day ev po := by
  have a := hI.rep b h0 h1
  unfold knoM knoC mD mE mP
  rw [a.1.1]
  constructor
  · rintro ⟨k, k0, k1, k2⟩
    have := a.2 k k0 k1
    exact ⟨k, k0, k1, by omega, by omega, by omega⟩
  · rintro ⟨k, k0, k1, k2⟩
    have := a.2 k k0 k1
    exact ⟨k, k0, k1, by omega, by omega, by omega⟩
theorem menMC (hI : Inv hi nb nk) {b : Int} (h0 : 0 ≤ b) (h1 : b < nb) : menM hi b = menC hi b := by
  have a := hI.dam b h0 h1
  unfold menM menC menI
  rw [a.1.1]
  refine sI_c (fun k k0 k1 => ?_)
  have x := a.2 k k0 k1
  have y := (hI.std (hi 28 b k) (by omega) (by omega)).1
  simp only [x.1.1, x.2.1, y]
theorem lasMC (hI : Inv hi nb nk) {b day : Int} (h0 : 0 ≤ b) (h1 : b < nb) : lasM hi b day = lasI (hi 26 b) day (hi 3 b 2) := by
  have a := hI.lea b h0 h1
  unfold lasM
  rw [a.1.1]
  exact lasI_c (fun k k0 k1 => (a.2 k k0 k1).1)
theorem holMC (hI : Inv hi nb nk) {b day : Int} (h0 : 0 ≤ b) (h1 : b < nb) : holM hi b day ↔ holC hi b day := by
  have a := hI.lea b h0 h1
  have g := (hI.box b h0 h1).2.2.2.2.1
  unfold holM holC
  rw [lasMC hI h0 h1]
  have r := lasI_r (fs := hi 26 b) (day := day) a.1.2.1
  by_cases q : lasI (hi 26 b) day (hi 3 b 2) = -1
  · simp [q]
  · have x := (a.2 (lasI (hi 26 b) day (hi 3 b 2)) (by omega) (by omega)).2
    rw [x, g.1]
    by_cases z : hi 1 b 8 = -1
    · rw [if_pos z]; omega
    · rw [if_neg z]
      split <;> omega
theorem givMC (hI : Inv hi nb nk) {k : Int} : givI (hi 36 0) nb k = givI (fun b => hi 1 b 7) nb k :=
  sI_c (fun b b0 b1 => by rw [(hI.box b b0 b1).2.2.2.2.2.1])
theorem lacMC (hI : Inv hi nb nk) {k : Int} (h0 : 0 ≤ k) (h1 : k < nk) : lacM hi nb k = lacC hi k := by
  have a := hI.bok k h0 h1
  unfold lacM lacC
  rw [a.2.2.2.1.1, a.2.2.1.1, givMC hI]
  by_cases z : hi 0 k 4 = 0
  · rw [if_pos z, if_pos z, a.2.2.2.2.2 z]
  · rw [if_neg z, if_neg z]
theorem plcC_neg (hI : Inv hi nb nk) {b day : Int} (h0 : 0 ≤ b) (h1 : b < nb) (hd : day < 0) : plcC hi b day = 10 := by
  have a := hI.rep b h0 h1
  unfold plcC plcI
  rw [upI_eq (i := 0) (by omega) a.1.2.1 (fun k k0 k1 => by omega) (by
    by_cases z : hi 4 b 4 = 0
    · exact Or.inl z.symm
    · have := a.2 0 (by omega) (by omega)
      exact Or.inr (by omega))]
  rfl
theorem sI_all {P : Int → Prop} {n : Int} (h : 0 ≤ n) : sI (fun t => bI (P t)) n = n ↔ ∀ t, 0 ≤ t → t < n → P t := by
  obtain ⟨m, rfl⟩ := Int.eq_ofNat_of_zero_le h
  induction m with
  | zero => exact ⟨fun _ t a b => by omega, fun _ => rfl⟩
  | succ m ih =>
    have r := sI_r (f := fun t => bI (P t)) (n := (m : Int)) (a := 0) (b := 1) (fun i _ _ => bI_le) (by omega)
    have e : ((m + 1 : Nat) : Int) = (m : Int) + 1 := by omega
    rw [e, sI_s (by omega)]
    have b9 := bI_le (P := P m)
    constructor
    · intro z t t0 t1
      have ih2 := (ih (by omega)).mp (by omega)
      by_cases q : t = m
      · rw [q]; exact bI_ne.mp (by omega)
      · exact ih2 t t0 (by omega)
    · intro z
      rw [(ih (by omega)).mpr (fun t t0 t1 => z t t0 (by omega)), bI_t (z m (by omega) (by omega))]
theorem payMC (hI : Inv hi nb nk) {b day : Int} (h0 : 0 ≤ b) (h1 : b < nb) : payM hi b day = payC hi b day := by
  have d := hI.day
  unfold vDay at d
  have g := (hI.box b h0 h1).2.1
  have c : cusM hi b day ↔ sI (fun t => bI (plcC hi b (day - hi 6 0 9 + t) = 11)) (hi 6 0 9 + 1) = hi 6 0 9 + 1 := by
    rw [sI_all (by omega)]
    unfold cusM
    rw [d.2.2.2.1]
    constructor
    · rintro ⟨_, z⟩ t t0 t1
      rw [← plcMC hI h0 h1]
      exact z _ (by omega) (by omega)
    · intro z
      refine ⟨?_, fun x x0 x1 => ?_⟩
      · by_cases q : hi 6 0 9 ≤ day
        · exact q
        · have := z 0 (by omega) (by omega)
          rw [plcC_neg hI h0 h1 (by omega)] at this
          omega
      · have := z (x - (day - hi 6 0 9)) (by omega) (by omega)
        rw [show day - hi 6 0 9 + (x - (day - hi 6 0 9)) = x by omega] at this
        rw [plcMC hI h0 h1]
        exact this
  have l : bI (holM hi b day) = bI (holC hi b day) := bI_iff (holMC hI h0 h1)
  unfold payM payC
  rw [g.1, l]
  by_cases z : cusM hi b day
  · rw [if_pos (bI_t z), if_pos (c.mp z)]
  · rw [if_neg (by rw [bI_f z]; decide), if_neg (fun q => z (c.mpr q))]
theorem isMC (hI : Inv hi nb nk) {b w : Int} (h0 : 0 ≤ b) (h1 : b < nb) : isM hi b w = isC hi b w := by
  have g := hI.box b h0 h1
  have d := hI.day
  unfold vDay at d
  unfold isM isC
  rw [g.1.1, g.2.1.1, g.2.2.2.1.1, g.2.2.2.2.1.1, g.2.2.2.2.2.1, menMC hI h0 h1, dbtMC hI h0 h1, d.1, bI_iff (holMC hI h0 h1)]
theorem hanMC (hI : Inv hi nb nk) {l p : Int} (l0 : 0 ≤ l) (l1 : l < 3) (p0 : 0 ≤ p) (p1 : p < 6) : (if hi 46 0 (6 * l + p) = hi 7 0 1 / 30 then hi 45 0 (6 * l + p) else 0) = hanI hi nb l p (hi 6 0 8 / 30) := by
  have a := hI.han l p l0 l1 p0 p1
  have d := hI.day
  unfold vDay at d
  rw [d.1]
  by_cases z : hi 46 0 (6 * l + p) = hi 6 0 8 / 30
  · rw [if_pos z, a.2.2.1, z]
  · rw [if_neg z, a.2.2.2 _ (by omega)]
theorem lefMC (hI : Inv hi nb nk) {b : Int} (h0 : 0 ≤ b) (h1 : b < nb) (l0 : 0 ≤ hi 1 b 1) (l1 : hi 1 b 1 < 3) (p0 : 0 ≤ plcC hi b (hi 6 0 8)) (p1 : plcC hi b (hi 6 0 8) < 6) : morM hi (6 * hi 32 0 b + plcM hi b (hi 7 0 1)) = lefC hi nb b := by
  have g := hI.box b h0 h1
  have d := hI.day
  unfold vDay at d
  unfold morM lefC
  rw [plcMC hI h0 h1, d.1, g.2.1.1, (hI.quo _ _ l0 l1 p0 p1).1]
  have := hanMC hI l0 l1 p0 p1
  rw [d.1] at this
  rw [this]
theorem handMC (hI : Inv hi nb nk) {b : Int} : cM_handIn hi nb b = cC_handIn hi nb b := by
  unfold cM_handIn cC_handIn
  by_cases h : 0 ≤ b ∧ b < nb
  · rw [if_neg (c := ¬ (0 ≤ b ∧ b < nb)) (fun z => z h), if_neg (c := ¬ (0 ≤ b ∧ b < nb)) (fun z => z h)]
    have g := hI.box b h.1 h.2
    have d := hI.day
    unfold vDay at d
    have e : chaM hi b ↔ hi 1 b 8 = -1 ∧ holC hi b (hi 6 0 8) ∧ (0 ≤ plcC hi b (hi 6 0 8) ∧ plcC hi b (hi 6 0 8) < 6) ∧ hi 1 b 7 = -1 ∧ 0 < lefC hi nb b := by
      have l := holMC hI (day := hi 6 0 8) h.1 h.2
      unfold chaM
      constructor
      · rintro ⟨z1, z2, z3, z4, z5⟩
        rw [d.1] at z2
        have z2' := l.mp z2
        have ls := hI.less h.1 h.2 z2'
        rw [plcMC hI h.1 h.2, d.1] at z3
        rw [lefMC hI h.1 h.2 ls.1 ls.2 z3.1 z3.2] at z5
        exact ⟨by omega, z2', z3, by omega, z5⟩
      · rintro ⟨z1, z2, z3, z4, z5⟩
        have ls := hI.less h.1 h.2 z2
        have e5 := lefMC hI h.1 h.2 ls.1 ls.2 z3.1 z3.2
        refine ⟨by omega, by rw [d.1]; exact l.mpr z2, by rw [plcMC hI h.1 h.2, d.1]; exact z3, by omega, by rw [e5]; exact z5⟩
    by_cases z : chaM hi b
    · obtain ⟨z1, z2, z3, z4, z5⟩ := e.mp z
      rw [bI_t z, bI_t z2]
      rw [if_neg (by decide), if_neg (by omega), if_neg (by decide), if_neg (by omega), if_neg (by omega), if_neg (by omega)]
    · rw [bI_f z, if_pos rfl]
      by_cases z2 : holC hi b (hi 6 0 8)
      · rw [bI_t z2]
        have : ¬ (hi 1 b 8 = -1 ∧ (0 ≤ plcC hi b (hi 6 0 8) ∧ plcC hi b (hi 6 0 8) < 6) ∧ hi 1 b 7 = -1 ∧ 0 < lefC hi nb b) := fun q => z (e.mpr ⟨q.1, z2, q.2⟩)
        (repeat' split) <;> omega
      · rw [bI_f z2]
        (repeat' split) <;> omega
  · rw [if_pos h, if_pos h]
theorem laaMC (hI : Inv hi nb nk) {kd po : Int} : laaM hi nb nk kd po = sI (fun k => if hi 0 k 0 = po ∧ hi 0 k 1 = kd then lacC hi k else 0) nk := by
  unfold laaM
  refine sI_c (fun k k0 k1 => ?_)
  have a := hI.bok k k0 k1
  rw [lacMC hI k0 k1, a.1.1, a.2.1.1]
  by_cases z : hi 0 k 1 = kd ∧ hi 0 k 0 = po
  · rw [if_pos z, if_pos ⟨z.2, z.1⟩]
  · rw [if_neg z, if_neg (fun q => z ⟨q.2, q.1⟩)]
theorem srvMC (hI : Inv hi nb nk) {b po : Int} (h0 : 0 ≤ b) (h1 : b < nb) (p0 : 0 ≤ po) (p1 : po ≤ 5) : (srvM hi b ∧ plcM hi b (hi 7 0 1) = po) ↔ (srvC hi b ∧ plcC hi b (hi 6 0 8) = po) := by
  have g := hI.box b h0 h1
  have d := hI.day
  unfold vDay at d
  unfold srvM srvC
  rw [menMC hI h0 h1, plcMC hI h0 h1, d.1]
  omega
theorem canMC (hI : Inv hi nb nk) {b : Int} (h0 : 0 ≤ b) (h1 : b < nb) : canM hi b ↔ canC hi b ∧ 0 ≤ plcC hi b (hi 6 0 8) ∧ plcC hi b (hi 6 0 8) < 6 := by
  have g := hI.box b h0 h1
  have d := hI.day
  unfold vDay at d
  unfold canM canC
  rw [menMC hI h0 h1, plcMC hI h0 h1, d.1]
  omega
theorem okMC (hI : Inv hi nb nk) {B : Int → Int} {po kd b : Int} (h0 : 0 ≤ b) (h1 : b < nb) (p0 : 0 ≤ po) (p1 : po ≤ 5) : okM hi B po kd b = okS hi B po kd b := by
  have g := hI.box b h0 h1
  have s := srvMC hI h0 h1 p0 p1
  unfold okM okS
  refine bI_iff ?_
  rw [g.1.1]
  constructor
  · rintro ⟨a1, a2, a3, a4⟩
    have := s.mp ⟨a2, a4⟩
    exact ⟨a1, this.1, a3, this.2⟩
  · rintro ⟨a1, a2, a3, a4⟩
    have := s.mpr ⟨a2, a4⟩
    exact ⟨a1, this.1, a3, this.2⟩
theorem gvB_c {ok ok' : Int → Int} {lack k n : Int} {B : Int → Int} (h : ∀ b, 0 ≤ b → b < n → ok b = ok' b) : gvB ok lack k B n = gvB ok' lack k B n := by
  funext b
  unfold gvB
  by_cases z : 0 ≤ b ∧ b < n
  · rw [h b z.1 z.2, gvI_c (n := b) (fun x x0 x1 => h x x0 (by omega))]
  · rw [if_neg (by omega), if_neg (by omega)]
theorem swSV (hI : Inv hi nb nk) {n : Int} (h0 : 0 ≤ n) (h1 : n ≤ nk) {B : Int → Int} : swI hi nb B n = svI hi nb B n := by
  obtain ⟨m, rfl⟩ := Int.eq_ofNat_of_zero_le h0
  have hn := hI.num
  unfold vNum at hn
  induction m with
  | zero => rfl
  | succ m ih =>
    have e : ((m + 1 : Nat) : Int) = (m : Int) + 1 := by omega
    rw [e, swI_s (by omega), svI_s (by omega), ih (by omega) (by omega)]
    have a := hI.bok m (by omega) (by omega)
    have key : ∀ (L : Int) (C : Int → Int) (j : Nat), swK hi nb m L C j = svK hi nb m L C j := by
      intro L C j
      induction j with
      | zero => rfl
      | succ j ihj =>
        simp only [swK, svK]
        rw [ihj, a.1.1, a.2.1.1]
        have q : ∀ b, 0 ≤ b → b < nb → okM hi (svK hi nb m L C j).1 (hi 0 m 0) (hi 0 m 1 + (j : Int)) b = okS hi (svK hi nb m L C j).1 (hi 0 m 0) (hi 0 m 1 + (j : Int)) b := fun b b0 b1 => okMC hI b0 b1 a.1.2.1 a.1.2.2
        rw [gvB_c q, gvI_c q]
    have o : ∀ C : Int → Int, swO hi nb m C = svO hi nb m C := fun C => by
      unfold swO svO
      rw [key, a.2.2.2.1.1, a.2.2.1.1, a.2.1.1]
    rw [o]
end SAME
