/-! ===== what the law asks of the class: places, lives, leases, damages ===== -/
section FA
variable {hi : Hi} {nb nk : Int}
theorem sI_all {P : Int → Prop} {n : Int} (h : 0 ≤ n) : sI (fun t => bI (P t)) n = n ↔ ∀ t, 0 ≤ t → t < n → P t := by
  obtain ⟨m, rfl⟩ := Int.eq_ofNat_of_zero_le h
  induction m with
  | zero => exact ⟨fun _ t a b => by omega, fun _ => rfl⟩
  | succ m ih =>
    have r := sI_r (f := fun t => bI (P t)) (n := (m : Int)) (a := 0) (b := 1) (fun i _ _ => bI_le) (by omega)
    have e : ((m + 1 : Nat) : Int) = (m : Int) + 1 := by omega
    rw [e, sI_s (by omega)]
    have b9 := bI_le (P := P m)
    constructor
    · intro z t t0 t1
      have ih2 := (ih (by omega)).mp (by omega)
      by_cases q : t = m
      · rw [q]; exact bI_ne.mp (by omega)
      · exact ih2 t t0 (by omega)
    · intro z
      rw [(ih (by omega)).mpr (fun t t0 t1 => z t t0 (by omega)), bI_t (z m (by omega) (by omega))]
/-- sums of sums -/
theorem sI_add {f g : Int → Int} (m : Nat) : sI (fun i => f i + g i) m = sI f m + sI g m := by
  induction m with
  | zero => rfl
  | succ m ih =>
    have e : ((m + 1 : Nat) : Int) = (m : Int) + 1 := by omega
    rw [e, sI_s (by omega), sI_s (by omega), sI_s (by omega), ih]
    omega
theorem sI_swap {f : Int → Int → Int} (m n : Nat) : sI (fun p => sI (fun b => f p b) n) m = sI (fun b => sI (fun p => f p b) m) n := by
  induction m with
  | zero =>
    have : sI (fun b => sI (fun p => f p b) ((0 : Nat) : Int)) (n : Int) = sI (fun _ => 0) (n : Int) := rfl
    rw [this]
    have := sI_r (f := fun _ => 0) (n := (n : Int)) (a := 0) (b := 0) (fun i _ _ => by omega) (by omega)
    show 0 = _
    omega
  | succ m ih =>
    have e : ((m + 1 : Nat) : Int) = (m : Int) + 1 := by omega
    rw [e, sI_s (by omega), ih]
    have : (fun b => sI (fun p => f p b) ((m : Int) + 1)) = (fun b => sI (fun p => f p b) (m : Int) + f m b) := funext fun b => sI_s (by omega)
    rw [this, sI_add]
/-- a box is at a port, NOWHERE, on the ROAD or on a SHIP -/
def plOk (x : Int) : Prop := (0 ≤ x ∧ x < 6) ∨ (10 ≤ x ∧ x ≤ 12)
theorem livI_r {ev po : Int → Int} {n : Nat} (h : ∀ k, 0 ≤ k → k < (n : Int) → (0 ≤ po k ∧ po k < 6)) : plOk (livI ev po n) := by
  induction n with
  | zero => exact (show plOk 10 from Or.inr ⟨by decide, by decide⟩)
  | succ n ih =>
    have i := ih (fun k a b => h k a (by omega))
    have e : ((n + 1 : Nat) : Int) = (n : Int) + 1 := by omega
    rw [e, livI_s (by omega)]
    have o := h n (by omega) (by omega)
    unfold stpI
    split
    · unfold behI plOk
      split
      · exact Or.inr ⟨by decide, by decide⟩
      · split
        · exact Or.inr ⟨by decide, by decide⟩
        · exact Or.inl o
    · exact i
theorem plc_r (hI : Inv hi nb nk) {b d : Int} (b0 : 0 ≤ b) (b1 : b < nb) : plOk (plcC hi b d) := by
  have a := hI.rep b b0 b1
  have r := upI_r (ds := hi 22 b) (day := d) a.1.2.1
  unfold plcC plcI
  have e : upI (hi 22 b) d (hi 4 b 4) = ((upI (hi 22 b) d (hi 4 b 4)).toNat : Int) := by omega
  rw [e]
  exact livI_r (fun k k0 k1 => (a.2 k k0 (by omega)).2.2.1)
/-- from today on a box stays where it is -/
theorem plc_now (hI : Inv hi nb nk) {b d : Int} (b0 : 0 ≤ b) (b1 : b < nb) (hd : hi 6 0 8 ≤ d) : plcC hi b d = livI (hi 23 b) (hi 24 b) (hi 4 b 4) := by
  have a := hI.rep b b0 b1
  unfold plcC plcI
  rw [upI_eq (i := hi 4 b 4) a.1.2.1 (Int.le_refl _) (fun k k0 k1 => by have := (a.2 k k0 k1).1; omega) (Or.inl rfl)]
theorem plc_0 (hI : Inv hi nb nk) {b d : Int} (h : hi 4 b 4 = 0) : plcC hi b d = 10 := by
  unfold plcC plcI
  rw [h]
  rfl
theorem menI_0 {co si sd : Int → Int} {n : Int} (hn : 0 ≤ n) (h : ∀ k, 0 ≤ k → k < n → 0 ≤ si k ∧ si k ≤ 20) : 0 ≤ menI co si sd n ∧ menI co si sd n ≤ 1000 * n := by
  have := sI_r (f := fun k => if 0 ≤ co k ∧ co k < 5 ∧ sd (co k) < si k then si k * (co k + 1) * 10 else 0) (n := n) (a := 0) (b := 1000) (fun i i0 i1 => by
    have s := h i i0 i1
    show 0 ≤ (if 0 ≤ co i ∧ co i < 5 ∧ sd (co i) < si i then si i * (co i + 1) * 10 else 0) ∧ (if 0 ≤ co i ∧ co i < 5 ∧ sd (co i) < si i then si i * (co i + 1) * 10 else 0) ≤ 1000
    by_cases q : 0 ≤ co i ∧ co i < 5 ∧ sd (co i) < si i
    · rw [if_pos q]
      have h1 : 0 ≤ si i * (co i + 1) := Int.mul_nonneg s.1 (by omega)
      have h2 : si i * (co i + 1) ≤ 20 * (co i + 1) := Int.mul_le_mul_of_nonneg_right s.2 (by omega)
      omega
    · rw [if_neg q]
      omega) hn
  unfold menI
  omega
theorem men_r (hI : Inv hi nb nk) {b : Int} (b0 : 0 ≤ b) (b1 : b < nb) : 0 ≤ menC hi b ∧ menC hi b ≤ 12000 := by
  have a := hI.dam b b0 b1
  have := menI_0 (co := hi 28 b) (si := hi 29 b) (sd := hi 12 0) (n := hi 2 b 2) a.1.2.1 (fun k k0 k1 => by have := a.2 k k0 k1; omega)
  unfold menC
  omega
/-- behind a mending nothing costs -/
theorem men_z {b : Int} : menC (up1 hi 2 b 2 0) b = 0 := by
  unfold menC
  rw [show up1 hi 2 b 2 0 2 b 2 = 0 from up1_s]
  rfl
/-- a report that was told is known -/
theorem kno_told (hI : Inv hi nb nk) {b d e p : Int} (b0 : 0 ≤ b) (b1 : b < nb) : knoC (telH hi b d e p) b d e p := by
  have a := hI.rep b b0 b1
  have r := posI_r (ds := hi 22 b) (day := d) a.1.2.1
  have tv := telH_v (hi := hi) (b := b) (d := d) (e := e) (p := p)
  have ik := insH_k (hi := hi) (b := b) (n := hi 4 b 4) (P := posI (hi 22 b) d (hi 4 b 4)) (d := d) (e := e) (p := p) (k := posI (hi 22 b) d (hi 4 b 4))
  refine ⟨posI (hi 22 b) d (hi 4 b 4), r.1, by rw [tv.1]; omega, ?_⟩
  rw [show telH hi b d e p 22 b (posI (hi 22 b) d (hi 4 b 4)) = _ from congrFun tv.2.1 _, show telH hi b d e p 23 b (posI (hi 22 b) d (hi 4 b 4)) = _ from congrFun tv.2.2.1 _, show telH hi b d e p 24 b (posI (hi 22 b) d (hi 4 b 4)) = _ from congrFun tv.2.2.2 _, ik.1, ik.2.1, ik.2.2]
  simp
theorem dbt_r (hI : Inv hi nb nk) {b : Int} (b0 : 0 ≤ b) (b1 : b < nb) : 0 ≤ hi 4 b 5 ∧ hi 4 b 5 ≤ 30 := by
  have a := (hI.rep b b0 b1).1
  have := dbtI_r (ev := hi 23 b) (po := hi 24 b) (n := hi 4 b 4) a.2.1
  omega
/-- after a box is handed in: who pays -/
theorem pay_handed (hI : Inv hi nb nk) {b : Int} (h : cC_handIn hi nb b = 0) (hd : hi 6 0 8 ≤ 9000) : payC (hanH hi b) b 9999 = 1 := by
  have r : (0 ≤ b ∧ b < nb) ∧ hi 1 b 8 = -1 ∧ bI (holC hi b (hi 6 0 8)) ≠ 0 ∧ (0 ≤ plcC hi b (hi 6 0 8) ∧ plcC hi b (hi 6 0 8) < 6) := by unfold cC_handIn at h; (repeat' split at h) <;> omega
  obtain ⟨⟨b0, b1⟩, g8, hc, pp⟩ := r
  have y := hI.day
  unfold vDay at y
  have i2 := hI.handed h
  have ls := hI.less b0 b1 (bI_ne.mp hc)
  have e9 : hanH hi b 6 0 9 = 5 := y.2.2.2.1
  have e1 : hanH hi b 1 b 1 = hi 1 b 1 := by simp [hanH, up1, endH]
  have e8 : hanH hi b 1 b 8 = hi 6 0 8 := by simp [hanH, up1]
  have pl : ∀ d, plcC (hanH hi b) b d = plcC hi b d := fun d => rfl
  have n9 := plc_now hI (d := 9999) b0 b1 (by omega)
  have n8 := plc_now hI (d := hi 6 0 8) b0 b1 (by omega)
  unfold payC
  rw [e9, if_neg, if_neg]
  · rw [e1]
    rintro (z | z)
    · omega
    · have hc2 := bI_ne.mp (show bI (holC (hanH hi b) b 9999) ≠ 0 by omega)
      have l := i2.lea b b0 b1
      have q := lasI_r (fs := hanH hi b 26 b) (day := 9999) l.1.2.1
      have l2 := (l.2 (lasI (hanH hi b 26 b) 9999 (hanH hi b 3 b 2)) (by have := hc2.1; omega) q.2.1).2 (by rw [e8]; omega)
      have := hc2.2
      omega
  · intro z
    have := (sI_all (P := fun t => plcC (hanH hi b) b (9999 - 5 + t) = 11) (n := 5 + 1) (by decide)).mp z 5 (by decide) (by decide)
    rw [pl] at this
    have e : (9999 : Int) - 5 + 5 = 9999 := by decide
    rw [e] at this
    omega
theorem lef_r (hI : Inv hi nb nk) {b : Int} (h : cC_handIn hi nb b = 0) : 0 ≤ lefC hi nb b - 1 ∧ lefC hi nb b - 1 < 9 := by
  have r : (0 ≤ b ∧ b < nb) ∧ bI (holC hi b (hi 6 0 8)) ≠ 0 ∧ (0 ≤ plcC hi b (hi 6 0 8) ∧ plcC hi b (hi 6 0 8) < 6) ∧ 0 < lefC hi nb b := by unfold cC_handIn at h; (repeat' split at h) <;> omega
  have hn := hI.num
  unfold vNum at hn
  have ls := hI.less r.1.1 r.1.2 (bI_ne.mp r.2.1)
  have q := hI.quo (hi 1 b 1) (plcC hi b (hi 6 0 8)) ls.1 ls.2 r.2.2.1.1 r.2.2.1.2
  have g := hanI_r (hi := hi) (nb := nb) (l := hi 1 b 1) (p := plcC hi b (hi 6 0 8)) (M := hi 6 0 8 / 30) (by omega)
  have := r.2.2.2
  unfold lefC at this ⊢
  omega
theorem plc_handed {b d : Int} : plcC (hanH hi b) b d = plcC hi b d := rfl
theorem plc_told {b x d : Int} : plcC (up1 (up1 hi 1 x 6 0) 1 x 5 d) b d = plcC hi b d := rfl
/-- the boxes at a port -/
noncomputable def cntI (hi : Hi) (nb d p : Int) : Int := sI (fun b => bI (plcC hi b d = p)) nb
theorem cnt_any {d p : Int} : sI (fun b => bI (((-1 : Int) = -1 ∨ hi 1 b 0 = -1) ∧ plcC hi b d = p)) nb = cntI hi nb d p := sI_c (fun b _ _ => bI_iff ⟨fun z => z.2, fun z => ⟨Or.inl rfl, z⟩⟩)
theorem cnt_kinds (hI : Inv hi nb nk) {d p : Int} : cntI hi nb d p = sI (fun b => bI (((0 : Int) = -1 ∨ hi 1 b 0 = 0) ∧ plcC hi b d = p)) nb + sI (fun b => bI (((1 : Int) = -1 ∨ hi 1 b 0 = 1) ∧ plcC hi b d = p)) nb + sI (fun b => bI (((2 : Int) = -1 ∨ hi 1 b 0 = 2) ∧ plcC hi b d = p)) nb := by
  have hn := hI.num
  unfold vNum at hn
  have e : nb = (nb.toNat : Int) := by omega
  rw [e, ← sI_add, ← sI_add, ← e]
  unfold cntI
  refine sI_c (fun b b0 b1 => ?_)
  have k := (hI.box b b0 b1).1
  by_cases q : plcC hi b d = p
  · rcases (show hi 1 b 0 = 0 ∨ hi 1 b 0 = 1 ∨ hi 1 b 0 = 2 by omega) with z | z | z
    · rw [bI_t q, bI_t ⟨Or.inr z, q⟩, bI_f (fun w => by omega), bI_f (fun w => by omega)]; rfl
    · rw [bI_t q, bI_f (fun w => by omega), bI_t ⟨Or.inr z, q⟩, bI_f (fun w => by omega)]; rfl
    · rw [bI_t q, bI_f (fun w => by omega), bI_f (fun w => by omega), bI_t ⟨Or.inr z, q⟩]; rfl
  · rw [bI_f q, bI_f (fun w => q w.2), bI_f (fun w => q w.2), bI_f (fun w => q w.2)]; rfl
theorem cnt_r {d p : Int} (h : 0 ≤ nb) : 0 ≤ cntI hi nb d p ∧ cntI hi nb d p ≤ nb := by
  have := sI_r (f := fun b => bI (plcC hi b d = p)) (n := nb) (a := 0) (b := 1) (fun i _ _ => bI_le) h
  unfold cntI
  omega
theorem one_port {x : Int} (h : plOk x) : sI (fun p => bI (x = p)) 6 = bI (x < 6) := by
  have e : ∀ f : Int → Int, sI f 6 = f 0 + f 1 + f 2 + f 3 + f 4 + f 5 := fun f => by
    show 0 + f ((0 : Nat) : Int) + f ((1 : Nat) : Int) + f ((2 : Nat) : Int) + f ((3 : Nat) : Int) + f ((4 : Nat) : Int) + f ((5 : Nat) : Int) = _
    simp
  rw [e]
  unfold plOk at h
  rcases (show x = 0 ∨ x = 1 ∨ x = 2 ∨ x = 3 ∨ x = 4 ∨ x = 5 ∨ 6 ≤ x by omega) with q | q | q | q | q | q | q
  · subst q; rw [bI_t rfl, bI_f (by omega), bI_f (by omega), bI_f (by omega), bI_f (by omega), bI_f (by omega), bI_t (by omega)]; rfl
  · subst q; rw [bI_f (by omega), bI_t rfl, bI_f (by omega), bI_f (by omega), bI_f (by omega), bI_f (by omega), bI_t (by omega)]; rfl
  · subst q; rw [bI_f (by omega), bI_f (by omega), bI_t rfl, bI_f (by omega), bI_f (by omega), bI_f (by omega), bI_t (by omega)]; rfl
  · subst q; rw [bI_f (by omega), bI_f (by omega), bI_f (by omega), bI_t rfl, bI_f (by omega), bI_f (by omega), bI_t (by omega)]; rfl
  · subst q; rw [bI_f (by omega), bI_f (by omega), bI_f (by omega), bI_f (by omega), bI_t rfl, bI_f (by omega), bI_t (by omega)]; rfl
  · subst q; rw [bI_f (by omega), bI_f (by omega), bI_f (by omega), bI_f (by omega), bI_f (by omega), bI_t rfl, bI_t (by omega)]; rfl
  · rw [bI_f (by omega), bI_f (by omega), bI_f (by omega), bI_f (by omega), bI_f (by omega), bI_f (by omega), bI_f (by omega)]; rfl
/-- the boxes at ports, counted port by port -/
theorem cnt_sum (hI : Inv hi nb nk) {d : Int} : sI (fun p => cntI hi nb d p) 6 = sI (fun b => bI (plcC hi b d < 6)) nb := by
  have hn := hI.num
  unfold vNum at hn
  unfold cntI
  have e : nb = (nb.toNat : Int) := by omega
  have := sI_swap (f := fun p b => bI (plcC hi b d = p)) 6 nb.toNat
  rw [← e] at this
  refine this.trans (sI_c (fun b b0 b1 => one_port (plc_r hI b0 b1)))
/-- the places that are told by days -/
noncomputable def dayI (hi : Hi) (b d pl : Int) : Int := if pl < 6 ∨ 9 < pl then sI (fun t => bI (plcC hi b (d + t) = pl)) 8 else 0
theorem one_place {x : Int} (h : plOk x) : sI (fun p => if p < 6 ∨ 9 < p then bI (x = p) else 0) 13 = 1 := by
  have e : ∀ f : Int → Int, sI f 13 = f 0 + f 1 + f 2 + f 3 + f 4 + f 5 + f 6 + f 7 + f 8 + f 9 + f 10 + f 11 + f 12 := fun f => by
    show 0 + f ((0 : Nat) : Int) + f ((1 : Nat) : Int) + f ((2 : Nat) : Int) + f ((3 : Nat) : Int) + f ((4 : Nat) : Int) + f ((5 : Nat) : Int) + f ((6 : Nat) : Int) + f ((7 : Nat) : Int) + f ((8 : Nat) : Int) + f ((9 : Nat) : Int) + f ((10 : Nat) : Int) + f ((11 : Nat) : Int) + f ((12 : Nat) : Int) = _
    simp
  have z : ∀ p : Int, bI (x = p) = if x = p then 1 else 0 := fun p => by
    by_cases q : x = p
    · rw [if_pos q, bI_t q]
    · rw [if_neg q, bI_f q]
  rw [e]
  simp only [z]
  unfold plOk at h
  rcases (show x = 0 ∨ x = 1 ∨ x = 2 ∨ x = 3 ∨ x = 4 ∨ x = 5 ∨ x = 10 ∨ x = 11 ∨ x = 12 by omega) with q | q | q | q | q | q | q | q | q <;> (subst q; decide)
theorem day_sum (hI : Inv hi nb nk) {b d : Int} (b0 : 0 ≤ b) (b1 : b < nb) : sI (fun pl => dayI hi b d pl) 13 = 8 := by
  have e : (fun pl => dayI hi b d pl) = fun pl => sI (fun t => if pl < 6 ∨ 9 < pl then bI (plcC hi b (d + t) = pl) else 0) ((8 : Nat) : Int) := by
    funext pl
    unfold dayI
    by_cases q : pl < 6 ∨ 9 < pl
    · rw [if_pos q]
      exact sI_c (fun t _ _ => by rw [if_pos q])
    · rw [if_neg q]
      have : sI (fun t => if pl < 6 ∨ 9 < pl then bI (plcC hi b (d + t) = pl) else 0) ((8 : Nat) : Int) = sI (fun _ => 0) ((8 : Nat) : Int) := sI_c (fun t _ _ => by rw [if_neg q])
      rw [this]
      rfl
  rw [e]
  refine (sI_swap 13 8).trans ?_
  have : sI (fun t => sI (fun pl => if pl < 6 ∨ 9 < pl then bI (plcC hi b (d + t) = pl) else 0) ((13 : Nat) : Int)) ((8 : Nat) : Int) = sI (fun _ => 1) ((8 : Nat) : Int) := sI_c (fun t _ _ => one_place (plc_r hI b0 b1))
  rw [this]
  rfl
theorem day_r {b d pl : Int} : 0 ≤ dayI hi b d pl ∧ dayI hi b d pl ≤ 8 := by
  unfold dayI
  split
  · have := sI_r (f := fun t => bI (plcC hi b (d + t) = pl)) (n := 8) (a := 0) (b := 1) (fun i _ _ => bI_le) (by decide)
    omega
  · decide
end FA
