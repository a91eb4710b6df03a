/-! ===== what the law asks of plans, bookings and serving ===== -/
section PL9
variable {hi : Hi} {nb nk : Int}
theorem Op.ok {I : MI} {av : List Av} {h : Hp} {cd : Int} {res : Option Av} {h2 : Hp} {a b c : Int} (o : Op I av h cd res h2 a b c) (h0 : cd = 0) (ha : a ≠ 0) (hb : b ≠ 0) (hc : c ≠ 0) : Det I av h res h2 := by
  refine Con_mono o (fun r h q => q.2) (fun E h q => ?_)
  rcases q.2 with q2 | q2 | q2 <;> exact absurd q2.2 (by omega)
theorem KL_place (hI : Inv hi nb nk) {b d : Int} (b0 : 0 ≤ b) (b1 : b < nb) (hd : 0 ≤ d ∧ d ≤ 9999) : Det I_X6_place [aR 6 0, aI b, aI d] (hp hi nb nk) (some (aI (plcC hi b d))) (hp hi nb nk) := Op.ok (K_X6_place hI) (by unfold cC_place; (repeat' split) <;> omega) (by decide) (by decide) (by decide)
/-- the boxes of a kind at a port -/
noncomputable def cntK (hi : Hi) (nb d p k : Int) : Int := sI (fun b => bI ((k = -1 ∨ hi 1 b 0 = k) ∧ plcC hi b d = p)) nb
theorem cntK_r {d p k : Int} (h : 0 ≤ nb) : 0 ≤ cntK hi nb d p k ∧ cntK hi nb d p k ≤ nb := by
  have := sI_r (f := fun b => bI ((k = -1 ∨ hi 1 b 0 = k) ∧ plcC hi b d = p)) (n := nb) (a := 0) (b := 1) (fun i _ _ => bI_le) h
  unfold cntK
  omega
theorem KL_cntA (hI : Inv hi nb nk) {p d : Int} (hq : 0 ≤ p ∧ p < 6) (hd : 0 ≤ d ∧ d ≤ 9999) : Det I_X6_count [aR 6 0, aI p, aI (-1), aI d] (hp hi nb nk) (some (aI (cntI hi nb d p))) (hp hi nb nk) := by
  rw [← cnt_any]
  exact Op.ok (K_X6_count hI) (by unfold cC_count; (repeat' split) <;> omega) (by decide) (by decide) (by decide)
theorem KL_cntK (hI : Inv hi nb nk) {p k d : Int} (hq : 0 ≤ p ∧ p < 6) (hk : 0 ≤ k ∧ k ≤ 2) (hd : 0 ≤ d ∧ d ≤ 9999) : Det I_X6_count [aR 6 0, aI p, aI k, aI d] (hp hi nb nk) (some (aI (cntK hi nb d p k))) (hp hi nb nk) := Op.ok (K_X6_count hI) (by unfold cC_count; (repeat' split) <;> omega) (by decide) (by decide) (by decide)
theorem KL_days (hI : Inv hi nb nk) {b d q : Int} (b0 : 0 ≤ b) (b1 : b < nb) (hd : 0 ≤ d ∧ d ≤ 9000) (hq : 0 ≤ q ∧ q ≤ 12) (h : q < 6 ∨ 9 < q) : Det I_X6_days [aR 6 0, aI b, aI d, aI (d + 7), aI q] (hp hi nb nk) (some (aI (dayI hi b d q))) (hp hi nb nk) := by
  have e : dayI hi b d q = sI (fun t => bI (plcC hi b (d + t) = q)) (d + 7 - d + 1) := by
    unfold dayI
    rw [if_pos h, show d + 7 - d + 1 = 8 by omega]
  rw [e]
  exact Op.ok (K_X6_days hI) (by unfold cC_days; (repeat' split) <;> omega) (by decide) (by decide) (by decide)
theorem KL_boxIs (hI : Inv hi nb nk) {b w v : Int} (b0 : 0 ≤ b) (b1 : b < nb) (hw : 0 ≤ w ∧ w ≤ 7) (hv : isC hi b w = v) : Det I_X6_boxIs [aR 6 0, aI b, aI w] (hp hi nb nk) (some (aI v)) (hp hi nb nk) := by
  subst hv
  exact Op.ok (K_X6_boxIs hI) (by unfold cC_boxIs; (repeat' split) <;> omega) (by decide) (by decide) (by decide)
theorem KL_lacks (hI : Inv hi nb nk) {k : Int} (k0 : 0 ≤ k) (k1 : k < nk) : Det I_X6_lacks [aR 6 0, aI k] (hp hi nb nk) (some (aI (lacC hi k))) (hp hi nb nk) := Op.ok (K_X6_lacks hI) (by unfold cC_lacks; (repeat' split) <;> omega) (by decide) (by decide) (by decide)
theorem KL_payer (hI : Inv hi nb nk) {b d : Int} (b0 : 0 ≤ b) (b1 : b < nb) (hd : 0 ≤ d ∧ d ≤ 9999) : Det I_X6_payer [aR 6 0, aI b, aI d] (hp hi nb nk) (some (aI (payC hi b d))) (hp hi nb nk) := Op.ok (K_X6_payer hI) (by unfold cC_payer; (repeat' split) <;> omega) (by decide) (by decide) (by decide)
theorem KL_pass (hI : Inv hi nb nk) {d : Int} (hd : 1 ≤ d ∧ d ≤ 400 ∧ hi 6 0 8 + d ≤ 9999) : Det I_X6_pass [aR 6 0, aI d] (hp hi nb nk) (some (aI (hi 6 0 8 + d))) (hp (up1 hi 6 0 8 (hi 6 0 8 + d)) nb nk) := Op.ok (K_X6_pass hI) (by unfold cC_pass; (repeat' split) <;> omega) (by decide) (by decide) (by decide)
theorem is_0 {b : Int} : isC hi b 0 = hi 1 b 0 := by simp [isC]
theorem is_1 {b : Int} : isC hi b 1 = hi 1 b 1 := by simp [isC]
theorem is_2 {b : Int} : isC hi b 2 = bI (hi 1 b 8 ≠ -1) := by simp [isC]
theorem is_3 {b : Int} : isC hi b 3 = hi 1 b 6 := by simp [isC]
theorem is_4 {b : Int} : isC hi b 4 = hi 1 b 7 := by simp [isC]
theorem is_5 {b : Int} : isC hi b 5 = menC hi b := by simp [isC]
theorem is_6 {b : Int} : isC hi b 6 = hi 4 b 5 := by simp [isC]
theorem is_7 {b : Int} : isC hi b 7 = bI (holC hi b (hi 6 0 8)) := by simp [isC]
theorem is_2z {b : Int} (h : hi 1 b 8 = -1) : isC hi b 2 = 0 := by rw [is_2]; exact bI_f (fun z => z h)
theorem is_2o {b : Int} (h : hi 1 b 8 ≠ -1) : isC hi b 2 = 1 := by rw [is_2]; exact bI_t h
/-- what the law holds of bookings: what each wanted, or 0 where it is over -/
def vWan (hi : Hi) (nk : Int) : Prop := ∀ k, 0 ≤ k → k < nk → hi 60 0 k = if hi 0 k 4 = 0 then hi 0 k 2 else 0
theorem wan_ex (hI : Inv hi nb nk) (hw : vWan hi nk) {b : Int} (b0 : 0 ≤ b) (b1 : b < nb) (h : 0 ≤ hi 1 b 7) : hi 1 b 8 = -1 ∧ 0 < hi 60 0 (hi 1 b 7) := by
  have e := hI.ext b b0 b1 h
  have g := (hI.box b b0 b1).2.2.2.2.2
  have o := hI.bok (hi 1 b 7) h g.2.2
  refine ⟨e.1, ?_⟩
  rw [hw _ h g.2.2, if_pos e.2]
  omega
theorem giv_over (hI : Inv hi nb nk) {k : Int} (k0 : 0 ≤ k) (h : hi 0 k 4 ≠ 0) : givI (fun b => hi 1 b 7) nb k = 0 := by
  have hn := hI.num
  unfold vNum at hn
  have : givI (fun b => hi 1 b 7) nb k = sI (fun _ => 0) nb := sI_c (fun b b0 b1 => bI_f (fun z => h (by have z' : hi 1 b 7 = k := z; have := (hI.ext b b0 b1 (by omega)).2; rw [z'] at this; exact this)))
  rw [this]
  have := sI_r (f := fun _ => 0) (n := nb) (a := 0) (b := 0) (fun i _ _ => by omega) (by omega)
  omega
theorem wan_lac (hI : Inv hi nb nk) (hw : vWan hi nk) {k : Int} (k0 : 0 ≤ k) (k1 : k < nk) : lacC hi k = hi 60 0 k - givI (fun b => hi 1 b 7) nb k ∧ 0 ≤ givI (fun b => hi 1 b 7) nb k ∧ givI (fun b => hi 1 b 7) nb k ≤ 40 ∧ 0 ≤ hi 60 0 k ∧ hi 60 0 k ≤ 9 := by
  have hn := hI.num
  unfold vNum at hn
  have o := hI.bok k k0 k1
  have g := givI_r (B := fun b => hi 1 b 7) (nb := nb) (k := k) (by omega)
  unfold lacC
  rw [hw k k0 k1]
  by_cases q : hi 0 k 4 = 0
  · rw [if_pos q, if_pos q]
    have := o.2.2.2.2.2 q
    omega
  · rw [if_neg q, if_neg q, giv_over hI k0 q]
    omega
/-- arrays that areBookings made, and how many -/
def gvn (hi g : Hi) : Hi := fun k i j => if k = 61 ∨ k = 98 then g k i j else hi k i j
theorem gvn_of {hi h : Hi} (e : ∀ (k : Nat) (i j : Int), k ≠ 61 → k ≠ 98 → h k i j = hi k i j) : h = gvn hi h := by
  funext k i j
  unfold gvn
  split
  · rfl
  next q => exact e k i j (fun z => q (Or.inl z)) (fun z => q (Or.inr z))
theorem gvn_gvn {g g' : Hi} : gvn (gvn hi g) g' = gvn hi g' := by
  funext k i j
  unfold gvn
  split <;> rfl
theorem gvn_up {g : Hi} {k : Nat} {i j v : Int} (h : k = 61 ∨ k = 98) : up1 (gvn hi g) k i j v = gvn hi (up1 g k i j v) := by
  funext k' i' j'
  unfold gvn up1
  by_cases q : k' = k ∧ i' = i ∧ j' = j
  · rw [if_pos q, if_pos q, if_pos (by rw [q.1]; exact h)]
  · rw [if_neg q, if_neg q]
theorem Inv.gv (h : Inv hi nb nk) {g : Hi} : Inv (gvn hi g) nb nk := ⟨h.num, h.day, h.cst, h.quo, h.std, h.box, h.rep, h.lea, h.dam, h.bok, h.ext⟩
theorem zr_61 {g : Int} : zr (HR nb nk) 61 g = HR nb nk := by
  funext k i j
  unfold zr
  split
  next q => obtain ⟨rfl, rfl⟩ := q; rfl
  next => rfl
theorem CN_61 {g : Int} : nS (CN g nb nk) 61 = CN (g + 1) nb nk := by
  funext k
  unfold nS
  by_cases q : k = 61
  · subst q; rfl
  · rw [if_neg q]
    unfold CN
    split <;> first | rfl | exact absurd rfl q
/-- ints of no heap may be told anew -/
theorem r_gh {I : MI} {pc : Nat} {xs : List (Option Av)} {st : List Av} {f f' : Hi} {r : Nat → Int → Int → Rf} {n : Nat → Int} {cs sl : Nat} {Q : Option Av → Hp → Prop} {X : String → Hp → Prop} (e : ∀ k : Nat, (ax_kd k).1 < 14 → f' k = f k) (h : ∀ k i j, ax_32 (f k i j) → ax_32 (f' k i j)) (k : Run I pc xs st (f', r, n) cs sl Q X) : Run I pc xs st (f, r, n) cs sl Q X := by
  intro l p e1 s m args below meth c D cA z0 n0 ad0 ad H locs ls B
  refine k l p e1 s m args below meth c D cA z0 n0 ad0 ad H locs ls ⟨B.1, ⟨fun k i hk h0 h1 => ?_, B.2.1.2.1, fun k i j => h k i j (B.2.1.2.2.1 k i j), B.2.1.2.2.2⟩, B.2.2⟩
  have a := B.2.1.1 k i hk h0 h1
  have ee : ax_e cA ad (f', r, n) k i = ax_e cA ad (f, r, n) k i := by
    unfold ax_e ax_f
    simp only [e k hk]
  rw [ee]
  exact a
/-! plans -/
def brF (g : Hi) (u : Int) : Int := if 0 ≤ u ∧ u < g 5 0 8 ∧ u < 5 then g 20 0 u else -1
theorem pln_same (hI : Inv hi nb nk) {kd : Int} {g g' : Hi} (P : PlnC hi nb nk kd g) (P' : PlnC hi nb nk kd g') {u : Int} : brF g' u = brF g u := by
  have hn := hI.num
  unfold vNum at hn
  obtain ⟨d, e8, a, hb, h20⟩ := P
  obtain ⟨d', e8', a', hb', h20'⟩ := P'
  have de := d.eq d' hn.1
  have hU : 0 ≤ sI (laC hi nk kd) 6 := (sI_r (f := laC hi nk kd) (n := 6) (a := 0) (b := 180) (fun q _ _ => laC_r hI) (by decide)).1 |> fun z => by omega
  have be := hb.eq hU hb' (fun i v i0 i1 v0 v1 => by rw [de.1 v v0 v1, (de.2 i i0 i1).2])
  unfold brF
  rw [e8, e8']
  by_cases q : 0 ≤ u ∧ u < sI (laC hi nk kd) 6 ∧ u < 5
  · rw [if_pos q, if_pos q, h20 u q.1 q.2.1, h20' u q.1 q.2.1, ← be.2 u q.1 q.2.1]
    by_cases z : a u = -1
    · rw [if_pos z, if_pos z]
    · rw [if_neg z, if_neg z]
      have := hb.1.rng u q.1 q.2.1
      exact (de.2 (a u) (by omega) (by omega)).1.symm
  · rw [if_neg q, if_neg q]
/-- what a plan gives to a unit -/
theorem pln_at (hI : Inv hi nb nk) {kd : Int} {g : Hi} (P : PlnC hi nb nk kd g) {u : Int} : brF g u = -1 ∨ (0 ≤ u ∧ u < 5 ∧ 0 ≤ brF g u ∧ brF g u < nb ∧ ovP hi nk kd (brF g u)) := by
  have hn := hI.num
  unfold vNum at hn
  obtain ⟨d, e8, a, hb, h20⟩ := P
  unfold brF
  rw [e8]
  by_cases q : 0 ≤ u ∧ u < sI (laC hi nk kd) 6 ∧ u < 5
  · rw [if_pos q, h20 u q.1 q.2.1]
    by_cases z : a u = -1
    · rw [if_pos z]; exact Or.inl rfl
    · rw [if_neg z]
      have r := hb.1.rng u q.1 q.2.1
      obtain ⟨b, b0, b1, hP, eb⟩ := over_ex hn.1 (show 0 ≤ a u by omega) (show a u < ovI (ovP hi nk kd) nb by omega)
      have := (d.2 b b0 b1 hP).1
      rw [eb, this]
      exact Or.inr ⟨q.1, q.2.2, b0, b1, hP⟩
  · rw [if_neg q]; exact Or.inl rfl
theorem pln_inj (hI : Inv hi nb nk) {kd : Int} {g : Hi} (P : PlnC hi nb nk kd g) {u v : Int} (huv : v < u) (h : 0 ≤ brF g u) : brF g v ≠ brF g u := by
  have hn := hI.num
  unfold vNum at hn
  obtain ⟨d, e8, a, hb, h20⟩ := P
  intro e
  have key : ∀ w, 0 ≤ brF g w → (0 ≤ w ∧ w < sI (laC hi nk kd) 6) ∧ a w ≠ -1 ∧ a w = ovI (ovP hi nk kd) (brF g w) := by
    intro w hw
    unfold brF at hw ⊢
    rw [e8] at hw ⊢
    by_cases q : 0 ≤ w ∧ w < sI (laC hi nk kd) 6 ∧ w < 5
    · rw [if_pos q] at hw ⊢
      rw [h20 w q.1 q.2.1] at hw ⊢
      by_cases z : a w = -1
      · rw [if_pos z] at hw; omega
      · rw [if_neg z] at hw ⊢
        have r := hb.1.rng w q.1 q.2.1
        obtain ⟨b, b0, b1, hP, eb⟩ := over_ex hn.1 (show 0 ≤ a w by omega) (show a w < ovI (ovP hi nk kd) nb by omega)
        have := (d.2 b b0 b1 hP).1
        exact ⟨⟨q.1, q.2.1⟩, z, by rw [eb, this]⟩
    · rw [if_neg q] at hw; omega
  have k1 := key u h
  have k2 := key v (by omega)
  exact hb.1.2.1 v u k2.1.1 huv k1.1.2 k2.2.1 (by rw [k2.2.2, k1.2.2, e])
theorem pln_c0 (hI : Inv hi nb nk) {kd : Int} {g : Hi} (P : PlnC hi nb nk kd g) : 0 ≤ g 5 0 10 ∧ (0 < g 5 0 10 → sI (laC hi nk kd) 6 ≤ 5 → ∃ u, 0 ≤ u ∧ u < 5 ∧ 0 ≤ brF g u) := by
  have hn := hI.num
  unfold vNum at hn
  have hU : 0 ≤ sI (laC hi nk kd) 6 := (sI_r (f := laC hi nk kd) (n := 6) (a := 0) (b := 180) (fun q _ _ => laC_r hI) (by decide)).1 |> fun z => by omega
  obtain ⟨d, e8, a, hb, h20⟩ := id P
  have du := d.unit
  have dv := d.over hn.1 (fun b q => q.2.2.1)
  have cr := cst_r (c := fun i v => hi 9 (g 17 0 i) (g 15 0 v)) hb.1 hU (fun i v i0 i1 v0 v1 => (hI.cst _ _ (dv i i0 i1).1 (dv i i0 i1).2 (du v v0 v1).1 (du v v0 v1).2).2)
  refine ⟨by rw [hb.2.1]; exact cr.1, fun hc h5 => ?_⟩
  rcases Classical.em (∃ u, 0 ≤ u ∧ u < 5 ∧ 0 ≤ brF g u) with z | z
  · exact z
  · exfalso
    have all : ∀ v, 0 ≤ v → v < sI (laC hi nk kd) 6 → a v = -1 := by
      intro v v0 v1
      rcases Classical.em (a v = -1) with y | y
      · exact y
      · exfalso
        refine z ⟨v, v0, by omega, ?_⟩
        unfold brF
        rw [e8, if_pos ⟨v0, v1, by omega⟩, h20 v v0 v1, if_neg y]
        have r := hb.1.rng v v0 v1
        obtain ⟨b, b0, b1, hP, eb⟩ := over_ex hn.1 (show 0 ≤ a v by omega) (show a v < ovI (ovP hi nk kd) nb by omega)
        rw [eb, (d.2 b b0 b1 hP).1]
        exact b0
    have : g 5 0 10 = 0 := by
      rw [hb.2.1]
      exact hsI_z hU (fun v v0 v1 => if_pos (all v v0 v1))
    omega
end PL9
