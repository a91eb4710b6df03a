/-! ===== heaps that differ in what plans are made with; units that lack, boxes that are over ===== -/
def plK (k : Nat) : Bool := k == 5 || (decide (15 ≤ k) && decide (k ≤ 21)) || (decide (55 ≤ k) && decide (k ≤ 59))
/-- g where plans are made, else hi -/
def mix (hi g : Hi) : Hi := fun k i j => if plK k = true then g k i j else if k = 7 ∧ i = 0 ∧ (j = 32 ∨ j = 35) then g k i j else hi k i j
theorem mix_of {hi h : Hi} (e : ∀ (k : Nat) (i j : Int), plK k = false → ¬ (k = 7 ∧ i = 0 ∧ (j = 32 ∨ j = 35)) → h k i j = hi k i j) : h = mix hi h := by
  funext k i j
  unfold mix
  by_cases q : plK k = true
  · rw [if_pos q]
  · rw [if_neg q]
    by_cases z : k = 7 ∧ i = 0 ∧ (j = 32 ∨ j = 35)
    · rw [if_pos z]
    · rw [if_neg z]; exact e k i j (by simpa using q) z
theorem mix_n {hi g : Hi} {k : Nat} {i j : Int} (h : plK k = false) (h7 : ¬ (k = 7 ∧ i = 0 ∧ (j = 32 ∨ j = 35))) : mix hi g k i j = hi k i j := by
  unfold mix
  rw [if_neg (by rw [h]; decide), if_neg h7]
theorem mix_mix {hi g g' : Hi} : mix (mix hi g) g' = mix hi g' := by
  funext k i j
  unfold mix
  by_cases q : plK k = true
  · rw [if_pos q, if_pos q]
  · rw [if_neg q, if_neg q, if_neg q]
    by_cases z : k = 7 ∧ i = 0 ∧ (j = 32 ∨ j = 35)
    · rw [if_pos z, if_pos z]
    · rw [if_neg z, if_neg z, if_neg z]
theorem mix_self {hi : Hi} : mix hi hi = hi := (mix_of (fun _ _ _ _ _ => rfl)).symm
theorem Inv.mx {hi g : Hi} {nb nk : Int} (h : Inv hi nb nk) : Inv (mix hi g) nb nk := ⟨h.num, h.day, h.cst, h.quo, h.std, h.box, h.rep, h.lea, h.dam, h.bok, h.ext⟩
theorem sI_mono {f : Int → Int} {a b : Int} (h0 : 0 ≤ a) (h : a ≤ b) (hf : ∀ i, a ≤ i → i < b → 0 ≤ f i) : sI f a ≤ sI f b := by
  obtain ⟨n, hn⟩ := Int.eq_ofNat_of_zero_le (show 0 ≤ b - a by omega)
  induction n generalizing b with
  | zero => rw [show b = a by omega]; exact Int.le_refl _
  | succ n ih =>
    have := ih (b := b - 1) (by omega) (fun i i0 i1 => hf i i0 (by omega)) (by omega)
    have e := sI_s (f := f) (n := b - 1) (by omega)
    rw [show b - 1 + 1 = b by omega] at e
    have := hf (b - 1) (by omega) (by omega)
    omega
/-- where a unit's port lies in the row of units -/
theorem unit_ex {lk : Int → Int} {n u : Int} (hn : 0 ≤ n) (h0 : 0 ≤ u) (h1 : u < sI lk n) : ∃ q x, 0 ≤ q ∧ q < n ∧ 0 ≤ x ∧ x < lk q ∧ u = sI lk q + x := by
  obtain ⟨m, rfl⟩ := Int.eq_ofNat_of_zero_le hn
  induction m with
  | zero => rw [show ((0 : Nat) : Int) = 0 from rfl, sI_0] at h1; omega
  | succ m ih =>
    have e : ((m + 1 : Nat) : Int) = (m : Int) + 1 := by omega
    by_cases q : u < sI lk m
    · obtain ⟨p, x, a, b, c⟩ := ih (by omega) q
      exact ⟨p, x, a, by omega, c⟩
    · rw [e, sI_s (by omega)] at h1
      exact ⟨m, u - sI lk m, by omega, by omega, by omega, by omega, by omega⟩
noncomputable def ovI (P : Int → Prop) (n : Int) : Int := sI (fun b => bI (P b)) n
theorem ovI_0 {P : Int → Prop} : ovI P 0 = 0 := rfl
theorem ovI_t {P : Int → Prop} {n : Int} (h : 0 ≤ n) (hp : P n) : ovI P (n + 1) = ovI P n + 1 := by unfold ovI; rw [sI_s h, bI_t hp]
theorem ovI_f {P : Int → Prop} {n : Int} (h : 0 ≤ n) (hp : ¬ P n) : ovI P (n + 1) = ovI P n := by unfold ovI; rw [sI_s h, bI_f hp, Int.add_zero]
theorem ovI_r {P : Int → Prop} {n : Int} (h : 0 ≤ n) : 0 ≤ ovI P n ∧ ovI P n ≤ n := by
  have := sI_r (f := fun b => bI (P b)) (n := n) (a := 0) (b := 1) (fun i _ _ => bI_le) h
  unfold ovI
  omega
theorem ovI_m {P : Int → Prop} {a b : Int} (h0 : 0 ≤ a) (h : a ≤ b) : ovI P a ≤ ovI P b := sI_mono h0 h (fun i _ _ => bI_le.1)
theorem ovI_l {P : Int → Prop} {a b : Int} (h0 : 0 ≤ a) (h : a < b) (hp : P a) : ovI P a < ovI P b := by
  have e := ovI_t (P := P) h0 hp
  have := ovI_m (P := P) (a := a + 1) (b := b) (by omega) (by omega)
  omega
theorem over_ex {P : Int → Prop} {n i : Int} (hn : 0 ≤ n) (h0 : 0 ≤ i) (h1 : i < ovI P n) : ∃ b, 0 ≤ b ∧ b < n ∧ P b ∧ i = ovI P b := by
  obtain ⟨m, rfl⟩ := Int.eq_ofNat_of_zero_le hn
  induction m with
  | zero => rw [show ((0 : Nat) : Int) = 0 from rfl, ovI_0] at h1; omega
  | succ m ih =>
    have e : ((m + 1 : Nat) : Int) = (m : Int) + 1 := by omega
    by_cases q : i < ovI P m
    · obtain ⟨b, a, c, d⟩ := ih (by omega) q
      exact ⟨b, a, by omega, d⟩
    · by_cases z : P m
      · rw [e, ovI_t (by omega) z] at h1
        exact ⟨m, by omega, by omega, z, by omega⟩
      · rw [e, ovI_f (by omega) z] at h1
        omega
/-- the rows of a plan: ports of units; boxes that are over, and their ports -/
def DatP (lk : Int → Int) (P : Int → Prop) (pl : Int → Int) (nb : Int) (ru ro rp : Int → Int) : Prop :=
  (∀ q x, 0 ≤ q → q < 6 → 0 ≤ x → x < lk q → ru (sI lk q + x) = q) ∧ ∀ b, 0 ≤ b → b < nb → P b → ro (ovI P b) = b ∧ rp (ovI P b) = pl b
theorem DatP.unit {lk : Int → Int} {P : Int → Prop} {pl : Int → Int} {nb : Int} {ru ro rp : Int → Int} (h : DatP lk P pl nb ru ro rp) : ∀ u, 0 ≤ u → u < sI lk 6 → 0 ≤ ru u ∧ ru u < 6 := fun u u0 u1 => by
  obtain ⟨q, x, a, b, c, d, e⟩ := unit_ex (by omega) u0 u1
  rw [e, h.1 q x a b c d]
  exact ⟨a, b⟩
theorem DatP.over {lk : Int → Int} {P : Int → Prop} {pl : Int → Int} {nb : Int} {ru ro rp : Int → Int} (h : DatP lk P pl nb ru ro rp) (hn : 0 ≤ nb) (hp : ∀ b, P b → 0 ≤ pl b ∧ pl b < 6) : ∀ i, 0 ≤ i → i < ovI P nb → 0 ≤ rp i ∧ rp i < 6 := fun i i0 i1 => by
  obtain ⟨b, a, c, d, e⟩ := over_ex hn i0 i1
  rw [e, (h.2 b a c d).2]
  exact hp b d
theorem DatP.eq {lk : Int → Int} {P : Int → Prop} {pl : Int → Int} {nb : Int} {ru ro rp ru' ro' rp' : Int → Int} (h : DatP lk P pl nb ru ro rp) (h' : DatP lk P pl nb ru' ro' rp') (hn : 0 ≤ nb) : (∀ u, 0 ≤ u → u < sI lk 6 → ru u = ru' u) ∧ ∀ i, 0 ≤ i → i < ovI P nb → ro i = ro' i ∧ rp i = rp' i := by
  refine ⟨fun u u0 u1 => ?_, fun i i0 i1 => ?_⟩
  · obtain ⟨q, x, a, b, c, d, e⟩ := unit_ex (by omega) u0 u1
    rw [e, h.1 q x a b c d, h'.1 q x a b c d]
  · obtain ⟨b, a, c, d, e⟩ := over_ex hn i0 i1
    have x := h.2 b a c d
    have y := h'.2 b a c d
    rw [e, x.1, x.2, y.1, y.2]
    exact ⟨rfl, rfl⟩
theorem DatP.c {lk lk' : Int → Int} {P P' : Int → Prop} {pl pl' : Int → Int} {nb : Int} {ru ro rp : Int → Int} (h : DatP lk P pl nb ru ro rp) (hl : ∀ q, lk q = lk' q) (hP : ∀ b, 0 ≤ b → b < nb → (P b ↔ P' b)) (hp : ∀ b, 0 ≤ b → b < nb → pl b = pl' b) : DatP lk' P' pl' nb ru ro rp := by
  have e : lk = lk' := funext hl
  subst e
  refine ⟨h.1, fun b b0 b1 hb => ?_⟩
  have e2 : ovI P b = ovI P' b := sI_c (fun x x0 x1 => bI_iff (hP x x0 (by omega)))
  have := h.2 b b0 b1 ((hP b b0 b1).mpr hb)
  rw [← e2, ← hp b b0 b1]
  exact this
/-! ===== the class's plan: its rows ===== -/
noncomputable def laC (hi : Hi) (nk kd p : Int) : Int := sI (fun k => if hi 0 k 0 = p ∧ hi 0 k 1 = kd then lacC hi k else 0) nk
theorem laC_r {hi : Hi} {nb nk kd p : Int} (hI : Inv hi nb nk) : 0 ≤ laC hi nk kd p ∧ laC hi nk kd p ≤ 180 := by
  have hn := hI.num
  unfold vNum at hn
  have := sI_r (f := fun k => if hi 0 k 0 = p ∧ hi 0 k 1 = kd then lacC hi k else 0) (n := nk) (a := 0) (b := 9) (fun k k0 k1 => by
    have := lacC_r hI k0 k1
    by_cases q : hi 0 k 0 = p ∧ hi 0 k 1 = kd
    · simp only [q, and_self, if_true]; exact this
    · rw [if_neg q]; omega) (by omega)
  unfold laC
  omega
def plU (lk : Int → Int) (g : Hi) (p : Int) : Prop := g 5 0 8 = sI lk p ∧ g 5 0 9 = 0 ∧ (0 ≤ g 5 0 7 ∧ g 5 0 7 < 64) ∧ (∀ q, 0 ≤ q → q < 6 → (bitI (g 5 0 7) q = 0 ↔ ¬ (q < p ∧ 0 < lk q))) ∧ ∀ q x, 0 ≤ q → q < p → 0 ≤ x → x < lk q → sI lk q + x < 5 → g 15 0 (sI lk q + x) = q
theorem plU.zero {lk : Int → Int} {hi : Hi} : plU lk (clrH hi) 0 := by
  refine ⟨rfl, rfl, ⟨Int.le_refl 0, show (0 : Int) < 64 by decide⟩, fun q q0 q1 => ?_, fun q x q0 q1 => by omega⟩
  constructor
  · intro _; omega
  · intro _
    show bitI 0 q = 0
    unfold bitI
    rw [Int.zero_ediv]
    rfl
theorem plU.step {lk : Int → Int} {g : Hi} {p : Int} (h : plU lk g p) (p0 : 0 ≤ p) (p1 : p < 6) (hl : ∀ q, 0 ≤ lk q) : plU lk (lakH g p (lk p)) (p + 1) := by
  obtain ⟨h1, h2, h3, h4, h5⟩ := h
  unfold lakH
  by_cases c : 0 < lk p
  · rw [if_pos c]
    generalize hm : (if g 5 0 8 + lk p < 5 then g 5 0 8 + lk p else if g 5 0 8 < 5 then 5 else g 5 0 8) = m
    have em : lckH g p (lk p) m 5 0 7 = orI (g 5 0 7) p := by unfold lckH; rw [if_pos ⟨rfl, rfl, rfl⟩]
    refine ⟨by rw [up1_s, sI_s p0, h1], by rw [up1_n (by decide), lckH_r (by decide)]; exact h2, ?_, fun q q0 q1 => ?_, fun q x q0 q1 x0 x1 x5 => ?_⟩
    · rw [up1_n (by decide), em]
      exact (bt_or h3 ⟨p0, p1⟩).2
    · rw [up1_n (by decide), em, bit_or h3 ⟨p0, p1⟩ ⟨q0, q1⟩]
      by_cases z : q = p
      · rw [if_pos z, z]
        constructor
        · intro y; omega
        · intro y; omega
      · rw [if_neg z, h4 q q0 q1]
        omega
    · rw [up1_n (by omega)]
      by_cases z : q = p
      · subst z
        unfold lckH
        rw [if_neg (by omega), if_pos]
        refine ⟨rfl, rfl, by omega, ?_⟩
        rw [← hm]
        (repeat' split) <;> omega
      · have e := sI_s (f := lk) q0
        have e2 := sI_mono (f := lk) (a := q + 1) (b := p) (by omega) (by omega) (fun i _ _ => hl i)
        unfold lckH
        rw [if_neg (by omega), if_neg (by omega)]
        exact h5 q x q0 (by omega) x0 x1 x5
  · rw [if_neg c]
    have := hl p
    refine ⟨by rw [sI_s p0, h1]; omega, h2, h3, fun q q0 q1 => ?_, fun q x q0 q1 x0 x1 x5 => ?_⟩
    · rw [h4 q q0 q1]
      by_cases z : q = p
      · rw [z]; omega
      · omega
    · by_cases z : q = p
      · rw [z] at x1; omega
      · exact h5 q x q0 (by omega) x0 x1 x5
def plO (P : Int → Prop) (pl : Int → Int) (M U : Int) (R : Int → Int) (g : Hi) (n : Int) : Prop := g 5 0 7 = M ∧ g 5 0 8 = U ∧ (∀ j, g 15 0 j = R j) ∧ g 5 0 9 = ovI P n ∧ (∀ b, 0 ≤ b → b < n → P b → g 16 0 (ovI P b) = b ∧ g 17 0 (ovI P b) = pl b) ∧ ∀ i, 0 ≤ i → i < ovI P n → g 18 0 i = 0
theorem plO.no {P : Int → Prop} {pl : Int → Int} {M U : Int} {R : Int → Int} {g : Hi} {n : Int} (h : plO P pl M U R g n) (h0 : 0 ≤ n) (hp : ¬ P n) : plO P pl M U R g (n + 1) := by
  obtain ⟨h1, h2, h3, h4, h5, h6⟩ := h
  refine ⟨h1, h2, h3, by rw [ovI_f h0 hp]; exact h4, fun b b0 b1 pb => ?_, by rw [ovI_f h0 hp]; exact h6⟩
  by_cases z : b = n
  · rw [z] at pb; exact absurd pb hp
  · exact h5 b b0 (by omega) pb
theorem plO.yes {P : Int → Prop} {pl : Int → Int} {M U : Int} {R : Int → Int} {g : Hi} {n : Int} (h : plO P pl M U R g n) (h0 : 0 ≤ n) (hp : P n) : plO P pl M U R (up1 (up1 (up1 (up1 g 16 0 (g 5 0 9) n) 17 0 (g 5 0 9) (pl n)) 18 0 (g 5 0 9) 0) 5 0 9 (g 5 0 9 + 1)) (n + 1) := by
  obtain ⟨h1, h2, h3, h4, h5, h6⟩ := h
  rw [h4]
  refine ⟨h1, h2, h3, by rw [up1_s, ovI_t h0 hp], fun b b0 b1 pb => ?_, fun i i0 i1 => ?_⟩
  · by_cases z : b = n
    · rw [z]
      exact ⟨by rw [up1_n (by omega), up1_n (by omega), up1_n (by omega), up1_s], by rw [up1_n (by omega), up1_n (by omega), up1_s]⟩
    · have := ovI_l (P := P) b0 (show b < n by omega) pb
      rw [up1_n (by omega), up1_n (by omega), up1_n (by omega), up1_n (by omega)]
      rw [up1_n (by omega), up1_n (by omega), up1_n (by omega), up1_n (by omega)]
      exact h5 b b0 (by omega) pb
  · rw [up1_n (by omega)]
    rw [ovI_t h0 hp] at i1
    by_cases z : i = ovI P n
    · rw [z, up1_s]
    · rw [up1_n (by omega), up1_n (by omega), up1_n (by omega)]
      exact h6 i i0 (by omega)
theorem plO.offer {P : Int → Prop} {pl : Int → Int} {M U : Int} {R : Int → Int} {g : Hi} {n : Int} (h : plO P pl M U R g n) (h0 : 0 ≤ n) (hp : P n ↔ (0 ≤ pl n ∧ pl n < 6) ∧ bitI M (pl n) = 0) : plO P pl M U R (offH g n (pl n)) (n + 1) := by
  unfold offH
  rw [h.1]
  by_cases q : (0 ≤ pl n ∧ pl n < 6) ∧ bitI M (pl n) = 0
  · rw [if_pos q]; exact h.yes h0 (hp.mpr q)
  · rw [if_neg q]; exact h.no h0 (fun z => q (hp.mp z))
/-- what makePlan leaves -/
noncomputable def ovP (hi : Hi) (nk kd : Int) (b : Int) : Prop := hi 1 b 0 = kd ∧ canC hi b ∧ (0 ≤ plcC hi b (hi 6 0 8) ∧ plcC hi b (hi 6 0 8) < 6) ∧ ¬ 0 < laC hi nk kd (plcC hi b (hi 6 0 8))
def PlnC (hi : Hi) (nb nk kd : Int) (g : Hi) : Prop := DatP (laC hi nk kd) (ovP hi nk kd) (fun b => plcC hi b (hi 6 0 8)) nb (g 15 0) (g 16 0) (g 17 0) ∧ g 5 0 8 = sI (laC hi nk kd) 6 ∧
  ∃ a, Bst (sI (laC hi nk kd) 6) (ovI (ovP hi nk kd) nb) (fun i v => hi 9 (g 17 0 i) (g 15 0 v)) (g 5 0 10) a ∧ ∀ v, 0 ≤ v → v < sI (laC hi nk kd) 6 → g 20 0 v = if a v = -1 then -1 else g 16 0 (a v)
theorem lakH_f {hi : Hi} {p c : Int} {k : Nat} (h : plK k = false) (i j : Int) : lakH hi p c k i j = hi k i j := by
  have h5 : k ≠ 5 := fun z => by rw [z] at h; exact absurd h (by decide)
  have h15 : k ≠ 15 := fun z => by rw [z] at h; exact absurd h (by decide)
  unfold lakH
  split
  · rw [up1_n (fun z => h5 z.1), lckH_r (Or.inr ⟨h5, h15⟩)]
  · rfl
theorem offH_f {hi : Hi} {b p : Int} {k : Nat} (h : plK k = false) (i j : Int) : offH hi b p k i j = hi k i j := by
  have n := fun (m : Nat) (hm : plK m = true) => show k ≠ m from fun z => by rw [z, hm] at h; exact absurd h (by decide)
  unfold offH
  split
  · rw [up1_n (fun z => n 5 rfl z.1), up1_n (fun z => n 18 rfl z.1), up1_n (fun z => n 17 rfl z.1), up1_n (fun z => n 16 rfl z.1)]
  · rfl
theorem clrH_f {hi : Hi} {k : Nat} (h : plK k = false) (i j : Int) : clrH hi k i j = hi k i j := by
  have h5 : k ≠ 5 := fun z => by rw [z] at h; exact absurd h (by decide)
  unfold clrH
  rw [up1_n (fun z => h5 z.1), up1_n (fun z => h5 z.1), up1_n (fun z => h5 z.1), up1_n (fun z => h5 z.1)]
