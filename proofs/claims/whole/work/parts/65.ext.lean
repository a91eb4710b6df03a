/-! ===== plans that begin as was chosen ===== -/
def Ext (U S f : Int) (ch : Int → Int) (a : Int → Int) : Prop := Fea U S zeT 0 (woI U S) a ∧ ∀ v, 0 ≤ v → v < f → a v = ch v
def chO (S f : Int) (ch : Int → Int) : Prop := (∀ v, 0 ≤ v → v < f → ch v = -1 ∨ (0 ≤ ch v ∧ ch v < S)) ∧ ∀ v w, 0 ≤ v → v < w → w < f → ch v ≠ -1 → ch v ≠ ch w
theorem Ext.ok {U S f : Int} {ch a : Int → Int} (h : Ext U S f ch a) (hf : f ≤ U) : chO S f ch := by
  obtain ⟨h1, h2⟩ := h
  refine ⟨fun v v0 v1 => ?_, fun v w v0 vw w1 hv => ?_⟩
  · rw [← h2 v v0 v1]; exact h1.rng v v0 (by omega)
  · rw [← h2 v v0 (by omega), ← h2 w (by omega) w1]
    rw [← h2 v v0 (by omega)] at hv
    exact h1.2.1 v w v0 vw (by omega) hv
def srvI (ch : Int → Int) (f : Int) : Int := sI (fun u => if ch u = -1 then 0 else 1) f
def spdI (c : Int → Int → Int) (ch : Int → Int) (f : Int) : Int := sI (fun u => if ch u = -1 then 0 else c (ch u) u) f
/-- one of the sets below t, as great as can be, and a plan for it -/
def AsF (U S f : Int) (ch : Int → Int) (t : Int) (a : Int → Int) : Prop := ∃ s, (0 ≤ s ∧ s < t) ∧ btI s + srvI ch f = U - woI U S ∧ Asg U f ch S s a
section EXT
variable {U S f : Int} {ch : Int → Int} {c : Int → Int → Int}
theorem cnt_two {a : Int → Int} (hU : 0 ≤ U) : hsI (fun v => if a v = -1 then 1 else 0) 0 U + hsI (fun v => if a v = -1 then 0 else 1) 0 U = U := by
  obtain ⟨n, rfl⟩ := Int.eq_ofNat_of_zero_le hU
  have key : ∀ (m : Nat) (u : Int), 0 ≤ u → u + m = n → hsI (fun v => if a v = -1 then 1 else 0) u n + hsI (fun v => if a v = -1 then 0 else 1) u n = m := by
    intro m
    induction m with
    | zero => intro u u0 hu; rw [show u = (n : Int) by omega, hsI_0, hsI_0]; rfl
    | succ m ih =>
      intro u u0 hu
      have := ih (u + 1) (by omega) (by omega)
      rw [hsI_s (show u < (n : Int) by omega), hsI_s (show u < (n : Int) by omega)]
      by_cases q : a u = -1
      · rw [if_pos q, if_pos q]; omega
      · rw [if_neg q, if_neg q]; omega
  exact key n 0 (by omega) (by omega)
/-- how many units a plan serves: those ahead, and those of the set -/
theorem cnt_set {a : Int → Int} {s : Int} (hf : 0 ≤ f ∧ f ≤ U) (hU : U ≤ 5) (hs : 0 ≤ s ∧ s < p2 U) (h1 : ∀ v, 0 ≤ v → v < f → a v = ch v ∧ bitI s v = 0) (h2 : ∀ v, f ≤ v → v < U → (bitI s v = 0 ↔ a v = -1)) :
    hsI (fun v => if a v = -1 then 0 else 1) 0 U = srvI ch f + btI s := by
  rw [hsI_cut hf.1 hf.2, bt_hs hf hU hs (fun v v0 v1 => (h1 v v0 v1).2)]
  have e1 : sI (fun v => if a v = -1 then (0 : Int) else 1) f = srvI ch f := sI_c (fun v v0 v1 => by rw [(h1 v v0 v1).1])
  have e2 : hsI (fun v => if a v = -1 then (0 : Int) else 1) f U = hsI (bitI s) f U := hsI_c (fun v v0 v1 => by
    have := h2 v v0 v1
    rcases bit_01 (s := s) (u := v) with q | q
    · rw [q, if_pos (this.mp q)]
    · rw [q, if_neg (fun z => by have := this.mpr z; omega)])
  rw [e1, e2]
theorem Ext.toF {a : Int → Int} (hf : 0 ≤ f ∧ f ≤ U) (hU : U ≤ 5) (h : Ext U S f ch a) : AsF U S f ch (p2 U) a := by
  obtain ⟨⟨h1, h2, h3⟩, h4⟩ := h
  obtain ⟨s, hs, hb⟩ := bit_mk (U := U) (f := fun v => if f ≤ v ∧ v < U ∧ a v ≠ -1 then 1 else 0) ⟨by omega, hU⟩ (fun v => by split; exact Or.inr rfl; exact Or.inl rfl) (fun v hv => if_neg (by omega))
  have b1 : ∀ v, 0 ≤ v → v < f → bitI s v = 0 := fun v v0 v1 => by rw [hb v v0 (by omega)]; exact if_neg (by omega)
  have b2 : ∀ v, f ≤ v → v < U → (bitI s v = 0 ↔ a v = -1) := fun v v0 v1 => by
    rw [hb v (by omega) (by omega)]
    by_cases q : a v = -1
    · rw [if_neg (by omega)]; exact ⟨fun _ => q, fun _ => rfl⟩
    · rw [if_pos ⟨v0, v1, q⟩]; exact ⟨fun z => by omega, fun z => absurd z q⟩
  have hc := cnt_set (a := a) (ch := ch) hf hU hs (fun v v0 v1 => ⟨h4 v v0 v1, b1 v v0 v1⟩) b2
  have h2c := cnt_two (a := a) (U := U) (by omega)
  refine ⟨s, hs, by omega, fun v v0 v1 => ⟨h4 v v0 v1, b1 v v0 v1⟩, fun v v0 v1 => ⟨(b2 v v0 v1).mp, fun q => ?_⟩, fun v w v0 vw w1 hv => h2 v w (by omega) vw w1 hv⟩
  have ne : a v ≠ -1 := fun z => q ((b2 v v0 v1).mpr z)
  rcases h1 v (by omega) v1 with z | z
  · exact absurd z ne
  · refine ⟨⟨z.1, z.2.1⟩, fun u u0 u1 e => ?_⟩
    rw [← h4 u u0 u1] at e
    exact h2 u v u0 (by omega) v1 (by omega) e
theorem Ext.ofF {a : Int → Int} (hf : 0 ≤ f ∧ f ≤ U) (hU : U ≤ 5) (ho : chO S f ch) (h : AsF U S f ch (p2 U) a) : Ext U S f ch a := by
  obtain ⟨s, hs, hm, h1, h2, h3⟩ := h
  have b2 : ∀ v, f ≤ v → v < U → (bitI s v = 0 ↔ a v = -1) := fun v v0 v1 => ⟨(h2 v v0 v1).1, fun z => by
    by_cases q : bitI s v = 0
    · exact q
    · have := ((h2 v v0 v1).2 q).1; omega⟩
  have hc := cnt_set (a := a) (ch := ch) hf hU hs h1 b2
  have h2c := cnt_two (a := a) (U := U) (by omega)
  refine ⟨⟨fun v v0 v1 => ?_, fun v w v0 vw w1 hv => ?_, by omega⟩, fun v v0 v1 => (h1 v v0 v1).1⟩
  · by_cases q : v < f
    · rw [(h1 v v0 q).1]
      rcases ho.1 v v0 q with z | z
      · exact Or.inl z
      · exact Or.inr ⟨z.1, z.2, rfl⟩
    · by_cases z : bitI s v = 0
      · exact Or.inl ((h2 v (by omega) v1).1 z)
      · have := ((h2 v (by omega) v1).2 z).1
        exact Or.inr ⟨this.1, this.2, rfl⟩
  · by_cases q : w < f
    · rw [(h1 w (by omega) q).1]
      rw [(h1 v v0 (by omega)).1] at hv ⊢
      exact ho.2 v w v0 vw q hv
    · by_cases z : v < f
      · have e := (h1 v v0 z).1
        by_cases y : bitI s w = 0
        · rw [(h2 w (by omega) w1).1 y]; exact hv
        · rw [e]; exact ((h2 w (by omega) w1).2 y).2 v v0 z
      · exact h3 v w (by omega) vw w1 hv
theorem AsF.zero {x : Int} (hx : x = 1000000) : Mn (AsF U S f ch 0) (fun a => cstI c a f U) x := by
  subst hx
  exact ⟨by decide, fun a ha => by obtain ⟨s, hs, _⟩ := ha; omega, Or.inl rfl⟩
theorem AsF.step {t x y : Int} (t0 : 0 ≤ t) (h : Mn (AsF U S f ch t) (fun a => cstI c a f U) x) (h' : Mn (Asg U f ch S t) (fun a => cstI c a f U) y) (hb : btI t + srvI ch f = U - woI U S) : Mn (AsF U S f ch (t + 1)) (fun a => cstI c a f U) (if y < x then y else x) := by
  refine (h.or2 h'.v).cP (fun a => ⟨fun z => ?_, fun z => ?_⟩)
  · rcases z with ⟨s, s1, s2⟩ | z
    · exact ⟨s, by omega, s2⟩
    · exact ⟨t, by omega, hb, z⟩
  · obtain ⟨s, s1, s2⟩ := z
    by_cases q : s = t
    · rw [q] at s2; exact Or.inr s2.2
    · exact Or.inl ⟨s, by omega, s2⟩
theorem AsF.no {t x : Int} (h : Mn (AsF U S f ch t) (fun a => cstI c a f U) x) (t0 : 0 ≤ t) (hb : ¬ btI t + srvI ch f = U - woI U S) : Mn (AsF U S f ch (t + 1)) (fun a => cstI c a f U) x := by
  refine h.cP (fun a => ⟨fun ⟨s, s1, s2⟩ => ⟨s, by omega, s2⟩, fun ⟨s, s1, s2⟩ => ?_⟩)
  by_cases q : s = t
  · rw [q] at s2; exact absurd s2.1 hb
  · exact ⟨s, by omega, s2⟩
/-- what leastFrom answers -/
def LfA (U S : Int) (c : Int → Int → Int) (f : Int) (ch : Int → Int) (x : Int) : Prop := (∀ a, Ext U S f ch a → x ≤ cstI c a 0 U) ∧ (x = 1000000 ∨ ∃ a, Ext U S f ch a ∧ x = cstI c a 0 U)
theorem LfA.mk {x : Int} (hf : 0 ≤ f ∧ f ≤ U) (hU : U ≤ 5) (ho : chO S f ch) (hc : ∀ i v, 0 ≤ i → i < S → 0 ≤ v → v < U → 0 ≤ c i v ∧ c i v ≤ 9999) (h : Mn (AsF U S f ch (p2 U)) (fun a => cstI c a f U) x) : LfA U S c f ch (if x = 1000000 then 1000000 else spdI c ch f + x) := by
  have cut : ∀ a, Ext U S f ch a → cstI c a 0 U = spdI c ch f + cstI c a f U := fun a ha => by
    unfold cstI spdI
    rw [hsI_cut hf.1 hf.2]
    congr 1
    exact sI_c (fun v v0 v1 => by rw [ha.2 v v0 v1])
  by_cases q : x = 1000000
  · rw [if_pos q]
    refine ⟨fun a ha => ?_, Or.inl rfl⟩
    exfalso
    have k1 := h.2.1 a (ha.toF hf hU)
    have k2 := cut a ha
    have k3 := cst_r (c := c) ha.1 (by omega) hc
    have k4 := sI_r (f := fun u => if ch u = -1 then 0 else c (ch u) u) (n := f) (a := 0) (b := 9999) (fun v v0 v1 => by
      by_cases z : ch v = -1
      · rw [if_pos z]; omega
      · rw [if_neg z]
        rcases ho.1 v v0 v1 with y | y
        · exact absurd y z
        · exact hc _ v y.1 y.2 v0 (by omega)) hf.1
    have k5 : spdI c ch f = sI (fun u => if ch u = -1 then 0 else c (ch u) u) f := rfl
    have k6 : x ≤ cstI c a f U := k1
    omega
  · rw [if_neg q]
    refine ⟨fun a ha => by rw [cut a ha]; have := h.2.1 a (ha.toF hf hU); have k6 : x ≤ cstI c a f U := this; omega, ?_⟩
    rcases h.2.2 with z | ⟨a, z, e⟩
    · exact absurd z q
    · have g := Ext.ofF hf hU ho z
      exact Or.inr ⟨a, g, by rw [cut a g, e]⟩
/-- the choice as far as the first u units: a best plan begins so, and none begins lower -/
def PlI (U S : Int) (c : Int → Int → Int) (C : Int) (ch : Int → Int) (u : Int) : Prop := (∀ b, Fea U S zeT 0 (woI U S) b → C ≤ cstI c b 0 U) ∧ (∃ a, Ext U S u ch a ∧ cstI c a 0 U = C) ∧
  ∀ b, Fea U S zeT 0 (woI U S) b → cstI c b 0 U = C → ∀ v, 0 ≤ v → v < u → (∀ w, 0 ≤ w → w < v → ch w = b w) → keyI S (ch v) ≤ keyI S (b v)
/-- no best plan that begins so has a box below k for the unit u -/
def PlK (U S : Int) (c : Int → Int → Int) (C : Int) (ch : Int → Int) (u k : Int) : Prop := ∀ b, Ext U S u ch b → cstI c b 0 U = C → ¬ (0 ≤ b u ∧ b u < k)
theorem PlI.zero {C : Int} (hU : 0 ≤ U) (hS : 0 ≤ S) (hU5 : U ≤ 5) (hc : ∀ i v, 0 ≤ i → i < S → 0 ≤ v → v < U → 0 ≤ c i v ∧ c i v ≤ 9999) (h : LfA U S c 0 ch C) : PlI U S c C ch 0 ∧ C ≤ 49995 := by
  obtain ⟨h1, h2⟩ := h
  have all : ∀ b, Fea U S zeT 0 (woI U S) b → C ≤ cstI c b 0 U := fun b hb => h1 b ⟨hb, fun v v0 v1 => by omega⟩
  have ex := Fea_ex hU hS
  have b := cst_r (c := c) ex hU hc
  have := all _ ex
  refine ⟨⟨all, ?_, fun b _ _ v v0 v1 => by omega⟩, by omega⟩
  rcases h2 with z | ⟨a, z, e⟩
  · omega
  · exact ⟨a, z, e.symm⟩
theorem PlK.chosen {C u k : Int} (hu : 0 ≤ u ∧ u < U) (h : PlK U S c C ch u k) (hk : ∃ v, 0 ≤ v ∧ v < u ∧ ch v = k) (k0 : 0 ≤ k) : PlK U S c C ch u (k + 1) := by
  intro b hb hc z
  by_cases q : b u = k
  · obtain ⟨v, v0, v1, v2⟩ := hk
    have e := hb.2 v v0 v1
    exact hb.1.2.1 v u v0 v1 hu.2 (by omega) (by omega)
  · exact h b hb hc ⟨z.1, by omega⟩
theorem PlK.other {C u k x : Int} (h : PlK U S c C ch u k) (hI : PlI U S c C ch u) (hl : LfA U S c (u + 1) (se1 ch u k) x) (hx : x ≠ C) (hC : C ≤ 49995) : PlK U S c C ch u (k + 1) := by
  intro b hb hc z
  by_cases q : b u = k
  · have g : Ext U S (u + 1) (se1 ch u k) b := ⟨hb.1, fun v v0 v1 => by
      by_cases e : v = u
      · rw [e, se1_s]; exact q
      · rw [se1_n e]; exact hb.2 v v0 (by omega)⟩
    have k1 := hl.1 b g
    rcases hl.2 with y | ⟨a, y, e⟩
    · omega
    · have := hI.1 a y.1
      omega
  · exact h b hb hc ⟨z.1, by omega⟩
theorem PlI.ext {C u k : Int} {ch' : Int → Int} (hu : 0 ≤ u ∧ u < U) (hI : PlI U S c C ch u) (hK : PlK U S c C ch u k) (hk : 0 ≤ k ∧ k < S) (hl : LfA U S c (u + 1) (se1 ch u k) C) (hC : C ≤ 49995) (e : ∀ v, 0 ≤ v → v < u + 1 → ch' v = se1 ch u k v) : PlI U S c C ch' (u + 1) := by
  have e1 : ∀ v, 0 ≤ v → v < u → ch' v = ch v := fun v v0 v1 => by rw [e v v0 (by omega), se1_n (by omega)]
  have e2 : ch' u = k := by rw [e u hu.1 (by omega), se1_s]
  refine ⟨hI.1, ?_, fun b hb hc v v0 v1 hw => ?_⟩
  · rcases hl.2 with y | ⟨a, y, g⟩
    · omega
    · exact ⟨a, ⟨y.1, fun v v0 v1 => by rw [e v v0 v1]; exact y.2 v v0 v1⟩, g.symm⟩
  · by_cases q : v = u
    · subst q
      have := hK b ⟨hb, fun w w0 w1 => by rw [← e1 w w0 w1]; exact (hw w w0 w1).symm⟩ hc
      have r := hb.rng v v0 hu.2
      rw [e2]
      unfold keyI
      rw [if_neg (by omega)]
      split <;> omega
    · rw [e1 v v0 (by omega)]
      exact hI.2.2 b hb hc v v0 (by omega) (fun w w0 w1 => by rw [← e1 w w0 (by omega)]; exact hw w w0 w1)
theorem PlI.non {C u : Int} {ch' : Int → Int} (hu : 0 ≤ u ∧ u < U) (hI : PlI U S c C ch u) (hK : PlK U S c C ch u S) (e : ∀ v, 0 ≤ v → v < u + 1 → ch' v = se1 ch u (-1) v) : PlI U S c C ch' (u + 1) := by
  have e1 : ∀ v, 0 ≤ v → v < u → ch' v = ch v := fun v v0 v1 => by rw [e v v0 (by omega), se1_n (by omega)]
  have e2 : ch' u = -1 := by rw [e u hu.1 (by omega), se1_s]
  have key : ∀ b, Ext U S u ch b → cstI c b 0 U = C → b u = -1 := fun b hb hc => by
    have := hK b hb hc
    rcases hb.1.rng u hu.1 hu.2 with z | z
    · exact z
    · exact absurd z this
  refine ⟨hI.1, ?_, fun b hb hc v v0 v1 hw => ?_⟩
  · obtain ⟨a, a1, a2⟩ := hI.2.1
    refine ⟨a, ⟨a1.1, fun v v0 v1 => ?_⟩, a2⟩
    by_cases q : v = u
    · rw [q, e2]; exact key a a1 a2
    · rw [e1 v v0 (by omega)]; exact a1.2 v v0 (by omega)
  · by_cases q : v = u
    · subst q
      rw [e2, key b ⟨hb, fun w w0 w1 => by rw [← e1 w w0 w1]; exact (hw w w0 w1).symm⟩ hc]
      exact Int.le_refl _
    · rw [e1 v v0 (by omega)]
      exact hI.2.2 b hb hc v v0 (by omega) (fun w w0 w1 => by rw [← e1 w w0 (by omega)]; exact hw w w0 w1)
theorem PlI.bst {C : Int} (hI : PlI U S c C ch U) : Bst U S c C ch := by
  obtain ⟨h1, ⟨a, a1, a2⟩, h3⟩ := hI
  refine ⟨a1.1.c (fun v v0 v1 => a1.2 v v0 v1) (fun _ _ _ => rfl), ?_, fun b hb => ⟨h1 b hb, fun e v v0 v1 hw => h3 b hb e v v0 v1 hw⟩⟩
  rw [← a2]
  exact cstI_c (fun v v0 v1 => a1.2 v v0 v1) (fun _ _ _ _ => rfl)
theorem PlI.ok {C u : Int} (hI : PlI U S c C ch u) (hu : u ≤ U) : chO S u ch := by
  obtain ⟨a, a1, a2⟩ := hI.2.1
  exact a1.ok hu
end EXT
