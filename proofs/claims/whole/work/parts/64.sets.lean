/-! ===== sets of units as numbers ===== -/
def btI (s : Int) : Int := bitI s 0 + bitI s 1 + bitI s 2 + bitI s 3 + bitI s 4
theorem bt_shr {s u : Int} (hs : 0 ≤ s ∧ s < 64) (hu : 0 ≤ u ∧ u < 6) : Int32.ofInt s >>> (Int32.ofInt u &&& 31) = Int32.ofInt (s / p2 u) ∧ 0 ≤ s / p2 u ∧ s / p2 u < 64 := by
  have := bt_fin (fun s u => decide (Int32.ofInt s >>> (Int32.ofInt u &&& 31) = Int32.ofInt (s / p2 u) ∧ 0 ≤ s / p2 u ∧ s / p2 u < 64)) (by decide +kernel) hs hu
  simpa using this
theorem bt_and1 {s : Int} (hs : 0 ≤ s ∧ s < 64) : Int32.ofInt s &&& Int32.ofInt 1 = Int32.ofInt (s % 2) := by
  have := bt_fin (fun s u => decide (Int32.ofInt s &&& Int32.ofInt 1 = Int32.ofInt (s % 2))) (by decide +kernel) hs (p := 0) (by decide)
  simpa using this
theorem bt_not {u : Int} (hu : 0 ≤ u ∧ u < 6) : Int32.ofInt (p2 u) ^^^ Int32.ofInt (-1) = Int32.ofInt (-1 - p2 u) := by
  have := bt_fin (fun s u => decide (Int32.ofInt (p2 u) ^^^ Int32.ofInt (-1) = Int32.ofInt (-1 - p2 u))) (by decide +kernel) (x := 0) (by decide) hu
  simpa using this
def subI (s u : Int) : Int := s - bitI s u * p2 u
theorem bt_andn {s u : Int} (hs : 0 ≤ s ∧ s < 64) (hu : 0 ≤ u ∧ u < 6) : Int32.ofInt s &&& Int32.ofInt (-1 - p2 u) = Int32.ofInt (subI s u) ∧ 0 ≤ subI s u ∧ subI s u ≤ s ∧ (bitI s u ≠ 0 → subI s u < s) := by
  have := bt_fin (fun s u => decide (Int32.ofInt s &&& Int32.ofInt (-1 - p2 u) = Int32.ofInt (subI s u) ∧ 0 ≤ subI s u ∧ subI s u ≤ s ∧ (bitI s u ≠ 0 → subI s u < s))) (by decide +kernel) hs hu
  exact of_decide_eq_true this
theorem bit_sub {s u v : Int} (hs : 0 ≤ s ∧ s < 64) (hu : 0 ≤ u ∧ u < 6) (hv : 0 ≤ v ∧ v < 6) : bitI (subI s u) v = if v = u then 0 else bitI s v := by
  rcases (show v = 0 ∨ v = 1 ∨ v = 2 ∨ v = 3 ∨ v = 4 ∨ v = 5 by omega) with e | e | e | e | e | e <;> subst e
  · have := bt_fin (fun s u => decide (bitI (subI s u) 0 = if 0 = u then 0 else bitI s 0)) (by decide +kernel) hs hu; simpa using this
  · have := bt_fin (fun s u => decide (bitI (subI s u) 1 = if 1 = u then 0 else bitI s 1)) (by decide +kernel) hs hu; simpa using this
  · have := bt_fin (fun s u => decide (bitI (subI s u) 2 = if 2 = u then 0 else bitI s 2)) (by decide +kernel) hs hu; simpa using this
  · have := bt_fin (fun s u => decide (bitI (subI s u) 3 = if 3 = u then 0 else bitI s 3)) (by decide +kernel) hs hu; simpa using this
  · have := bt_fin (fun s u => decide (bitI (subI s u) 4 = if 4 = u then 0 else bitI s 4)) (by decide +kernel) hs hu; simpa using this
  · have := bt_fin (fun s u => decide (bitI (subI s u) 5 = if 5 = u then 0 else bitI s 5)) (by decide +kernel) hs hu; simpa using this
theorem bit_01 {s u : Int} : bitI s u = 0 ∨ bitI s u = 1 := by unfold bitI; omega
theorem bit_0 {u : Int} : bitI 0 u = 0 := by unfold bitI; rw [Int.zero_ediv]; rfl
theorem btI_0 : btI 0 = 0 := by decide
theorem btI_half {s : Int} (hs : 0 ≤ s ∧ s < 32) : btI s = s % 2 + btI (s / 2) ∧ 0 ≤ s / 2 ∧ s / 2 < 32 := by
  have := bt_fin (fun s u => decide (s < 32 → btI s = s % 2 + btI (s / 2) ∧ 0 ≤ s / 2 ∧ s / 2 < 32)) (by decide +kernel) (x := s) (by omega) (p := 0) (by decide)
  have h := of_decide_eq_true this
  exact h hs.2
theorem btI_r {s : Int} : 0 ≤ btI s ∧ btI s ≤ 5 := by
  have a := bit_01 (s := s) (u := 0)
  have b := bit_01 (s := s) (u := 1)
  have c := bit_01 (s := s) (u := 2)
  have d := bit_01 (s := s) (u := 3)
  have e := bit_01 (s := s) (u := 4)
  unfold btI
  omega
theorem bit_hi {s U v : Int} (hs : 0 ≤ s ∧ s < p2 U) (hU : 0 ≤ U ∧ U ≤ v) (hv : v < 6) : bitI s v = 0 := by
  have hr := p2_r (p := U)
  have hs6 : 0 ≤ s ∧ s < 64 := by omega
  have hU6 : 0 ≤ U ∧ U < 6 := by omega
  rcases (show v = 0 ∨ v = 1 ∨ v = 2 ∨ v = 3 ∨ v = 4 ∨ v = 5 by omega) with e | e | e | e | e | e <;> subst e
  · exact of_decide_eq_true (bt_fin (fun s U => decide (s < p2 U → U ≤ 0 → bitI s 0 = 0)) (by decide +kernel) hs6 hU6) hs.2 hU.2
  · exact of_decide_eq_true (bt_fin (fun s U => decide (s < p2 U → U ≤ 1 → bitI s 1 = 0)) (by decide +kernel) hs6 hU6) hs.2 hU.2
  · exact of_decide_eq_true (bt_fin (fun s U => decide (s < p2 U → U ≤ 2 → bitI s 2 = 0)) (by decide +kernel) hs6 hU6) hs.2 hU.2
  · exact of_decide_eq_true (bt_fin (fun s U => decide (s < p2 U → U ≤ 3 → bitI s 3 = 0)) (by decide +kernel) hs6 hU6) hs.2 hU.2
  · exact of_decide_eq_true (bt_fin (fun s U => decide (s < p2 U → U ≤ 4 → bitI s 4 = 0)) (by decide +kernel) hs6 hU6) hs.2 hU.2
  · exact of_decide_eq_true (bt_fin (fun s U => decide (s < p2 U → U ≤ 5 → bitI s 5 = 0)) (by decide +kernel) hs6 hU6) hs.2 hU.2
/-- a set that isn't empty has a unit -/
theorem bit_ex {s U : Int} (hs : 0 ≤ s ∧ s < p2 U) (hU : 0 ≤ U ∧ U ≤ 5) (h : s ≠ 0) : ∃ v, 0 ≤ v ∧ v < U ∧ bitI s v ≠ 0 := by
  have hr := p2_r (p := U)
  have key := of_decide_eq_true (bt_fin (fun s U => decide (s < p2 U → U ≤ 5 → s ≠ 0 → (0 < U ∧ bitI s 0 ≠ 0) ∨ (1 < U ∧ bitI s 1 ≠ 0) ∨ (2 < U ∧ bitI s 2 ≠ 0) ∨ (3 < U ∧ bitI s 3 ≠ 0) ∨ (4 < U ∧ bitI s 4 ≠ 0))) (by decide +kernel) (x := s) (p := U) (by omega) (by omega)) hs.2 hU.2 h
  rcases key with q | q | q | q | q
  · exact ⟨0, by decide, q.1, q.2⟩
  · exact ⟨1, by decide, q.1, q.2⟩
  · exact ⟨2, by decide, q.1, q.2⟩
  · exact ⟨3, by decide, q.1, q.2⟩
  · exact ⟨4, by decide, q.1, q.2⟩
/-- any choice of units is a set -/
theorem bit_mk {U : Int} {f : Int → Int} (hU : 0 ≤ U ∧ U ≤ 5) (hf : ∀ v, f v = 0 ∨ f v = 1) (hz : ∀ v, U ≤ v → f v = 0) : ∃ s, (0 ≤ s ∧ s < p2 U) ∧ ∀ v, 0 ≤ v → v < 5 → bitI s v = f v := by
  have h0 := hf 0
  have h1 := hf 1
  have h2 := hf 2
  have h3 := hf 3
  have h4 := hf 4
  have z0 := hz 0
  have z1 := hz 1
  have z2 := hz 2
  have z3 := hz 3
  have z4 := hz 4
  refine ⟨f 0 + 2 * f 1 + 4 * f 2 + 8 * f 3 + 16 * f 4, ⟨by omega, ?_⟩, fun v v0 v1 => ?_⟩
  · rcases (show U = 0 ∨ U = 1 ∨ U = 2 ∨ U = 3 ∨ U = 4 ∨ U = 5 by omega) with e | e | e | e | e | e <;> subst e <;> simp only [p2] <;> simp <;> omega
  · rcases (show v = 0 ∨ v = 1 ∨ v = 2 ∨ v = 3 ∨ v = 4 by omega) with e | e | e | e | e <;> subst e <;> simp only [bitI, p2] <;> simp <;> omega
theorem bt_hs {s f U : Int} (hf : 0 ≤ f ∧ f ≤ U) (hU : U ≤ 5) (hs : 0 ≤ s ∧ s < p2 U) (hz : ∀ v, 0 ≤ v → v < f → bitI s v = 0) : btI s = hsI (bitI s) f U := by
  have e0 := hsI_s (f := bitI s) (u := 0) (U := 5) (by decide)
  have e1 := hsI_s (f := bitI s) (u := 1) (U := 5) (by decide)
  have e2 := hsI_s (f := bitI s) (u := 2) (U := 5) (by decide)
  have e3 := hsI_s (f := bitI s) (u := 3) (U := 5) (by decide)
  have e4 := hsI_s (f := bitI s) (u := 4) (U := 5) (by decide)
  rw [show (0 : Int) + 1 = 1 from rfl] at e0
  rw [show (1 : Int) + 1 = 2 from rfl] at e1
  rw [show (2 : Int) + 1 = 3 from rfl] at e2
  rw [show (3 : Int) + 1 = 4 from rfl] at e3
  rw [show (4 : Int) + 1 = 5 from rfl, hsI_0] at e4
  have c := hsI_cut (f := bitI s) (u := f) (U := 5) hf.1 (by omega)
  have z : sI (bitI s) f = 0 := by
    have := sI_r (f := bitI s) (n := f) (a := 0) (b := 0) (fun i i0 i1 => by rw [hz i i0 i1]; exact ⟨Int.le_refl _, Int.le_refl _⟩) hf.1
    omega
  have u := hsI_up (f := bitI s) (u := f) (U := U) (V := 5) hf.2 hU (fun v v0 v1 => bit_hi hs ⟨by omega, v0⟩ (by omega))
  unfold btI
  omega
/-! ===== plans as far as n boxes for just the units of a set ===== -/
def Asg (U f : Int) (ch : Int → Int) (n s : Int) (a : Int → Int) : Prop :=
  (∀ v, 0 ≤ v → v < f → a v = ch v ∧ bitI s v = 0) ∧
  (∀ v, f ≤ v → v < U → (bitI s v = 0 → a v = -1) ∧ (bitI s v ≠ 0 → (0 ≤ a v ∧ a v < n) ∧ ∀ u, 0 ≤ u → u < f → ch u ≠ a v)) ∧
  (∀ v w, f ≤ v → v < w → w < U → a v ≠ -1 → a v ≠ a w)
def Mn (P : (Int → Int) → Prop) (ct : (Int → Int) → Int) (x : Int) : Prop := (0 ≤ x ∧ x ≤ 1000000) ∧ (∀ a, P a → x ≤ ct a) ∧ (x = 1000000 ∨ ∃ a, P a ∧ x = ct a)
def Mv (P : (Int → Int) → Prop) (ct : (Int → Int) → Int) (x : Int) : Prop := 0 ≤ x ∧ (∀ a, P a → x ≤ ct a) ∧ (1000000 ≤ x ∨ ∃ a, P a ∧ x = ct a)
theorem Mn.v {P : (Int → Int) → Prop} {ct : (Int → Int) → Int} {x : Int} (h : Mn P ct x) : Mv P ct x := ⟨h.1.1, h.2.1, by rcases h.2.2 with q | q; exact Or.inl (by omega); exact Or.inr q⟩
theorem Mn.or2 {P P' : (Int → Int) → Prop} {ct : (Int → Int) → Int} {x y : Int} (h : Mn P ct x) (h' : Mv P' ct y) : Mn (fun a => P a ∨ P' a) ct (if y < x then y else x) := by
  obtain ⟨a1, a2, a3⟩ := h
  obtain ⟨b1, b2, b3⟩ := h'
  by_cases q : y < x
  · rw [if_pos q]
    refine ⟨⟨b1, by omega⟩, fun a ha => ?_, ?_⟩
    · rcases ha with z | z
      · have := a2 a z; omega
      · exact b2 a z
    · rcases b3 with z | ⟨a, z, w⟩
      · omega
      · exact Or.inr ⟨a, Or.inr z, w⟩
  · rw [if_neg q]
    refine ⟨a1, fun a ha => ?_, ?_⟩
    · rcases ha with z | z
      · exact a2 a z
      · have := b2 a z; omega
    · rcases a3 with z | ⟨a, z, w⟩
      · exact Or.inl z
      · exact Or.inr ⟨a, Or.inl z, w⟩
theorem Mn.cP {P P' : (Int → Int) → Prop} {ct : (Int → Int) → Int} {x : Int} (h : Mn P ct x) (e : ∀ a, P a ↔ P' a) : Mn P' ct x := by
  have : P = P' := funext fun a => propext (e a)
  rw [← this]; exact h
theorem hsI_one {g g' : Int → Int} {f U u : Int} (u0 : f ≤ u) (u1 : u < U) (h : ∀ v, f ≤ v → v < U → v ≠ u → g v = g' v) : hsI g f U = hsI g' f U + (g u - g' u) := by
  obtain ⟨n, hn⟩ := Int.eq_ofNat_of_zero_le (show 0 ≤ u - f by omega)
  induction n generalizing f with
  | zero =>
    have e : u = f := by omega
    subst e
    rw [hsI_s u1, hsI_s u1, hsI_c (g := g') (fun v v0 v1 => h v (by omega) v1 (by omega))]
    omega
  | succ n ih =>
    rw [hsI_s (show f < U by omega), hsI_s (show f < U by omega), ih (f := f + 1) (by omega) (fun v v0 v1 v2 => h v (by omega) v1 v2) (by omega), h f (Int.le_refl _) (by omega) (by omega)]
    omega
theorem cst_one {c : Int → Int → Int} {a : Int → Int} {f U u k : Int} (u0 : f ≤ u) (u1 : u < U) (hk : k ≠ -1) (ha : a u = -1) : cstI c (se1 a u k) f U = cstI c a f U + c k u := by
  unfold cstI
  rw [hsI_one (g := fun v => if se1 a u k v = -1 then 0 else c (se1 a u k v) v) (g' := fun v => if a v = -1 then 0 else c (a v) v) u0 u1 (fun v v0 v1 v2 => by simp only [se1_n v2])]
  simp only [se1_s, ha, if_neg hk, if_true]
  omega
section SETS
variable {U f k s : Int} {ch : Int → Int} {c : Int → Int → Int}
theorem Asg.zero (hU : f ≤ U) : Mn (Asg U f ch 0 0) (fun a => cstI c a f U) 0 := by
  have z : ∀ a : Int → Int, (∀ v, f ≤ v → v < U → a v = -1) → cstI c a f U = 0 := fun a h => hsI_z hU (fun v v0 v1 => if_pos (h v v0 v1))
  refine ⟨by decide, fun a ha => ?_, Or.inr ⟨fun v => if v < f then ch v else -1, ⟨fun v v0 v1 => ⟨if_pos v1, bit_0⟩, fun v v0 v1 => ⟨fun _ => if_neg (by omega), fun q => absurd bit_0 q⟩, fun v w v0 vw w1 hv => ?_⟩, ?_⟩⟩
  · show 0 ≤ cstI c a f U
    rw [z a (fun v v0 v1 => (ha.2.1 v v0 v1).1 bit_0)]; exact Int.le_refl _
  · simp only [if_neg (show ¬ v < f by omega)] at hv; exact absurd rfl hv
  · exact (z _ (fun v v0 v1 => if_neg (by omega))).symm
theorem Asg.none (hf : 0 ≤ f) (hU : 0 ≤ U ∧ U ≤ 5) (hs : 0 ≤ s ∧ s < p2 U) (h : s ≠ 0) : Mn (Asg U f ch 0 s) (fun a => cstI c a f U) 1000000 := by
  refine ⟨by decide, fun a ha => ?_, Or.inl rfl⟩
  exfalso
  obtain ⟨v, v0, v1, v2⟩ := bit_ex hs hU h
  by_cases q : v < f
  · exact v2 (ha.1 v v0 q).2
  · have := ((ha.2.1 v (by omega) v1).2 v2).1
    omega
/-- a box that is chosen changes nothing -/
theorem Asg.skip {a : Int → Int} (hk : ∃ u, 0 ≤ u ∧ u < f ∧ ch u = k) : Asg U f ch k s a ↔ Asg U f ch (k + 1) s a := by
  obtain ⟨u, u0, u1, u2⟩ := hk
  constructor
  · rintro ⟨h1, h2, h3⟩
    exact ⟨h1, fun v v0 v1 => ⟨(h2 v v0 v1).1, fun q => ⟨by have := ((h2 v v0 v1).2 q).1; omega, ((h2 v v0 v1).2 q).2⟩⟩, h3⟩
  · rintro ⟨h1, h2, h3⟩
    exact ⟨h1, fun v v0 v1 => ⟨(h2 v v0 v1).1, fun q => ⟨by have := ((h2 v v0 v1).2 q).1; have := ((h2 v v0 v1).2 q).2 u u0 u1; omega, ((h2 v v0 v1).2 q).2⟩⟩, h3⟩
/-- the empty set needs no box -/
theorem Asg.empty {a : Int → Int} {n n' : Int} (h : Asg U f ch n 0 a) : Asg U f ch n' 0 a := ⟨h.1, fun v v0 v1 => ⟨(h.2.1 v v0 v1).1, fun q => absurd bit_0 q⟩, h.2.2⟩
/-- the units from u on don't have the box k -/
def AsE (U f : Int) (ch : Int → Int) (k s u : Int) (a : Int → Int) : Prop := Asg U f ch (k + 1) s a ∧ ∀ v, u ≤ v → v < U → a v ≠ k
theorem AsE.first {a : Int → Int} (hk : 0 ≤ k) : Asg U f ch k s a ↔ AsE U f ch k s f a := by
  constructor
  · rintro ⟨h1, h2, h3⟩
    refine ⟨⟨h1, fun v v0 v1 => ⟨(h2 v v0 v1).1, fun q => ⟨by have := ((h2 v v0 v1).2 q).1; omega, ((h2 v v0 v1).2 q).2⟩⟩, h3⟩, fun v v0 v1 => ?_⟩
    by_cases q : bitI s v = 0
    · rw [(h2 v v0 v1).1 q]; omega
    · have := ((h2 v v0 v1).2 q).1; omega
  · rintro ⟨⟨h1, h2, h3⟩, h4⟩
    exact ⟨h1, fun v v0 v1 => ⟨(h2 v v0 v1).1, fun q => ⟨by have := ((h2 v v0 v1).2 q).1; have := h4 v v0 v1; omega, ((h2 v v0 v1).2 q).2⟩⟩, h3⟩
theorem AsE.last {a : Int → Int} : AsE U f ch k s U a ↔ Asg U f ch (k + 1) s a := ⟨fun h => h.1, fun h => ⟨h, fun v v0 v1 => by omega⟩⟩
theorem AsE.or {a : Int → Int} {u : Int} (hk : 0 ≤ k) (u0 : f ≤ u) : (AsE U f ch k s u a ∨ (Asg U f ch (k + 1) s a ∧ a u = k)) ↔ (u < U → AsE U f ch k s (u + 1) a) ∧ (¬ u < U → AsE U f ch k s u a ∨ (Asg U f ch (k + 1) s a ∧ a u = k)) := by
  constructor
  · intro h
    refine ⟨fun hu => ?_, fun _ => h⟩
    rcases h with h | ⟨h, e⟩
    · exact ⟨h.1, fun v v0 v1 => h.2 v (by omega) v1⟩
    · refine ⟨h, fun v v0 v1 => ?_⟩
      have := h.2.2 u v u0 (by omega) v1 (by omega)
      omega
  · rintro ⟨h1, h2⟩
    by_cases hu : u < U
    · have h := h1 hu
      by_cases q : a u = k
      · exact Or.inr ⟨h.1, q⟩
      · refine Or.inl ⟨h.1, fun v v0 v1 => ?_⟩
        by_cases z : v = u
        · rw [z]; exact q
        · exact h.2 v (by omega) v1
    · exact h2 hu
theorem AsE.or2 {a : Int → Int} {u : Int} (hk : 0 ≤ k) (u0 : f ≤ u) (hu : u < U) : (AsE U f ch k s u a ∨ (Asg U f ch (k + 1) s a ∧ a u = k)) ↔ AsE U f ch k s (u + 1) a :=
  (AsE.or hk u0).trans ⟨fun h => h.1 hu, fun h => ⟨fun _ => h, fun z => absurd hu z⟩⟩
theorem AsE.step0 {u x : Int} (hk : 0 ≤ k) (u0 : f ≤ u) (hu : u < U) (hb : bitI s u = 0) (h : Mn (AsE U f ch k s u) (fun a => cstI c a f U) x) : Mn (AsE U f ch k s (u + 1)) (fun a => cstI c a f U) (if 1000000 < x then 1000000 else x) :=
  (h.or2 (P' := fun a => Asg U f ch (k + 1) s a ∧ a u = k) ⟨by decide, fun a ha => by have := (ha.1.2.1 u u0 hu).1 hb; omega, Or.inl (Int.le_refl _)⟩).cP (fun a => AsE.or2 hk u0 hu)
theorem AsE.step1 {u x y : Int} (hk : 0 ≤ k) (f0 : 0 ≤ f) (u0 : f ≤ u) (hu : u < U) (hU : U ≤ 5) (hs : 0 ≤ s ∧ s < 64) (hb : bitI s u ≠ 0) (hn : ∀ v, 0 ≤ v → v < f → ch v ≠ k) (hc : 0 ≤ c k u) (h : Mn (AsE U f ch k s u) (fun a => cstI c a f U) x) (h' : Mn (Asg U f ch k (subI s u)) (fun a => cstI c a f U) y) :
    Mn (AsE U f ch k s (u + 1)) (fun a => cstI c a f U) (if y + c k u < x then y + c k u else x) := by
  have bs : ∀ v, 0 ≤ v → v < U → bitI (subI s u) v = if v = u then 0 else bitI s v := fun v v0 v1 => bit_sub hs ⟨by omega, by omega⟩ ⟨v0, by omega⟩
  refine (h.or2 (P' := fun a => Asg U f ch (k + 1) s a ∧ a u = k) ⟨by have := h'.1; omega, fun a ha => ?_, ?_⟩).cP (fun a => AsE.or2 hk u0 hu)
  · obtain ⟨⟨h1, h2, h3⟩, e⟩ := ha
    have A' : Asg U f ch k (subI s u) (se1 a u (-1)) := by
      refine ⟨fun v v0 v1 => ?_, fun v v0 v1 => ?_, fun v w v0 vw w1 hv => ?_⟩
      · rw [se1_n (by omega), bs v v0 (by omega), if_neg (by omega)]; exact h1 v v0 v1
      · rw [bs v (by omega) v1]
        by_cases q : v = u
        · rw [q, se1_s, if_pos rfl]; exact ⟨fun _ => rfl, fun z => absurd rfl z⟩
        · rw [se1_n q, if_neg q]
          refine ⟨(h2 v v0 v1).1, fun z => ?_⟩
          have g := (h2 v v0 v1).2 z
          have ne : a v ≠ k := fun y => by
            rcases (show v < u ∨ u < v by omega) with l | l
            · exact h3 v u v0 l hu (by omega) (by omega)
            · exact h3 u v u0 l v1 (by omega) (by omega)
          exact ⟨by omega, g.2⟩
      · by_cases q : v = u
        · rw [q, se1_s] at hv; exact absurd rfl hv
        · rw [se1_n q] at hv ⊢
          by_cases z : w = u
          · rw [z, se1_s]; exact hv
          · rw [se1_n z]; exact h3 v w v0 vw w1 hv
    have e2 : a = se1 (se1 a u (-1)) u k := by
      funext v
      by_cases q : v = u
      · rw [q, se1_s]; exact e
      · rw [se1_n q, se1_n q]
    have y1 : y ≤ cstI c (se1 a u (-1)) f U := h'.2.1 _ A'
    have e3 := cst_one (c := c) (a := se1 a u (-1)) (k := k) u0 hu (by omega) se1_s
    rw [← e2] at e3
    show y + c k u ≤ cstI c a f U
    omega
  · rcases h'.2.2 with q | ⟨a, ⟨h1, h2, h3⟩, e⟩
    · left; omega
    · right
      have au : a u = -1 := (h2 u u0 hu).1 (by rw [bs u (by omega) hu, if_pos rfl])
      have lt : ∀ v, f ≤ v → v < U → v ≠ u → a v = -1 ∨ (0 ≤ a v ∧ a v < k) := fun v v0 v1 v2 => by
        by_cases q : bitI (subI s u) v = 0
        · exact Or.inl ((h2 v v0 v1).1 q)
        · exact Or.inr ((h2 v v0 v1).2 q).1
      refine ⟨se1 a u k, ⟨⟨fun v v0 v1 => ?_, fun v v0 v1 => ?_, fun v w v0 vw w1 hv => ?_⟩, se1_s⟩, by show y + c k u = cstI c (se1 a u k) f U; have e4 : y = cstI c a f U := e; rw [cst_one u0 hu (by omega) au]; omega⟩
      · have g := h1 v v0 v1
        rw [bs v v0 (by omega), if_neg (by omega)] at g
        rw [se1_n (by omega)]; exact g
      · by_cases q : v = u
        · rw [q, se1_s]; exact ⟨fun z => absurd z hb, fun _ => ⟨by omega, hn⟩⟩
        · have g := h2 v v0 v1
          rw [bs v (by omega) v1, if_neg q] at g
          rw [se1_n q]
          exact ⟨g.1, fun z => ⟨by have := (g.2 z).1; omega, (g.2 z).2⟩⟩
      · by_cases q : v = u
        · rw [q, se1_s, se1_n (by omega)]
          have := lt w (by omega) w1 (by omega)
          omega
        · rw [se1_n q] at hv ⊢
          by_cases z : w = u
          · rw [z, se1_s]
            have := lt v v0 (by omega) q
            omega
          · rw [se1_n z]; exact h3 v w v0 vw w1 hv
end SETS
