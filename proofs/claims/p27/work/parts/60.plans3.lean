/-! ===== plans: the best of all ===== -/
def zeT : Int → Int := fun _ => 0
/-- how many units go without, where as many as can be have a box -/
def woI (U S : Int) : Int := if U < S then 0 else U - S
def Bst (U S : Int) (c : Int → Int → Int) (L : Int) (a : Int → Int) : Prop := Fea U S zeT 0 (woI U S) a ∧ L = cstI c a 0 U ∧ ∀ b, Fea U S zeT 0 (woI U S) b → L ≤ cstI c b 0 U ∧ (cstI c b 0 U = L → Lex S a b 0 U)
theorem Fea.rng {U S u wo : Int} {T a : Int → Int} (h : Fea U S T u wo a) : ∀ v, u ≤ v → v < U → a v = -1 ∨ (0 ≤ a v ∧ a v < S) := fun v v0 v1 => by
  rcases h.1 v v0 v1 with z | z
  · exact Or.inl z
  · exact Or.inr ⟨z.1, z.2.1⟩
theorem Bst.eq {U S L L' : Int} {c c' : Int → Int → Int} {a b : Int → Int} (hU : 0 ≤ U) (h : Bst U S c L a) (h' : Bst U S c' L' b) (hc : ∀ i v, 0 ≤ i → i < S → 0 ≤ v → v < U → c i v = c' i v) : L = L' ∧ ∀ v, 0 ≤ v → v < U → a v = b v := by
  obtain ⟨a1, a2, a3⟩ := h
  obtain ⟨b1, b2, b3⟩ := h'
  have e : ∀ x, Fea U S zeT 0 (woI U S) x → cstI c x 0 U = cstI c' x 0 U := fun x hx => cstI_c (fun _ _ _ => rfl) (fun v v0 v1 hv => by
    rcases hx.1 v v0 v1 with z | z
    · exact absurd z hv
    · exact hc _ v z.1 z.2.1 v0 v1)
  have x1 := (a3 b b1).1
  have x2 := (b3 a a1).1
  have ea := e a a1
  have eb := e b b1
  have hL : L = L' := by omega
  exact ⟨hL, Lex.eq hU a1.rng b1.rng ((a3 b b1).2 (by omega)) ((b3 a a1).2 (by omega))⟩
def fiI (S : Int) : Int → Int := fun v => if v < S then v else -1
theorem fi_cnt {S U u : Int} (u0 : 0 ≤ u) (hu : u ≤ U) : hsI (fun v => if fiI S v = -1 then 1 else 0) u U = if U < S then 0 else if u < S then U - S else U - u := by
  obtain ⟨n, hn⟩ := Int.eq_ofNat_of_zero_le (show 0 ≤ U - u by omega)
  induction n generalizing u with
  | zero =>
    rw [show u = U by omega, hsI_0]
    (repeat' split) <;> omega
  | succ n ih =>
    rw [hsI_s (by omega), ih (by omega) (by omega) (by omega)]
    by_cases q : u < S
    · have : ¬ fiI S u = -1 := by unfold fiI; rw [if_pos q]; omega
      rw [if_neg this]
      (repeat' split) <;> omega
    · have : fiI S u = -1 := by unfold fiI; rw [if_neg q]
      rw [if_pos this]
      (repeat' split) <;> omega
theorem Fea_ex {U S : Int} (hU : 0 ≤ U) (hS : 0 ≤ S) : Fea U S zeT 0 (woI U S) (fiI S) := by
  refine ⟨fun v v0 v1 => ?_, fun v w v0 vw w1 hv => ?_, ?_⟩
  · unfold fiI
    by_cases q : v < S
    · right; rw [if_pos q]; exact ⟨v0, q, rfl⟩
    · left; rw [if_neg q]
  · unfold fiI at *
    by_cases q : v < S
    · rw [if_pos q]
      by_cases z : w < S
      · rw [if_pos z]; omega
      · rw [if_neg z]; omega
    · rw [if_neg q] at hv; exact absurd rfl hv
  · rw [fi_cnt (Int.le_refl _) hU]
    unfold woI
    (repeat' split) <;> omega
theorem cst_r {U S u wo : Int} {T a : Int → Int} {c : Int → Int → Int} (h : Fea U S T u wo a) (hU : u ≤ U) (hc : ∀ i v, 0 ≤ i → i < S → u ≤ v → v < U → 0 ≤ c i v ∧ c i v ≤ 9999) : 0 ≤ cstI c a u U ∧ cstI c a u U ≤ 9999 * (U - u) := by
  have := hsI_r (f := fun v => if a v = -1 then 0 else c (a v) v) (u := u) (U := U) (a := 0) (b := 9999) hU (fun v v0 v1 => by
    by_cases q : a v = -1
    · simp only [q, if_true]; omega
    · simp only [q, if_false]
      rcases h.1 v v0 v1 with z | z
      · exact absurd z q
      · exact hc _ v z.1 z.2.1 v0 v1)
  unfold cstI
  omega
theorem hsI_cut {f : Int → Int} {u U : Int} (h0 : 0 ≤ u) (h : u ≤ U) : hsI f 0 U = sI f u + hsI f u U := by
  obtain ⟨n, rfl⟩ := Int.eq_ofNat_of_zero_le h0
  induction n with
  | zero => rw [show ((0 : Nat) : Int) = 0 from rfl, sI_0]; omega
  | succ n ih =>
    have e : ((n + 1 : Nat) : Int) = (n : Int) + 1 := by omega
    rw [ih (by omega) (by omega), e, sI_s (by omega), hsI_s (show (n : Int) < U by omega)]
    omega
theorem hsI_z {f : Int → Int} {u U : Int} (h : u ≤ U) (hz : ∀ v, u ≤ v → v < U → f v = 0) : hsI f u U = 0 := by
  have := hsI_r (f := f) (u := u) (U := U) (a := 0) (b := 0) h (fun i i0 i1 => by have := hz i i0 i1; omega)
  omega
theorem hsI_up {f : Int → Int} {u U V : Int} (h : u ≤ U) (hV : U ≤ V) (hz : ∀ v, U ≤ v → v < V → f v = 0) : hsI f u V = hsI f u U := by
  obtain ⟨n, hn⟩ := Int.eq_ofNat_of_zero_le (show 0 ≤ U - u by omega)
  induction n generalizing u with
  | zero => rw [show u = U by omega, hsI_0, hsI_z hV hz]
  | succ n ih => rw [hsI_s (show u < V by omega), hsI_s (show u < U by omega), ih (by omega) (by omega)]
theorem tuR.bst {h1 hk : Hi} {U S : Int} (hA : tuA h1 U S) (hL : h1 5 0 10 = 49996) (hT : ∀ i, 0 ≤ i → i < S → h1 18 0 i = 0) (r : tuR h1 hk U S 0 0 (woI U S) (fun _ => True)) : ∃ a, Bst U S (tuC h1) (hk 5 0 10) a ∧ ∀ v, 0 ≤ v → v < U → hk 20 0 v = if a v = -1 then -1 else h1 16 0 (a v) := by
  obtain ⟨a1, a2, a3, a4, a5, a6, a7, a8⟩ := hA
  have to : ∀ a, Fea U S zeT 0 (woI U S) a → Fea U S (h1 18 0) 0 (woI U S) a := fun a h => h.c (fun _ _ _ => rfl) (fun i i0 i1 => (hT i i0 i1).symm)
  have fro : ∀ a, Fea U S (h1 18 0) 0 (woI U S) a → Fea U S zeT 0 (woI U S) a := fun a h => h.c (fun _ _ _ => rfl) hT
  obtain ⟨r1, r2, r3⟩ := r
  rcases r3 with z | ⟨a, f1, -, f3, f4, f5, f6, f7⟩
  · exfalso
    have ex := Fea_ex a3.1 a4.1
    have b := cst_r (c := tuC h1) ex a3.1 (fun i v i0 i1 v0 v1 => a7 _ _ (a5 i i0 i1).1 (a5 i i0 i1).2 (a6 v v0 v1).1 (a6 v v0 v1).2)
    have := r2 _ (to _ ex) trivial
    omega
  · refine ⟨a, ⟨fro a f1, by omega, fun b hb => ⟨by have := r2 b (to b hb) trivial; omega, fun e => f7 b (to b hb) trivial (by omega)⟩⟩, f6⟩
