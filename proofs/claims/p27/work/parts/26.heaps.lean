/-! ===== heaps behind the small methods ===== -/
theorem r_hp {I : MI} {pc : Nat} {xs : List (Option Av)} {st : List Av} {hi hi' : Hi} {nb nk : Int} {cs sl : Nat} {Q : Option Av → Hp → Prop} {X : String → Hp → Prop} (e : hi = hi') (k : Run I pc xs st (hp hi' nb nk) cs sl Q X) : Run I pc xs st (hp hi nb nk) cs sl Q X := by rw [e]; exact k
theorem up1_same {α : Type} {f : Nat → Int → Int → α} {k : Nat} {i j : Int} {v : α} (h : f k i j = v) : up1 f k i j v = f := by
  funext a b c
  unfold up1
  split
  next e => obtain ⟨rfl, rfl, rfl⟩ := e; exact h.symm
  next => rfl
theorem hp_c {hi hi' : Hi} {nb nk : Int} (e : hi = hi') : hp hi nb nk = hp hi' nb nk := by rw [e]
/-- a life gone through anew, as far as n reports -/
def livH (hi : Hi) (b n : Int) : Hi := fun k i j => if k = 25 ∧ i = b ∧ 0 ≤ j ∧ j < n then livI (hi 23 b) (hi 24 b) (j + 1) else if k = 4 ∧ i = b ∧ j = 5 then dbtI (hi 23 b) (hi 24 b) n else hi k i j
theorem livH_0 {hi : Hi} {b : Int} : up1 hi 4 b 5 0 = livH hi b 0 := by
  funext k a j
  unfold livH up1
  rw [if_neg (c := k = 25 ∧ a = b ∧ 0 ≤ j ∧ j < 0) (by omega)]
  rfl
theorem livH_s {hi : Hi} {b i : Int} (h : 0 ≤ i) : up1 (up1 (livH hi b i) 4 b 5 (dbtI (hi 23 b) (hi 24 b) (i + 1))) 25 b i (livI (hi 23 b) (hi 24 b) (i + 1)) = livH hi b (i + 1) := by
  funext k a j
  unfold livH up1
  by_cases h1 : k = 25 ∧ a = b ∧ j = i
  · obtain ⟨rfl, rfl, rfl⟩ := h1
    rw [if_pos ⟨rfl, rfl, rfl⟩, if_pos ⟨rfl, rfl, h, by omega⟩]
  · rw [if_neg h1]
    by_cases h2 : k = 4 ∧ a = b ∧ j = 5
    · obtain ⟨rfl, rfl, rfl⟩ := h2
      simp
    · have e : (k = 25 ∧ a = b ∧ 0 ≤ j ∧ j < i) ↔ (k = 25 ∧ a = b ∧ 0 ≤ j ∧ j < i + 1) := by omega
      simp only [e, h2, if_false]
theorem livH_s1 {hi : Hi} {b i : Int} (h : 0 ≤ i) (hf : fitsP (livI (hi 23 b) (hi 24 b) i) (hi 23 b i) (hi 24 b i)) : up1 (livH hi b i) 25 b i (behI (hi 23 b i) (hi 24 b i)) = livH hi b (i + 1) := by
  rw [← livH_s h, up1_same (k := 4) (i := b) (j := 5), livI_s h]
  · unfold stpI; rw [if_pos hf]
  · have : dbtI (hi 23 b) (hi 24 b) (i + 1) = dbtI (hi 23 b) (hi 24 b) i := by unfold dbtI; rw [sI_s h, if_pos hf, Int.add_zero]
    rw [this]; unfold livH; simp
theorem livH_s2 {hi : Hi} {b i : Int} (h : 0 ≤ i) (hf : ¬ fitsP (livI (hi 23 b) (hi 24 b) i) (hi 23 b i) (hi 24 b i)) : up1 (up1 (livH hi b i) 4 b 5 (dbtI (hi 23 b) (hi 24 b) i + 1)) 25 b i (livI (hi 23 b) (hi 24 b) i) = livH hi b (i + 1) := by
  rw [← livH_s h, livI_s h]
  have : dbtI (hi 23 b) (hi 24 b) (i + 1) = dbtI (hi 23 b) (hi 24 b) i + 1 := by unfold dbtI; rw [sI_s h, if_neg hf]
  rw [this]; unfold stpI; rw [if_neg hf]
theorem dbtI_r {ev po : Int → Int} {n : Int} (h : 0 ≤ n) : 0 ≤ dbtI ev po n ∧ dbtI ev po n ≤ n := by
  have := sI_r (f := fun k => if fitsP (livI ev po k) (ev k) (po k) then 0 else 1) (n := n) (a := 0) (b := 1) (fun i _ _ => by by_cases q : fitsP (livI ev po i) (ev i) (po i) <;> simp [q]) h
  unfold dbtI
  omega
/-- where a new report goes -/
def posN (ds : Int → Int) (day : Int) : Nat → Int
  | 0 => 0
  | n + 1 => if day < ds n then posN ds day n else (n : Int) + 1
def posI (ds : Int → Int) (day n : Int) : Int := posN ds day n.toNat
theorem posI_0 {ds : Int → Int} {day : Int} : posI ds day 0 = 0 := rfl
theorem posI_s {ds : Int → Int} {day n : Int} (h : 0 < n) : posI ds day n = if day < ds (n - 1) then posI ds day (n - 1) else n := by
  unfold posI
  obtain ⟨m, hm⟩ := Int.eq_ofNat_of_zero_le (show 0 ≤ n - 1 by omega)
  have e1 : n.toNat = m + 1 := by omega
  have e2 : (n - 1).toNat = m := by omega
  have e3 : n - 1 = (m : Int) := by omega
  rw [e1, e2, e3]
  simp only [posN]
  split <;> omega
theorem posN_r {ds : Int → Int} {day : Int} (n : Nat) : 0 ≤ posN ds day n ∧ posN ds day n ≤ n := by
  induction n with
  | zero => simp [posN]
  | succ n ih => simp only [posN]; split <;> omega
theorem posI_r {ds : Int → Int} {day n : Int} (h : 0 ≤ n) : 0 ≤ posI ds day n ∧ posI ds day n ≤ n := by
  have := posN_r (ds := ds) (day := day) n.toNat
  unfold posI
  omega
theorem posI_c {ds es : Int → Int} {day n : Int} (h : ∀ k, 0 ≤ k → k < n → ds k = es k) : posI ds day n = posI es day n := by
  unfold posI
  have : ∀ m : Nat, (m : Int) ≤ n ∨ m = 0 → posN ds day m = posN es day m := by
    intro m
    induction m with
    | zero => intro _; rfl
    | succ m ih =>
      intro hm
      simp only [posN]
      rw [ih (Or.inl (by omega)), h m (by omega) (by omega)]
  exact this n.toNat (by omega)
/-- the reports behind place a moved up by one -/
def shH (hi : Hi) (b a n : Int) : Hi := fun k i j => if (k = 22 ∨ k = 23 ∨ k = 24) ∧ i = b ∧ a < j ∧ j ≤ n then hi k i (j - 1) else hi k i j
theorem shH_0 {hi : Hi} {b n : Int} : hi = shH hi b n n := by
  funext k i j
  unfold shH
  rw [if_neg (by omega)]
theorem shH_r {hi : Hi} {b a n : Int} {k : Nat} {i j : Int} (h : j ≤ a ∨ (k ≠ 22 ∧ k ≠ 23 ∧ k ≠ 24)) : shH hi b a n k i j = hi k i j := by
  unfold shH
  rw [if_neg (by omega)]
theorem shH_s {hi : Hi} {b a n : Int} (h : a ≤ n) : up1 (up1 (up1 (shH hi b a n) 22 b a (hi 22 b (a - 1))) 23 b a (hi 23 b (a - 1))) 24 b a (hi 24 b (a - 1)) = shH hi b (a - 1) n := by
  funext k i j
  unfold shH up1
  by_cases e : (k = 22 ∨ k = 23 ∨ k = 24) ∧ i = b ∧ j = a
  · obtain ⟨e1, rfl, rfl⟩ := e
    rw [if_pos (c := (k = 22 ∨ k = 23 ∨ k = 24) ∧ i = i ∧ j - 1 < j ∧ j ≤ n) ⟨e1, rfl, by omega, h⟩]
    rcases e1 with rfl | rfl | rfl <;> simp
  · have e1 : ((k = 22 ∨ k = 23 ∨ k = 24) ∧ i = b ∧ a < j ∧ j ≤ n) ↔ ((k = 22 ∨ k = 23 ∨ k = 24) ∧ i = b ∧ a - 1 < j ∧ j ≤ n) := by omega
    rw [if_neg (c := k = 24 ∧ i = b ∧ j = a) (by omega), if_neg (c := k = 23 ∧ i = b ∧ j = a) (by omega), if_neg (c := k = 22 ∧ i = b ∧ j = a) (by omega)]
    simp only [e1]
/-- a report told -/
def insH (hi : Hi) (b n p day ev po : Int) : Hi := up1 (up1 (up1 (up1 (shH hi b p n) 22 b p day) 23 b p ev) 24 b p po) 4 b 4 (n + 1)
def telH (hi : Hi) (b day ev po : Int) : Hi := livH (insH hi b (hi 4 b 4) (posI (hi 22 b) day (hi 4 b 4)) day ev po) b (hi 4 b 4 + 1)
/-- leases ended -/
def endH (hi : Hi) (b day n : Int) : Hi := fun k i j => if k = 27 ∧ i = b ∧ 0 ≤ j ∧ j < n then (if day < hi 27 b j then day else hi 27 b j) else hi k i j
theorem endH_0 {hi : Hi} {b day : Int} : hi = endH hi b day 0 := by
  funext k i j
  unfold endH
  rw [if_neg (by omega)]
theorem endH_s {hi : Hi} {b day n : Int} (h : 0 ≤ n) : up1 (endH hi b day n) 27 b n (if day < hi 27 b n then day else hi 27 b n) = endH hi b day (n + 1) := by
  funext k i j
  unfold endH up1
  by_cases e : k = 27 ∧ i = b ∧ j = n
  · obtain ⟨rfl, rfl, rfl⟩ := e
    rw [if_pos (c := 27 = 27 ∧ i = i ∧ j = j) ⟨rfl, rfl, rfl⟩, if_pos (c := 27 = 27 ∧ i = i ∧ 0 ≤ j ∧ j < j + 1) ⟨rfl, rfl, h, by omega⟩]
  · have e1 : (k = 27 ∧ i = b ∧ 0 ≤ j ∧ j < n) ↔ (k = 27 ∧ i = b ∧ 0 ≤ j ∧ j < n + 1) := by omega
    rw [if_neg e]
    simp only [e1]
theorem endH_r {hi : Hi} {b day n : Int} {k : Nat} {i j : Int} (h : k ≠ 27 ∨ n ≤ j) : endH hi b day n k i j = hi k i j := by
  unfold endH
  rw [if_neg (by omega)]
