/-! ===== what the small methods answer, of whole numbers ===== -/
abbrev fitsP (its ev po : Int) : Prop := (ev = 0 ∧ (its = 10 ∨ its = 11)) ∨ (ev = 3 ∧ (its = 10 ∨ its = 12)) ∨ (ev ≠ 0 ∧ ev ≠ 3 ∧ its = po)
def behI (ev po : Int) : Int := if ev = 1 then 11 else if ev = 2 then 12 else po
def stpI (ev po : Int → Int) (its k : Int) : Int := if fitsP its (ev k) (po k) then behI (ev k) (po k) else its
/-- where a box is behind the first n reports -/
def livI (ev po : Int → Int) (n : Int) : Int := foI (stpI ev po) 10 n
/-- how many of the first n reports are doubtful -/
def dbtI (ev po : Int → Int) (n : Int) : Int := sI (fun k => if fitsP (livI ev po k) (ev k) (po k) then 0 else 1) n
theorem livI_0 {ev po : Int → Int} : livI ev po 0 = 10 := rfl
theorem livI_s {ev po : Int → Int} {n : Int} (h : 0 ≤ n) : livI ev po (n + 1) = stpI ev po (livI ev po n) n := foI_s h
theorem livI_c {ev po ev' po' : Int → Int} {n : Int} (h : ∀ k, 0 ≤ k → k < n → ev k = ev' k ∧ po k = po' k) : livI ev po n = livI ev' po' n := foI_c (fun i h0 h1 x => by unfold stpI; rw [(h i h0 h1).1, (h i h0 h1).2])
theorem dbtI_c {ev po ev' po' : Int → Int} {n : Int} (h : ∀ k, 0 ≤ k → k < n → ev k = ev' k ∧ po k = po' k) : dbtI ev po n = dbtI ev' po' n := sI_c (fun i h0 h1 => by rw [(h i h0 h1).1, (h i h0 h1).2, livI_c (fun k a b => h k a (by omega))])
/-- the place on a day -/
def plcI (ds ev po : Int → Int) (n day : Int) : Int := livI ev po (upI ds day n)
/-- the last of the first n that has begun by a day, or -1 -/
def lasN (fs : Int → Int) (day : Int) : Nat → Int
  | 0 => -1
  | n + 1 => if fs n ≤ day then (n : Int) else lasN fs day n
def lasI (fs : Int → Int) (day n : Int) : Int := lasN fs day n.toNat
theorem lasI_0 {fs : Int → Int} {day : Int} : lasI fs day 0 = -1 := rfl
theorem lasI_s {fs : Int → Int} {day n : Int} (h : 0 ≤ n) : lasI fs day (n + 1) = if fs n ≤ day then n else lasI fs day n := by
  unfold lasI
  obtain ⟨m, rfl⟩ := Int.eq_ofNat_of_zero_le h
  have : ((m : Int) + 1).toNat = m + 1 := by omega
  rw [this]
  simp [lasN]
theorem lasI_r {fs : Int → Int} {day n : Int} (h : 0 ≤ n) : -1 ≤ lasI fs day n ∧ lasI fs day n < n ∧ (lasI fs day n ≠ -1 → fs (lasI fs day n) ≤ day) := by
  unfold lasI
  have : ∀ m : Nat, -1 ≤ lasN fs day m ∧ lasN fs day m < m ∧ (lasN fs day m ≠ -1 → fs (lasN fs day m) ≤ day) := by
    intro m
    induction m with
    | zero => simp [lasN]
    | succ m ih =>
      simp only [lasN]
      split
      next q => exact ⟨by omega, by omega, fun _ => q⟩
      next => exact ⟨ih.1, by omega, ih.2.2⟩
  have h9 := this n.toNat
  omega
theorem lasI_c {fs gs : Int → Int} {day n : Int} (h : ∀ k, 0 ≤ k → k < n → fs k = gs k) : lasI fs day n = lasI gs day n := by
  unfold lasI
  have : ∀ m : Nat, (m : Int) ≤ n ∨ m = 0 → lasN fs day m = lasN gs day m := by
    intro m
    induction m with
    | zero => intro _; rfl
    | succ m ih =>
      intro hm
      simp only [lasN]
      rw [ih (Or.inl (by omega)), h m (by omega) (by omega)]
  exact this n.toNat (by omega)
/-- what mending costs -/
def menI (co si sd : Int → Int) (n : Int) : Int := sI (fun k => if 0 ≤ co k ∧ co k < 5 ∧ sd (co k) < si k then si k * (co k + 1) * 10 else 0) n
theorem menI_s {co si sd : Int → Int} {n : Int} (h : 0 ≤ n) : menI co si sd (n + 1) = menI co si sd n + (if 0 ≤ co n ∧ co n < 5 ∧ sd (co n) < si n then si n * (co n + 1) * 10 else 0) := sI_s h
theorem r_dr {xs : List (Option Av)} {i j : Nat} {v : Av} (hj : (xs.set i none)[j]? = some (some v)) : xs[j]? = some (some v) := by
  by_cases e : i = j
  · subst e
    rw [List.getElem?_set] at hj
    simp at hj
  · rw [List.getElem?_set_ne e] at hj
    exact hj
/-- a local of which nothing more is said -/
theorem r_drop {I : MI} {pc : Nat} {xs xs' : List (Option Av)} {st : List Av} {h : Hp} {cs sl : Nat} {Q : Option Av → Hp → Prop} {X : String → Hp → Prop} (i : Nat) (hx : xs.set i none = xs') (k : Run I pc xs' st h cs sl Q X) : Run I pc xs st h cs sl Q X := by
  intro l p e s m args below meth c D cA z0 n0 ad0 ad H locs ls B
  obtain ⟨hC, hR, hS, hE, hL, hxs, hst⟩ := B
  subst hx
  refine k l p e s m args below meth c D cA z0 n0 ad0 ad H locs ls ⟨hC, hR, hS, hE, ⟨hL.1, hL.2.1, fun j v hj hv9 => hL.2.2 j v (r_dr hj) (hv9.imp id (fun z => r_dr z))⟩, fun v hv => ?_, hst⟩
  · rcases List.mem_or_eq_of_mem_set hv with h1 | h1
    · exact hxs v h1
    · cases h1
