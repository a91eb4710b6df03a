/-! ===== constructors: rows over heaps told as three functions; references not yet laid ===== -/
def zf (f : Hi) (k : Nat) (N : Int) : Hi := fun k' i' j => if k' = k ∧ i' = N then 0 else f k' i' j
def zr (r : Nat → Int → Int → Rf) (k : Nat) (N : Int) : Nat → Int → Int → Rf := fun k' i' j => if k' = k ∧ i' = N then none else r k' i' j
def nS (n : Nat → Int) (k : Nat) : Nat → Int := fun k' => if k' = k then n k + 1 else n k'
/-- the references between calls, but those of the objects in L, from a field on -/
def RP (nb nk : Int) (L : List (Nat × Int × Int)) : Nat → Int → Int → Rf := fun k i j => if L.any (fun q => decide (k = q.1 ∧ i = q.2.1 ∧ q.2.2 ≤ j)) = true then none else HR nb nk k i j
theorem RP_nil {nb nk : Int} : RP nb nk [] = HR nb nk := by
  funext k i j
  simp [RP]
theorem RP_end {nb nk : Int} {L : List (Nat × Int × Int)} {t : Nat} {b p : Int} (h : ∀ j, p ≤ j → HR nb nk t b j = none) : RP nb nk ((t, b, p) :: L) = RP nb nk L := by
  funext k i j
  unfold RP
  rw [List.any_cons]
  by_cases q : k = t ∧ i = b ∧ p ≤ j
  · obtain ⟨rfl, rfl, h2⟩ := q
    simp [h2, h j h2]
  · rw [show decide (k = t ∧ i = b ∧ p ≤ j) = false from decide_eq_false q, Bool.false_or]
theorem RP_new {nb nk : Int} {L : List (Nat × Int × Int)} {t : Nat} {b : Int} (h : ∀ j, j < 0 → HR nb nk t b j = none) : zr (RP nb nk L) t b = RP nb nk ((t, b, 0) :: L) := by
  funext k i j
  unfold zr RP
  rw [List.any_cons]
  by_cases q : k = t ∧ i = b
  · obtain ⟨rfl, rfl⟩ := q
    by_cases q2 : 0 ≤ j
    · simp [q2]
    · simp [q2, h j (by omega)]
  · simp only [q, if_false, show ¬ (k = t ∧ i = b ∧ 0 ≤ j) from fun z => q ⟨z.1, z.2.1⟩, decide_false, Bool.false_or]
theorem RP_arr {nb nk : Int} {L : List (Nat × Int × Int)} {t : Nat} {b : Int} (h : ∀ j, HR nb nk t b j = none) : zr (RP nb nk L) t b = RP nb nk L := by
  funext k i j
  unfold zr
  split
  next q => obtain ⟨rfl, rfl⟩ := q; unfold RP; split <;> simp [h j]
  next => rfl
theorem RP_put {nb nk : Int} {L : List (Nat × Int × Int)} {t : Nat} {b p j0 p' : Int} {q : Nat × Int} (hp' : p' = j0 + 1) (h : HR nb nk t b j0 = some q) (hz : ∀ j, p ≤ j → j < j0 → HR nb nk t b j = none) (hp : p ≤ j0) (hL : ∀ x ∈ L, x.1 ≠ t) : up1 (RP nb nk ((t, b, p) :: L)) t b j0 (some q) = RP nb nk ((t, b, p') :: L) := by
  subst hp'
  funext k i j
  unfold up1 RP
  rw [List.any_cons, List.any_cons]
  by_cases e : k = t ∧ i = b
  · obtain ⟨rfl, rfl⟩ := e
    have hn : L.any (fun q => decide (k = q.1 ∧ i = q.2.1 ∧ q.2.2 ≤ j)) = false := by
      rw [List.any_eq_false]
      intro x hx
      simp only [decide_eq_true_eq]
      exact fun z => hL x hx z.1.symm
    rw [hn]
    by_cases e1 : j = j0
    · subst e1
      have : ¬ (j + 1 ≤ j) := by omega
      simp [h, this]
    · by_cases e2 : p ≤ j
      · by_cases e3 : j0 + 1 ≤ j
        · simp [e1, e2, e3]
        · simp [e1, e2, e3, hz j e2 (by omega)]
      · have : ¬ (j0 + 1 ≤ j) := by omega
        simp [e1, e2, this]
  · rw [if_neg (fun z => e ⟨z.1, z.2.1⟩)]
    have e1 : ¬ (k = t ∧ i = b ∧ p ≤ j) := fun z => e ⟨z.1, z.2.1⟩
    have e2 : ¬ (k = t ∧ i = b ∧ j0 + 1 ≤ j) := fun z => e ⟨z.1, z.2.1⟩
    simp only [e1, e2]
section CR
variable {I : MI} {pc : Nat} {xs : List (Option Av)} {st : List Av} {f : Hi} {r : Nat → Int → Int → Rf} {n : Nat → Int} {cs sl cs' sl' : Nat} {Q : Option Av → Hp → Prop} {X : String → Hp → Prop}
theorem c_new {t index : Nat} {N9 : Int} (hf : ax_Nl (mOwn I) index t) (hd : decode (mC I) pc = .ok (.new index, 3)) (hn : n t = N9) (hc : cs + 1 = cs' ∧ cs' ≤ (mRm I).cells) (hs : sl + (ax_kd t).2 = sl' ∧ sl' ≤ (mRm I).slots) (k : Run I (pc + 3) xs (aR t N9 :: st) (zf f t N9, zr r t N9, nS n t) cs' sl' Q X) : Run I pc xs st (f, r, n) cs sl Q X := by
  subst hn
  obtain ⟨rfl, h1⟩ := hc
  obtain ⟨rfl, h2⟩ := hs
  exact r_new (h := (f, r, n)) hf hd h1 h2 k
theorem c_newa {kk t N : Nat} {atype : ArrayType} {x N9 : Int} (hk : ax_kd kk = (t, N)) (hx : x = N) (hN : N ≤ 10000) (ht : newarray.typeOf atype = ax_aty t ∧ 8 ≤ t ∧ t < 10) (hw : Cond.arrayClass (ax_aty t) ∈ ax_GT) (hd : decode (mC I) pc = .ok (.newarray atype, 2)) (hn : n kk = N9) (hc : cs + 1 = cs' ∧ cs' ≤ (mRm I).cells) (hs : sl + N = sl' ∧ sl' ≤ (mRm I).slots) (k : Run I (pc + 2) xs (aR kk N9 :: st) (zf f kk N9, zr r kk N9, nS n kk) cs' sl' Q X) : Run I pc xs (aI x :: st) (f, r, n) cs sl Q X := by
  subst hn
  obtain ⟨rfl, h1⟩ := hc
  obtain ⟨rfl, h2⟩ := hs
  exact r_newa (h := (f, r, n)) hk hx hN ht hw hd h1 h2 k
theorem c_anew {kk t N index : Nat} {C : String} {x N9 : Int} (hk : ax_kd kk = (t, N)) (hx : x = N) (hN : N ≤ 10000) (ht : ax_aty t = .object C ∧ (t = 11 ∨ t = 12)) (hw : Cond.classLink (mOwn I) index C ∈ ax_GT) (hd : decode (mC I) pc = .ok (.anewarray index, 3)) (hn : n kk = N9) (hc : cs + 1 = cs' ∧ cs' ≤ (mRm I).cells) (hs : sl + N = sl' ∧ sl' ≤ (mRm I).slots) (k : Run I (pc + 3) xs (aR kk N9 :: st) (zf f kk N9, zr r kk N9, nS n kk) cs' sl' Q X) : Run I pc xs (aI x :: st) (f, r, n) cs sl Q X := by
  subst hn
  obtain ⟨rfl, h1⟩ := hc
  obtain ⟨rfl, h2⟩ := hs
  exact r_anew (h := (f, r, n)) hk hx hN ht hw hd h1 h2 k
theorem c_putQ {t j index : Nat} {i jI n9 : Int} {x : Rf} (hf : ax_Fl (mOwn I) index t j) (hr : ax_rf t j = true) (hfin : ax_fin t j = false ∨ ((mY I).name = "<init>" ∧ ax_dcl t j = mOwn I)) (hd : decode (mC I) pc = .ok (.putfield index, 3)) (hj : ((j : Nat) : Int) = jI) (hn : n t = n9) (h0 : 0 ≤ i) (h1 : i < n9) (k : Run I (pc + 3) xs st (f, up1 r t i jI x, n) cs sl Q X) : Run I pc xs (aQ x :: aR t i :: st) (f, r, n) cs sl Q X := by
  subst hj
  subst hn
  exact r_putQ (h := (f, r, n)) hf hr hfin hd h0 h1 k
theorem c_putI {t j index : Nat} {i jI n9 x : Int} (hf : ax_Fl (mOwn I) index t j) (hr : ax_ft t j = .int ∨ (ax_ft t j = .boolean ∧ (x = 0 ∨ x = 1))) (hfin : ax_fin t j = false ∨ ((mY I).name = "<init>" ∧ ax_dcl t j = mOwn I)) (hd : decode (mC I) pc = .ok (.putfield index, 3)) (hj : ((j : Nat) : Int) = jI) (hn : n t = n9) (h0 : 0 ≤ i) (h1 : i < n9) (k : Run I (pc + 3) xs st (up1 f t i jI x, r, n) cs sl Q X) : Run I pc xs (aI x :: aR t i :: st) (f, r, n) cs sl Q X := by
  subst hj
  subst hn
  exact r_putI (h := (f, r, n)) hf hr hfin hd h0 h1 k
theorem c_aast {kk t N : Nat} {i x y m9 n9 : Int} (hk : ax_kd kk = (t + 11, N)) (ht : t = 0 ∨ t = 1) (hd : decode (mC I) pc = .ok (.aastore, 1)) (hn : n kk = n9) (hm : n t = m9) (h0 : 0 ≤ i) (h1 : i < n9) (x0 : 0 ≤ x) (x1 : x < N) (y0 : 0 ≤ y) (y1 : y < m9) (k : Run I (pc + 1) xs st (f, up1 r kk i x (some (t, y)), n) cs sl Q X) : Run I pc xs (aR t y :: aI x :: aR kk i :: st) (f, r, n) cs sl Q X := by
  subst hn
  subst hm
  exact r_aast (h := (f, r, n)) hk ht hd h0 h1 x0 x1 y0 y1 k
theorem c_r {r' : Nat → Int → Int → Rf} (e : r = r') (k : Run I pc xs st (f, r', n) cs sl Q X) : Run I pc xs st (f, r, n) cs sl Q X := by rw [e]; exact k
theorem c_n {n' : Nat → Int} (e : n = n') (k : Run I pc xs st (f, r, n') cs sl Q X) : Run I pc xs st (f, r, n) cs sl Q X := by rw [e]; exact k
theorem c_obj {t index : Nat} {i : Int} (hl : Cond.methodLink (mOwn I) index Lib.objectInit ∈ ax_GT ∧ Cond.instanceMethod Lib.objectInit ∈ ax_GT ∧ Cond.code Lib.objectInit ⟨#[0xb1]⟩ 1 none ∈ ax_GT) (hrm : 1 ≤ (mRm I).frames ∧ (st.map ax_cat).sum + 12 ≤ (mRm I).locals) (hd : decode (mC I) pc = .ok (.invokespecial index, 3)) (k : Run I (pc + 3) xs st (f, r, n) cs sl Q X) : Run I pc xs (aR t i :: st) (f, r, n) cs sl Q X := r_objInit hl hrm hd k
end CR
