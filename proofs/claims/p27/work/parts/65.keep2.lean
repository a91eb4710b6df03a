/-! ===== the calls of the class leave what holds between calls: box, book, end ===== -/
section KP2
variable {hi : Hi} {nb nk : Int}
theorem boxH_v {kd ls un : Int} : (boxH hi nb kd ls un 1 nb 0 = kd ∧ boxH hi nb kd ls un 1 nb 1 = ls ∧ boxH hi nb kd ls un 1 nb 5 = un ∧ boxH hi nb kd ls un 1 nb 6 = 0 ∧ boxH hi nb kd ls un 1 nb 7 = -1 ∧ boxH hi nb kd ls un 1 nb 8 = -1 ∧ boxH hi nb kd ls un 1 nb 9 = -1) ∧
    boxH hi nb kd ls un 4 nb 4 = 0 ∧ boxH hi nb kd ls un 4 nb 5 = 0 ∧ boxH hi nb kd ls un 3 nb 2 = 0 ∧ boxH hi nb kd ls un 2 nb 2 = 0 := by
  simp [boxH, cF1, cF2, cF3, cF4, zf, up1]
theorem Inv.boxed (hI : Inv hi nb nk) {kd ls un : Int} (h : cC_box nb kd ls un = 0) : Inv (up1 (boxH hi nb kd ls un) 6 0 6 (nb + 1)) (nb + 1) nk := by
  have hn := hI.num
  unfold vNum at hn
  have hd := hI.day
  unfold vDay at hd
  have r : (-1 ≤ ls ∧ ls ≤ 2) ∧ (0 ≤ kd ∧ kd ≤ 2 ∧ 0 ≤ un ∧ un ≤ 9999) ∧ nb < 40 := by unfold cC_box at h; (repeat' split at h) <;> omega
  have bv := boxH_v (hi := hi) (nb := nb) (kd := kd) (ls := ls) (un := un)
  generalize hC : boxH hi nb kd ls un = C at *
  have old : ∀ (k : Nat) (x j : Int), x ≠ nb → C k x j = hi k x j := fun k x j hx => by rw [← hC]; exact boxH_r (Or.inr hx)
  have oth : ∀ (k : Nat) (x j : Int), isBk k = false → C k x j = hi k x j := fun k x j hx => by rw [← hC]; exact boxH_r (Or.inl hx)
  have oldf : ∀ (k : Nat) (x : Int), x ≠ nb → C k x = hi k x := fun k x hx => funext fun j => old k x j hx
  have mk : ∀ k, k ≠ 6 → up1 C 6 0 6 (nb + 1) k = C k := fun k h1 => by
    funext i j
    rw [up1_n (fun z => h1 z.1)]
  have mm : ∀ k, k ≠ 6 → isBk k = false → up1 C 6 0 6 (nb + 1) k = hi k := fun k h1 h2 => by
    funext i j
    rw [up1_n (fun z => h1 z.1), oth k i j h2]
  have c6 : ∀ j, j ≠ 6 → up1 C 6 0 6 (nb + 1) 6 0 j = hi 6 0 j := fun j h0 => by
    rw [up1_n (by omega), oth 6 0 j rfl]
  refine ⟨?_, ?_, ?_, ?_, ?_, ?_, ?_, ?_, ?_, ?_, ?_⟩
  · refine ⟨by omega, by omega, by omega, by omega, up1_s, ?_, rfl, rfl⟩
    rw [c6 7 (by decide)]; omega
  · unfold vDay
    rw [c6 8 (by decide), c6 9 (by decide), c6 10 (by decide)]
    exact hI.day
  · unfold vCst
    rw [mm 9 (by decide) rfl]
    exact hI.cst
  · unfold vQuo
    rw [mm 11 (by decide) rfl]
    exact hI.quo
  · unfold vStd
    rw [mm 12 (by decide) rfl]
    exact hI.std
  · intro x x0 x1
    rw [mk 1 (by decide), c6 8 (by decide)]
    by_cases q : x = nb
    · subst q
      omega
    · rw [oldf 1 x q]
      exact hI.box x x0 (by omega)
  · intro x x0 x1
    rw [mk 4 (by decide), mk 22 (by decide), mk 23 (by decide), mk 24 (by decide), mk 25 (by decide), c6 8 (by decide)]
    by_cases q : x = nb
    · subst q
      rw [bv.2.1, bv.2.2.1]
      exact ⟨⟨rfl, by omega, by omega, rfl⟩, fun k k0 k1 => by omega⟩
    · rw [oldf 4 x q, oldf 22 x q, oldf 23 x q, oldf 24 x q, oldf 25 x q]
      exact hI.rep x x0 (by omega)
  · intro x x0 x1
    rw [mk 3 (by decide), mk 26 (by decide), mk 27 (by decide), mk 1 (by decide)]
    by_cases q : x = nb
    · subst q
      rw [bv.2.2.2.1]
      exact ⟨⟨rfl, by omega, by omega, fun z => by omega⟩, fun k k0 k1 => by omega⟩
    · rw [oldf 3 x q, oldf 26 x q, oldf 27 x q, oldf 1 x q]
      exact hI.lea x x0 (by omega)
  · intro x x0 x1
    rw [mk 2 (by decide), mk 28 (by decide), mk 29 (by decide)]
    by_cases q : x = nb
    · subst q
      rw [bv.2.2.2.2]
      exact ⟨⟨rfl, by omega, by omega⟩, fun k k0 k1 => by omega⟩
    · rw [oldf 2 x q, oldf 28 x q, oldf 29 x q]
      exact hI.dam x x0 (by omega)
  · intro k k0 k1
    have e : givI (fun b => up1 C 6 0 6 (nb + 1) 1 b 7) (nb + 1) k = givI (fun b => hi 1 b 7) nb k := by
      unfold givI
      rw [mk 1 (by decide), sI_s (by omega), bI_f (P := C 1 nb 7 = k) (by rw [bv.1.2.2.2.2.1]; omega), Int.add_zero]
      exact sI_c (fun b b0 b1 => by show bI (C 1 b 7 = k) = bI (hi 1 b 7 = k); rw [oldf 1 b (by omega)])
    rw [e, mm 0 (by decide) rfl]
    exact hI.bok k k0 k1
  · intro x x0 x1
    rw [mk 1 (by decide), mm 0 (by decide) rfl]
    by_cases q : x = nb
    · subst q
      intro z
      omega
    · rw [oldf 1 x q]
      exact hI.ext x x0 (by omega)
theorem Inv.booked (hI : Inv hi nb nk) {po kd wa : Int} (h : cC_book nk po kd wa = 0) : Inv (up1 (bokH hi nk po kd wa) 6 0 7 (nk + 1)) nb (nk + 1) := by
  have hn := hI.num
  unfold vNum at hn
  have r : (0 ≤ po ∧ po < 6) ∧ (0 ≤ kd ∧ kd ≤ 2 ∧ 1 ≤ wa ∧ wa ≤ 9) ∧ nk < 20 := by unfold cC_book at h; (repeat' split at h) <;> omega
  have bv : bokH hi nk po kd wa 0 nk 0 = po ∧ bokH hi nk po kd wa 0 nk 1 = kd ∧ bokH hi nk po kd wa 0 nk 2 = wa ∧ bokH hi nk po kd wa 0 nk 3 = 0 ∧ bokH hi nk po kd wa 0 nk 4 = 0 := by simp [bokH, cF0, zf, up1]
  generalize hC : bokH hi nk po kd wa = C at *
  have oth : ∀ (k : Nat) (x j : Int), k ≠ 0 ∨ x ≠ nk → C k x j = hi k x j := fun k x j hx => by rw [← hC]; exact bokH_r hx
  have m1 : up1 C 6 0 7 (nk + 1) 0 = C 0 := by
    funext i j
    rw [up1_n (by omega)]
  have q : ∀ k, k ≠ 6 → k ≠ 0 → up1 C 6 0 7 (nk + 1) k = hi k := fun k h1 h2 => by
    funext i j
    rw [up1_n (fun z => h1 z.1), oth k i j (Or.inl h2)]
  have c6 : ∀ j, j ≠ 7 → up1 C 6 0 7 (nk + 1) 6 0 j = hi 6 0 j := fun j h0 => by
    rw [up1_n (by omega), oth 6 0 j (by omega)]
  refine ⟨?_, ?_, ?_, ?_, ?_, ?_, ?_, ?_, ?_, ?_, ?_⟩
  · refine ⟨by omega, by omega, by omega, by omega, ?_, up1_s, rfl, rfl⟩
    rw [c6 6 (by decide)]; omega
  · unfold vDay
    rw [c6 8 (by decide), c6 9 (by decide), c6 10 (by decide)]
    exact hI.day
  · unfold vCst
    rw [q 9 (by decide) (by decide)]
    exact hI.cst
  · unfold vQuo
    rw [q 11 (by decide) (by decide)]
    exact hI.quo
  · unfold vStd
    rw [q 12 (by decide) (by decide)]
    exact hI.std
  · intro x x0 x1
    rw [q 1 (by decide) (by decide), c6 8 (by decide)]
    have o := hI.box x x0 x1
    exact ⟨o.1, o.2.1, o.2.2.1, o.2.2.2.1, o.2.2.2.2.1, rfl, o.2.2.2.2.2.2.1, by omega⟩
  · unfold vRep
    rw [q 4 (by decide) (by decide), q 22 (by decide) (by decide), q 23 (by decide) (by decide), q 24 (by decide) (by decide), q 25 (by decide) (by decide), c6 8 (by decide)]
    exact hI.rep
  · exact hI.lea.c (q 26 (by decide) (by decide)) (q 27 (by decide) (by decide)) (q 3 (by decide) (by decide)) (fun x => by rw [q 1 (by decide) (by decide)]; exact ⟨rfl, rfl⟩)
  · unfold vDam
    rw [q 2 (by decide) (by decide), q 28 (by decide) (by decide), q 29 (by decide) (by decide)]
    exact hI.dam
  · intro k k0 k1
    rw [m1, q 1 (by decide) (by decide)]
    by_cases z : k = nk
    · subst z
      rw [bv.1, bv.2.1, bv.2.2.1, bv.2.2.2.1, bv.2.2.2.2]
      refine ⟨by omega, by omega, by omega, by omega, by omega, fun _ => ?_⟩
      unfold givI
      have : sI (fun b => bI (hi 1 b 7 = k)) nb = sI (fun _ => 0) nb := sI_c (fun b b0 b1 => bI_f (by have := (hI.box b b0 b1).2.2.2.2.2; omega))
      rw [this]
      have := sI_r (f := fun _ => 0) (n := nb) (a := 0) (b := 0) (fun i _ _ => by omega) (by omega)
      omega
    · rw [oth 0 k 0 (by omega), oth 0 k 1 (by omega), oth 0 k 2 (by omega), oth 0 k 3 (by omega), oth 0 k 4 (by omega)]
      exact hI.bok k k0 (by omega)
  · intro x x0 x1
    rw [m1, q 1 (by decide) (by decide)]
    intro z
    have o := hI.ext x x0 x1 z
    have g := (hI.box x x0 x1).2.2.2.2.2
    rw [oth 0 (hi 1 x 7) 4 (by omega)]
    exact o
theorem Inv.ended (hI : Inv hi nb nk) {k : Int} (h : cC_end hi nk k = 0) : Inv (enH hi k nb) nb nk := by
  have hn := hI.num
  unfold vNum at hn
  have r : (0 ≤ k ∧ k < nk) ∧ hi 0 k 4 = 0 := by unfold cC_end at h; (repeat' split at h) <;> omega
  have c17 : ∀ x, enH hi k nb 1 x 7 = if 0 ≤ x ∧ x < nb ∧ hi 1 x 7 = k then -1 else hi 1 x 7 := fun x => by
    simp [enH]
  have c16 : ∀ x, enH hi k nb 1 x 6 = if 0 ≤ x ∧ x < nb ∧ hi 1 x 7 = k then 1 else hi 1 x 6 := fun x => by
    simp [enH]
  have c1 : ∀ x j, j ≠ 6 → j ≠ 7 → enH hi k nb 1 x j = hi 1 x j := fun x j h6 h7 => by
    simp [enH, h6, h7]
  have c0 : ∀ x j, j ≠ 4 ∨ x ≠ k → enH hi k nb 0 x j = hi 0 x j := fun x j hx => by
    have : ¬ (x = k ∧ j = 4) := by omega
    simp [enH, this]
  refine ⟨hI.num, hI.day, hI.cst, hI.quo, hI.std, fun x x0 x1 => ?_, hI.rep, hI.lea.c rfl rfl rfl (fun x => ⟨c1 x 1 (by decide) (by decide), c1 x 8 (by decide) (by decide)⟩), hI.dam, fun x x0 x1 => ?_, fun x x0 x1 => ?_⟩
  · have o := hI.box x x0 x1
    rw [c17, c16, c1 x 0 (by decide) (by decide), c1 x 1 (by decide) (by decide), c1 x 5 (by decide) (by decide), c1 x 8 (by decide) (by decide)]
    refine ⟨o.1, o.2.1, o.2.2.1, ⟨rfl, ?_⟩, o.2.2.2.2.1, rfl, ?_, ?_⟩
    · have := o.2.2.2.1.2
      split <;> omega
    · split <;> omega
    · split <;> omega
  · have o := hI.bok x x0 x1
    by_cases q : x = k
    · subst q
      have e4 : enH hi x nb 0 x 4 = 1 := by simp [enH]
      rw [c0 x 0 (by omega), c0 x 1 (by omega), c0 x 2 (by omega), c0 x 3 (by omega), e4]
      exact ⟨o.1, o.2.1, o.2.2.1, by omega, o.2.2.2.2.1, fun z => by omega⟩
    · rw [c0 x 0 (by omega), c0 x 1 (by omega), c0 x 2 (by omega), c0 x 3 (by omega), c0 x 4 (by omega)]
      refine ⟨o.1, o.2.1, o.2.2.1, o.2.2.2.1, o.2.2.2.2.1, fun z => ?_⟩
      rw [o.2.2.2.2.2 z]
      unfold givI
      refine sI_c (fun b b0 b1 => bI_iff ?_)
      show hi 1 b 7 = x ↔ enH hi k nb 1 b 7 = x
      rw [c17]
      split <;> omega
  · rw [c17, c1 x 8 (by decide) (by decide)]
    intro z
    by_cases q : 0 ≤ x ∧ x < nb ∧ hi 1 x 7 = k
    · rw [if_pos q] at z
      omega
    · rw [if_neg q] at z ⊢
      rw [c0 _ 4 (by omega)]
      exact hI.ext x x0 x1 z
end KP2
/-! ===== serving: what the booking numbers become ===== -/
section KP3
variable {hi : Hi} {nb nk : Int}
/-- serving gives boxes that had no booking, that could serve, to bookings that aren't over -/
def svN (hi : Hi) (B C : Int → Int) (n : Int) : Prop := ∀ b, C b = B b ∨ (B b = -1 ∧ srvC hi b ∧ 0 ≤ C b ∧ C b < n ∧ hi 0 (C b) 4 = 0)
theorem svN.rfl' {B : Int → Int} {n : Int} : svN hi B B n := fun _ => Or.inl rfl
theorem svN.trans {B C E : Int → Int} {n m : Int} (h1 : svN hi B C n) (h2 : svN hi C E m) (hn : n ≤ m) : svN hi B E m := by
  intro b
  rcases h1 b with q | q
  · rcases h2 b with z | z
    · exact Or.inl (z.trans q)
    · rw [q] at z; exact Or.inr z
  · rcases h2 b with z | z
    · rw [z]; exact Or.inr ⟨q.1, q.2.1, q.2.2.1, by omega, q.2.2.2.2⟩
    · exact absurd z.1 (by omega)
theorem svK_r {k L : Int} {B : Int → Int} (h0 : 0 ≤ nb) (hL : 0 ≤ L) (j : Nat) : 0 ≤ (svK hi nb k L B j).2 ∧ (svK hi nb k L B j).2 ≤ L := by
  induction j with
  | zero => exact ⟨Int.le_refl _, hL⟩
  | succ j ih =>
    simp only [svK]
    have := gvI_r (ok := okS hi (svK hi nb k L B j).1 (hi 0 k 0) (hi 0 k 1 + j)) (lack := L - (svK hi nb k L B j).2) (n := nb) h0
    have := this.2.2.1 (by omega)
    omega
theorem svK_n {k L : Int} {B : Int → Int} (h0 : 0 ≤ nb) (hk : 0 ≤ k) (hL : 0 ≤ L) (ho : 0 < L → hi 0 k 4 = 0) (j : Nat) : svN hi B (svK hi nb k L B j).1 (k + 1) := by
  induction j with
  | zero => exact svN.rfl'
  | succ j ih =>
    refine ih.trans ?_ (Int.le_refl _)
    intro b
    simp only [svK]
    unfold gvB
    split
    next e =>
      have o := bI_ne.mp (show okS hi (svK hi nb k L B j).1 (hi 0 k 0) (hi 0 k 1 + j) b ≠ 0 by rw [e.2.2.1]; decide)
      have g := gvI_r (ok := okS hi (svK hi nb k L B j).1 (hi 0 k 0) (hi 0 k 1 + j)) (lack := L - (svK hi nb k L B j).2) (n := b) e.1
      have r := svK_r (hi := hi) (k := k) (B := B) h0 hL j
      exact Or.inr ⟨o.2.2.1, o.2.1, hk, by omega, ho (by omega)⟩
    next => exact Or.inl rfl
/-- what a booking lacks as serving comes to it -/
noncomputable def svL (hi : Hi) (nb : Int) (B : Int → Int) (k : Int) : Int := if hi 0 k 4 = 0 then hi 0 k 2 - givI B nb k else 0
theorem svK_g {k L : Int} {B : Int → Int} (h0 : 0 ≤ nb) (hk : 0 ≤ k) (j : Nat) : givI (svK hi nb k L B j).1 nb k = givI B nb k + (svK hi nb k L B j).2 ∧ ∀ k', k' ≠ k → k' ≠ -1 → givI (svK hi nb k L B j).1 nb k' = givI B nb k' := by
  induction j with
  | zero => exact ⟨by simp only [svK]; omega, fun _ _ _ => rfl⟩
  | succ j ih =>
    simp only [svK]
    have v := givI_gv (ok := okS hi (svK hi nb k L B j).1 (hi 0 k 0) (hi 0 k 1 + j)) (B := (svK hi nb k L B j).1) (lack := L - (svK hi nb k L B j).2) (k := k) (nb := nb) (by omega) (fun b q => (bI_ne.mp (show okS hi (svK hi nb k L B j).1 (hi 0 k 0) (hi 0 k 1 + j) b ≠ 0 by rw [q]; decide)).2.2.1) h0
    exact ⟨by rw [v.1, ih.1]; omega, fun k' h1 h2 => by rw [v.2 k' h1 h2, ih.2 k' h1 h2]⟩
/-- where boxes that are given have numbers of bookings that are not given too many -/
def svB (hi : Hi) (nb nk : Int) (B : Int → Int) : Prop := ∀ k, 0 ≤ k → k < nk → hi 0 k 4 = 0 → givI B nb k ≤ hi 0 k 2
theorem svL_0 {B : Int → Int} (hB : svB hi nb nk B) {k : Int} (k0 : 0 ≤ k) (k1 : k < nk) : 0 ≤ svL hi nb B k := by
  unfold svL
  by_cases q : hi 0 k 4 = 0
  · rw [if_pos q]; have := hB k k0 k1 q; omega
  · rw [if_neg q]; exact Int.le_refl _
theorem svO_e {B : Int → Int} {k : Int} : svO hi nb k B = svK hi nb k (svL hi nb B k) B (3 - hi 0 k 1).toNat := rfl
theorem svO_all {B : Int → Int} (hB : svB hi nb nk B) (h0 : 0 ≤ nb) {k : Int} (k0 : 0 ≤ k) (k1 : k < nk) : svN hi B (svO hi nb k B).1 (k + 1) ∧ svB hi nb nk (svO hi nb k B).1 ∧ (svO hi nb k B).2 = svL hi nb B k - svL hi nb (svO hi nb k B).1 k ∧ ∀ k', k' ≠ k → k' ≠ -1 → givI (svO hi nb k B).1 nb k' = givI B nb k' := by
  have hL := svL_0 hB k0 k1
  rw [svO_e]
  have g := svK_g (hi := hi) (L := svL hi nb B k) (B := B) h0 k0 (3 - hi 0 k 1).toNat
  have r := svK_r (hi := hi) (k := k) (B := B) h0 hL (3 - hi 0 k 1).toNat
  have n := svK_n (hi := hi) (B := B) (L := svL hi nb B k) h0 k0 hL (fun z => by unfold svL at z; by_cases q : hi 0 k 4 = 0; exact q; (rw [if_neg q] at z; exact absurd z (by omega))) (3 - hi 0 k 1).toNat
  generalize svK hi nb k (svL hi nb B k) B (3 - hi 0 k 1).toNat = S at *
  refine ⟨n, fun k' a b c => ?_, ?_, g.2⟩
  · by_cases e : k' = k
    · subst e
      rw [g.1]
      unfold svL at r
      rw [if_pos c] at r
      omega
    · rw [g.2 k' e (by omega)]
      exact hB k' a b c
  · unfold svL at r ⊢
    by_cases q : hi 0 k 4 = 0
    · rw [if_pos q, if_pos q, g.1]; omega
    · rw [if_neg q] at r
      rw [if_neg q, if_neg q]; omega
theorem svI_all {B : Int → Int} (hB : svB hi nb nk B) (h0 : 0 ≤ nb) (m : Nat) : (m : Int) ≤ nk → svN hi B (svI hi nb B m).1 m ∧ svB hi nb nk (svI hi nb B m).1 ∧ (svI hi nb B m).2 = sI (fun k => svL hi nb B k - svL hi nb (svI hi nb B m).1 k) m ∧ ∀ k', (m : Int) ≤ k' → givI (svI hi nb B m).1 nb k' = givI B nb k' := by
  induction m with
  | zero => exact fun _ => ⟨svN.rfl', hB, rfl, fun _ _ => rfl⟩
  | succ m ih =>
    intro hm
    obtain ⟨i1, i2, i3, i4⟩ := ih (by omega)
    have e : ((m + 1 : Nat) : Int) = (m : Int) + 1 := by omega
    rw [e, svI_s (by omega)]
    obtain ⟨o1, o2, o3, o4⟩ := svO_all (k := (m : Int)) i2 h0 (by omega) (by omega)
    refine ⟨i1.trans o1 (by omega), o2, ?_, fun k' hk => by rw [o4 k' (by omega) (by omega), i4 k' (by omega)]⟩
    show (svI hi nb B m).2 + (svO hi nb m (svI hi nb B m).1).2 = _
    rw [sI_s (by omega), o3, i3]
    have e1 : sI (fun k => svL hi nb B k - svL hi nb (svI hi nb B m).1 k) (m : Int) = sI (fun k => svL hi nb B k - svL hi nb (svO hi nb m (svI hi nb B m).1).1 k) (m : Int) := sI_c (fun k a b => by
      unfold svL
      rw [o4 k (by omega) (by omega)])
    have e2 : svL hi nb (svI hi nb B m).1 m = svL hi nb B m := by
      unfold svL
      rw [i4 m (Int.le_refl _)]
    rw [e1, e2]
/-- a booking that still lacks boxes has got all that there were -/
theorem svK_full {k L : Int} {B : Int → Int} (h0 : 0 ≤ nb) (hL : 0 ≤ L) (j : Nat) : (svK hi nb k L B j).2 = L ∨ ∀ i : Nat, i < j → ∀ b, 0 ≤ b → b < nb → okS hi (svK hi nb k L B j).1 (hi 0 k 0) (hi 0 k 1 + i) b = 0 ∨ k = -1 := by
  induction j with
  | zero => exact Or.inr (fun i hi => absurd hi (Nat.not_lt_zero _))
  | succ j ih =>
    have r := svK_r (hi := hi) (k := k) (B := B) h0 hL j
    by_cases kz : k = -1
    · exact Or.inr (fun i _ b _ _ => Or.inr kz)
    by_cases full : (svK hi nb k L B (j + 1)).2 = L
    · exact Or.inl full
    right
    simp only [svK] at full ⊢
    generalize hC : (svK hi nb k L B j).1 = C at *
    generalize hc : (svK hi nb k L B j).2 = c at *
    have g := gvI_r (ok := okS hi C (hi 0 k 0) (hi 0 k 1 + j)) (lack := L - c) (n := nb) h0
    have gl := g.2.2.1 (by omega)
    -- every box that was right has been given
    have all : ∀ b, 0 ≤ b → b < nb → okS hi C (hi 0 k 0) (hi 0 k 1 + j) b = 1 → gvB (okS hi C (hi 0 k 0) (hi 0 k 1 + j)) (L - c) k C nb b = k := by
      intro b b0 b1 hb
      unfold gvB
      refine if_pos ⟨b0, b1, hb, ?_⟩
      apply Int.not_le.mp
      intro z
      have := gvI_full (ok := okS hi C (hi 0 k 0) (hi 0 k 1 + j)) (lack := L - c) (m := b) (n := nb) b0 z (by omega)
      omega
    intro i hij b b0 b1
    left
    rcases okS_01 (hi := hi) (B := gvB (okS hi C (hi 0 k 0) (hi 0 k 1 + j)) (L - c) k C nb) (po := hi 0 k 0) (kd := hi 0 k 1 + i) (b := b) with q | q
    · exact q
    exfalso
    have z := bI_ne.mp (show okS hi (gvB (okS hi C (hi 0 k 0) (hi 0 k 1 + j)) (L - c) k C nb) (hi 0 k 0) (hi 0 k 1 + i) b ≠ 0 by rw [q]; decide)
    have zb : gvB (okS hi C (hi 0 k 0) (hi 0 k 1 + j)) (L - c) k C nb b = C b := by
      have := z.2.2.1
      unfold gvB at this ⊢
      split
      next e => rw [if_pos e] at this; exact absurd this kz
      next => rfl
    have zc : C b = -1 := by rw [← zb]; exact z.2.2.1
    by_cases ij : i = j
    · subst ij
      have h1 : okS hi C (hi 0 k 0) (hi 0 k 1 + i) b = 1 := bI_t ⟨z.1, z.2.1, zc, z.2.2.2⟩
      have h2 := all b b0 b1 h1
      rw [z.2.2.1] at h2
      exact kz h2.symm
    · rcases ih with q | q
      · omega
      · rcases q i (by omega) b b0 b1 with y | y
        · exact bI_eq.mp y ⟨z.1, z.2.1, zc, z.2.2.2⟩
        · exact kz y
/-- where nothing is given -/
theorem gvI_zero {ok : Int → Int} {lack : Int} (m : Nat) {n : Int} (hm : (m : Int) ≤ n) (h : lack ≤ 0 ∨ ∀ b, 0 ≤ b → b < n → ok b = 0) : gvI ok lack m = 0 := by
  induction m with
  | zero => rfl
  | succ m ih =>
    have e : ((m + 1 : Nat) : Int) = (m : Int) + 1 := by omega
    have hn : ¬ (ok m = 1 ∧ 0 < lack) := by
      rintro ⟨a, b⟩
      rcases h with q | q
      · omega
      · have := q m (by omega) (by omega)
        omega
    rw [e, gvI_s (by omega), ih (by omega), if_neg hn]
    rfl
theorem gvI_zero' {ok : Int → Int} {lack n : Int} (hn : 0 ≤ n) (h : lack ≤ 0 ∨ ∀ b, 0 ≤ b → b < n → ok b = 0) : gvI ok lack n = 0 := by
  have := gvI_zero (ok := ok) (lack := lack) n.toNat (n := n) (by omega) h
  rw [show ((n.toNat : Nat) : Int) = n by omega] at this
  exact this
theorem gvB_zero {ok B : Int → Int} {lack k n : Int} (h : lack ≤ 0 ∨ ∀ b, 0 ≤ b → b < n → ok b = 0) : gvB ok lack k B n = B := by
  funext b
  unfold gvB
  refine if_neg (fun z => ?_)
  rcases h with q | q
  · have := gvI_r (ok := ok) (lack := lack) (n := b) z.1
    omega
  · have := q b z.1 z.2.1
    omega
/-- a booking that lacks nothing, or for which there is nothing, gets nothing -/
theorem svK_none {k L : Int} {B : Int → Int} (h0 : 0 ≤ nb) (h : L ≤ 0 ∨ ∀ j : Nat, hi 0 k 1 + (j : Int) < 3 → ∀ b, 0 ≤ b → b < nb → okS hi B (hi 0 k 0) (hi 0 k 1 + j) b = 0) (j : Nat) : hi 0 k 1 + (j : Int) ≤ 3 → svK hi nb k L B j = (B, 0) := by
  induction j with
  | zero => exact fun _ => rfl
  | succ j ih =>
    intro hj
    have i := ih (by omega)
    simp only [svK]
    rw [i]
    have h' : L - 0 ≤ 0 ∨ ∀ b, 0 ≤ b → b < nb → okS hi B (hi 0 k 0) (hi 0 k 1 + j) b = 0 := by
      rcases h with q | q
      · exact Or.inl (by omega)
      · exact Or.inr (q j (by omega))
    show (gvB _ (L - 0) k B nb, (0 : Int) + gvI _ (L - 0) nb) = _
    rw [gvB_zero h', gvI_zero' h0 h']
    rfl
/-- served twice: the second time nothing is given -/
def svF (hi : Hi) (nb : Int) (B : Int → Int) (k : Int) : Prop := svL hi nb B k = 0 ∨ ∀ j : Nat, hi 0 k 1 + (j : Int) < 3 → ∀ b, 0 ≤ b → b < nb → okS hi B (hi 0 k 0) (hi 0 k 1 + j) b = 0
theorem okS_mono {B C : Int → Int} {n po kd b : Int} (h : svN hi B C n) (z : okS hi B po kd b = 0) : okS hi C po kd b = 0 := by
  unfold okS at z ⊢
  refine bI_f (fun w => bI_eq.mp z ⟨w.1, w.2.1, ?_, w.2.2.2⟩)
  rcases h b with q | q
  · rw [← q]; exact w.2.2.1
  · exact q.1
theorem svF.mono {B C : Int → Int} {n k : Int} (h : svN hi B C n) (hg : givI C nb k = givI B nb k) (z : svF hi nb B k) : svF hi nb C k := by
  rcases z with q | q
  · left
    unfold svL at q ⊢
    rw [hg]
    exact q
  · exact Or.inr (fun j hj b b0 b1 => okS_mono h (q j hj b b0 b1))
theorem svO_f {B : Int → Int} (hB : svB hi nb nk B) (h0 : 0 ≤ nb) {k : Int} (k0 : 0 ≤ k) (k1 : k < nk) (hkd : 0 ≤ hi 0 k 1 ∧ hi 0 k 1 ≤ 2) : svF hi nb (svO hi nb k B).1 k := by
  have hL := svL_0 hB k0 k1
  have o := svO_all hB h0 k0 k1
  rcases svK_full (hi := hi) (nb := nb) (k := k) (B := B) h0 hL (3 - hi 0 k 1).toNat with q | q
  · left
    have : (svO hi nb k B).2 = svL hi nb B k := q
    omega
  · right
    intro j hj b b0 b1
    rcases q j (by omega) b b0 b1 with z | z
    · exact z
    · omega
theorem svI_f {B : Int → Int} (hB : svB hi nb nk B) (h0 : 0 ≤ nb) (hkd : ∀ k, 0 ≤ k → k < nk → 0 ≤ hi 0 k 1 ∧ hi 0 k 1 ≤ 2) (m : Nat) : (m : Int) ≤ nk → ∀ k, 0 ≤ k → k < (m : Int) → svF hi nb (svI hi nb B m).1 k := by
  induction m with
  | zero => intro _ k a b; omega
  | succ m ih =>
    intro hm k a b
    obtain ⟨i1, i2, i3, i4⟩ := svI_all hB h0 m (by omega)
    have e : ((m + 1 : Nat) : Int) = (m : Int) + 1 := by omega
    rw [e, svI_s (by omega)]
    have o := svO_all (k := (m : Int)) i2 h0 (by omega) (by omega)
    by_cases q : k = (m : Int)
    · subst q
      exact svO_f i2 h0 (by omega) (by omega) (hkd m (by omega) (by omega))
    · exact (ih (by omega) k a (by omega)).mono o.1 (o.2.2.2 k q (by omega))
theorem svI_twice {B : Int → Int} (h0 : 0 ≤ nb) (hf : ∀ k, 0 ≤ k → k < nk → svF hi nb B k) (hkd : ∀ k, 0 ≤ k → k < nk → 0 ≤ hi 0 k 1 ∧ hi 0 k 1 ≤ 2) (m : Nat) : (m : Int) ≤ nk → svI hi nb B m = (B, 0) := by
  induction m with
  | zero => exact fun _ => rfl
  | succ m ih =>
    intro hm
    have e : ((m + 1 : Nat) : Int) = (m : Int) + 1 := by omega
    rw [e, svI_s (by omega), ih (by omega)]
    have k9 := hkd m (by omega) (by omega)
    have : svO hi nb m B = (B, 0) := by
      rw [svO_e]
      refine svK_none h0 ?_ _ (by omega)
      rcases hf m (by omega) (by omega) with q | q
      · exact Or.inl (by omega)
      · exact Or.inr q
    rw [this]
    rfl
theorem Inv.svB (hI : Inv hi nb nk) : svB hi nb nk (fun b => hi 1 b 7) := fun k k0 k1 q => by
  have := hI.bok k k0 k1
  have := this.2.2.2.2.2 q
  omega
theorem Inv.served (hI : Inv hi nb nk) {B g : Int → Int} (hB : (svI hi nb (fun b => hi 1 b 7) nk).1 = B) (hg : ∀ k, 0 ≤ k → k < nk → 0 ≤ g k ∧ g k ≤ hi 0 k 2 ∧ (hi 0 k 4 = 0 → g k = givI B nb k)) (hb : ∀ b, 0 ≤ b → b < nb → -1 ≤ B b ∧ B b < nk) : Inv (setB hi B g) nb nk := by
  have hn := hI.num
  unfold vNum at hn
  have a := svI_all (nk := nk) hI.svB (by omega) nk.toNat (by omega)
  rw [show ((nk.toNat : Nat) : Int) = nk by omega, hB] at a
  have c17 : ∀ x, setB hi B g 1 x 7 = B x := fun x => by simp [setB]
  have c1 : ∀ x j, j ≠ 7 → setB hi B g 1 x j = hi 1 x j := fun x j hj => by simp [setB, hj]
  have c03 : ∀ x, setB hi B g 0 x 3 = g x := fun x => by simp [setB]
  have c0 : ∀ x j, j ≠ 3 → setB hi B g 0 x j = hi 0 x j := fun x j hj => by simp [setB, hj]
  refine ⟨hI.num, hI.day, hI.cst, hI.quo, hI.std, fun x x0 x1 => ?_, hI.rep, hI.lea.c rfl rfl rfl (fun x => ⟨c1 x 1 (by decide), c1 x 8 (by decide)⟩), hI.dam, fun x x0 x1 => ?_, fun x x0 x1 => ?_⟩
  · have o := hI.box x x0 x1
    rw [c17, c1 x 0 (by decide), c1 x 1 (by decide), c1 x 5 (by decide), c1 x 6 (by decide), c1 x 8 (by decide)]
    exact ⟨o.1, o.2.1, o.2.2.1, o.2.2.2.1, o.2.2.2.2.1, rfl, hb x x0 x1⟩
  · have o := hI.bok x x0 x1
    have w := hg x x0 x1
    have eg : givI (fun b => setB hi B g 1 b 7) nb x = givI B nb x := sI_c (fun b _ _ => by show bI (setB hi B g 1 b 7 = x) = bI (B b = x); rw [c17])
    rw [eg, c03, c0 x 0 (by decide), c0 x 1 (by decide), c0 x 2 (by decide), c0 x 4 (by decide)]
    exact ⟨o.1, o.2.1, o.2.2.1, o.2.2.2.1, ⟨w.1, w.2.1⟩, w.2.2⟩
  · rw [c17, c1 x 8 (by decide), c0 _ 4 (by decide)]
    intro z
    rcases a.1 x with q | q
    · have q' : B x = hi 1 x 7 := q
      rw [q'] at z ⊢
      exact hI.ext x x0 x1 z
    · exact ⟨q.2.1.1, q.2.2.2.2⟩
end KP3
