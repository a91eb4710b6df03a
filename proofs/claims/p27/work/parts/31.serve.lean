/-! ===== serving: boxes given one after another ===== -/
def gvN (ok : Int → Int) (lack : Int) : Nat → Int
  | 0 => 0
  | n + 1 => gvN ok lack n + (if ok n = 1 ∧ gvN ok lack n < lack then 1 else 0)
/-- how many of the first n boxes are given -/
def gvI (ok : Int → Int) (lack n : Int) : Int := gvN ok lack n.toNat
theorem gvI_0 {ok : Int → Int} {lack : Int} : gvI ok lack 0 = 0 := rfl
theorem gvI_s {ok : Int → Int} {lack n : Int} (h : 0 ≤ n) : gvI ok lack (n + 1) = gvI ok lack n + (if ok n = 1 ∧ gvI ok lack n < lack then 1 else 0) := by
  unfold gvI
  obtain ⟨m, rfl⟩ := Int.eq_ofNat_of_zero_le h
  have : ((m : Int) + 1).toNat = m + 1 := by omega
  rw [this]
  simp [gvN]
theorem gvN_r {ok : Int → Int} {lack : Int} (n : Nat) : 0 ≤ gvN ok lack n ∧ gvN ok lack n ≤ n ∧ (0 ≤ lack → gvN ok lack n ≤ lack) ∧ (lack ≤ 0 → gvN ok lack n = 0) := by
  induction n with
  | zero => simp [gvN]
  | succ n ih => simp only [gvN]; split <;> omega
theorem gvI_r {ok : Int → Int} {lack n : Int} (h : 0 ≤ n) : 0 ≤ gvI ok lack n ∧ gvI ok lack n ≤ n ∧ (0 ≤ lack → gvI ok lack n ≤ lack) ∧ (lack ≤ 0 → gvI ok lack n = 0) := by
  have := gvN_r (ok := ok) (lack := lack) n.toNat
  unfold gvI
  omega
theorem gvI_full {ok : Int → Int} {lack m n : Int} (h0 : 0 ≤ m) (h : lack ≤ gvI ok lack m) (hn : m ≤ n) : gvI ok lack n = gvI ok lack m := by
  obtain ⟨d, hd⟩ := Int.eq_ofNat_of_zero_le (show 0 ≤ n - m by omega)
  have : ∀ d : Nat, gvI ok lack (m + d) = gvI ok lack m := by
    intro d
    induction d with
    | zero => simp
    | succ d ih =>
      rw [show m + ((d + 1 : Nat) : Int) = m + d + 1 by omega, gvI_s (by omega), ih, if_neg (by omega), Int.add_zero]
  rw [show n = m + (d : Int) by omega]
  exact this d
theorem gvI_c {ok ok' : Int → Int} {lack n : Int} (h : ∀ b, 0 ≤ b → b < n → ok b = ok' b) : gvI ok lack n = gvI ok' lack n := by
  unfold gvI
  have : ∀ m : Nat, (m : Int) ≤ n ∨ m = 0 → gvN ok lack m = gvN ok' lack m := by
    intro m
    induction m with
    | zero => intro _; rfl
    | succ m ih =>
      intro hm
      simp only [gvN]
      rw [ih (Or.inl (by omega)), h m (by omega) (by omega)]
  exact this n.toNat (by omega)
/-- the bookings of the boxes, the first n of them gone through -/
def gvB (ok : Int → Int) (lack k : Int) (B : Int → Int) (n : Int) : Int → Int := fun b => if 0 ≤ b ∧ b < n ∧ ok b = 1 ∧ gvI ok lack b < lack then k else B b
theorem gvB_0 {ok B : Int → Int} {lack k : Int} : gvB ok lack k B 0 = B := by
  funext b
  unfold gvB
  rw [if_neg (by omega)]
theorem gvB_full {ok B : Int → Int} {lack k m n : Int} (h0 : 0 ≤ m) (h : lack ≤ gvI ok lack m) (hn : m ≤ n) : gvB ok lack k B n = gvB ok lack k B m := by
  funext b
  unfold gvB
  by_cases e : b < m
  · have : (0 ≤ b ∧ b < n ∧ ok b = 1 ∧ gvI ok lack b < lack) ↔ (0 ≤ b ∧ b < m ∧ ok b = 1 ∧ gvI ok lack b < lack) := by omega
    simp only [this]
  · rw [if_neg (c := 0 ≤ b ∧ b < m ∧ ok b = 1 ∧ gvI ok lack b < lack) (by omega), if_neg (fun q => by have := gvI_full h0 h (show m ≤ b by omega); omega)]
theorem gvB_s0 {ok B : Int → Int} {lack k n : Int} (h : ¬ (ok n = 1 ∧ gvI ok lack n < lack)) : gvB ok lack k B (n + 1) = gvB ok lack k B n := by
  funext b
  unfold gvB
  by_cases e : b = n
  · subst e; rw [if_neg (by omega), if_neg (by omega)]
  · have : (0 ≤ b ∧ b < n + 1 ∧ ok b = 1 ∧ gvI ok lack b < lack) ↔ (0 ≤ b ∧ b < n ∧ ok b = 1 ∧ gvI ok lack b < lack) := by omega
    simp only [this]
theorem gvB_at {ok B : Int → Int} {lack k n b : Int} (h : n ≤ b) : gvB ok lack k B n b = B b := by
  unfold gvB
  rw [if_neg (by omega)]
/-- bookings of boxes, and how many are given, set anew -/
def setB (hi : Hi) (B g : Int → Int) : Hi := fun kk a j => if kk = 1 ∧ j = 7 then B a else if kk = 0 ∧ j = 3 then g a else hi kk a j
theorem setB_0 {hi : Hi} : setB hi (fun b => hi 1 b 7) (fun k => hi 0 k 3) = hi := by
  funext kk a j
  unfold setB
  split
  next e => obtain ⟨rfl, rfl⟩ := e; rfl
  next =>
    split
    next e => obtain ⟨rfl, rfl⟩ := e; rfl
    next => rfl
theorem setB_r {hi : Hi} {B g : Int → Int} {kk : Nat} {a j : Int} (h : ¬ (kk = 1 ∧ j = 7) ∧ ¬ (kk = 0 ∧ j = 3)) : setB hi B g kk a j = hi kk a j := by
  unfold setB
  rw [if_neg h.1, if_neg h.2]
def gad (g : Int → Int) (k c : Int) : Int → Int := fun a => if a = k then g k + c else g a
theorem gad_0 {g : Int → Int} {k : Int} : gad g k 0 = g := by
  funext a
  unfold gad
  split
  next e => rw [e, Int.add_zero]
  next => rfl
theorem setB_s {hi : Hi} {ok B g : Int → Int} {lack k n : Int} (h0 : 0 ≤ n) (h : ok n = 1 ∧ gvI ok lack n < lack) :
    up1 (up1 (setB hi (gvB ok lack k B n) (gad g k (gvI ok lack n))) 1 n 7 k) 0 k 3 (g k + gvI ok lack n + 1) = setB hi (gvB ok lack k B (n + 1)) (gad g k (gvI ok lack (n + 1))) := by
  have e1 : gvI ok lack (n + 1) = gvI ok lack n + 1 := by rw [gvI_s h0, if_pos h]
  funext kk a j
  simp only [setB, up1]
  by_cases q1 : kk = 0 ∧ a = k ∧ j = 3
  · obtain ⟨rfl, rfl, rfl⟩ := q1
    simp [gad, e1]
    omega
  · rw [if_neg q1]
    by_cases q2 : kk = 1 ∧ a = n ∧ j = 7
    · obtain ⟨rfl, rfl, rfl⟩ := q2
      simp [gvB, h, h0]
      omega
    · rw [if_neg q2]
      by_cases q3 : kk = 1 ∧ j = 7
      · rw [if_pos q3, if_pos q3]
        unfold gvB
        have : (0 ≤ a ∧ a < n ∧ ok a = 1 ∧ gvI ok lack a < lack) ↔ (0 ≤ a ∧ a < n + 1 ∧ ok a = 1 ∧ gvI ok lack a < lack) := by omega
        simp only [this]
      · rw [if_neg q3, if_neg q3]
        by_cases q4 : kk = 0 ∧ j = 3
        · rw [if_pos q4, if_pos q4]
          unfold gad
          rw [if_neg (by omega), if_neg (by omega)]
        · rw [if_neg q4, if_neg q4]
/-- whether a box could serve, its booking aside -/
def srvC (hi : Hi) (b : Int) : Prop := hi 1 b 8 = -1 ∧ hi 1 b 6 = 0 ∧ hi 6 0 8 ≤ hi 1 b 5 ∧ menC hi b = 0
/-- whether a box is given, when a booking at a port is served with a kind -/
noncomputable def okS (hi : Hi) (B : Int → Int) (po kd b : Int) : Int := bI (hi 1 b 0 = kd ∧ srvC hi b ∧ B b = -1 ∧ plcC hi b (hi 6 0 8) = po)
noncomputable def svK (hi : Hi) (nb k L : Int) (B : Int → Int) : Nat → (Int → Int) × Int
  | 0 => (B, 0)
  | m + 1 => (gvB (okS hi (svK hi nb k L B m).1 (hi 0 k 0) (hi 0 k 1 + m)) (L - (svK hi nb k L B m).2) k (svK hi nb k L B m).1 nb,
      (svK hi nb k L B m).2 + gvI (okS hi (svK hi nb k L B m).1 (hi 0 k 0) (hi 0 k 1 + m)) (L - (svK hi nb k L B m).2) nb)
/-- a booking served with each of its kinds -/
noncomputable def svO (hi : Hi) (nb k : Int) (B : Int → Int) : (Int → Int) × Int := svK hi nb k (if hi 0 k 4 = 0 then hi 0 k 2 - givI B nb k else 0) B (3 - hi 0 k 1).toNat
noncomputable def svS (hi : Hi) (nb : Int) (B : Int → Int) : Nat → (Int → Int) × Int
  | 0 => (B, 0)
  | k + 1 => ((svO hi nb k (svS hi nb B k).1).1, (svS hi nb B k).2 + (svO hi nb k (svS hi nb B k).1).2)
/-- all bookings served -/
noncomputable def svI (hi : Hi) (nb : Int) (B : Int → Int) (n : Int) : (Int → Int) × Int := svS hi nb B n.toNat
theorem svI_s {hi : Hi} {nb : Int} {B : Int → Int} {n : Int} (h : 0 ≤ n) : svI hi nb B (n + 1) = ((svO hi nb n (svI hi nb B n).1).1, (svI hi nb B n).2 + (svO hi nb n (svI hi nb B n).1).2) := by
  unfold svI
  obtain ⟨m, rfl⟩ := Int.eq_ofNat_of_zero_le h
  have : ((m : Int) + 1).toNat = m + 1 := by omega
  rw [this]
  simp [svS]
theorem okS_01 {hi : Hi} {B : Int → Int} {po kd b : Int} : okS hi B po kd b = 0 ∨ okS hi B po kd b = 1 := bI_01
/-- boxes given are counted -/
theorem givI_gv {ok B : Int → Int} {lack k nb : Int} (hk : k ≠ -1) (hok : ∀ b, ok b = 1 → B b = -1) (h0 : 0 ≤ nb) : givI (gvB ok lack k B nb) nb k = givI B nb k + gvI ok lack nb ∧ ∀ k', k' ≠ k → k' ≠ -1 → givI (gvB ok lack k B nb) nb k' = givI B nb k' := by
  have key : ∀ n : Nat, sI (fun b => bI (gvB ok lack k B nb b = k)) n = sI (fun b => bI (B b = k)) n + gvI ok lack n ∨ ¬ (n : Int) ≤ nb := by
    intro n
    induction n with
    | zero => exact Or.inl rfl
    | succ n ih =>
      by_cases hn : ((n + 1 : Nat) : Int) ≤ nb
      · left
        rcases ih with ih | ih
        · rw [show ((n + 1 : Nat) : Int) = (n : Int) + 1 by omega, sI_s (by omega), sI_s (by omega), gvI_s (by omega), ih]
          by_cases q : ok n = 1 ∧ gvI ok lack n < lack
          · have e1 : gvB ok lack k B nb n = k := by unfold gvB; exact if_pos ⟨by omega, by omega, q.1, q.2⟩
            rw [if_pos q, bI_t e1, bI_f (fun z => hk (by rw [← z, hok _ q.1]))]
            omega
          · have e1 : gvB ok lack k B nb n = B n := by unfold gvB; exact if_neg (fun z => q z.2.2)
            rw [if_neg q, e1]
            omega
        · exact absurd (by omega) ih
      · exact Or.inr hn
  constructor
  · have := key nb.toNat
    rw [show ((nb.toNat : Nat) : Int) = nb by omega] at this
    rcases this with h | h
    · exact h
    · omega
  · intro k' h1 h2
    unfold givI
    refine sI_c (fun b b0 b1 => bI_iff ?_)
    unfold gvB
    split
    next e => constructor
              · intro z; exact absurd z.symm h1
              · intro z; rw [hok _ e.2.2.1] at z; exact absurd z.symm h2
    next => exact Iff.rfl
theorem givI_r {B : Int → Int} {nb k : Int} (h : 0 ≤ nb) : 0 ≤ givI B nb k ∧ givI B nb k ≤ nb := by
  have := sI_r (f := fun b => bI (B b = k)) (n := nb) (a := 0) (b := 1) (fun i _ _ => bI_le) h
  unfold givI
  omega
