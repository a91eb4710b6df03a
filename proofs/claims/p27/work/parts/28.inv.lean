/-! ===== what holds between calls: the class's heap ===== -/
def vNum (hi : Hi) (nb nk : Int) : Prop := 0 ≤ nb ∧ nb ≤ 40 ∧ 0 ≤ nk ∧ nk ≤ 20 ∧ hi 6 0 6 = nb ∧ hi 6 0 7 = nk ∧ nb = nb ∧ nk = nk
def vDay (hi : Hi) : Prop := hi 6 0 8 = hi 6 0 8 ∧ 0 ≤ hi 6 0 8 ∧ hi 6 0 8 ≤ 9999 ∧ hi 6 0 9 = 5 ∧ 0 ≤ hi 6 0 9 ∧ hi 6 0 9 ≤ 30 ∧ hi 6 0 10 = 500 ∧ 0 ≤ hi 6 0 10 ∧ hi 6 0 10 ≤ 9999
def vCst (hi : Hi) : Prop := ∀ a b, 0 ≤ a → a < 6 → 0 ≤ b → b < 6 → hi 9 a b = hi 9 a b ∧ 0 ≤ hi 9 a b ∧ hi 9 a b ≤ 9999
def vQuo (hi : Hi) : Prop := ∀ a b, 0 ≤ a → a < 3 → 0 ≤ b → b < 6 → hi 11 a b = 2 ∧ 0 ≤ hi 11 a b ∧ hi 11 a b ≤ 9
def vStd (hi : Hi) : Prop := ∀ c, 0 ≤ c → c < 5 → hi 12 0 c = hi 12 0 c ∧ 0 ≤ hi 12 0 c ∧ hi 12 0 c ≤ 20
def vBox (hi : Hi) (nb nk : Int) : Prop := ∀ b, 0 ≤ b → b < nb →
  (hi 1 b 0 = hi 1 b 0 ∧ 0 ≤ hi 1 b 0 ∧ hi 1 b 0 ≤ 2) ∧ (hi 1 b 1 = hi 1 b 1 ∧ -1 ≤ hi 1 b 1 ∧ hi 1 b 1 ≤ 2) ∧ (hi 1 b 5 = hi 1 b 5 ∧ 0 ≤ hi 1 b 5 ∧ hi 1 b 5 ≤ 9999) ∧ (hi 1 b 6 = hi 1 b 6 ∧ (hi 1 b 6 = 0 ∨ hi 1 b 6 = 1)) ∧
  (hi 1 b 8 = hi 1 b 8 ∧ -1 ≤ hi 1 b 8 ∧ hi 1 b 8 ≤ hi 6 0 8) ∧ (hi 1 b 7 = hi 1 b 7 ∧ -1 ≤ hi 1 b 7 ∧ hi 1 b 7 < nk)
/-- the reports: of days that have come, of events and ports that there are; the place behind each -/
def vRep (hi : Hi) (nb : Int) : Prop := ∀ b, 0 ≤ b → b < nb → (hi 4 b 4 = hi 4 b 4 ∧ 0 ≤ hi 4 b 4 ∧ hi 4 b 4 ≤ 30 ∧ hi 4 b 5 = dbtI (hi 23 b) (hi 24 b) (hi 4 b 4)) ∧
  ∀ k, 0 ≤ k → k < hi 4 b 4 → hi 22 b k ≤ hi 6 0 8 ∧ (0 ≤ hi 23 b k ∧ hi 23 b k ≤ 3) ∧ (0 ≤ hi 24 b k ∧ hi 24 b k < 6) ∧ hi 25 b k = livI (hi 23 b) (hi 24 b) (k + 1) ∧ 0 ≤ hi 22 b k ∧ hi 22 b k ≤ 9999
def vLea (hi : Hi) (nb : Int) : Prop := ∀ b, 0 ≤ b → b < nb → (hi 3 b 2 = hi 3 b 2 ∧ 0 ≤ hi 3 b 2 ∧ hi 3 b 2 ≤ 10 ∧ (0 < hi 3 b 2 → hi 1 b 1 ≠ -1)) ∧
  ∀ k, 0 ≤ k → k < hi 3 b 2 → hi 26 b k = hi 26 b k ∧ (hi 1 b 8 ≠ -1 → hi 27 b k ≤ hi 1 b 8)
def vDam (hi : Hi) (nb : Int) : Prop := ∀ b, 0 ≤ b → b < nb → (hi 2 b 2 = hi 2 b 2 ∧ 0 ≤ hi 2 b 2 ∧ hi 2 b 2 ≤ 12) ∧
  ∀ k, 0 ≤ k → k < hi 2 b 2 → (hi 28 b k = hi 28 b k ∧ 0 ≤ hi 28 b k ∧ hi 28 b k ≤ 4) ∧ (hi 29 b k = hi 29 b k ∧ 1 ≤ hi 29 b k ∧ hi 29 b k ≤ 20)
/-- how many of a lessor are GONE at a port in a month -/
noncomputable def hanI (hi : Hi) (nb l p M : Int) : Int := sI (fun b => bI (hi 1 b 8 ≠ -1 ∧ hi 1 b 1 = l ∧ hi 1 b 9 = p ∧ hi 1 b 8 / 30 = M)) nb
/-- how many boxes a booking has -/
noncomputable def givI (B : Int → Int) (nb k : Int) : Int := sI (fun b => bI (B b = k)) nb
def vBok (hi : Hi) (nb nk : Int) : Prop := ∀ k, 0 ≤ k → k < nk → (hi 0 k 0 = hi 0 k 0 ∧ 0 ≤ hi 0 k 0 ∧ hi 0 k 0 ≤ 5) ∧ (hi 0 k 1 = hi 0 k 1 ∧ 0 ≤ hi 0 k 1 ∧ hi 0 k 1 ≤ 2) ∧ (hi 0 k 2 = hi 0 k 2 ∧ 1 ≤ hi 0 k 2 ∧ hi 0 k 2 ≤ 9) ∧
  (hi 0 k 4 = hi 0 k 4 ∧ (hi 0 k 4 = 0 ∨ hi 0 k 4 = 1)) ∧ (0 ≤ hi 0 k 3 ∧ hi 0 k 3 ≤ hi 0 k 2) ∧ (hi 0 k 4 = 0 → hi 0 k 3 = givI (fun b => hi 1 b 7) nb k)
/-- a box that is given to a booking isn't GONE, and the booking isn't over -/
def vExt (hi : Hi) (nb : Int) : Prop := ∀ b, 0 ≤ b → b < nb → 0 ≤ hi 1 b 7 → hi 1 b 8 = -1 ∧ hi 0 (hi 1 b 7) 4 = 0
def Inv (hi : Hi) (nb nk : Int) : Prop := vNum hi nb nk ∧ vDay hi ∧ vCst hi ∧ vQuo hi ∧ vStd hi ∧ vBox hi nb nk ∧ vRep hi nb ∧ vLea hi nb ∧ vDam hi nb ∧ vBok hi nb nk ∧ vExt hi nb
section INV
variable {hi : Hi} {nb nk : Int}
theorem Inv.num (h : Inv hi nb nk) : vNum hi nb nk := h.1
theorem Inv.day (h : Inv hi nb nk) : vDay hi := h.2.1
theorem Inv.cst (h : Inv hi nb nk) : vCst hi := h.2.2.1
theorem Inv.quo (h : Inv hi nb nk) : vQuo hi := h.2.2.2.1
theorem Inv.std (h : Inv hi nb nk) : vStd hi := h.2.2.2.2.1
theorem Inv.box (h : Inv hi nb nk) : vBox hi nb nk := h.2.2.2.2.2.1
theorem Inv.rep (h : Inv hi nb nk) : vRep hi nb := h.2.2.2.2.2.2.1
theorem Inv.lea (h : Inv hi nb nk) : vLea hi nb := h.2.2.2.2.2.2.2.1
theorem Inv.dam (h : Inv hi nb nk) : vDam hi nb := h.2.2.2.2.2.2.2.2.1
theorem Inv.bok (h : Inv hi nb nk) : vBok hi nb nk := h.2.2.2.2.2.2.2.2.2.1
theorem Inv.ext (h : Inv hi nb nk) : vExt hi nb := h.2.2.2.2.2.2.2.2.2.2
/-- where a box is on a day, as the class has it -/
def plcC (hi : Hi) (b day : Int) : Int := plcI (hi 22 b) (hi 23 b) (hi 24 b) (hi 4 b 4) day
/-- what mending a box costs -/
def menC (hi : Hi) (b : Int) : Int := menI (hi 28 b) (hi 29 b) (hi 12 0) (hi 2 b 2)
def holC (hi : Hi) (b day : Int) : Prop := lasI (hi 26 b) day (hi 3 b 2) ≠ -1 ∧ day ≤ hi 27 b (lasI (hi 26 b) day (hi 3 b 2))
/-- a box could serve a booking, wherever it is -/
def canC (hi : Hi) (b : Int) : Prop := hi 1 b 8 = -1 ∧ hi 1 b 7 = -1 ∧ hi 1 b 6 = 0 ∧ hi 6 0 8 ≤ hi 1 b 5 ∧ menC hi b = 0
def lacC (hi : Hi) (k : Int) : Int := if hi 0 k 4 = 0 then hi 0 k 2 - hi 0 k 3 else 0
end INV
theorem sI_cut {f : Int → Int} {n m : Int} (hn : 0 ≤ n) (hm : n ≤ m) (h : ∀ i, n ≤ i → i < m → f i = 0) : sI f m = sI f n := by
  obtain ⟨d, hd⟩ := Int.eq_ofNat_of_zero_le (show 0 ≤ m - n by omega)
  have : ∀ (d : Nat), n + d ≤ m → sI f (n + d) = sI f n := by
    intro d
    induction d with
    | zero => intro _; simp
    | succ d ih =>
      intro hd
      rw [show n + ((d + 1 : Nat) : Int) = n + d + 1 by omega, sI_s (by omega), ih (by omega), h _ (by omega) (by omega), Int.add_zero]
  have := this d (by omega)
  rw [show m = n + (d : Int) by omega]
  exact this
