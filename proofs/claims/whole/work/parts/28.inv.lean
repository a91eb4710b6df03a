/-! ===== what holds between calls: the class's heap, the reference's, and how they go together ===== -/
def vNum (hi : Hi) (nb nk : Int) : Prop := 0 ≤ nb ∧ nb ≤ 40 ∧ 0 ≤ nk ∧ nk ≤ 20 ∧ hi 6 0 6 = nb ∧ hi 6 0 7 = nk ∧ hi 7 0 9 = nb ∧ hi 7 0 30 = nk
def vDay (hi : Hi) : Prop := hi 7 0 1 = hi 6 0 8 ∧ 0 ≤ hi 6 0 8 ∧ hi 6 0 8 ≤ 9999 ∧ hi 7 0 17 = hi 6 0 9 ∧ 0 ≤ hi 6 0 9 ∧ hi 6 0 9 ≤ 30 ∧ hi 7 0 25 = hi 6 0 10 ∧ 0 ≤ hi 6 0 10 ∧ hi 6 0 10 ≤ 9999
def vCst (hi : Hi) : Prop := ∀ a b, 0 ≤ a → a < 6 → 0 ≤ b → b < 6 → hi 30 0 (6 * a + b) = hi 9 a b ∧ 0 ≤ hi 9 a b ∧ hi 9 a b ≤ 9999
def vQuo (hi : Hi) : Prop := ∀ a b, 0 ≤ a → a < 3 → 0 ≤ b → b < 6 → hi 44 0 (6 * a + b) = hi 11 a b ∧ 0 ≤ hi 11 a b ∧ hi 11 a b ≤ 9
def vStd (hi : Hi) : Prop := ∀ c, 0 ≤ c → c < 5 → hi 50 0 c = hi 12 0 c ∧ 0 ≤ hi 12 0 c ∧ hi 12 0 c ≤ 20
def vBox (hi : Hi) (nb nk : Int) : Prop := ∀ b, 0 ≤ b → b < nb →
  (hi 31 0 b = hi 1 b 0 ∧ 0 ≤ hi 1 b 0 ∧ hi 1 b 0 ≤ 2) ∧ (hi 32 0 b = hi 1 b 1 ∧ -1 ≤ hi 1 b 1 ∧ hi 1 b 1 ≤ 2) ∧ (hi 33 0 b = hi 1 b 5 ∧ 0 ≤ hi 1 b 5 ∧ hi 1 b 5 ≤ 9999) ∧ (hi 34 0 b = hi 1 b 6 ∧ (hi 1 b 6 = 0 ∨ hi 1 b 6 = 1)) ∧
  (hi 35 0 b = hi 1 b 8 ∧ -1 ≤ hi 1 b 8 ∧ hi 1 b 8 ≤ hi 6 0 8) ∧ (hi 36 0 b = hi 1 b 7 ∧ -1 ≤ hi 1 b 7 ∧ hi 1 b 7 < nk)
def vNew (hi : Hi) (nb : Int) : Prop := ∀ b, nb ≤ b → b < 40 → hi 40 0 b = 0 ∧ hi 43 0 b = 0 ∧ hi 49 0 b = 0 ∧ hi 34 0 b = 0
def vRep (hi : Hi) (nb : Int) : Prop := ∀ b, 0 ≤ b → b < nb → (hi 40 0 b = hi 4 b 4 ∧ 0 ≤ hi 4 b 4 ∧ hi 4 b 4 ≤ 30 ∧ hi 4 b 5 = dbtI (hi 23 b) (hi 24 b) (hi 4 b 4)) ∧
  ∀ k, 0 ≤ k → k < hi 4 b 4 → hi 37 0 (30 * b + k) = hi 22 b k ∧ hi 38 0 (30 * b + k) = hi 23 b k ∧ hi 39 0 (30 * b + k) = hi 24 b k ∧ hi 25 b k = livI (hi 23 b) (hi 24 b) (k + 1) ∧ 0 ≤ hi 22 b k ∧ hi 22 b k ≤ 9999
def vLea (hi : Hi) (nb : Int) : Prop := ∀ b, 0 ≤ b → b < nb → (hi 43 0 b = hi 3 b 2 ∧ 0 ≤ hi 3 b 2 ∧ hi 3 b 2 ≤ 10 ∧ (0 < hi 3 b 2 → hi 1 b 1 ≠ -1)) ∧
  ∀ k, 0 ≤ k → k < hi 3 b 2 → hi 41 0 (10 * b + k) = hi 26 b k ∧ hi 27 b k = (if hi 1 b 8 = -1 then hi 42 0 (10 * b + k) else if hi 1 b 8 < hi 42 0 (10 * b + k) then hi 1 b 8 else hi 42 0 (10 * b + k))
def vDam (hi : Hi) (nb : Int) : Prop := ∀ b, 0 ≤ b → b < nb → (hi 49 0 b = hi 2 b 2 ∧ 0 ≤ hi 2 b 2 ∧ hi 2 b 2 ≤ 12) ∧
  ∀ k, 0 ≤ k → k < hi 2 b 2 → (hi 47 0 (12 * b + k) = hi 28 b k ∧ 0 ≤ hi 28 b k ∧ hi 28 b k ≤ 4) ∧ (hi 48 0 (12 * b + k) = hi 29 b k ∧ 1 ≤ hi 29 b k ∧ hi 29 b k ≤ 20)
/-- how many of a lessor are GONE at a port in a month -/
noncomputable def hanI (hi : Hi) (nb l p M : Int) : Int := sI (fun b => bI (hi 1 b 8 ≠ -1 ∧ hi 1 b 1 = l ∧ hi 1 b 9 = p ∧ hi 1 b 8 / 30 = M)) nb
def vHan (hi : Hi) (nb : Int) : Prop := ∀ l p, 0 ≤ l → l < 3 → 0 ≤ p → p < 6 → 0 ≤ hi 46 0 (6 * l + p) ∧ hi 46 0 (6 * l + p) ≤ hi 6 0 8 / 30 ∧
  hi 45 0 (6 * l + p) = hanI hi nb l p (hi 46 0 (6 * l + p)) ∧ ∀ M, hi 46 0 (6 * l + p) < M → hanI hi nb l p M = 0
/-- how many boxes a booking has -/
noncomputable def givI (B : Int → Int) (nb k : Int) : Int := sI (fun b => bI (B b = k)) nb
def vBok (hi : Hi) (nb nk : Int) : Prop := ∀ k, 0 ≤ k → k < nk → (hi 51 0 k = hi 0 k 0 ∧ 0 ≤ hi 0 k 0 ∧ hi 0 k 0 ≤ 5) ∧ (hi 52 0 k = hi 0 k 1 ∧ 0 ≤ hi 0 k 1 ∧ hi 0 k 1 ≤ 2) ∧ (hi 53 0 k = hi 0 k 2 ∧ 1 ≤ hi 0 k 2 ∧ hi 0 k 2 ≤ 9) ∧
  (hi 54 0 k = hi 0 k 4 ∧ (hi 0 k 4 = 0 ∨ hi 0 k 4 = 1)) ∧ (0 ≤ hi 0 k 3 ∧ hi 0 k 3 ≤ hi 0 k 2) ∧ (hi 0 k 4 = 0 → hi 0 k 3 = givI (fun b => hi 1 b 7) nb k)
def vNov (hi : Hi) (nk : Int) : Prop := ∀ k, nk ≤ k → k < 20 → hi 54 0 k = 0
def Inv (hi : Hi) (nb nk : Int) : Prop := vNum hi nb nk ∧ vDay hi ∧ vCst hi ∧ vQuo hi ∧ vStd hi ∧ vBox hi nb nk ∧ vNew hi nb ∧ vRep hi nb ∧ vLea hi nb ∧ vDam hi nb ∧ vHan hi nb ∧ vBok hi nb nk ∧ vNov hi nk
section INV
variable {hi : Hi} {nb nk : Int}
theorem Inv.num (h : Inv hi nb nk) : vNum hi nb nk := h.1
theorem Inv.day (h : Inv hi nb nk) : vDay hi := h.2.1
theorem Inv.cst (h : Inv hi nb nk) : vCst hi := h.2.2.1
theorem Inv.quo (h : Inv hi nb nk) : vQuo hi := h.2.2.2.1
theorem Inv.std (h : Inv hi nb nk) : vStd hi := h.2.2.2.2.1
theorem Inv.box (h : Inv hi nb nk) : vBox hi nb nk := h.2.2.2.2.2.1
theorem Inv.fre (h : Inv hi nb nk) : vNew hi nb := h.2.2.2.2.2.2.1
theorem Inv.rep (h : Inv hi nb nk) : vRep hi nb := h.2.2.2.2.2.2.2.1
theorem Inv.lea (h : Inv hi nb nk) : vLea hi nb := h.2.2.2.2.2.2.2.2.1
theorem Inv.dam (h : Inv hi nb nk) : vDam hi nb := h.2.2.2.2.2.2.2.2.2.1
theorem Inv.han (h : Inv hi nb nk) : vHan hi nb := h.2.2.2.2.2.2.2.2.2.2.1
theorem Inv.bok (h : Inv hi nb nk) : vBok hi nb nk := h.2.2.2.2.2.2.2.2.2.2.2.1
theorem Inv.nov (h : Inv hi nb nk) : vNov hi nk := h.2.2.2.2.2.2.2.2.2.2.2.2
/-- where a box is on a day, as the class has it -/
def plcC (hi : Hi) (b day : Int) : Int := plcI (hi 22 b) (hi 23 b) (hi 24 b) (hi 4 b 4) day
/-- what mending a box costs -/
def menC (hi : Hi) (b : Int) : Int := menI (hi 28 b) (hi 29 b) (hi 12 0) (hi 2 b 2)
def holC (hi : Hi) (b day : Int) : Prop := lasI (hi 26 b) day (hi 3 b 2) ≠ -1 ∧ day ≤ hi 27 b (lasI (hi 26 b) day (hi 3 b 2))
/-- a box could serve a booking, wherever it is -/
def canC (hi : Hi) (b : Int) : Prop := hi 1 b 8 = -1 ∧ hi 1 b 7 = -1 ∧ hi 1 b 6 = 0 ∧ hi 6 0 8 ≤ hi 1 b 5 ∧ menC hi b = 0
def lacC (hi : Hi) (k : Int) : Int := if hi 0 k 4 = 0 then hi 0 k 2 - hi 0 k 3 else 0
end INV
theorem sI_cut {f : Int → Int} {n m : Int} (hn : 0 ≤ n) (hm : n ≤ m) (h : ∀ i, n ≤ i → i < m → f i = 0) : sI f m = sI f n := by
  obtain ⟨d, hd⟩ := Int.eq_ofNat_of_zero_le (show 0 ≤ m - n by omega)
  have : ∀ (d : Nat), n + d ≤ m → sI f (n + d) = sI f n := by
    intro d
    induction d with
    | zero => intro _; simp
    | succ d ih =>
      intro hd
      rw [show n + ((d + 1 : Nat) : Int) = n + d + 1 by omega, sI_s (by omega), ih (by omega), h _ (by omega) (by omega), Int.add_zero]
  have := this d (by omega)
  rw [show m = n + (d : Int) by omega]
  exact this
