/-! ===== the reference's heap: what holds of it alone, and what its small methods answer ===== -/
def mNum (hi : Hi) (nb nk : Int) : Prop := 0 ≤ nb ∧ nb ≤ 40 ∧ 0 ≤ nk ∧ nk ≤ 20 ∧ hi 7 0 9 = nb ∧ hi 7 0 30 = nk ∧ 0 ≤ hi 7 0 1 ∧ hi 7 0 1 ≤ 9999 ∧ 0 ≤ hi 7 0 17 ∧ hi 7 0 17 ≤ 30 ∧ 0 ≤ hi 7 0 25 ∧ hi 7 0 25 ≤ 9999
def mCst (hi : Hi) : Prop := ∀ x, 0 ≤ x → x < 36 → 0 ≤ hi 30 0 x ∧ hi 30 0 x ≤ 9999
def mQuo (hi : Hi) : Prop := ∀ x, 0 ≤ x → x < 18 → 0 ≤ hi 44 0 x ∧ hi 44 0 x ≤ 9 ∧ 0 ≤ hi 45 0 x ∧ hi 45 0 x ≤ 40
def mStd (hi : Hi) : Prop := ∀ c, 0 ≤ c → c < 5 → 0 ≤ hi 50 0 c ∧ hi 50 0 c ≤ 20
def mBox (hi : Hi) (nb : Int) : Prop := ∀ b, 0 ≤ b → b < nb → (-1 ≤ hi 32 0 b ∧ hi 32 0 b ≤ 2) ∧ (hi 34 0 b = 0 ∨ hi 34 0 b = 1) ∧ (0 ≤ hi 40 0 b ∧ hi 40 0 b ≤ 30) ∧ (0 ≤ hi 43 0 b ∧ hi 43 0 b ≤ 10 ∧ (0 < hi 43 0 b → hi 32 0 b ≠ -1)) ∧ (0 ≤ hi 49 0 b ∧ hi 49 0 b ≤ 12) ∧
  ∀ k, 0 ≤ k → k < hi 49 0 b → (0 ≤ hi 47 0 (12 * b + k) ∧ hi 47 0 (12 * b + k) ≤ 4) ∧ (1 ≤ hi 48 0 (12 * b + k) ∧ hi 48 0 (12 * b + k) ≤ 20)
def mBok (hi : Hi) (nk : Int) : Prop := ∀ k, 0 ≤ k → k < nk → (0 ≤ hi 51 0 k ∧ hi 51 0 k ≤ 5) ∧ (0 ≤ hi 52 0 k ∧ hi 52 0 k ≤ 2) ∧ (1 ≤ hi 53 0 k ∧ hi 53 0 k ≤ 9) ∧ (hi 54 0 k = 0 ∨ hi 54 0 k = 1)
def MV (hi : Hi) (nb nk : Int) : Prop := mNum hi nb nk ∧ mCst hi ∧ mQuo hi ∧ mStd hi ∧ mBox hi nb ∧ mBok hi nk
def isMk (k : Nat) : Bool := k == 7 || (decide (30 ≤ k) && decide (k ≤ 59))
theorem MV.cong {hi hi' : Hi} {nb nk : Int} (h : MV hi nb nk) (e : ∀ k, isMk k = true → (k = 7 → ∀ j, j ≠ 0 → hi' 7 0 j = hi 7 0 j) ∧ (k ≠ 7 → hi' k = hi k)) : MV hi' nb nk := by
  have e7 := fun j hj => (e 7 rfl).1 rfl j hj
  have f := fun (k : Nat) (h1 : isMk k = true) (h2 : k ≠ 7) => (e k h1).2 h2
  unfold MV mNum mCst mQuo mStd mBox mBok at *
  rw [e7 9 (by decide), e7 30 (by decide), e7 1 (by decide), e7 17 (by decide), e7 25 (by decide), f 30 rfl (by decide), f 44 rfl (by decide), f 45 rfl (by decide), f 50 rfl (by decide), f 32 rfl (by decide), f 34 rfl (by decide), f 40 rfl (by decide), f 43 rfl (by decide), f 49 rfl (by decide), f 47 rfl (by decide), f 48 rfl (by decide), f 51 rfl (by decide), f 52 rfl (by decide), f 53 rfl (by decide), f 54 rfl (by decide)]
  exact h
section MVS
variable {hi : Hi} {nb nk : Int}
theorem MV.num (h : MV hi nb nk) : mNum hi nb nk := h.1
theorem MV.cst (h : MV hi nb nk) : mCst hi := h.2.1
theorem MV.quo (h : MV hi nb nk) : mQuo hi := h.2.2.1
theorem MV.std (h : MV hi nb nk) : mStd hi := h.2.2.2.1
theorem MV.box (h : MV hi nb nk) : mBox hi nb := h.2.2.2.2.1
theorem MV.bok (h : MV hi nb nk) : mBok hi nk := h.2.2.2.2.2
def mD (hi : Hi) (b : Int) : Int → Int := fun k => hi 37 0 (30 * b + k)
def mE (hi : Hi) (b : Int) : Int → Int := fun k => hi 38 0 (30 * b + k)
def mP (hi : Hi) (b : Int) : Int → Int := fun k => hi 39 0 (30 * b + k)
def plcM (hi : Hi) (b day : Int) : Int := plcI (mD hi b) (mE hi b) (mP hi b) (hi 40 0 b) day
def dbtM (hi : Hi) (b : Int) : Int := dbtI (mE hi b) (mP hi b) (hi 40 0 b)
def menM (hi : Hi) (b : Int) : Int := menI (fun k => hi 47 0 (12 * b + k)) (fun k => hi 48 0 (12 * b + k)) (hi 50 0) (hi 49 0 b)
def lasM (hi : Hi) (b day : Int) : Int := lasI (fun k => hi 41 0 (10 * b + k)) day (hi 43 0 b)
def holM (hi : Hi) (b day : Int) : Prop := lasM hi b day ≠ -1 ∧ day ≤ hi 42 0 (10 * b + lasM hi b day) ∧ (hi 35 0 b = -1 ∨ day ≤ hi 35 0 b)
def knoM (hi : Hi) (b day ev po : Int) : Prop := ∃ k, 0 ≤ k ∧ k < hi 40 0 b ∧ mD hi b k = day ∧ mE hi b k = ev ∧ mP hi b k = po
def canM (hi : Hi) (b : Int) : Prop := (0 ≤ plcM hi b (hi 7 0 1) ∧ plcM hi b (hi 7 0 1) < 6) ∧ hi 35 0 b = -1 ∧ hi 36 0 b = -1 ∧ hi 34 0 b = 0 ∧ hi 7 0 1 ≤ hi 33 0 b ∧ menM hi b = 0
noncomputable def lacM (hi : Hi) (nb k : Int) : Int := if hi 54 0 k = 0 then hi 53 0 k - givI (hi 36 0) nb k else 0
end MVS
theorem men_mul {co si : Int} : 10 * (co + 1) * si = si * (co + 1) * 10 := by
  rw [Int.mul_comm 10 (co + 1), Int.mul_assoc, Int.mul_comm 10 si, ← Int.mul_assoc, Int.mul_comm (co + 1) si]
/-- where cd is 0 it answers res and leaves h2; else it answers r0 and tells cd as thrown -/
def MOp (I : MI) (av : List Av) (hi : Hi) (nb nk : Int) (cd : Int) (r0 res : Option Av) (h2 : Hp) : Prop := Con I av (hp hi nb nk) (fun r1 h1 => (cd = 0 ∧ r1 = res ∧ h1 = h2) ∨ (cd ≠ 0 ∧ r1 = r0 ∧ h1 = hp (up1 hi 7 0 0 cd) nb nk)) (fun _ _ => False)
theorem st_m {I : MI} {av : List Av} {hi : Hi} {nb nk : Int} {h2 : Hp} {xs : List (Option Av)} {r0 res : Option Av} {cd : Int} (hy : plainName (mY I).cls = true) (hsc : mSc I = none) (hown : mOwn I = (mY I).cls) (hlen : av.length ≤ mL I) (hcat : av.all (fun v => ax_cat v == 1) = true) (hxs : xs = av.map some ++ List.replicate (mL I - av.length) none) (k : ∀ (Q : Option Av → Hp → Prop) (X : String → Hp → Prop), (cd = 0 → Q res h2) → (∀ c, c ≠ 0 → cd = c → Q r0 (hp (up1 hi 7 0 0 c) nb nk)) → Run I 0 xs [] (hp hi nb nk) 0 0 Q X) : MOp I av hi nb nk cd r0 res h2 :=
  ax_start hy hsc hown hlen hcat hxs (k _ _ (fun p => Or.inl ⟨p, rfl, rfl⟩) (fun c hc p => Or.inr ⟨by rw [p]; exact hc, rfl, by rw [p]⟩))
