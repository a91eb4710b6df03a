/-! ===== the calls, one after another: box, book, end ===== -/
section ST4
variable {hi : Hi} {nb nk : Int}
theorem boxH_v {kd ls un : Int} : (boxH hi nb kd ls un 1 nb 0 = kd ∧ boxH hi nb kd ls un 1 nb 1 = ls ∧ boxH hi nb kd ls un 1 nb 5 = un ∧ boxH hi nb kd ls un 1 nb 6 = 0 ∧ boxH hi nb kd ls un 1 nb 7 = -1 ∧ boxH hi nb kd ls un 1 nb 8 = -1 ∧ boxH hi nb kd ls un 1 nb 9 = -1) ∧
    boxH hi nb kd ls un 4 nb 4 = 0 ∧ boxH hi nb kd ls un 4 nb 5 = 0 ∧ boxH hi nb kd ls un 3 nb 2 = 0 ∧ boxH hi nb kd ls un 2 nb 2 = 0 := by
  simp [boxH, cF1, cF2, cF3, cF4, zf, up1]
theorem J_box (hI : Inv hi nb nk) {kd ls un : Int} : Both I_L_box I_X7_box [aR 6 0, aI kd, aI ls, aI un, aR 60 0] [aR 7 0, aI kd, aI ls, aI un] hi nb nk := by
  have hn := hI.num
  unfold vNum at hn
  have hd := hI.day
  unfold vDay at hd
  have hMV : MV (up1 (up1 (boxH hi nb kd ls un) 6 0 6 (nb + 1)) 60 0 0 nb) nb nk := hI.mv.cong (fun k hk => ⟨fun h7 j hj => by rw [up1_n (by omega), up1_n (by omega), boxH_r (Or.inl rfl)], fun h7 => by
    funext i j
    rw [up1_n (by rintro ⟨rfl, _⟩; exact absurd hk (by decide)), up1_n (by rintro ⟨rfl, _⟩; exact absurd hk (by decide))]
    refine boxH_r (Or.inl ?_)
    unfold isBk
    unfold isMk at hk
    simp at hk ⊢
    omega⟩)
  refine both_mk (v := nb) (nb1 := nb + 1) (nk1 := nk) (H1 := up1 (up1 (boxH hi nb kd ls un) 6 0 6 (nb + 1)) 60 0 0 nb) (H2 := mbxH (up1 (up1 (boxH hi nb kd ls un) 6 0 6 (nb + 1)) 60 0 0 nb) nb kd ls un) hI (W_box hI) (fun h => (K_X7_box hI.mv).no h) (fun h => (K_X7_box hMV).ok h) (fun h => ?_)
  have r : (-1 ≤ ls ∧ ls ≤ 2) ∧ (0 ≤ kd ∧ kd ≤ 2 ∧ 0 ≤ un ∧ un ≤ 9999) ∧ nb < 40 := by unfold cC_box at h; (repeat' split at h) <;> omega
  have fr := hI.fre nb (Int.le_refl _) r.2.2
  have bv := boxH_v (hi := hi) (nb := nb) (kd := kd) (ls := ls) (un := un)
  generalize hC : boxH hi nb kd ls un = C at *
  have old : ∀ (k : Nat) (x j : Int), x ≠ nb → C k x j = hi k x j := fun k x j hx => by rw [← hC]; exact boxH_r (Or.inr hx)
  have oth : ∀ (k : Nat) (x j : Int), isBk k = false → C k x j = hi k x j := fun k x j hx => by rw [← hC]; exact boxH_r (Or.inl hx)
  have oldf : ∀ (k : Nat) (x : Int), x ≠ nb → C k x = hi k x := fun k x hx => funext fun j => old k x j hx
  have othf : ∀ (k : Nat), isBk k = false → C k = hi k := fun k hx => funext fun i => funext fun j => oth k i j hx
  have m1 : mbxH (up1 (up1 C 6 0 6 (nb + 1)) 60 0 0 nb) nb kd ls un 1 = C 1 := rfl
  have mk : ∀ k, isMk k = false → k ≠ 6 → k ≠ 60 → mbxH (up1 (up1 C 6 0 6 (nb + 1)) 60 0 0 nb) nb kd ls un k = C k := fun k h1 h2 h3 => by
    funext i j
    unfold mbxH thr
    have n7 : k ≠ 7 := by rintro rfl; cases h1
    have n31 : k ≠ 31 := by rintro rfl; cases h1
    have n32 : k ≠ 32 := by rintro rfl; cases h1
    have n33 : k ≠ 33 := by rintro rfl; cases h1
    have n35 : k ≠ 35 := by rintro rfl; cases h1
    have n36 : k ≠ 36 := by rintro rfl; cases h1
    rw [up1_n (fun z => n7 z.1), up1_n (fun z => n36 z.1), up1_n (fun z => n35 z.1), up1_n (fun z => n33 z.1), up1_n (fun z => n32 z.1), up1_n (fun z => n31 z.1), up1_n (fun z => n7 z.1), up1_n (fun z => h3 z.1), up1_n (fun z => h2 z.1)]
  have mm : ∀ k, k ≠ 7 → k ≠ 31 → k ≠ 32 → k ≠ 33 → k ≠ 35 → k ≠ 36 → k ≠ 6 → k ≠ 60 → isBk k = false → mbxH (up1 (up1 C 6 0 6 (nb + 1)) 60 0 0 nb) nb kd ls un k = hi k := fun k n7 n31 n32 n33 n35 n36 h2 h3 h4 => by
    funext i j
    unfold mbxH thr
    rw [up1_n (fun z => n7 z.1), up1_n (fun z => n36 z.1), up1_n (fun z => n35 z.1), up1_n (fun z => n33 z.1), up1_n (fun z => n32 z.1), up1_n (fun z => n31 z.1), up1_n (fun z => n7 z.1), up1_n (fun z => h3 z.1), up1_n (fun z => h2 z.1), oth k i j h4]
  have c7 : ∀ j, j ≠ 0 → j ≠ 9 → mbxH (up1 (up1 C 6 0 6 (nb + 1)) 60 0 0 nb) nb kd ls un 7 0 j = hi 7 0 j := fun j h0 h9 => by
    unfold mbxH thr
    rw [up1_n (by omega), up1_n (by omega), up1_n (by omega), up1_n (by omega), up1_n (by omega), up1_n (by omega), up1_n (by omega), up1_n (by omega), up1_n (by omega), oth 7 0 j rfl]
  have c6 : ∀ j, j ≠ 6 → mbxH (up1 (up1 C 6 0 6 (nb + 1)) 60 0 0 nb) nb kd ls un 6 0 j = hi 6 0 j := fun j h0 => by
    unfold mbxH thr
    rw [up1_n (by omega), up1_n (by omega), up1_n (by omega), up1_n (by omega), up1_n (by omega), up1_n (by omega), up1_n (by omega), up1_n (by omega), up1_n (by omega), oth 6 0 j rfl]
  refine ⟨rfl, rfl, ?_, ?_, ?_, ?_, ?_, ?_, ?_, ?_, ?_, ?_, ?_, ?_, ?_⟩
  · refine ⟨by omega, by omega, by omega, by omega, rfl, ?_, rfl, ?_⟩
    · rw [c6 7 (by decide)]; omega
    · rw [c7 30 (by decide) (by decide)]; omega
  · unfold vDay
    rw [c7 1 (by decide) (by decide), c7 17 (by decide) (by decide), c7 25 (by decide) (by decide), c6 8 (by decide), c6 9 (by decide), c6 10 (by decide)]
    exact hI.day
  · unfold vCst
    rw [mm 30 (by decide) (by decide) (by decide) (by decide) (by decide) (by decide) (by decide) (by decide) rfl, mm 9 (by decide) (by decide) (by decide) (by decide) (by decide) (by decide) (by decide) (by decide) rfl]
    exact hI.cst
  · unfold vQuo
    rw [mm 44 (by decide) (by decide) (by decide) (by decide) (by decide) (by decide) (by decide) (by decide) rfl, mm 11 (by decide) (by decide) (by decide) (by decide) (by decide) (by decide) (by decide) (by decide) rfl]
    exact hI.quo
  · unfold vStd
    rw [mm 50 (by decide) (by decide) (by decide) (by decide) (by decide) (by decide) (by decide) (by decide) rfl, mm 12 (by decide) (by decide) (by decide) (by decide) (by decide) (by decide) (by decide) (by decide) rfl]
    exact hI.std
  · intro x x0 x1
    rw [m1, c6 8 (by decide), mm 34 (by decide) (by decide) (by decide) (by decide) (by decide) (by decide) (by decide) (by decide) rfl]
    by_cases q : x = nb
    · subst q
      have e31 : mbxH (up1 (up1 C 6 0 6 (x + 1)) 60 0 0 x) x kd ls un 31 0 x = kd := by simp [mbxH, up1]
      have e32 : mbxH (up1 (up1 C 6 0 6 (x + 1)) 60 0 0 x) x kd ls un 32 0 x = ls := by simp [mbxH, up1]
      have e33 : mbxH (up1 (up1 C 6 0 6 (x + 1)) 60 0 0 x) x kd ls un 33 0 x = un := by simp [mbxH, up1]
      have e35 : mbxH (up1 (up1 C 6 0 6 (x + 1)) 60 0 0 x) x kd ls un 35 0 x = -1 := by simp [mbxH, up1]
      have e36 : mbxH (up1 (up1 C 6 0 6 (x + 1)) 60 0 0 x) x kd ls un 36 0 x = -1 := by simp [mbxH, up1]
      rw [e31, e32, e33, e35, e36]
      omega
    · have o := hI.box x x0 (by omega)
      have e31 : mbxH (up1 (up1 C 6 0 6 (nb + 1)) 60 0 0 nb) nb kd ls un 31 0 x = hi 31 0 x := by simp [mbxH, up1, thr, q]; exact oth 31 0 x rfl
      have e32 : mbxH (up1 (up1 C 6 0 6 (nb + 1)) 60 0 0 nb) nb kd ls un 32 0 x = hi 32 0 x := by simp [mbxH, up1, thr, q]; exact oth 32 0 x rfl
      have e33 : mbxH (up1 (up1 C 6 0 6 (nb + 1)) 60 0 0 nb) nb kd ls un 33 0 x = hi 33 0 x := by simp [mbxH, up1, thr, q]; exact oth 33 0 x rfl
      have e35 : mbxH (up1 (up1 C 6 0 6 (nb + 1)) 60 0 0 nb) nb kd ls un 35 0 x = hi 35 0 x := by simp [mbxH, up1, thr, q]; exact oth 35 0 x rfl
      have e36 : mbxH (up1 (up1 C 6 0 6 (nb + 1)) 60 0 0 nb) nb kd ls un 36 0 x = hi 36 0 x := by simp [mbxH, up1, thr, q]; exact oth 36 0 x rfl
      rw [e31, e32, e33, e35, e36, oldf 1 x q]
      exact o
  · intro x x0 x1
    rw [mm 40 (by decide) (by decide) (by decide) (by decide) (by decide) (by decide) (by decide) (by decide) rfl, mm 43 (by decide) (by decide) (by decide) (by decide) (by decide) (by decide) (by decide) (by decide) rfl, mm 49 (by decide) (by decide) (by decide) (by decide) (by decide) (by decide) (by decide) (by decide) rfl, mm 34 (by decide) (by decide) (by decide) (by decide) (by decide) (by decide) (by decide) (by decide) rfl]
    exact hI.fre x (by omega) x1
  · intro x x0 x1
    rw [mm 40 (by decide) (by decide) (by decide) (by decide) (by decide) (by decide) (by decide) (by decide) rfl, mm 37 (by decide) (by decide) (by decide) (by decide) (by decide) (by decide) (by decide) (by decide) rfl, mm 38 (by decide) (by decide) (by decide) (by decide) (by decide) (by decide) (by decide) (by decide) rfl, mm 39 (by decide) (by decide) (by decide) (by decide) (by decide) (by decide) (by decide) (by decide) rfl,
      mk 4 rfl (by decide) (by decide), mk 22 rfl (by decide) (by decide), mk 23 rfl (by decide) (by decide), mk 24 rfl (by decide) (by decide), mk 25 rfl (by decide) (by decide)]
    by_cases q : x = nb
    · subst q
      rw [bv.2.1, bv.2.2.1]
      exact ⟨⟨fr.1, by omega, by omega, rfl⟩, fun k k0 k1 => by omega⟩
    · rw [oldf 4 x q, oldf 22 x q, oldf 23 x q, oldf 24 x q, oldf 25 x q]
      exact hI.rep x x0 (by omega)
  · intro x x0 x1
    rw [mm 43 (by decide) (by decide) (by decide) (by decide) (by decide) (by decide) (by decide) (by decide) rfl, mm 41 (by decide) (by decide) (by decide) (by decide) (by decide) (by decide) (by decide) (by decide) rfl, mm 42 (by decide) (by decide) (by decide) (by decide) (by decide) (by decide) (by decide) (by decide) rfl,
      mk 3 rfl (by decide) (by decide), mk 26 rfl (by decide) (by decide), mk 27 rfl (by decide) (by decide), m1]
    by_cases q : x = nb
    · subst q
      rw [bv.2.2.2.1]
      exact ⟨⟨fr.2.1, by omega, by omega, fun z => by omega⟩, fun k k0 k1 => by omega⟩
    · rw [oldf 3 x q, oldf 26 x q, oldf 27 x q, oldf 1 x q]
      exact hI.lea x x0 (by omega)
  · intro x x0 x1
    rw [mm 49 (by decide) (by decide) (by decide) (by decide) (by decide) (by decide) (by decide) (by decide) rfl, mm 47 (by decide) (by decide) (by decide) (by decide) (by decide) (by decide) (by decide) (by decide) rfl, mm 48 (by decide) (by decide) (by decide) (by decide) (by decide) (by decide) (by decide) (by decide) rfl,
      mk 2 rfl (by decide) (by decide), mk 28 rfl (by decide) (by decide), mk 29 rfl (by decide) (by decide)]
    by_cases q : x = nb
    · subst q
      rw [bv.2.2.2.2]
      exact ⟨⟨fr.2.2.1, by omega, by omega⟩, fun k k0 k1 => by omega⟩
    · rw [oldf 2 x q, oldf 28 x q, oldf 29 x q]
      exact hI.dam x x0 (by omega)
  · intro l p l0 l1 p0 p1
    have e : ∀ M, hanI (mbxH (up1 (up1 C 6 0 6 (nb + 1)) 60 0 0 nb) nb kd ls un) (nb + 1) l p M = hanI hi nb l p M := fun M => by
      unfold hanI
      rw [m1, sI_s (by omega), bI_f (fun z => z.1 bv.1.2.2.2.2.2.1), Int.add_zero]
      exact sI_c (fun b b0 b1 => by rw [oldf 1 b (by omega)])
    rw [mm 46 (by decide) (by decide) (by decide) (by decide) (by decide) (by decide) (by decide) (by decide) rfl, mm 45 (by decide) (by decide) (by decide) (by decide) (by decide) (by decide) (by decide) (by decide) rfl, c6 8 (by decide)]
    simp only [e]
    exact hI.han l p l0 l1 p0 p1
  · intro k k0 k1
    have e : givI (fun b => mbxH (up1 (up1 C 6 0 6 (nb + 1)) 60 0 0 nb) nb kd ls un 1 b 7) (nb + 1) k = givI (fun b => hi 1 b 7) nb k := by
      unfold givI
      rw [m1, sI_s (by omega), bI_f (P := C 1 nb 7 = k) (by rw [bv.1.2.2.2.2.1]; omega), Int.add_zero]
      exact sI_c (fun b b0 b1 => by show bI (C 1 b 7 = k) = bI (hi 1 b 7 = k); rw [oldf 1 b (by omega)])
    rw [e, mm 51 (by decide) (by decide) (by decide) (by decide) (by decide) (by decide) (by decide) (by decide) rfl, mm 52 (by decide) (by decide) (by decide) (by decide) (by decide) (by decide) (by decide) (by decide) rfl, mm 53 (by decide) (by decide) (by decide) (by decide) (by decide) (by decide) (by decide) (by decide) rfl, mm 54 (by decide) (by decide) (by decide) (by decide) (by decide) (by decide) (by decide) (by decide) rfl, mm 0 (by decide) (by decide) (by decide) (by decide) (by decide) (by decide) (by decide) (by decide) rfl]
    exact hI.bok k k0 k1
  · unfold vNov
    rw [mm 54 (by decide) (by decide) (by decide) (by decide) (by decide) (by decide) (by decide) (by decide) rfl]
    exact hI.nov
theorem J_book (hI : Inv hi nb nk) {po kd wa : Int} : Both I_L_book I_X7_book [aR 6 0, aI po, aI kd, aI wa, aR 60 0] [aR 7 0, aI po, aI kd, aI wa] hi nb nk := by
  have hn := hI.num
  unfold vNum at hn
  have hd := hI.day
  unfold vDay at hd
  have hMV : MV (up1 (up1 (bokH hi nk po kd wa) 6 0 7 (nk + 1)) 60 0 0 nk) nb nk := hI.mv.cong (fun k hk => ⟨fun h7 j hj => by rw [up1_n (by omega), up1_n (by omega), bokH_r (by omega)], fun h7 => by
    funext i j
    rw [up1_n (by rintro ⟨rfl, _⟩; exact absurd hk (by decide)), up1_n (by rintro ⟨rfl, _⟩; exact absurd hk (by decide))]
    exact bokH_r (Or.inl (by rintro rfl; cases hk))⟩)
  refine both_mk (v := nk) (nb1 := nb) (nk1 := nk + 1) (H1 := up1 (up1 (bokH hi nk po kd wa) 6 0 7 (nk + 1)) 60 0 0 nk) (H2 := mbkH (up1 (up1 (bokH hi nk po kd wa) 6 0 7 (nk + 1)) 60 0 0 nk) nk po kd wa) hI (W_book hI) (fun h => (K_X7_book hI.mv).no h) (fun h => (K_X7_book hMV).ok h) (fun h => ?_)
  have r : (0 ≤ po ∧ po < 6) ∧ (0 ≤ kd ∧ kd ≤ 2 ∧ 1 ≤ wa ∧ wa ≤ 9) ∧ nk < 20 := by unfold cC_book at h; (repeat' split at h) <;> omega
  have fr := hI.nov nk (Int.le_refl _) r.2.2
  have bv : bokH hi nk po kd wa 0 nk 0 = po ∧ bokH hi nk po kd wa 0 nk 1 = kd ∧ bokH hi nk po kd wa 0 nk 2 = wa ∧ bokH hi nk po kd wa 0 nk 3 = 0 ∧ bokH hi nk po kd wa 0 nk 4 = 0 := by simp [bokH, cF0, zf, up1]
  generalize hC : bokH hi nk po kd wa = C at *
  have oth : ∀ (k : Nat) (x j : Int), k ≠ 0 ∨ x ≠ nk → C k x j = hi k x j := fun k x j hx => by rw [← hC]; exact bokH_r hx
  have m1 : mbkH (up1 (up1 C 6 0 7 (nk + 1)) 60 0 0 nk) nk po kd wa 0 = C 0 := rfl
  have mm : ∀ k, k ≠ 7 → k ≠ 51 → k ≠ 52 → k ≠ 53 → k ≠ 6 → k ≠ 60 → k ≠ 0 → mbkH (up1 (up1 C 6 0 7 (nk + 1)) 60 0 0 nk) nk po kd wa k = hi k := fun k n7 n1 n2 n3 h2 h3 h4 => by
    funext i j
    unfold mbkH thr
    rw [up1_n (fun z => n7 z.1), up1_n (fun z => n3 z.1), up1_n (fun z => n2 z.1), up1_n (fun z => n1 z.1), up1_n (fun z => n7 z.1), up1_n (fun z => h3 z.1), up1_n (fun z => h2 z.1), oth k i j (Or.inl h4)]
  have c7 : ∀ j, j ≠ 0 → j ≠ 30 → mbkH (up1 (up1 C 6 0 7 (nk + 1)) 60 0 0 nk) nk po kd wa 7 0 j = hi 7 0 j := fun j h0 h9 => by
    unfold mbkH thr
    rw [up1_n (by omega), up1_n (by omega), up1_n (by omega), up1_n (by omega), up1_n (by omega), up1_n (by omega), up1_n (by omega), oth 7 0 j (by omega)]
  have c6 : ∀ j, j ≠ 7 → mbkH (up1 (up1 C 6 0 7 (nk + 1)) 60 0 0 nk) nk po kd wa 6 0 j = hi 6 0 j := fun j h0 => by
    unfold mbkH thr
    rw [up1_n (by omega), up1_n (by omega), up1_n (by omega), up1_n (by omega), up1_n (by omega), up1_n (by omega), up1_n (by omega), oth 6 0 j (by omega)]
  have q := fun k (h1 : k ≠ 7 ∧ k ≠ 51 ∧ k ≠ 52 ∧ k ≠ 53 ∧ k ≠ 6 ∧ k ≠ 60 ∧ k ≠ 0) => mm k h1.1 h1.2.1 h1.2.2.1 h1.2.2.2.1 h1.2.2.2.2.1 h1.2.2.2.2.2.1 h1.2.2.2.2.2.2
  refine ⟨rfl, rfl, ?_, ?_, ?_, ?_, ?_, ?_, ?_, ?_, ?_, ?_, ?_, ?_, ?_⟩
  · refine ⟨by omega, by omega, by omega, by omega, ?_, rfl, ?_, rfl⟩
    · rw [c6 6 (by decide)]; omega
    · rw [c7 9 (by decide) (by decide)]; omega
  · unfold vDay
    rw [c7 1 (by decide) (by decide), c7 17 (by decide) (by decide), c7 25 (by decide) (by decide), c6 8 (by decide), c6 9 (by decide), c6 10 (by decide)]
    exact hI.day
  · unfold vCst
    rw [q 30 (by decide), q 9 (by decide)]
    exact hI.cst
  · unfold vQuo
    rw [q 44 (by decide), q 11 (by decide)]
    exact hI.quo
  · unfold vStd
    rw [q 50 (by decide), q 12 (by decide)]
    exact hI.std
  · intro x x0 x1
    rw [q 31 (by decide), q 32 (by decide), q 33 (by decide), q 34 (by decide), q 35 (by decide), q 36 (by decide), q 1 (by decide), c6 8 (by decide)]
    have o := hI.box x x0 x1
    exact ⟨o.1, o.2.1, o.2.2.1, o.2.2.2.1, o.2.2.2.2.1, o.2.2.2.2.2.1, o.2.2.2.2.2.2.1, by omega⟩
  · unfold vNew
    rw [q 40 (by decide), q 43 (by decide), q 49 (by decide), q 34 (by decide)]
    exact hI.fre
  · unfold vRep
    rw [q 40 (by decide), q 37 (by decide), q 38 (by decide), q 39 (by decide), q 4 (by decide), q 22 (by decide), q 23 (by decide), q 24 (by decide), q 25 (by decide)]
    exact hI.rep
  · exact hI.lea.c (q 43 (by decide)) (q 41 (by decide)) (q 42 (by decide)) (q 26 (by decide)) (q 27 (by decide)) (q 3 (by decide)) (fun x => by rw [q 1 (by decide)]; exact ⟨rfl, rfl⟩)
  · unfold vDam
    rw [q 49 (by decide), q 47 (by decide), q 48 (by decide), q 2 (by decide), q 28 (by decide), q 29 (by decide)]
    exact hI.dam
  · exact hI.han.c (q 46 (by decide)) (q 45 (by decide)) (c6 8 (by decide)) (fun x => by rw [q 1 (by decide)]; exact ⟨rfl, rfl, rfl⟩)
  · intro k k0 k1
    rw [m1, q 54 (by decide), q 1 (by decide)]
    by_cases z : k = nk
    · subst z
      have e51 : mbkH (up1 (up1 C 6 0 7 (k + 1)) 60 0 0 k) k po kd wa 51 0 k = po := by simp [mbkH, up1]
      have e52 : mbkH (up1 (up1 C 6 0 7 (k + 1)) 60 0 0 k) k po kd wa 52 0 k = kd := by simp [mbkH, up1]
      have e53 : mbkH (up1 (up1 C 6 0 7 (k + 1)) 60 0 0 k) k po kd wa 53 0 k = wa := by simp [mbkH, up1]
      rw [e51, e52, e53, bv.1, bv.2.1, bv.2.2.1, bv.2.2.2.1, bv.2.2.2.2, fr]
      refine ⟨by omega, by omega, by omega, by omega, by omega, fun _ => ?_⟩
      unfold givI
      have : sI (fun b => bI (hi 1 b 7 = k)) nb = sI (fun _ => 0) nb := sI_c (fun b b0 b1 => bI_f (by have := (hI.box b b0 b1).2.2.2.2.2; omega))
      rw [this]
      have := sI_r (f := fun _ => 0) (n := nb) (a := 0) (b := 0) (fun i _ _ => by omega) (by omega)
      omega
    · have e51 : mbkH (up1 (up1 C 6 0 7 (nk + 1)) 60 0 0 nk) nk po kd wa 51 0 k = hi 51 0 k := by simp [mbkH, up1, thr, z]; exact oth 51 0 k (by omega)
      have e52 : mbkH (up1 (up1 C 6 0 7 (nk + 1)) 60 0 0 nk) nk po kd wa 52 0 k = hi 52 0 k := by simp [mbkH, up1, thr, z]; exact oth 52 0 k (by omega)
      have e53 : mbkH (up1 (up1 C 6 0 7 (nk + 1)) 60 0 0 nk) nk po kd wa 53 0 k = hi 53 0 k := by simp [mbkH, up1, thr, z]; exact oth 53 0 k (by omega)
      rw [e51, e52, e53, oth 0 k 0 (by omega), oth 0 k 1 (by omega), oth 0 k 2 (by omega), oth 0 k 3 (by omega), oth 0 k 4 (by omega)]
      exact hI.bok k k0 (by omega)
  · intro k k0 k1
    rw [q 54 (by decide)]
    exact hI.nov k (by omega) k1
theorem endMC (hI : Inv hi nb nk) {k : Int} : cM_end hi nk k = cC_end hi nk k := by
  unfold cM_end cC_end
  by_cases q : 0 ≤ k ∧ k < nk
  · have g := hI.bok k q.1 q.2
    rw [g.2.2.2.1.1]
  · rw [if_pos q, if_pos q]
theorem J_end (hI : Inv hi nb nk) {k : Int} : Both I_L_end I_X7_end [aR 6 0, aI k, aR 60 0] [aR 7 0, aI k] hi nb nk := by
  have c9 := endMC hI (k := k)
  have hn := hI.num
  unfold vNum at hn
  refine both_mk (v := hi 0 k 3) (H2 := up1 (emH (thr (up1 (enH hi k nb) 60 0 0 (hi 0 k 3))) k nb) 54 0 k 1) hI (W_end hI) (fun h => by have w := (K_X7_end (k := k) hI.mv).no (by rw [c9]; exact h); rw [c9] at w; exact w) (fun h => ?_) (fun h => ?_)
  · have r : (0 ≤ k ∧ k < nk) ∧ hi 0 k 4 = 0 := by unfold cC_end at h; (repeat' split at h) <;> omega
    have w := (K_X7_end (hi := up1 (enH hi k nb) 60 0 0 (hi 0 k 3)) (nb := nb) (nk := nk) (k := k) hI.mv).ok (c9.trans h)
    have e : givI (thr (up1 (enH hi k nb) 60 0 0 (hi 0 k 3)) 36 0) nb k = hi 0 k 3 := by
      show givI (hi 36 0) nb k = _
      rw [givMC hI, (hI.bok k r.1.1 r.1.2).2.2.2.2.2 r.2]
    rw [e] at w
    exact w
  · have r : (0 ≤ k ∧ k < nk) ∧ hi 0 k 4 = 0 := by unfold cC_end at h; (repeat' split at h) <;> omega
    have m36 : ∀ x, up1 (emH (thr (up1 (enH hi k nb) 60 0 0 (hi 0 k 3))) k nb) 54 0 k 1 36 0 x = if 0 ≤ x ∧ x < nb ∧ hi 36 0 x = k then -1 else hi 36 0 x := fun x => by
      simp [up1, emH, thr, enH]
    have m34 : ∀ x, up1 (emH (thr (up1 (enH hi k nb) 60 0 0 (hi 0 k 3))) k nb) 54 0 k 1 34 0 x = if 0 ≤ x ∧ x < nb ∧ hi 36 0 x = k then 1 else hi 34 0 x := fun x => by
      simp [up1, emH, thr, enH]
    have c17 : ∀ x, up1 (emH (thr (up1 (enH hi k nb) 60 0 0 (hi 0 k 3))) k nb) 54 0 k 1 1 x 7 = if 0 ≤ x ∧ x < nb ∧ hi 1 x 7 = k then -1 else hi 1 x 7 := fun x => by
      simp [up1, emH, thr, enH]
    have c16 : ∀ x, up1 (emH (thr (up1 (enH hi k nb) 60 0 0 (hi 0 k 3))) k nb) 54 0 k 1 1 x 6 = if 0 ≤ x ∧ x < nb ∧ hi 1 x 7 = k then 1 else hi 1 x 6 := fun x => by
      simp [up1, emH, thr, enH]
    have c1 : ∀ x j, j ≠ 6 → j ≠ 7 → up1 (emH (thr (up1 (enH hi k nb) 60 0 0 (hi 0 k 3))) k nb) 54 0 k 1 1 x j = hi 1 x j := fun x j h6 h7 => by
      simp [up1, emH, thr, enH, h6, h7]
    have c0 : ∀ x j, j ≠ 4 ∨ x ≠ k → up1 (emH (thr (up1 (enH hi k nb) 60 0 0 (hi 0 k 3))) k nb) 54 0 k 1 0 x j = hi 0 x j := fun x j hx => by
      have : ¬ (x = k ∧ j = 4) := by omega
      simp [up1, emH, thr, enH, this]
    refine ⟨rfl, rfl, hI.num, hI.day, hI.cst, hI.quo, hI.std, fun x x0 x1 => ?_, fun x x0 x1 => ?_, hI.rep, hI.lea.c rfl rfl rfl rfl rfl rfl (fun x => ⟨c1 x 1 (by decide) (by decide), c1 x 8 (by decide) (by decide)⟩), hI.dam, hI.han.c rfl rfl rfl (fun x => ⟨c1 x 8 (by decide) (by decide), c1 x 1 (by decide) (by decide), c1 x 9 (by decide) (by decide)⟩), fun x x0 x1 => ?_, fun x x0 x1 => ?_⟩
    · have o := hI.box x x0 x1
      rw [m36, m34, c17, c16, c1 x 0 (by decide) (by decide), c1 x 1 (by decide) (by decide), c1 x 5 (by decide) (by decide), c1 x 8 (by decide) (by decide), o.2.2.2.2.2.1]
      refine ⟨o.1, o.2.1, o.2.2.1, ?_, o.2.2.2.2.1, rfl, ?_, ?_⟩
      · rw [o.2.2.2.1.1]
        refine ⟨rfl, ?_⟩
        have := o.2.2.2.1.2
        split <;> omega
      · split <;> omega
      · split <;> omega
    · have o := hI.fre x x0 x1
      rw [m34, if_neg (by omega)]
      exact o
    · have o := hI.bok x x0 x1
      by_cases q : x = k
      · subst q
        have e4 : up1 (emH (thr (up1 (enH hi x nb) 60 0 0 (hi 0 x 3))) x nb) 54 0 x 1 0 x 4 = 1 := by simp [up1, emH, thr, enH]
        have e54 : up1 (emH (thr (up1 (enH hi x nb) 60 0 0 (hi 0 x 3))) x nb) 54 0 x 1 54 0 x = 1 := by simp [up1]
        rw [c0 x 0 (by omega), c0 x 1 (by omega), c0 x 2 (by omega), c0 x 3 (by omega), e4, e54]
        exact ⟨o.1, o.2.1, o.2.2.1, by omega, o.2.2.2.2.1, fun z => by omega⟩
      · have e54 : up1 (emH (thr (up1 (enH hi k nb) 60 0 0 (hi 0 k 3))) k nb) 54 0 k 1 54 0 x = hi 54 0 x := by simp [up1, q, emH, thr, enH]
        rw [c0 x 0 (by omega), c0 x 1 (by omega), c0 x 2 (by omega), c0 x 3 (by omega), c0 x 4 (by omega), e54]
        refine ⟨o.1, o.2.1, o.2.2.1, o.2.2.2.1, o.2.2.2.2.1, fun z => ?_⟩
        rw [o.2.2.2.2.2 z]
        unfold givI
        refine sI_c (fun b b0 b1 => bI_iff ?_)
        show hi 1 b 7 = x ↔ up1 (emH (thr (up1 (enH hi k nb) 60 0 0 (hi 0 k 3))) k nb) 54 0 k 1 1 b 7 = x
        rw [c17]
        split <;> omega
    · have o := hI.nov x x0 x1
      have e54 : up1 (emH (thr (up1 (enH hi k nb) 60 0 0 (hi 0 k 3))) k nb) 54 0 k 1 54 0 x = hi 54 0 x := by
        have : x ≠ k := by omega
        simp [up1, this, emH, thr, enH]
      rw [e54]
      exact o
end ST4
