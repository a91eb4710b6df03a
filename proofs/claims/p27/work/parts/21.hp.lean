/-! ===== the heap between calls: ints hi, nb boxes, nk bookings; references and counts follow from these ===== -/
def HR (nb nk : Int) : Nat → Int → Int → Rf := fun k i j => match k with
  | 1 => if j = 2 then some (4, i) else if j = 3 then some (3, i) else if j = 4 then some (2, i) else none
  | 2 => if j = 0 then some (28, i) else if j = 1 then some (29, i) else none
  | 3 => if j = 0 then some (26, i) else if j = 1 then some (27, i) else none
  | 4 => if j = 0 then some (22, i) else if j = 1 then some (23, i) else if j = 2 then some (24, i) else if j = 3 then some (25, i) else none
  | 5 => if j = 0 then some (15, 0) else if j = 1 then some (16, 0) else if j = 2 then some (17, 0) else if j = 3 then some (18, 0) else if j = 4 then some (19, 0) else if j = 5 then some (20, 0) else if j = 6 then some (21, 0) else none
  | 6 => if j = 0 then some (8, 0) else if j = 1 then some (10, 0) else if j = 2 then some (12, 0) else if j = 3 then some (13, 0) else if j = 4 then some (14, 0) else if j = 5 then some (5, 0) else none
  | 8 => if 0 ≤ j ∧ j < 6 then some (9, j) else none
  | 10 => if 0 ≤ j ∧ j < 3 then some (11, j) else none
  | 13 => if i = 0 ∧ 0 ≤ j ∧ j < nb then some (1, j) else none
  | 14 => if i = 0 ∧ 0 ≤ j ∧ j < nk then some (0, j) else none
  | _ => none
def CN (g nb nk : Int) : Nat → Int := fun k => match k with
  | 0 => nk | 1 => nb | 2 => nb | 3 => nb | 4 => nb | 22 => nb | 23 => nb | 24 => nb | 25 => nb | 26 => nb | 27 => nb | 28 => nb | 29 => nb
  | 9 => 6 | 11 => 3 | 61 => g
  | _ => 1
abbrev Hi : Type := Nat → Int → Int → Int
/-- how many arrays of kind 61 there are stands in the place (98, 0, 0), which is in no heap -/
def hp (hi : Hi) (nb nk : Int) : Hp := (hi, HR nb nk, CN (hi 98 0 0) nb nk)
theorem hp_up {hi : Hi} {nb nk : Int} {k : Nat} {i j x : Int} (h : k ≠ 98) : hp (up1 hi k i j x) nb nk = (up1 hi k i j x, HR nb nk, CN (hi 98 0 0) nb nk) := by
  unfold hp
  rw [up1_n (fun z => h z.1.symm)]
theorem kd_98 {k n : Nat} {t : Nat} (h : ax_kd k = (t, n)) (ht : t < 14) : k ≠ 98 := by
  rintro rfl
  have e : ax_kd 98 = (99, 0) := rfl
  rw [e] at h
  cases h
  omega
section PH
variable {I : MI} {pc : Nat} {xs : List (Option Av)} {st : List Av} {hi : Hi} {nb nk : Int} {cs sl : Nat} {Q : Option Av → Hp → Prop} {X : String → Hp → Prop}
theorem p_getI {t j index : Nat} {i jI n9 : Int} (hf : ax_Fl (mOwn I) index t j) (hr : ax_rf t j = false) (hd : decode (mC I) pc = .ok (.getfield index, 3)) (hj : ((j : Nat) : Int) = jI) (hn : CN (hi 98 0 0) nb nk t = n9) (h0 : 0 ≤ i) (h1 : i < n9) (k : Run I (pc + 3) xs (aI (hi t i jI) :: st) (hp hi nb nk) cs sl Q X) : Run I pc xs (aR t i :: st) (hp hi nb nk) cs sl Q X := by
  subst hj
  subst hn
  exact r_getI hf hr hd h0 h1 k
theorem p_getQ {t j index : Nat} {i jI n9 : Int} {r : Rf} (hf : ax_Fl (mOwn I) index t j) (hr : ax_rf t j = true) (hd : decode (mC I) pc = .ok (.getfield index, 3)) (hj : ((j : Nat) : Int) = jI) (hn : CN (hi 98 0 0) nb nk t = n9) (h0 : 0 ≤ i) (h1 : i < n9) (hv : HR nb nk t i jI = r) (k : Run I (pc + 3) xs (aQ r :: st) (hp hi nb nk) cs sl Q X) : Run I pc xs (aR t i :: st) (hp hi nb nk) cs sl Q X := by
  subst hj
  subst hn
  exact r_getQ hf hr hd h0 h1 hv k
theorem p_putI {t j index : Nat} {i x jI n9 : Int} (hf : ax_Fl (mOwn I) index t j) (hr : ax_ft t j = .int ∨ (ax_ft t j = .boolean ∧ (x = 0 ∨ x = 1))) (hfin : ax_fin t j = false ∨ ((mY I).name = "<init>" ∧ ax_dcl t j = mOwn I)) (hd : decode (mC I) pc = .ok (.putfield index, 3)) (hj : ((j : Nat) : Int) = jI) (hn : CN (hi 98 0 0) nb nk t = n9) (h0 : 0 ≤ i) (h1 : i < n9) (k : Run I (pc + 3) xs st (hp (up1 hi t i jI x) nb nk) cs sl Q X) : Run I pc xs (aI x :: aR t i :: st) (hp hi nb nk) cs sl Q X := by
  subst hj
  subst hn
  obtain ⟨C, T, N, f1, f2, f3, f4, f5⟩ := id hf
  rw [hp_up (k := t) (show t ≠ 98 by omega)] at k
  exact r_putI hf hr hfin hd h0 h1 k
theorem p_alen {kk t n : Nat} {i n9 nI : Int} (hk : ax_kd kk = (t, n)) (ht : 8 ≤ t ∧ t < 14 ∧ t ≠ 10) (hn : n ≤ 100000) (hd : decode (mC I) pc = .ok (.arraylength, 1)) (hc : CN (hi 98 0 0) nb nk kk = n9) (h0 : 0 ≤ i) (h1 : i < n9) (hnI : ((n : Nat) : Int) = nI) (k : Run I (pc + 1) xs (aI nI :: st) (hp hi nb nk) cs sl Q X) : Run I pc xs (aR kk i :: st) (hp hi nb nk) cs sl Q X := by
  subst hnI
  subst hc
  exact r_alen hk ht hn hd h0 h1 k
theorem p_iald {kk n : Nat} {i x n9 nI : Int} (hk : ax_kd kk = (8, n)) (hd : decode (mC I) pc = .ok (.iaload, 1)) (hc : CN (hi 98 0 0) nb nk kk = n9) (h0 : 0 ≤ i) (h1 : i < n9) (hnI : ((n : Nat) : Int) = nI) (x0 : 0 ≤ x) (x1 : x < nI) (k : Run I (pc + 1) xs (aI (hi kk i x) :: st) (hp hi nb nk) cs sl Q X) : Run I pc xs (aI x :: aR kk i :: st) (hp hi nb nk) cs sl Q X := by
  subst hnI
  subst hc
  exact r_iald hk hd h0 h1 x0 x1 k
theorem p_zald {kk n : Nat} {i x n9 nI : Int} (hk : ax_kd kk = (9, n)) (hd : decode (mC I) pc = .ok (.baload, 1)) (hc : CN (hi 98 0 0) nb nk kk = n9) (h0 : 0 ≤ i) (h1 : i < n9) (hnI : ((n : Nat) : Int) = nI) (x0 : 0 ≤ x) (x1 : x < nI) (k : Run I (pc + 1) xs (aI (hi kk i x) :: st) (hp hi nb nk) cs sl Q X) : Run I pc xs (aI x :: aR kk i :: st) (hp hi nb nk) cs sl Q X := by
  subst hnI
  subst hc
  exact r_zald hk hd h0 h1 x0 x1 k
theorem p_aald {kk t n : Nat} {i x n9 nI : Int} {r : Rf} (hk : ax_kd kk = (t, n)) (ht : 11 ≤ t ∧ t < 14) (hd : decode (mC I) pc = .ok (.aaload, 1)) (hc : CN (hi 98 0 0) nb nk kk = n9) (h0 : 0 ≤ i) (h1 : i < n9) (hnI : ((n : Nat) : Int) = nI) (x0 : 0 ≤ x) (x1 : x < nI) (hv : HR nb nk kk i x = r) (k : Run I (pc + 1) xs (aQ r :: st) (hp hi nb nk) cs sl Q X) : Run I pc xs (aI x :: aR kk i :: st) (hp hi nb nk) cs sl Q X := by
  subst hnI
  subst hc
  exact r_aald hk ht hd h0 h1 x0 x1 hv k
theorem p_iast {kk n : Nat} {i x v n9 nI : Int} (hk : ax_kd kk = (8, n)) (hd : decode (mC I) pc = .ok (.iastore, 1)) (hc : CN (hi 98 0 0) nb nk kk = n9) (h0 : 0 ≤ i) (h1 : i < n9) (hnI : ((n : Nat) : Int) = nI) (x0 : 0 ≤ x) (x1 : x < nI) (k : Run I (pc + 1) xs st (hp (up1 hi kk i x v) nb nk) cs sl Q X) : Run I pc xs (aI v :: aI x :: aR kk i :: st) (hp hi nb nk) cs sl Q X := by
  subst hnI
  subst hc
  rw [hp_up (kd_98 hk (by omega))] at k
  exact r_iast hk hd h0 h1 x0 x1 k
theorem p_zast {kk n : Nat} {i x v n9 nI : Int} (hk : ax_kd kk = (9, n)) (hv : v = 0 ∨ v = 1) (hd : decode (mC I) pc = .ok (.bastore, 1)) (hc : CN (hi 98 0 0) nb nk kk = n9) (h0 : 0 ≤ i) (h1 : i < n9) (hnI : ((n : Nat) : Int) = nI) (x0 : 0 ≤ x) (x1 : x < nI) (k : Run I (pc + 1) xs st (hp (up1 hi kk i x v) nb nk) cs sl Q X) : Run I pc xs (aI v :: aI x :: aR kk i :: st) (hp hi nb nk) cs sl Q X := by
  subst hnI
  subst hc
  rw [hp_up (kd_98 hk (by omega))] at k
  exact r_zast hk hv hd h0 h1 x0 x1 k
theorem p_copy {index k1 k2 N1 N2 : Nat} {i1 i2 x n1 n2 m1 m2 : Int} (hk1 : ax_kd k1 = (8, N1)) (hk2 : ax_kd k2 = (8, N2)) (hw : Cond.methodLink (mOwn I) index arraycopyName ∈ ax_GT ∧ Cond.native arraycopyName ∈ ax_GT ∧ Cond.static arraycopyName ∈ ax_GT ∧ Cond.initialized "java/lang/System" ∈ ax_GT) (hne : k1 ≠ k2) (hm1 : ((N1 : Nat) : Int) = m1) (hm2 : ((N2 : Nat) : Int) = m2) (x0 : 0 ≤ x) (x1 : x ≤ m1) (x2 : x ≤ m2) (c1 : CN (hi 98 0 0) nb nk k1 = n1) (c2 : CN (hi 98 0 0) nb nk k2 = n2) (a0 : 0 ≤ i1) (a1 : i1 < n1) (b0 : 0 ≤ i2) (b1 : i2 < n2)
    (hrm : 1 ≤ (mRm I).frames ∧ (st.map ax_cat).sum + 18 ≤ (mRm I).locals) (hd : decode (mC I) pc = .ok (.invokestatic index, 3)) (k : Run I (pc + 3) xs st (hp (cp1 hi k1 i1 k2 i2 x) nb nk) cs sl Q X) : Run I pc xs (aI x :: aI 0 :: aR k2 i2 :: aI 0 :: aR k1 i1 :: st) (hp hi nb nk) cs sl Q X := by
  subst hm1
  subst hm2
  subst c1
  subst c2
  have k98 := kd_98 hk2 (by omega)
  have e98 : hp (cp1 hi k1 i1 k2 i2 x) nb nk = (cp1 hi k1 i1 k2 i2 x, HR nb nk, CN (hi 98 0 0) nb nk) := by
    unfold hp
    have : cp1 hi k1 i1 k2 i2 x 98 0 0 = hi 98 0 0 := if_neg (fun z => k98 z.1.symm)
    rw [this]
  rw [e98] at k
  exact r_copy hk1 hk2 hw hne x0 x1 x2 a0 a1 b0 b1 hrm hd k
/-- an if whose answer is known -/
theorem p_ht {P : Prop} (h : P) : (P → Run I pc xs st (hp hi nb nk) cs sl Q X) → Run I pc xs st (hp hi nb nk) cs sl Q X := fun f => f h
end PH
