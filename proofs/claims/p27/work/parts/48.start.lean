/-! ===== constructors of the two great objects: rows and heaps ===== -/
def nZ : Nat → Int := fun k => if k = 7 ∨ (30 ≤ k ∧ k ≤ 59) then 1 else if k ≤ 61 then 0 else 1
def nM (n : Nat → Int) (ko kr : Nat) (N : Int) : Nat → Int := fun k' => if k' = ko then n ko + 1 else if k' = kr then n kr + N else n k'
theorem RP_mn {nb nk : Int} {L : List (Nat × Int × Int)} {ko kr : Nat} {N : Int} (h1 : ∀ j, HR nb nk ko 0 j = if 0 ≤ j ∧ j < N then some (kr, j) else none) (h2 : ∀ i j, HR nb nk kr i j = none) (hL : ∀ x ∈ L, x.1 ≠ ko) :
    (fun k' i' j => if k' = ko ∧ i' = 0 then (if 0 ≤ j ∧ j < N then some (kr, 0 + j) else none) else if k' = kr ∧ 0 ≤ i' ∧ i' < 0 + N then none else RP nb nk L k' i' j : Nat → Int → Int → Rf) = RP nb nk L := by
  funext k i j
  by_cases q : k = ko ∧ i = 0
  · obtain ⟨rfl, rfl⟩ := q
    rw [if_pos ⟨rfl, rfl⟩]
    have hn : L.any (fun q => decide (k = q.1 ∧ (0 : Int) = q.2.1 ∧ q.2.2 ≤ j)) = false := by
      rw [List.any_eq_false]
      intro x hx
      simp only [decide_eq_true_eq]
      exact fun z => hL x hx z.1.symm
    unfold RP
    rw [hn, h1 j, Int.zero_add]
    rfl
  · rw [if_neg q]
    split
    next z =>
      obtain ⟨rfl, z2⟩ := z
      unfold RP
      split
      · rfl
      · exact (h2 i j).symm
    next => rfl
section CS
variable {I : MI} {pc : Nat} {xs : List (Option Av)} {st : List Av} {f : Hi} {r : Nat → Int → Int → Rf} {n : Nat → Int} {nb nk : Int} {cs sl cs' sl' : Nat} {Q : Option Av → Hp → Prop} {X : String → Hp → Prop}
theorem c_f {f' : Hi} (e : f = f') (k : Run I pc xs st (f', r, n) cs sl Q X) : Run I pc xs st (f, r, n) cs sl Q X := by rw [e]; exact k
theorem c_mna {L : List (Nat × Int × Int)} {ko kr N K index : Nat} {x y N9 : Int} (ho : ax_kd ko = (13, N)) (hr : ax_kd kr = (8, K)) (hx : x = N) (hy : y = K) (hN : N ≤ 1000 ∧ K ≤ 1000) (hw : Cond.classLink (mOwn I) index ("[" ++ (FieldType.array .int).toString) ∈ ax_GT ∧ Cond.arrayClass .int ∈ ax_GT) (hd : decode (mC I) pc = .ok (.multianewarray index 2, 4)) (hc : cs + 1 + N = cs' ∧ cs' ≤ (mRm I).cells) (hs : sl + N + N * K = sl' ∧ sl' ≤ (mRm I).slots)
    (hno : n ko = 0) (hnr : n kr = 0) (hN9 : ((N : Nat) : Int) = N9) (h1 : ∀ j, HR nb nk ko 0 j = if 0 ≤ j ∧ j < N9 then some (kr, j) else none) (h2 : ∀ i j, HR nb nk kr i j = none) (hL : ∀ x ∈ L, x.1 ≠ ko) (hf : ∀ j, f ko 0 j = 0) (hf2 : ∀ i j, 0 ≤ i → i < N9 → f kr i j = 0)
    (k : Run I (pc + 4) xs (aR ko 0 :: st) (f, RP nb nk L, nM n ko kr N9) cs' sl' Q X) : Run I pc xs (aI y :: aI x :: st) (f, RP nb nk L, n) cs sl Q X := by
  obtain ⟨rfl, hc2⟩ := hc
  obtain ⟨rfl, hs2⟩ := hs
  subst hN9
  refine r_mna (h := (f, RP nb nk L, n)) ho hr hx hy hN hw hd (by omega) (by omega) ?_
  have e : ax_mn ko kr N (f, RP nb nk L, n) = (f, RP nb nk L, nM n ko kr N) := by
    unfold ax_mn nM
    refine Prod.ext ?_ (Prod.ext ?_ rfl)
    · funext k' i' j
      show (if (k' = ko ∧ i' = n ko) ∨ (k' = kr ∧ n kr ≤ i' ∧ i' < n kr + N) then 0 else f k' i' j) = f k' i' j
      rw [hno, hnr]
      split
      next z =>
        rcases z with ⟨rfl, rfl⟩ | ⟨rfl, z1, z2⟩
        · exact (hf j).symm
        · exact (hf2 i' j z1 (by omega)).symm
      next => rfl
    · have := RP_mn (nb := nb) (nk := nk) (L := L) h1 h2 hL
      show (fun k' i' j => if k' = ko ∧ i' = n ko then (if 0 ≤ j ∧ j < (N : Int) then some (kr, n kr + j) else none) else if k' = kr ∧ n kr ≤ i' ∧ i' < n kr + N then none else RP nb nk L k' i' j) = _
      rw [hno, hnr]
      exact this
  rw [e]
  show Run I (pc + 4) xs (aR ko (n ko) :: st) _ _ _ Q X
  rw [hno]
  exact k
theorem c_getQ {t j index : Nat} {i jI n9 : Int} {x : Rf} (hf : ax_Fl (mOwn I) index t j) (hr : ax_rf t j = true) (hd : decode (mC I) pc = .ok (.getfield index, 3)) (hj : ((j : Nat) : Int) = jI) (hn : n t = n9) (h0 : 0 ≤ i) (h1 : i < n9) (hv : r t i jI = x) (k : Run I (pc + 3) xs (aQ x :: st) (f, r, n) cs sl Q X) : Run I pc xs (aR t i :: st) (f, r, n) cs sl Q X := by
  subst hj
  subst hn
  exact r_getQ (h := (f, r, n)) hf hr hd h0 h1 hv k
theorem c_aald {kk t N : Nat} {i x n9 NI : Int} {q : Rf} (hk : ax_kd kk = (t, N)) (ht : 11 ≤ t ∧ t < 14) (hd : decode (mC I) pc = .ok (.aaload, 1)) (hn : n kk = n9) (h0 : 0 ≤ i) (h1 : i < n9) (hNI : ((N : Nat) : Int) = NI) (x0 : 0 ≤ x) (x1 : x < NI) (hv : r kk i x = q) (k : Run I (pc + 1) xs (aQ q :: st) (f, r, n) cs sl Q X) : Run I pc xs (aI x :: aR kk i :: st) (f, r, n) cs sl Q X := by
  subst hNI
  subst hn
  exact r_aald (h := (f, r, n)) hk ht hd h0 h1 x0 x1 hv k
theorem c_iast {kk N : Nat} {i x v n9 NI : Int} (hk : ax_kd kk = (8, N)) (hd : decode (mC I) pc = .ok (.iastore, 1)) (hn : n kk = n9) (h0 : 0 ≤ i) (h1 : i < n9) (hNI : ((N : Nat) : Int) = NI) (x0 : 0 ≤ x) (x1 : x < NI) (k : Run I (pc + 1) xs st (up1 f kk i x v, r, n) cs sl Q X) : Run I pc xs (aI v :: aI x :: aR kk i :: st) (f, r, n) cs sl Q X := by
  subst hNI
  subst hn
  exact r_iast (h := (f, r, n)) hk hd h0 h1 x0 x1 k
end CS
theorem zf_z {f : Hi} {k : Nat} {N : Int} (h : ∀ j, f k N j = 0) : zf f k N = f := by
  funext k' i j
  unfold zf
  split
  next e => obtain ⟨rfl, rfl⟩ := e; exact (h j).symm
  next => rfl
/-- the class's ints while it is made -/
def bpF (u v a b c d e : Int) : Hi := fun k i j => if k = 6 ∧ i = 0 ∧ j = 9 then u else if k = 6 ∧ i = 0 ∧ j = 10 then v else if k = 9 ∧ ((0 ≤ i ∧ i < a ∧ 0 ≤ j ∧ j < 6) ∨ (i = a ∧ 0 ≤ j ∧ j < b)) then (if i = j then 0 else 100)
  else if k = 11 ∧ ((0 ≤ i ∧ i < c ∧ 0 ≤ j ∧ j < 6) ∨ (i = c ∧ 0 ≤ j ∧ j < d)) then 2 else if k = 12 ∧ i = 0 ∧ 0 ≤ j ∧ j < e then 3 else 0
theorem bpF_0 : bpF 0 0 0 0 0 0 0 = fun _ _ _ => 0 := by
  funext k i j
  unfold bpF
  rw [if_neg (c := k = 9 ∧ _) (by omega), if_neg (c := k = 11 ∧ _) (by omega), if_neg (c := k = 12 ∧ _) (by omega)]
  split
  · rfl
  · split <;> rfl
theorem bpF_u {u v a b c d e x : Int} : up1 (bpF u v a b c d e) 6 0 9 x = bpF x v a b c d e := by
  funext k i j
  simp only [up1, bpF]
  split <;> rfl
theorem bpF_v {u v a b c d e x : Int} : up1 (bpF u v a b c d e) 6 0 10 x = bpF u x a b c d e := by
  funext k i j
  simp only [up1, bpF]
  by_cases q : k = 6 ∧ i = 0 ∧ j = 10
  · rw [if_pos q, if_neg (by omega), if_pos q]
  · rw [if_neg q, if_neg (c := k = 6 ∧ i = 0 ∧ j = 10) q, if_neg (c := k = 6 ∧ i = 0 ∧ j = 10) q]
theorem bpF_b {u v a b c d e : Int} (hb : 0 ≤ b) : up1 (bpF u v a b c d e) 9 a b (if a = b then 0 else 100) = bpF u v a (b + 1) c d e := by
  funext k i j
  simp only [up1, bpF]
  by_cases q : k = 9 ∧ i = a ∧ j = b
  · obtain ⟨rfl, rfl, rfl⟩ := q
    rw [if_pos ⟨rfl, rfl, rfl⟩, if_neg (c := (9 : Nat) = 6 ∧ i = 0 ∧ j = 9) (by omega), if_neg (c := (9 : Nat) = 6 ∧ i = 0 ∧ j = 10) (by omega), if_pos (c := (9 : Nat) = 9 ∧ _) (by omega)]
  · rw [if_neg q]
    have : (k = 9 ∧ ((0 ≤ i ∧ i < a ∧ 0 ≤ j ∧ j < 6) ∨ (i = a ∧ 0 ≤ j ∧ j < b))) ↔ (k = 9 ∧ ((0 ≤ i ∧ i < a ∧ 0 ≤ j ∧ j < 6) ∨ (i = a ∧ 0 ≤ j ∧ j < b + 1))) := by omega
    simp only [this]
theorem bpF_a {u v a c d e : Int} (ha : 0 ≤ a) : bpF u v a 6 c d e = bpF u v (a + 1) 0 c d e := by
  funext k i j
  unfold bpF
  have : (k = 9 ∧ ((0 ≤ i ∧ i < a ∧ 0 ≤ j ∧ j < 6) ∨ (i = a ∧ 0 ≤ j ∧ j < 6))) ↔ (k = 9 ∧ ((0 ≤ i ∧ i < a + 1 ∧ 0 ≤ j ∧ j < 6) ∨ (i = a + 1 ∧ 0 ≤ j ∧ j < 0))) := by omega
  simp only [this]
theorem bpF_d {u v a b c d e : Int} (hd : 0 ≤ d) : up1 (bpF u v a b c d e) 11 c d 2 = bpF u v a b c (d + 1) e := by
  funext k i j
  simp only [up1, bpF]
  by_cases q : k = 11 ∧ i = c ∧ j = d
  · obtain ⟨rfl, rfl, rfl⟩ := q
    rw [if_pos ⟨rfl, rfl, rfl⟩, if_neg (by omega), if_neg (by omega), if_neg (by omega), if_pos (by omega)]
  · rw [if_neg q]
    have : (k = 11 ∧ ((0 ≤ i ∧ i < c ∧ 0 ≤ j ∧ j < 6) ∨ (i = c ∧ 0 ≤ j ∧ j < d))) ↔ (k = 11 ∧ ((0 ≤ i ∧ i < c ∧ 0 ≤ j ∧ j < 6) ∨ (i = c ∧ 0 ≤ j ∧ j < d + 1))) := by omega
    simp only [this]
theorem bpF_c {u v a b c e : Int} (hc : 0 ≤ c) : bpF u v a b c 6 e = bpF u v a b (c + 1) 0 e := by
  funext k i j
  unfold bpF
  have : (k = 11 ∧ ((0 ≤ i ∧ i < c ∧ 0 ≤ j ∧ j < 6) ∨ (i = c ∧ 0 ≤ j ∧ j < 6))) ↔ (k = 11 ∧ ((0 ≤ i ∧ i < c + 1 ∧ 0 ≤ j ∧ j < 6) ∨ (i = c + 1 ∧ 0 ≤ j ∧ j < 0))) := by omega
  simp only [this]
theorem bpF_e {u v a b c d e : Int} (he : 0 ≤ e) : up1 (bpF u v a b c d e) 12 0 e 3 = bpF u v a b c d (e + 1) := by
  funext k i j
  simp only [up1, bpF]
  by_cases q : k = 12 ∧ i = 0 ∧ j = e
  · obtain ⟨rfl, rfl, rfl⟩ := q
    rw [if_pos ⟨rfl, rfl, rfl⟩, if_neg (by omega), if_neg (by omega), if_neg (by omega), if_neg (by omega), if_pos (by omega)]
  · rw [if_neg q]
    have : (k = 12 ∧ i = 0 ∧ 0 ≤ j ∧ j < e) ↔ (k = 12 ∧ i = 0 ∧ 0 ≤ j ∧ j < e + 1) := by omega
    simp only [this]
