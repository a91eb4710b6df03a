/-! ===== rows of the abstract machine ===== -/
theorem ax_to {z : Int} (h : ax_32 z) : (Int32.ofInt z).toInt = z := Int32.toInt_ofInt_of_le h.1 (by have := h.2; omega)
theorem ax_lt {x y : Int} (hx : ax_32 x) (hy : ax_32 y) : Int32.ofInt x < Int32.ofInt y ↔ x < y := by rw [Int32.lt_iff_toInt_lt, ax_to hx, ax_to hy]
theorem ax_le {x y : Int} (hx : ax_32 x) (hy : ax_32 y) : Int32.ofInt x ≤ Int32.ofInt y ↔ x ≤ y := by rw [Int32.le_iff_toInt_le, ax_to hx, ax_to hy]
theorem ax_eq {x y : Int} (hx : ax_32 x) (hy : ax_32 y) : Int32.ofInt x = Int32.ofInt y ↔ x = y := by rw [← Int32.toInt_inj, ax_to hx, ax_to hy]
theorem ax_cl {z : Int} (h : ax_32 z) : (Int32.ofInt z).toNatClampNeg = z.toNat := by
  show (Int32.ofInt z).toInt.toNat = z.toNat
  rw [ax_to h]
theorem ax_in {z : Int} {n : Nat} (h : ax_32 z) (h0 : 0 ≤ z) (h1 : z < n) : vp_in (Int32.ofInt z) n := by
  intro q
  rcases q with q | q
  · rw [Int32.lt_iff_toInt_lt, ax_to h] at q
    have : (0 : Int32).toInt = 0 := rfl
    omega
  · rw [ax_cl h] at q
    omega
theorem ax_64of {z : Int} (h : ax_32 z) : ax_64 z := ⟨by have := h.1; omega, by have := h.2; omega⟩
theorem ax_to64 {z : Int} (h : ax_64 z) : (Int64.ofInt z).toInt = z := Int64.toInt_ofInt_of_le (by have := h.1; omega) (by have := h.2; omega)
theorem ax_i2l {z : Int} (h : ax_32 z) : (Int32.ofInt z).toInt64 = Int64.ofInt z := by
  apply Int64.toInt_inj.mp
  rw [Int32.toInt_toInt64, ax_to h, ax_to64 (ax_64of h)]
def ax_ls (ad : AD) (xs : List (Option Av)) : List (Nat × Value) := (List.range xs.length).filterMap (fun i => match xs[i]? with | some (some v) => if ax_cat v = 1 ∨ xs[i + 1]? = some (some v) then some (i, ax_v ad v) else none | _ => none)
theorem ax_ls_mem {ad : AD} {xs : List (Option Av)} {i : Nat} {w : Value} : (i, w) ∈ ax_ls ad xs ↔ ∃ v, xs[i]? = some (some v) ∧ ax_vl xs i v ∧ w = ax_v ad v := by
  unfold ax_ls
  rw [List.mem_filterMap]
  constructor
  · rintro ⟨j, -, hj⟩
    split at hj
    next v hv =>
      split at hj
      next hc => cases hj; exact ⟨v, hv, hc, rfl⟩
      next => cases hj
    next => cases hj
  · rintro ⟨v, hv, hc, rfl⟩
    refine ⟨i, List.mem_range.mpr (List.getElem?_eq_some_iff.mp hv).1, ?_⟩
    rw [hv]
    exact if_pos hc
theorem ax_L.has {ad : AD} {nL : Nat} {ls : Array Slot} {xs : List (Option Av)} (h : ax_L ad nL ls xs) : lv_has ls nL (ax_ls ad xs) := ⟨h.1, h.2.1, fun q hq => by
  obtain ⟨i, w⟩ := q
  obtain ⟨v, h1, hc, rfl⟩ := ax_ls_mem.mp hq
  exact h.2.2 i v h1 hc⟩
theorem ax_L.put {ad : AD} {nL i : Nat} {ls ls' : Array Slot} {xs xs' : List (Option Av)} {v : Av} (h : ax_L ad nL ls xs) (hv : (ax_v ad v).category = 1)
    (hl : lv_has ls' nL ((i, ax_v ad v) :: (ax_ls ad xs).filter (fun q => !(q.1 == i) && !(q.1 + 1 == i && q.2.category == 2)))) (hx : xs.set i (some v) = xs') : ax_L ad nL ls' xs' := by
  subst hx
  rw [ax_catv] at hv
  have gen : ∀ (j : Nat) (w : Av), (xs.set i (some v))[j]? = some (some w) → (j = i ∧ w = v) ∨ (j ≠ i ∧ xs[j]? = some (some w)) := by
    intro j w hj
    by_cases e : j = i
    · subst e
      rw [List.getElem?_set] at hj
      split at hj
      next => 
        split at hj
        next => cases hj; exact Or.inl ⟨rfl, rfl⟩
        next => cases hj
      next hn => exact absurd rfl hn
    · rw [List.getElem?_set_ne (Ne.symm e)] at hj
      exact Or.inr ⟨e, hj⟩
  refine ⟨hl.1, hl.2.1, fun j w hj hc => ?_⟩
  rcases gen j w hj with ⟨rfl, rfl⟩ | ⟨e, hj'⟩
  · exact hl.2.2 (j, ax_v ad w) List.mem_cons_self
  · have hc' : ax_vl xs j w ∧ (ax_cat w = 1 ∨ ¬ j + 1 = i) := by
      rcases hc with c | c
      · exact ⟨Or.inl c, Or.inl c⟩
      · rcases gen _ _ c with ⟨z1, z2⟩ | ⟨z1, z2⟩
        · rw [z2]; exact ⟨Or.inl hv, Or.inl hv⟩
        · exact ⟨Or.inr z2, Or.inr z1⟩
    refine hl.2.2 (j, ax_v ad w) (List.mem_cons_of_mem _ (List.mem_filter.mpr ⟨ax_ls_mem.mpr ⟨w, hj', hc'.1, rfl⟩, ?_⟩))
    rcases hc'.2 with c | c
    · simp [e, ax_catv, c]
    · simp [e, c]
/-- a long into two places -/
theorem ax_L.putL {ad : AD} {nL i : Nat} {ls ls' : Array Slot} {xs xs' : List (Option Av)} {z : Int} (h : ax_L ad nL ls xs)
    (hl : lv_has ls' nL ((i, ax_v ad (aL z)) :: (ax_ls ad xs).filter (fun q => !(q.1 == i) && (!(q.1 == i + 1) && !(q.1 + 1 == i && q.2.category == 2))))) (hb : ∀ w, xs[i + 2]? = some (some w) → ax_cat w = 1) (ha : ∀ j w, j + 1 = i → xs[j]? = some (some w) → ax_cat w = 1) (hx : (xs.set i (some (aL z))).set (i + 1) (some (aL z)) = xs') : ax_L ad nL ls' xs' := by
  subst hx
  have gen : ∀ (j : Nat) (w : Av), ((xs.set i (some (aL z))).set (i + 1) (some (aL z)))[j]? = some (some w) → (j = i ∧ w = aL z) ∨ (j = i + 1 ∧ w = aL z) ∨ (j ≠ i ∧ j ≠ i + 1 ∧ xs[j]? = some (some w)) := by
    intro j w hj
    by_cases e : j = i + 1
    · subst e
      rw [List.getElem?_set] at hj
      split at hj
      next => 
        split at hj
        next => cases hj; exact Or.inr (Or.inl ⟨rfl, rfl⟩)
        next => cases hj
      next hn => exact absurd rfl hn
    · rw [List.getElem?_set_ne (Ne.symm e)] at hj
      by_cases e2 : j = i
      · subst e2
        rw [List.getElem?_set] at hj
        split at hj
        next => 
          split at hj
          next => cases hj; exact Or.inl ⟨rfl, rfl⟩
          next => cases hj
        next hn => exact absurd rfl hn
      · rw [List.getElem?_set_ne (Ne.symm e2)] at hj
        exact Or.inr (Or.inr ⟨e2, e, hj⟩)
  refine ⟨hl.1, hl.2.1, fun j w hj hc => ?_⟩
  rcases gen j w hj with ⟨rfl, rfl⟩ | ⟨rfl, rfl⟩ | ⟨e, e1, hj'⟩
  · exact hl.2.2 (j, ax_v ad (aL z)) List.mem_cons_self
  · rcases hc with c | c
    · cases c
    · rcases gen _ _ c with ⟨z1, _⟩ | ⟨z1, _⟩ | ⟨_, _, z3⟩
      · omega
      · omega
      · cases hb _ z3
  · have hc' : ax_vl xs j w ∧ (ax_cat w = 1 ∨ ¬ j + 1 = i) := by
      rcases hc with c | c
      · exact ⟨Or.inl c, Or.inl c⟩
      · rcases gen _ _ c with ⟨z1, z2⟩ | ⟨z1, z2⟩ | ⟨z1, z2, z3⟩
        · have := ha j w z1 hj'
          exact ⟨Or.inl this, Or.inl this⟩
        · omega
        · exact ⟨Or.inr z3, Or.inr z1⟩
    refine hl.2.2 (j, ax_v ad w) (List.mem_cons_of_mem _ (List.mem_filter.mpr ⟨ax_ls_mem.mpr ⟨w, hj', hc'.1, rfl⟩, ?_⟩))
    rcases hc'.2 with c | c
    · simp [e, e1, ax_catv, c]
    · simp [e, e1, c]
theorem ax_xs {n : Nat → Int} {xs xs' : List (Option Av)} {i : Nat} {v : Av} (h : ∀ v, some v ∈ xs → ax_k n v) (hv : ax_k n v) (hx : xs.set i (some v) = xs') : ∀ v, some v ∈ xs' → ax_k n v := by
  subst hx
  intro w hw
  rcases List.mem_or_eq_of_mem_set hw with h1 | h1
  · exact h w h1
  · cases h1; exact hv
theorem ax_xk {n : Nat → Int} {xs : List (Option Av)} {i : Nat} {v : Av} (h : ∀ v, some v ∈ xs → ax_k n v) (hi : xs[i]? = some (some v)) : ax_k n v := h v (List.mem_of_getElem? hi)

theorem r_iconst {I : MI} {pc : Nat} {xs : List (Option Av)} {st : List Av} {h : Hp} {cs sl : Nat} {Q : Option Av → Hp → Prop} {X : String → Hp → Prop} {n : Int} (hd : decode (mC I) pc = .ok (.iconst n, 1)) (hz : -2147483648 ≤ n ∧ n ≤ 2147483647) (k : Run I (pc + 1) xs (aI n :: st) h cs sl Q X) : Run I pc xs (st) h cs sl Q X := by
  intro l p e s m args below meth c D cA z0 n0 ad0 ad H locs ls B
  obtain ⟨hC, hR, hS, hE, hL, hxs, hst⟩ := B
  exact lv_iconst hC.1 hC.2.1 hd rfl (k l p e s m args below meth c D cA z0 n0 ad0 ad H locs ls ⟨hC, hR, hS, hE, hL, hxs, List.forall_mem_cons.mpr ⟨hz, hst⟩⟩)

theorem r_bipush {I : MI} {pc : Nat} {xs : List (Option Av)} {st : List Av} {h : Hp} {cs sl : Nat} {Q : Option Av → Hp → Prop} {X : String → Hp → Prop} {n : Int} (hd : decode (mC I) pc = .ok (.bipush n, 2)) (hv : (Int8.ofInt n).toInt32 = Int32.ofInt n) (hz : -2147483648 ≤ n ∧ n ≤ 2147483647) (k : Run I (pc + 2) xs (aI n :: st) h cs sl Q X) : Run I pc xs (st) h cs sl Q X := by
  intro l p e s m args below meth c D cA z0 n0 ad0 ad H locs ls B
  obtain ⟨hC, hR, hS, hE, hL, hxs, hst⟩ := B
  exact lv_bipush hC.1 hC.2.1 hd hv (k l p e s m args below meth c D cA z0 n0 ad0 ad H locs ls ⟨hC, hR, hS, hE, hL, hxs, List.forall_mem_cons.mpr ⟨hz, hst⟩⟩)

theorem r_sipush {I : MI} {pc : Nat} {xs : List (Option Av)} {st : List Av} {h : Hp} {cs sl : Nat} {Q : Option Av → Hp → Prop} {X : String → Hp → Prop} {n : Int} (hd : decode (mC I) pc = .ok (.sipush n, 3)) (hv : (Int16.ofInt n).toInt32 = Int32.ofInt n) (hz : -2147483648 ≤ n ∧ n ≤ 2147483647) (k : Run I (pc + 3) xs (aI n :: st) h cs sl Q X) : Run I pc xs (st) h cs sl Q X := by
  intro l p e s m args below meth c D cA z0 n0 ad0 ad H locs ls B
  obtain ⟨hC, hR, hS, hE, hL, hxs, hst⟩ := B
  exact lv_sipush hC.1 hC.2.1 hd hv (k l p e s m args below meth c D cA z0 n0 ad0 ad H locs ls ⟨hC, hR, hS, hE, hL, hxs, List.forall_mem_cons.mpr ⟨hz, hst⟩⟩)

theorem r_ldc {I : MI} {pc : Nat} {xs : List (Option Av)} {st : List Av} {h : Hp} {cs sl : Nat} {Q : Option Av → Hp → Prop} {X : String → Hp → Prop} {index : Nat} {n : Int} {v : Int32} (hd : decode (mC I) pc = .ok (.ldc index, 2)) (hw : (Cond.constant (mOwn I) index v) ∈ ax_GT) (hv : v = Int32.ofInt n) (hz : -2147483648 ≤ n ∧ n ≤ 2147483647) (k : Run I (pc + 2) xs (aI n :: st) h cs sl Q X) : Run I pc xs (st) h cs sl Q X := by
  intro l p e s m args below meth c D cA z0 n0 ad0 ad H locs ls B
  obtain ⟨hC, hR, hS, hE, hL, hxs, hst⟩ := B
  subst hv
  exact lv_ldc hC.1 hC.2.1 hC.2.2.2.1 (hC.2.2.2.2.1 _ hw) hd (k l p e s m args below meth c D cA z0 n0 ad0 ad H locs ls ⟨hC, hR, hS, hE, hL, hxs, List.forall_mem_cons.mpr ⟨hz, hst⟩⟩)

theorem r_ldcw {I : MI} {pc : Nat} {xs : List (Option Av)} {st : List Av} {h : Hp} {cs sl : Nat} {Q : Option Av → Hp → Prop} {X : String → Hp → Prop} {index : Nat} {n : Int} {v : Int32} (hd : decode (mC I) pc = .ok (.ldc_w index, 3)) (hw : (Cond.constant (mOwn I) index v) ∈ ax_GT) (hv : v = Int32.ofInt n) (hz : -2147483648 ≤ n ∧ n ≤ 2147483647) (k : Run I (pc + 3) xs (aI n :: st) h cs sl Q X) : Run I pc xs (st) h cs sl Q X := by
  intro l p e s m args below meth c D cA z0 n0 ad0 ad H locs ls B
  obtain ⟨hC, hR, hS, hE, hL, hxs, hst⟩ := B
  subst hv
  exact lv_ldcw hC.1 hC.2.1 hC.2.2.2.1 (hC.2.2.2.2.1 _ hw) hd (k l p e s m args below meth c D cA z0 n0 ad0 ad H locs ls ⟨hC, hR, hS, hE, hL, hxs, List.forall_mem_cons.mpr ⟨hz, hst⟩⟩)

theorem r_lconst {I : MI} {pc : Nat} {xs : List (Option Av)} {st : List Av} {h : Hp} {cs sl : Nat} {Q : Option Av → Hp → Prop} {X : String → Hp → Prop} {n : Fin 2} {v : Int} (hd : decode (mC I) pc = .ok (.lconst n, 1)) (hv : Int64.ofNat (n : Nat) = Int64.ofInt v) (hz : -9223372036854775808 ≤ v ∧ v ≤ 9223372036854775807) (k : Run I (pc + 1) xs (aL v :: st) h cs sl Q X) : Run I pc xs (st) h cs sl Q X := by
  intro l p e s m args below meth c D cA z0 n0 ad0 ad H locs ls B
  obtain ⟨hC, hR, hS, hE, hL, hxs, hst⟩ := B
  exact lv_lconst hC.1 hC.2.1 hd hv (k l p e s m args below meth c D cA z0 n0 ad0 ad H locs ls ⟨hC, hR, hS, hE, hL, hxs, List.forall_mem_cons.mpr ⟨hz, hst⟩⟩)

theorem r_null {I : MI} {pc : Nat} {xs : List (Option Av)} {st : List Av} {h : Hp} {cs sl : Nat} {Q : Option Av → Hp → Prop} {X : String → Hp → Prop} (hd : decode (mC I) pc = .ok (.aconst_null, 1)) (k : Run I (pc + 1) xs (aN :: st) h cs sl Q X) : Run I pc xs (st) h cs sl Q X := by
  intro l p e s m args below meth c D cA z0 n0 ad0 ad H locs ls B
  obtain ⟨hC, hR, hS, hE, hL, hxs, hst⟩ := B
  exact lv_null hC.1 hC.2.1 hd (k l p e s m args below meth c D cA z0 n0 ad0 ad H locs ls ⟨hC, hR, hS, hE, hL, hxs, List.forall_mem_cons.mpr ⟨(fun _ q => by cases q), hst⟩⟩)

theorem r_iload_n {I : MI} {pc : Nat} {xs : List (Option Av)} {st : List Av} {h : Hp} {cs sl : Nat} {Q : Option Av → Hp → Prop} {X : String → Hp → Prop} {k9 : Fin 4} {x : Int} (hd : decode (mC I) pc = .ok (.iload_n k9, 1)) (hx : xs[(k9 : Nat)]? = some (some (aI x))) (k : Run I (pc + 1) xs (aI x :: st) h cs sl Q X) : Run I pc xs (st) h cs sl Q X := by
  intro l p e s m args below meth c D cA z0 n0 ad0 ad H locs ls B
  obtain ⟨hC, hR, hS, hE, hL, hxs, hst⟩ := B
  exact lv_iload_n hC.1 hC.2.1 hd rfl (hL.2.2 _ _ hx (Or.inl rfl)) (k l p e s m args below meth c D cA z0 n0 ad0 ad H locs ls ⟨hC, hR, hS, hE, hL, hxs, List.forall_mem_cons.mpr ⟨ax_xk hxs hx, hst⟩⟩)

theorem r_iload {I : MI} {pc : Nat} {xs : List (Option Av)} {st : List Av} {h : Hp} {cs sl : Nat} {Q : Option Av → Hp → Prop} {X : String → Hp → Prop} {i : Nat} {x : Int} (hd : decode (mC I) pc = .ok (.iload i, 2)) (hx : xs[i]? = some (some (aI x))) (k : Run I (pc + 2) xs (aI x :: st) h cs sl Q X) : Run I pc xs (st) h cs sl Q X := by
  intro l p e s m args below meth c D cA z0 n0 ad0 ad H locs ls B
  obtain ⟨hC, hR, hS, hE, hL, hxs, hst⟩ := B
  exact lv_iload hC.1 hC.2.1 hd (hL.2.2 _ _ hx (Or.inl rfl)) (k l p e s m args below meth c D cA z0 n0 ad0 ad H locs ls ⟨hC, hR, hS, hE, hL, hxs, List.forall_mem_cons.mpr ⟨ax_xk hxs hx, hst⟩⟩)

theorem r_aload_n {I : MI} {pc : Nat} {xs : List (Option Av)} {st : List Av} {h : Hp} {cs sl : Nat} {Q : Option Av → Hp → Prop} {X : String → Hp → Prop} {k9 : Fin 4} {x : Rf} (hd : decode (mC I) pc = .ok (.aload_n k9, 1)) (hx : xs[(k9 : Nat)]? = some (some (aQ x))) (k : Run I (pc + 1) xs (aQ x :: st) h cs sl Q X) : Run I pc xs (st) h cs sl Q X := by
  intro l p e s m args below meth c D cA z0 n0 ad0 ad H locs ls B
  obtain ⟨hC, hR, hS, hE, hL, hxs, hst⟩ := B
  have hk := k l p e s m args below meth c D cA z0 n0 ad0 ad H locs ls ⟨hC, hR, hS, hE, hL, hxs, List.forall_mem_cons.mpr ⟨ax_xk hxs hx, hst⟩⟩
  have hx1 := hL.2.2 _ _ hx (Or.inl rfl)
  cases x with
  | none => exact lv_aload_nN hC.1 hC.2.1 hd rfl hx1 hk
  | some q => exact lv_aload_n hC.1 hC.2.1 hd rfl hx1 hk

theorem r_aload {I : MI} {pc : Nat} {xs : List (Option Av)} {st : List Av} {h : Hp} {cs sl : Nat} {Q : Option Av → Hp → Prop} {X : String → Hp → Prop} {i : Nat} {x : Rf} (hd : decode (mC I) pc = .ok (.aload i, 2)) (hx : xs[i]? = some (some (aQ x))) (k : Run I (pc + 2) xs (aQ x :: st) h cs sl Q X) : Run I pc xs (st) h cs sl Q X := by
  intro l p e s m args below meth c D cA z0 n0 ad0 ad H locs ls B
  obtain ⟨hC, hR, hS, hE, hL, hxs, hst⟩ := B
  have hk := k l p e s m args below meth c D cA z0 n0 ad0 ad H locs ls ⟨hC, hR, hS, hE, hL, hxs, List.forall_mem_cons.mpr ⟨ax_xk hxs hx, hst⟩⟩
  have hx1 := hL.2.2 _ _ hx (Or.inl rfl)
  cases x with
  | none => exact lv_aloadN hC.1 hC.2.1 hd hx1 hk
  | some q => exact lv_aload hC.1 hC.2.1 hd hx1 hk

theorem r_istore_n {I : MI} {pc : Nat} {xs : List (Option Av)} {st : List Av} {h : Hp} {cs sl : Nat} {Q : Option Av → Hp → Prop} {X : String → Hp → Prop} {k9 : Fin 4} {x : Int} {xs' : List (Option Av)} (hd : decode (mC I) pc = .ok (.istore_n k9, 1)) (hn : (k9 : Nat) < mL I) (hx : xs.set (k9 : Nat) (some (aI x)) = xs') (k : Run I (pc + 1) xs' (st) h cs sl Q X) : Run I pc xs (aI x :: st) h cs sl Q X := by
  intro l p e s m args below meth c D cA z0 n0 ad0 ad H locs ls B
  obtain ⟨hC, hR, hS, hE, hL, hxs, hst⟩ := B
  exact lv_istore_n hC.1 hC.2.1 hd rfl hL.has hn rfl (fun ls' hl' => k l p e s m args below meth c D cA z0 n0 ad0 ad H locs ls' ⟨hC, hR, hS, hE, hL.put rfl hl' hx, ax_xs hxs (hst _ List.mem_cons_self) hx, fun v hv => hst v (List.mem_cons_of_mem _ hv)⟩)

theorem r_istore {I : MI} {pc : Nat} {xs : List (Option Av)} {st : List Av} {h : Hp} {cs sl : Nat} {Q : Option Av → Hp → Prop} {X : String → Hp → Prop} {i : Nat} {x : Int} {xs' : List (Option Av)} (hd : decode (mC I) pc = .ok (.istore i, 2)) (hn : i < mL I) (hx : xs.set i (some (aI x)) = xs') (k : Run I (pc + 2) xs' (st) h cs sl Q X) : Run I pc xs (aI x :: st) h cs sl Q X := by
  intro l p e s m args below meth c D cA z0 n0 ad0 ad H locs ls B
  obtain ⟨hC, hR, hS, hE, hL, hxs, hst⟩ := B
  exact lv_istore hC.1 hC.2.1 hd hL.has hn rfl (fun ls' hl' => k l p e s m args below meth c D cA z0 n0 ad0 ad H locs ls' ⟨hC, hR, hS, hE, hL.put rfl hl' hx, ax_xs hxs (hst _ List.mem_cons_self) hx, fun v hv => hst v (List.mem_cons_of_mem _ hv)⟩)

theorem r_astore_n {I : MI} {pc : Nat} {xs : List (Option Av)} {st : List Av} {h : Hp} {cs sl : Nat} {Q : Option Av → Hp → Prop} {X : String → Hp → Prop} {k9 : Fin 4} {x : Rf} {xs' : List (Option Av)} (hd : decode (mC I) pc = .ok (.astore_n k9, 1)) (hn : (k9 : Nat) < mL I) (hx : xs.set (k9 : Nat) (some (aQ x)) = xs') (k : Run I (pc + 1) xs' (st) h cs sl Q X) : Run I pc xs (aQ x :: st) h cs sl Q X := by
  intro l p e s m args below meth c D cA z0 n0 ad0 ad H locs ls B
  obtain ⟨hC, hR, hS, hE, hL, hxs, hst⟩ := B
  cases x with
  | none => exact lv_astore_nN hC.1 hC.2.1 hd rfl hL.has hn rfl (fun ls' hl' => k l p e s m args below meth c D cA z0 n0 ad0 ad H locs ls' ⟨hC, hR, hS, hE, hL.put rfl hl' hx, ax_xs hxs (hst _ List.mem_cons_self) hx, fun v hv => hst v (List.mem_cons_of_mem _ hv)⟩)
  | some q => exact lv_astore_n hC.1 hC.2.1 hd rfl hL.has hn rfl (fun ls' hl' => k l p e s m args below meth c D cA z0 n0 ad0 ad H locs ls' ⟨hC, hR, hS, hE, hL.put rfl hl' hx, ax_xs hxs (hst _ List.mem_cons_self) hx, fun v hv => hst v (List.mem_cons_of_mem _ hv)⟩)

theorem r_astore {I : MI} {pc : Nat} {xs : List (Option Av)} {st : List Av} {h : Hp} {cs sl : Nat} {Q : Option Av → Hp → Prop} {X : String → Hp → Prop} {i : Nat} {x : Rf} {xs' : List (Option Av)} (hd : decode (mC I) pc = .ok (.astore i, 2)) (hn : i < mL I) (hx : xs.set i (some (aQ x)) = xs') (k : Run I (pc + 2) xs' (st) h cs sl Q X) : Run I pc xs (aQ x :: st) h cs sl Q X := by
  intro l p e s m args below meth c D cA z0 n0 ad0 ad H locs ls B
  obtain ⟨hC, hR, hS, hE, hL, hxs, hst⟩ := B
  cases x with
  | none => exact lv_astoreN hC.1 hC.2.1 hd hL.has hn rfl (fun ls' hl' => k l p e s m args below meth c D cA z0 n0 ad0 ad H locs ls' ⟨hC, hR, hS, hE, hL.put rfl hl' hx, ax_xs hxs (hst _ List.mem_cons_self) hx, fun v hv => hst v (List.mem_cons_of_mem _ hv)⟩)
  | some q => exact lv_astore hC.1 hC.2.1 hd hL.has hn rfl (fun ls' hl' => k l p e s m args below meth c D cA z0 n0 ad0 ad H locs ls' ⟨hC, hR, hS, hE, hL.put rfl hl' hx, ax_xs hxs (hst _ List.mem_cons_self) hx, fun v hv => hst v (List.mem_cons_of_mem _ hv)⟩)

theorem r_iinc {I : MI} {pc : Nat} {xs : List (Option Av)} {st : List Av} {h : Hp} {cs sl : Nat} {Q : Option Av → Hp → Prop} {X : String → Hp → Prop} {i : Nat} {n x : Int} {xs' : List (Option Av)} (hd : decode (mC I) pc = .ok (.iinc i n, 3)) (hx : xs[i]? = some (some (aI x))) (hn : i < mL I) (hz : -2147483648 ≤ x + n ∧ x + n ≤ 2147483647) (hs : xs.set i (some (aI (x + n))) = xs') (k : Run I (pc + 3) xs' (st) h cs sl Q X) : Run I pc xs (st) h cs sl Q X := by
  intro l p e s m args below meth c D cA z0 n0 ad0 ad H locs ls B
  obtain ⟨hC, hR, hS, hE, hL, hxs, hst⟩ := B
  obtain ⟨j, hj⟩ := List.getElem?_of_mem (ax_ls_mem.mpr ⟨_, hx, Or.inl rfl, rfl⟩ : (i, ax_v ad (aI x)) ∈ ax_ls ad xs)
  exact lv_iinc (v := Int32.ofInt (x + n)) hC.1 hC.2.1 hd hL.has (k := j) hj (Int32.ofInt_add x n).symm hn rfl (fun ls' hl' => k l p e s m args below meth c D cA z0 n0 ad0 ad H locs ls' ⟨hC, hR, hS, hE, hL.put (v := aI (x + n)) rfl hl' hs, ax_xs (v := aI (x + n)) hxs hz hs, hst⟩)

theorem r_iadd {I : MI} {pc : Nat} {xs : List (Option Av)} {st : List Av} {h : Hp} {cs sl : Nat} {Q : Option Av → Hp → Prop} {X : String → Hp → Prop} {x y : Int} (hd : decode (mC I) pc = .ok (.iadd, 1)) (hz : -2147483648 ≤ x + y ∧ x + y ≤ 2147483647) (k : Run I (pc + 1) xs (aI (x + y) :: st) h cs sl Q X) : Run I pc xs (aI y :: aI x :: st) h cs sl Q X := by
  intro l p e s m args below meth c D cA z0 n0 ad0 ad H locs ls B
  obtain ⟨hC, hR, hS, hE, hL, hxs, hst⟩ := B
  refine lv_iadd hC.1 hC.2.1 hd ?_
  rw [← Int32.ofInt_add x y]
  exact k l p e s m args below meth c D cA z0 n0 ad0 ad H locs ls ⟨hC, hR, hS, hE, hL, hxs, List.forall_mem_cons.mpr ⟨hz, (fun v hv => hst v (List.mem_cons_of_mem _ (List.mem_cons_of_mem _ hv)))⟩⟩

theorem r_isub {I : MI} {pc : Nat} {xs : List (Option Av)} {st : List Av} {h : Hp} {cs sl : Nat} {Q : Option Av → Hp → Prop} {X : String → Hp → Prop} {x y : Int} (hd : decode (mC I) pc = .ok (.isub, 1)) (hz : -2147483648 ≤ x - y ∧ x - y ≤ 2147483647) (k : Run I (pc + 1) xs (aI (x - y) :: st) h cs sl Q X) : Run I pc xs (aI y :: aI x :: st) h cs sl Q X := by
  intro l p e s m args below meth c D cA z0 n0 ad0 ad H locs ls B
  obtain ⟨hC, hR, hS, hE, hL, hxs, hst⟩ := B
  refine lv_isub hC.1 hC.2.1 hd ?_
  rw [← Int32.ofInt_sub x y]
  exact k l p e s m args below meth c D cA z0 n0 ad0 ad H locs ls ⟨hC, hR, hS, hE, hL, hxs, List.forall_mem_cons.mpr ⟨hz, (fun v hv => hst v (List.mem_cons_of_mem _ (List.mem_cons_of_mem _ hv)))⟩⟩

theorem r_imul {I : MI} {pc : Nat} {xs : List (Option Av)} {st : List Av} {h : Hp} {cs sl : Nat} {Q : Option Av → Hp → Prop} {X : String → Hp → Prop} {x y : Int} (hd : decode (mC I) pc = .ok (.imul, 1)) (hz : -2147483648 ≤ x * y ∧ x * y ≤ 2147483647) (k : Run I (pc + 1) xs (aI (x * y) :: st) h cs sl Q X) : Run I pc xs (aI y :: aI x :: st) h cs sl Q X := by
  intro l p e s m args below meth c D cA z0 n0 ad0 ad H locs ls B
  obtain ⟨hC, hR, hS, hE, hL, hxs, hst⟩ := B
  refine lv_imul hC.1 hC.2.1 hd ?_
  rw [← Int32.ofInt_mul x y]
  exact k l p e s m args below meth c D cA z0 n0 ad0 ad H locs ls ⟨hC, hR, hS, hE, hL, hxs, List.forall_mem_cons.mpr ⟨hz, (fun v hv => hst v (List.mem_cons_of_mem _ (List.mem_cons_of_mem _ hv)))⟩⟩

theorem r_iand {I : MI} {pc : Nat} {xs : List (Option Av)} {st : List Av} {h : Hp} {cs sl : Nat} {Q : Option Av → Hp → Prop} {X : String → Hp → Prop} {x y z : Int} (hd : decode (mC I) pc = .ok (.iand, 1)) (hv : Int32.ofInt x &&& Int32.ofInt y = Int32.ofInt z) (hz : -2147483648 ≤ z ∧ z ≤ 2147483647) (k : Run I (pc + 1) xs (aI z :: st) h cs sl Q X) : Run I pc xs (aI y :: aI x :: st) h cs sl Q X := by
  intro l p e s m args below meth c D cA z0 n0 ad0 ad H locs ls B
  obtain ⟨hC, hR, hS, hE, hL, hxs, hst⟩ := B
  refine lv_iand hC.1 hC.2.1 hd ?_
  rw [hv]
  exact k l p e s m args below meth c D cA z0 n0 ad0 ad H locs ls ⟨hC, hR, hS, hE, hL, hxs, List.forall_mem_cons.mpr ⟨hz, (fun v hv => hst v (List.mem_cons_of_mem _ (List.mem_cons_of_mem _ hv)))⟩⟩

theorem r_ior {I : MI} {pc : Nat} {xs : List (Option Av)} {st : List Av} {h : Hp} {cs sl : Nat} {Q : Option Av → Hp → Prop} {X : String → Hp → Prop} {x y z : Int} (hd : decode (mC I) pc = .ok (.ior, 1)) (hv : Int32.ofInt x ||| Int32.ofInt y = Int32.ofInt z) (hz : -2147483648 ≤ z ∧ z ≤ 2147483647) (k : Run I (pc + 1) xs (aI z :: st) h cs sl Q X) : Run I pc xs (aI y :: aI x :: st) h cs sl Q X := by
  intro l p e s m args below meth c D cA z0 n0 ad0 ad H locs ls B
  obtain ⟨hC, hR, hS, hE, hL, hxs, hst⟩ := B
  refine lv_ior hC.1 hC.2.1 hd ?_
  rw [hv]
  exact k l p e s m args below meth c D cA z0 n0 ad0 ad H locs ls ⟨hC, hR, hS, hE, hL, hxs, List.forall_mem_cons.mpr ⟨hz, (fun v hv => hst v (List.mem_cons_of_mem _ (List.mem_cons_of_mem _ hv)))⟩⟩

theorem r_ixor {I : MI} {pc : Nat} {xs : List (Option Av)} {st : List Av} {h : Hp} {cs sl : Nat} {Q : Option Av → Hp → Prop} {X : String → Hp → Prop} {x y z : Int} (hd : decode (mC I) pc = .ok (.ixor, 1)) (hv : Int32.ofInt x ^^^ Int32.ofInt y = Int32.ofInt z) (hz : -2147483648 ≤ z ∧ z ≤ 2147483647) (k : Run I (pc + 1) xs (aI z :: st) h cs sl Q X) : Run I pc xs (aI y :: aI x :: st) h cs sl Q X := by
  intro l p e s m args below meth c D cA z0 n0 ad0 ad H locs ls B
  obtain ⟨hC, hR, hS, hE, hL, hxs, hst⟩ := B
  refine lv_ixor hC.1 hC.2.1 hd ?_
  rw [hv]
  exact k l p e s m args below meth c D cA z0 n0 ad0 ad H locs ls ⟨hC, hR, hS, hE, hL, hxs, List.forall_mem_cons.mpr ⟨hz, (fun v hv => hst v (List.mem_cons_of_mem _ (List.mem_cons_of_mem _ hv)))⟩⟩

theorem r_ishl {I : MI} {pc : Nat} {xs : List (Option Av)} {st : List Av} {h : Hp} {cs sl : Nat} {Q : Option Av → Hp → Prop} {X : String → Hp → Prop} {x y z : Int} (hd : decode (mC I) pc = .ok (.ishl, 1)) (hv : Int32.ofInt x <<< (Int32.ofInt y &&& 31) = Int32.ofInt z) (hz : -2147483648 ≤ z ∧ z ≤ 2147483647) (k : Run I (pc + 1) xs (aI z :: st) h cs sl Q X) : Run I pc xs (aI y :: aI x :: st) h cs sl Q X := by
  intro l p e s m args below meth c D cA z0 n0 ad0 ad H locs ls B
  obtain ⟨hC, hR, hS, hE, hL, hxs, hst⟩ := B
  refine lv_ishl hC.1 hC.2.1 hd ?_
  rw [hv]
  exact k l p e s m args below meth c D cA z0 n0 ad0 ad H locs ls ⟨hC, hR, hS, hE, hL, hxs, List.forall_mem_cons.mpr ⟨hz, (fun v hv => hst v (List.mem_cons_of_mem _ (List.mem_cons_of_mem _ hv)))⟩⟩

theorem r_ishr {I : MI} {pc : Nat} {xs : List (Option Av)} {st : List Av} {h : Hp} {cs sl : Nat} {Q : Option Av → Hp → Prop} {X : String → Hp → Prop} {x y z : Int} (hd : decode (mC I) pc = .ok (.ishr, 1)) (hv : Int32.ofInt x >>> (Int32.ofInt y &&& 31) = Int32.ofInt z) (hz : -2147483648 ≤ z ∧ z ≤ 2147483647) (k : Run I (pc + 1) xs (aI z :: st) h cs sl Q X) : Run I pc xs (aI y :: aI x :: st) h cs sl Q X := by
  intro l p e s m args below meth c D cA z0 n0 ad0 ad H locs ls B
  obtain ⟨hC, hR, hS, hE, hL, hxs, hst⟩ := B
  refine lv_ishr hC.1 hC.2.1 hd ?_
  rw [hv]
  exact k l p e s m args below meth c D cA z0 n0 ad0 ad H locs ls ⟨hC, hR, hS, hE, hL, hxs, List.forall_mem_cons.mpr ⟨hz, (fun v hv => hst v (List.mem_cons_of_mem _ (List.mem_cons_of_mem _ hv)))⟩⟩

theorem r_idiv {I : MI} {pc : Nat} {xs : List (Option Av)} {st : List Av} {h : Hp} {cs sl : Nat} {Q : Option Av → Hp → Prop} {X : String → Hp → Prop} {x y : Int} (hd : decode (mC I) pc = .ok (.idiv, 1)) (hx : 0 ≤ x) (hy : 0 < y) (k : Run I (pc + 1) xs (aI (x / y) :: st) h cs sl Q X) : Run I pc xs (aI y :: aI x :: st) h cs sl Q X := by
  intro l p e s m args below meth c D cA z0 n0 ad0 ad H locs ls B
  obtain ⟨hC, hR, hS, hE, hL, hxs, hst⟩ := B
  have kx : ax_32 x := hst _ (List.mem_cons_of_mem _ List.mem_cons_self)
  have ky : ax_32 y := hst _ List.mem_cons_self
  have hq : x / y ≤ x := Int.ediv_le_self y hx
  have hq0 : 0 ≤ x / y := Int.ediv_nonneg hx (Int.le_of_lt hy)
  have e9 : Int32.ofInt x / Int32.ofInt y = Int32.ofInt (x / y) := by
    have h1 : x / y = x.tdiv y := (Int.tdiv_eq_ediv_of_nonneg hx).symm
    rw [h1]
    exact (Int32.ofInt_tdiv kx.1 kx.2 ky.1 ky.2).symm
  have hne : ¬ Int32.ofInt y = 0 := fun q => by
    have := (ax_eq ky (show ax_32 0 from ⟨by omega, by omega⟩)).mp q
    omega
  refine lv_idiv hC.1 hC.2.1 hd hne ?_
  rw [e9]
  exact k l p e s m args below meth c D cA z0 n0 ad0 ad H locs ls ⟨hC, hR, hS, hE, hL, hxs, List.forall_mem_cons.mpr ⟨⟨by have := kx.1; omega, by have := kx.2; omega⟩, (fun v hv => hst v (List.mem_cons_of_mem _ (List.mem_cons_of_mem _ hv)))⟩⟩

theorem r_irem {I : MI} {pc : Nat} {xs : List (Option Av)} {st : List Av} {h : Hp} {cs sl : Nat} {Q : Option Av → Hp → Prop} {X : String → Hp → Prop} {x y : Int} (hd : decode (mC I) pc = .ok (.irem, 1)) (hx : 0 ≤ x) (hy : 0 < y) (k : Run I (pc + 1) xs (aI (x % y) :: st) h cs sl Q X) : Run I pc xs (aI y :: aI x :: st) h cs sl Q X := by
  intro l p e s m args below meth c D cA z0 n0 ad0 ad H locs ls B
  obtain ⟨hC, hR, hS, hE, hL, hxs, hst⟩ := B
  have kx : ax_32 x := hst _ (List.mem_cons_of_mem _ List.mem_cons_self)
  have ky : ax_32 y := hst _ List.mem_cons_self
  have hq : x % y < y := Int.emod_lt_of_pos x hy
  have hq0 : 0 ≤ x % y := Int.emod_nonneg x (by omega)
  have e1 : Int32.ofInt x / Int32.ofInt y = Int32.ofInt (x / y) := by
    have h1 : x / y = x.tdiv y := (Int.tdiv_eq_ediv_of_nonneg hx).symm
    rw [h1]
    exact (Int32.ofInt_tdiv kx.1 kx.2 ky.1 ky.2).symm
  have e9 : Int32.ofInt x - Int32.ofInt x / Int32.ofInt y * Int32.ofInt y = Int32.ofInt (x % y) := by
    rw [e1, ← Int32.ofInt_mul, ← Int32.ofInt_sub]
    congr 1
    rw [Int.emod_def, Int.mul_comm]
  have hne : ¬ Int32.ofInt y = 0 := fun q => by
    have := (ax_eq ky (show ax_32 0 from ⟨by omega, by omega⟩)).mp q
    omega
  refine lv_irem hC.1 hC.2.1 hd hne ?_
  rw [e9]
  exact k l p e s m args below meth c D cA z0 n0 ad0 ad H locs ls ⟨hC, hR, hS, hE, hL, hxs, List.forall_mem_cons.mpr ⟨⟨by have := kx.1; omega, by have := ky.2; omega⟩, (fun v hv => hst v (List.mem_cons_of_mem _ (List.mem_cons_of_mem _ hv)))⟩⟩

theorem r_i2l {I : MI} {pc : Nat} {xs : List (Option Av)} {st : List Av} {h : Hp} {cs sl : Nat} {Q : Option Av → Hp → Prop} {X : String → Hp → Prop} {x : Int} (hd : decode (mC I) pc = .ok (.i2l, 1)) (k : Run I (pc + 1) xs (aL x :: st) h cs sl Q X) : Run I pc xs (aI x :: st) h cs sl Q X := by
  intro l p e s m args below meth c D cA z0 n0 ad0 ad H locs ls B
  obtain ⟨hC, hR, hS, hE, hL, hxs, hst⟩ := B
  have kx : ax_32 x := hst _ List.mem_cons_self
  exact lv_i2l hC.1 hC.2.1 hd (ax_i2l kx) (k l p e s m args below meth c D cA z0 n0 ad0 ad H locs ls ⟨hC, hR, hS, hE, hL, hxs, List.forall_mem_cons.mpr ⟨ax_64of kx, (fun v hv => hst v (List.mem_cons_of_mem _ hv))⟩⟩)

def ax_cmp (x y : Int) : Int := if y < x then 1 else if x = y then 0 else -1
theorem r_lcmp {I : MI} {pc : Nat} {xs : List (Option Av)} {st : List Av} {h : Hp} {cs sl : Nat} {Q : Option Av → Hp → Prop} {X : String → Hp → Prop} {x y : Int} (hd : decode (mC I) pc = .ok (.lcmp, 1)) (k : Run I (pc + 1) xs (aI (ax_cmp x y) :: st) h cs sl Q X) : Run I pc xs (aL y :: aL x :: st) h cs sl Q X := by
  intro l p e s m args below meth c D cA z0 n0 ad0 ad H locs ls B
  obtain ⟨hC, hR, hS, hE, hL, hxs, hst⟩ := B
  have kx : ax_64 x := hst _ (List.mem_cons_of_mem _ List.mem_cons_self)
  have ky : ax_64 y := hst _ List.mem_cons_self
  refine W.lcmp hC.1 hC.2.1 hd ?_
  have e9 : lg_cmp (Int64.ofInt x) (Int64.ofInt y) = Int32.ofInt (ax_cmp x y) := by
    unfold lg_cmp ax_cmp
    simp only [Int64.lt_iff_toInt_lt, ← Int64.toInt_inj, ax_to64 kx, ax_to64 ky]
    split <;> (try rfl)
    split <;> rfl
  rw [e9]
  refine k l p e s m args below meth c D cA z0 n0 ad0 ad H locs ls ⟨hC, hR, hS, hE, hL, hxs, List.forall_mem_cons.mpr ⟨?_, (fun v hv => hst v (List.mem_cons_of_mem _ (List.mem_cons_of_mem _ hv)))⟩⟩
  show ax_32 (ax_cmp x y)
  unfold ax_cmp ax_32
  split <;> (try split) <;> omega

theorem r_lload {I : MI} {pc : Nat} {xs : List (Option Av)} {st : List Av} {h : Hp} {cs sl : Nat} {Q : Option Av → Hp → Prop} {X : String → Hp → Prop} {i : Nat} {x : Int} (hd : decode (mC I) pc = .ok (.lload i, 2)) (hx : xs[i]? = some (some (aL x))) (hx2 : xs[i + 1]? = some (some (aL x))) (k : Run I (pc + 2) xs (aL x :: st) h cs sl Q X) : Run I pc xs (st) h cs sl Q X := by
  intro l p e s m args below meth c D cA z0 n0 ad0 ad H locs ls B
  obtain ⟨hC, hR, hS, hE, hL, hxs, hst⟩ := B
  exact lv_lload hC.1 hC.2.1 hd (hL.2.2 _ _ hx (Or.inr hx2)) (k l p e s m args below meth c D cA z0 n0 ad0 ad H locs ls ⟨hC, hR, hS, hE, hL, hxs, List.forall_mem_cons.mpr ⟨ax_xk hxs hx, hst⟩⟩)

theorem r_lstore {I : MI} {pc : Nat} {xs : List (Option Av)} {st : List Av} {h : Hp} {cs sl : Nat} {Q : Option Av → Hp → Prop} {X : String → Hp → Prop} {i : Nat} {x : Int} {xs' : List (Option Av)} (hd : decode (mC I) pc = .ok (.lstore i, 2)) (hn : i + 1 < mL I) (hb : ∀ w, xs[i + 2]? = some (some w) → ax_cat w = 1) (ha : ∀ j w, j + 1 = i → xs[j]? = some (some w) → ax_cat w = 1) (hx : (xs.set i (some (aL x))).set (i + 1) (some (aL x)) = xs') (k : Run I (pc + 2) xs' (st) h cs sl Q X) : Run I pc xs (aL x :: st) h cs sl Q X := by
  intro l p e s m args below meth c D cA z0 n0 ad0 ad H locs ls B
  obtain ⟨hC, hR, hS, hE, hL, hxs, hst⟩ := B
  exact lv_lstore hC.1 hC.2.1 hd hL.has hn rfl (fun ls' hl' => k l p e s m args below meth c D cA z0 n0 ad0 ad H locs ls' ⟨hC, hR, hS, hE, hL.putL hl' hb ha hx, ax_xs (ax_xs hxs (hst _ List.mem_cons_self) rfl) (hst _ List.mem_cons_self) hx, fun v hv => hst v (List.mem_cons_of_mem _ hv)⟩)

theorem r_land {I : MI} {pc : Nat} {xs : List (Option Av)} {st : List Av} {h : Hp} {cs sl : Nat} {Q : Option Av → Hp → Prop} {X : String → Hp → Prop} {x y z : Int} (hd : decode (mC I) pc = .ok (.land, 1)) (hv : Int64.ofInt x &&& Int64.ofInt y = Int64.ofInt z) (hz : ax_64 z) (k : Run I (pc + 1) xs (aL z :: st) h cs sl Q X) : Run I pc xs (aL y :: aL x :: st) h cs sl Q X := by
  intro l p e s m args below meth c D cA z0 n0 ad0 ad H locs ls B
  obtain ⟨hC, hR, hS, hE, hL, hxs, hst⟩ := B
  refine lv_land hC.1 hC.2.1 hd ?_
  rw [hv]
  exact k l p e s m args below meth c D cA z0 n0 ad0 ad H locs ls ⟨hC, hR, hS, hE, hL, hxs, List.forall_mem_cons.mpr ⟨hz, (fun v hv => hst v (List.mem_cons_of_mem _ (List.mem_cons_of_mem _ hv)))⟩⟩

theorem r_lor {I : MI} {pc : Nat} {xs : List (Option Av)} {st : List Av} {h : Hp} {cs sl : Nat} {Q : Option Av → Hp → Prop} {X : String → Hp → Prop} {x y z : Int} (hd : decode (mC I) pc = .ok (.lor, 1)) (hv : Int64.ofInt x ||| Int64.ofInt y = Int64.ofInt z) (hz : ax_64 z) (k : Run I (pc + 1) xs (aL z :: st) h cs sl Q X) : Run I pc xs (aL y :: aL x :: st) h cs sl Q X := by
  intro l p e s m args below meth c D cA z0 n0 ad0 ad H locs ls B
  obtain ⟨hC, hR, hS, hE, hL, hxs, hst⟩ := B
  refine lv_lor hC.1 hC.2.1 hd ?_
  rw [hv]
  exact k l p e s m args below meth c D cA z0 n0 ad0 ad H locs ls ⟨hC, hR, hS, hE, hL, hxs, List.forall_mem_cons.mpr ⟨hz, (fun v hv => hst v (List.mem_cons_of_mem _ (List.mem_cons_of_mem _ hv)))⟩⟩

theorem r_lshl {I : MI} {pc : Nat} {xs : List (Option Av)} {st : List Av} {h : Hp} {cs sl : Nat} {Q : Option Av → Hp → Prop} {X : String → Hp → Prop} {x y z : Int} (hd : decode (mC I) pc = .ok (.lshl, 1)) (hv : Int64.ofInt x <<< ((Int32.ofInt y).toInt64 &&& 63) = Int64.ofInt z) (hz : ax_64 z) (k : Run I (pc + 1) xs (aL z :: st) h cs sl Q X) : Run I pc xs (aI y :: aL x :: st) h cs sl Q X := by
  intro l p e s m args below meth c D cA z0 n0 ad0 ad H locs ls B
  obtain ⟨hC, hR, hS, hE, hL, hxs, hst⟩ := B
  exact lv_lshl hC.1 hC.2.1 hd hv (k l p e s m args below meth c D cA z0 n0 ad0 ad H locs ls ⟨hC, hR, hS, hE, hL, hxs, List.forall_mem_cons.mpr ⟨hz, (fun v hv => hst v (List.mem_cons_of_mem _ (List.mem_cons_of_mem _ hv)))⟩⟩)

theorem r_lshr {I : MI} {pc : Nat} {xs : List (Option Av)} {st : List Av} {h : Hp} {cs sl : Nat} {Q : Option Av → Hp → Prop} {X : String → Hp → Prop} {x y z : Int} (hd : decode (mC I) pc = .ok (.lshr, 1)) (hv : Int64.ofInt x >>> ((Int32.ofInt y).toInt64 &&& 63) = Int64.ofInt z) (hz : ax_64 z) (k : Run I (pc + 1) xs (aL z :: st) h cs sl Q X) : Run I pc xs (aI y :: aL x :: st) h cs sl Q X := by
  intro l p e s m args below meth c D cA z0 n0 ad0 ad H locs ls B
  obtain ⟨hC, hR, hS, hE, hL, hxs, hst⟩ := B
  exact lv_lshr hC.1 hC.2.1 hd hv (k l p e s m args below meth c D cA z0 n0 ad0 ad H locs ls ⟨hC, hR, hS, hE, hL, hxs, List.forall_mem_cons.mpr ⟨hz, (fun v hv => hst v (List.mem_cons_of_mem _ (List.mem_cons_of_mem _ hv)))⟩⟩)

theorem r_dup {I : MI} {pc : Nat} {xs : List (Option Av)} {st : List Av} {h : Hp} {cs sl : Nat} {Q : Option Av → Hp → Prop} {X : String → Hp → Prop} {v : Av} (hd : decode (mC I) pc = .ok (.dup, 1)) (hv : ∀ ad, (ax_v ad v).category = 1) (k : Run I (pc + 1) xs (v :: v :: st) h cs sl Q X) : Run I pc xs (v :: st) h cs sl Q X := by
  intro l p e s m args below meth c D cA z0 n0 ad0 ad H locs ls B
  obtain ⟨hC, hR, hS, hE, hL, hxs, hst⟩ := B
  exact lv_dup hC.1 hC.2.1 hd (hv ad) (k l p e s m args below meth c D cA z0 n0 ad0 ad H locs ls ⟨hC, hR, hS, hE, hL, hxs, List.forall_mem_cons.mpr ⟨hst _ List.mem_cons_self, hst⟩⟩)

theorem r_icmp_eq {I : MI} {pc : Nat} {xs : List (Option Av)} {st : List Av} {h : Hp} {cs sl : Nat} {Q : Option Av → Hp → Prop} {X : String → Hp → Prop} {x y : Int} {off : Int} {tgt : Nat} (hd : decode (mC I) pc = .ok (.if_icmp .eq off, 3)) (ht : (pc : Int) + off = (tgt : Int)) (kt : x = y → Run I tgt xs st h cs sl Q X) (kf : x ≠ y → Run I (pc + 3) xs st h cs sl Q X) : Run I pc xs (aI y :: aI x :: st) h cs sl Q X := by
  intro l p e s m args below meth c D cA z0 n0 ad0 ad H locs ls B
  obtain ⟨hC, hR, hS, hE, hL, hxs, hst⟩ := B
  have kx := (show ax_32 x from hst _ (List.mem_cons_of_mem _ List.mem_cons_self))
  have ky := (show ax_32 y from hst _ List.mem_cons_self)
  have q1 := ax_eq kx ky
  have q2 := ax_lt kx ky
  have q3 := ax_le kx ky
  have q4 := ax_lt ky kx
  have q5 := ax_le ky kx
  refine lv_icmp_eq hC.1 hC.2.1 hd ht (fun c9 => kt ?_ l p e s m args below meth c D cA z0 n0 ad0 ad H locs ls ⟨hC, hR, hS, hE, hL, hxs, (fun v hv => hst v (List.mem_cons_of_mem _ (List.mem_cons_of_mem _ hv)))⟩) (fun c9 => kf ?_ l p e s m args below meth c D cA z0 n0 ad0 ad H locs ls ⟨hC, hR, hS, hE, hL, hxs, (fun v hv => hst v (List.mem_cons_of_mem _ (List.mem_cons_of_mem _ hv)))⟩)
  · first | exact q1.mp c9 | exact q2.mp c9 | exact q3.mp c9 | exact q4.mp c9 | exact q5.mp c9 | exact fun z => c9 (q1.mpr z)
  · first | exact q1.mp c9 | exact fun z => c9 (q1.mpr z) | exact Classical.byContradiction (fun z => c9 (fun z2 => z (q1.mp z2))) | exact Int.not_lt.mp (fun z => c9 (q2.mpr z)) | exact Int.not_lt.mp (fun z => c9 (q4.mpr z)) | exact Int.not_le.mp (fun z => c9 (q3.mpr z)) | exact Int.not_le.mp (fun z => c9 (q5.mpr z))

theorem r_if_eq {I : MI} {pc : Nat} {xs : List (Option Av)} {st : List Av} {h : Hp} {cs sl : Nat} {Q : Option Av → Hp → Prop} {X : String → Hp → Prop} {x : Int} {off : Int} {tgt : Nat} (hd : decode (mC I) pc = .ok (.ifCond .eq off, 3)) (ht : (pc : Int) + off = (tgt : Int)) (kt : x = 0 → Run I tgt xs st h cs sl Q X) (kf : x ≠ 0 → Run I (pc + 3) xs st h cs sl Q X) : Run I pc xs (aI x :: st) h cs sl Q X := by
  intro l p e s m args below meth c D cA z0 n0 ad0 ad H locs ls B
  obtain ⟨hC, hR, hS, hE, hL, hxs, hst⟩ := B
  have kx := (show ax_32 x from hst _ List.mem_cons_self)
  have ky := (show ax_32 0 from ⟨by omega, by omega⟩)
  have q1 := ax_eq kx ky
  have q2 := ax_lt kx ky
  have q3 := ax_le kx ky
  have q4 := ax_lt ky kx
  have q5 := ax_le ky kx
  refine lv_if_eq hC.1 hC.2.1 hd ht (fun c9 => kt ?_ l p e s m args below meth c D cA z0 n0 ad0 ad H locs ls ⟨hC, hR, hS, hE, hL, hxs, (fun v hv => hst v (List.mem_cons_of_mem _ hv))⟩) (fun c9 => kf ?_ l p e s m args below meth c D cA z0 n0 ad0 ad H locs ls ⟨hC, hR, hS, hE, hL, hxs, (fun v hv => hst v (List.mem_cons_of_mem _ hv))⟩)
  · first | exact q1.mp c9 | exact q2.mp c9 | exact q3.mp c9 | exact q4.mp c9 | exact q5.mp c9 | exact fun z => c9 (q1.mpr z)
  · first | exact q1.mp c9 | exact fun z => c9 (q1.mpr z) | exact Classical.byContradiction (fun z => c9 (fun z2 => z (q1.mp z2))) | exact Int.not_lt.mp (fun z => c9 (q2.mpr z)) | exact Int.not_lt.mp (fun z => c9 (q4.mpr z)) | exact Int.not_le.mp (fun z => c9 (q3.mpr z)) | exact Int.not_le.mp (fun z => c9 (q5.mpr z))

theorem r_icmp_ne {I : MI} {pc : Nat} {xs : List (Option Av)} {st : List Av} {h : Hp} {cs sl : Nat} {Q : Option Av → Hp → Prop} {X : String → Hp → Prop} {x y : Int} {off : Int} {tgt : Nat} (hd : decode (mC I) pc = .ok (.if_icmp .ne off, 3)) (ht : (pc : Int) + off = (tgt : Int)) (kt : x ≠ y → Run I tgt xs st h cs sl Q X) (kf : x = y → Run I (pc + 3) xs st h cs sl Q X) : Run I pc xs (aI y :: aI x :: st) h cs sl Q X := by
  intro l p e s m args below meth c D cA z0 n0 ad0 ad H locs ls B
  obtain ⟨hC, hR, hS, hE, hL, hxs, hst⟩ := B
  have kx := (show ax_32 x from hst _ (List.mem_cons_of_mem _ List.mem_cons_self))
  have ky := (show ax_32 y from hst _ List.mem_cons_self)
  have q1 := ax_eq kx ky
  have q2 := ax_lt kx ky
  have q3 := ax_le kx ky
  have q4 := ax_lt ky kx
  have q5 := ax_le ky kx
  refine lv_icmp_ne hC.1 hC.2.1 hd ht (fun c9 => kt ?_ l p e s m args below meth c D cA z0 n0 ad0 ad H locs ls ⟨hC, hR, hS, hE, hL, hxs, (fun v hv => hst v (List.mem_cons_of_mem _ (List.mem_cons_of_mem _ hv)))⟩) (fun c9 => kf ?_ l p e s m args below meth c D cA z0 n0 ad0 ad H locs ls ⟨hC, hR, hS, hE, hL, hxs, (fun v hv => hst v (List.mem_cons_of_mem _ (List.mem_cons_of_mem _ hv)))⟩)
  · first | exact q1.mp c9 | exact q2.mp c9 | exact q3.mp c9 | exact q4.mp c9 | exact q5.mp c9 | exact fun z => c9 (q1.mpr z)
  · first | exact q1.mp c9 | exact fun z => c9 (q1.mpr z) | exact Classical.byContradiction (fun z => c9 (fun z2 => z (q1.mp z2))) | exact Int.not_lt.mp (fun z => c9 (q2.mpr z)) | exact Int.not_lt.mp (fun z => c9 (q4.mpr z)) | exact Int.not_le.mp (fun z => c9 (q3.mpr z)) | exact Int.not_le.mp (fun z => c9 (q5.mpr z))

theorem r_if_ne {I : MI} {pc : Nat} {xs : List (Option Av)} {st : List Av} {h : Hp} {cs sl : Nat} {Q : Option Av → Hp → Prop} {X : String → Hp → Prop} {x : Int} {off : Int} {tgt : Nat} (hd : decode (mC I) pc = .ok (.ifCond .ne off, 3)) (ht : (pc : Int) + off = (tgt : Int)) (kt : x ≠ 0 → Run I tgt xs st h cs sl Q X) (kf : x = 0 → Run I (pc + 3) xs st h cs sl Q X) : Run I pc xs (aI x :: st) h cs sl Q X := by
  intro l p e s m args below meth c D cA z0 n0 ad0 ad H locs ls B
  obtain ⟨hC, hR, hS, hE, hL, hxs, hst⟩ := B
  have kx := (show ax_32 x from hst _ List.mem_cons_self)
  have ky := (show ax_32 0 from ⟨by omega, by omega⟩)
  have q1 := ax_eq kx ky
  have q2 := ax_lt kx ky
  have q3 := ax_le kx ky
  have q4 := ax_lt ky kx
  have q5 := ax_le ky kx
  refine lv_if_ne hC.1 hC.2.1 hd ht (fun c9 => kt ?_ l p e s m args below meth c D cA z0 n0 ad0 ad H locs ls ⟨hC, hR, hS, hE, hL, hxs, (fun v hv => hst v (List.mem_cons_of_mem _ hv))⟩) (fun c9 => kf ?_ l p e s m args below meth c D cA z0 n0 ad0 ad H locs ls ⟨hC, hR, hS, hE, hL, hxs, (fun v hv => hst v (List.mem_cons_of_mem _ hv))⟩)
  · first | exact q1.mp c9 | exact q2.mp c9 | exact q3.mp c9 | exact q4.mp c9 | exact q5.mp c9 | exact fun z => c9 (q1.mpr z)
  · first | exact q1.mp c9 | exact fun z => c9 (q1.mpr z) | exact Classical.byContradiction (fun z => c9 (fun z2 => z (q1.mp z2))) | exact Int.not_lt.mp (fun z => c9 (q2.mpr z)) | exact Int.not_lt.mp (fun z => c9 (q4.mpr z)) | exact Int.not_le.mp (fun z => c9 (q3.mpr z)) | exact Int.not_le.mp (fun z => c9 (q5.mpr z))

theorem r_icmp_lt {I : MI} {pc : Nat} {xs : List (Option Av)} {st : List Av} {h : Hp} {cs sl : Nat} {Q : Option Av → Hp → Prop} {X : String → Hp → Prop} {x y : Int} {off : Int} {tgt : Nat} (hd : decode (mC I) pc = .ok (.if_icmp .lt off, 3)) (ht : (pc : Int) + off = (tgt : Int)) (kt : x < y → Run I tgt xs st h cs sl Q X) (kf : y ≤ x → Run I (pc + 3) xs st h cs sl Q X) : Run I pc xs (aI y :: aI x :: st) h cs sl Q X := by
  intro l p e s m args below meth c D cA z0 n0 ad0 ad H locs ls B
  obtain ⟨hC, hR, hS, hE, hL, hxs, hst⟩ := B
  have kx := (show ax_32 x from hst _ (List.mem_cons_of_mem _ List.mem_cons_self))
  have ky := (show ax_32 y from hst _ List.mem_cons_self)
  have q1 := ax_eq kx ky
  have q2 := ax_lt kx ky
  have q3 := ax_le kx ky
  have q4 := ax_lt ky kx
  have q5 := ax_le ky kx
  refine lv_icmp_lt hC.1 hC.2.1 hd ht (fun c9 => kt ?_ l p e s m args below meth c D cA z0 n0 ad0 ad H locs ls ⟨hC, hR, hS, hE, hL, hxs, (fun v hv => hst v (List.mem_cons_of_mem _ (List.mem_cons_of_mem _ hv)))⟩) (fun c9 => kf ?_ l p e s m args below meth c D cA z0 n0 ad0 ad H locs ls ⟨hC, hR, hS, hE, hL, hxs, (fun v hv => hst v (List.mem_cons_of_mem _ (List.mem_cons_of_mem _ hv)))⟩)
  · first | exact q1.mp c9 | exact q2.mp c9 | exact q3.mp c9 | exact q4.mp c9 | exact q5.mp c9 | exact fun z => c9 (q1.mpr z)
  · first | exact q1.mp c9 | exact fun z => c9 (q1.mpr z) | exact Classical.byContradiction (fun z => c9 (fun z2 => z (q1.mp z2))) | exact Int.not_lt.mp (fun z => c9 (q2.mpr z)) | exact Int.not_lt.mp (fun z => c9 (q4.mpr z)) | exact Int.not_le.mp (fun z => c9 (q3.mpr z)) | exact Int.not_le.mp (fun z => c9 (q5.mpr z))

theorem r_if_lt {I : MI} {pc : Nat} {xs : List (Option Av)} {st : List Av} {h : Hp} {cs sl : Nat} {Q : Option Av → Hp → Prop} {X : String → Hp → Prop} {x : Int} {off : Int} {tgt : Nat} (hd : decode (mC I) pc = .ok (.ifCond .lt off, 3)) (ht : (pc : Int) + off = (tgt : Int)) (kt : x < 0 → Run I tgt xs st h cs sl Q X) (kf : 0 ≤ x → Run I (pc + 3) xs st h cs sl Q X) : Run I pc xs (aI x :: st) h cs sl Q X := by
  intro l p e s m args below meth c D cA z0 n0 ad0 ad H locs ls B
  obtain ⟨hC, hR, hS, hE, hL, hxs, hst⟩ := B
  have kx := (show ax_32 x from hst _ List.mem_cons_self)
  have ky := (show ax_32 0 from ⟨by omega, by omega⟩)
  have q1 := ax_eq kx ky
  have q2 := ax_lt kx ky
  have q3 := ax_le kx ky
  have q4 := ax_lt ky kx
  have q5 := ax_le ky kx
  refine lv_if_lt hC.1 hC.2.1 hd ht (fun c9 => kt ?_ l p e s m args below meth c D cA z0 n0 ad0 ad H locs ls ⟨hC, hR, hS, hE, hL, hxs, (fun v hv => hst v (List.mem_cons_of_mem _ hv))⟩) (fun c9 => kf ?_ l p e s m args below meth c D cA z0 n0 ad0 ad H locs ls ⟨hC, hR, hS, hE, hL, hxs, (fun v hv => hst v (List.mem_cons_of_mem _ hv))⟩)
  · first | exact q1.mp c9 | exact q2.mp c9 | exact q3.mp c9 | exact q4.mp c9 | exact q5.mp c9 | exact fun z => c9 (q1.mpr z)
  · first | exact q1.mp c9 | exact fun z => c9 (q1.mpr z) | exact Classical.byContradiction (fun z => c9 (fun z2 => z (q1.mp z2))) | exact Int.not_lt.mp (fun z => c9 (q2.mpr z)) | exact Int.not_lt.mp (fun z => c9 (q4.mpr z)) | exact Int.not_le.mp (fun z => c9 (q3.mpr z)) | exact Int.not_le.mp (fun z => c9 (q5.mpr z))

theorem r_icmp_ge {I : MI} {pc : Nat} {xs : List (Option Av)} {st : List Av} {h : Hp} {cs sl : Nat} {Q : Option Av → Hp → Prop} {X : String → Hp → Prop} {x y : Int} {off : Int} {tgt : Nat} (hd : decode (mC I) pc = .ok (.if_icmp .ge off, 3)) (ht : (pc : Int) + off = (tgt : Int)) (kt : y ≤ x → Run I tgt xs st h cs sl Q X) (kf : x < y → Run I (pc + 3) xs st h cs sl Q X) : Run I pc xs (aI y :: aI x :: st) h cs sl Q X := by
  intro l p e s m args below meth c D cA z0 n0 ad0 ad H locs ls B
  obtain ⟨hC, hR, hS, hE, hL, hxs, hst⟩ := B
  have kx := (show ax_32 x from hst _ (List.mem_cons_of_mem _ List.mem_cons_self))
  have ky := (show ax_32 y from hst _ List.mem_cons_self)
  have q1 := ax_eq kx ky
  have q2 := ax_lt kx ky
  have q3 := ax_le kx ky
  have q4 := ax_lt ky kx
  have q5 := ax_le ky kx
  refine lv_icmp_ge hC.1 hC.2.1 hd ht (fun c9 => kt ?_ l p e s m args below meth c D cA z0 n0 ad0 ad H locs ls ⟨hC, hR, hS, hE, hL, hxs, (fun v hv => hst v (List.mem_cons_of_mem _ (List.mem_cons_of_mem _ hv)))⟩) (fun c9 => kf ?_ l p e s m args below meth c D cA z0 n0 ad0 ad H locs ls ⟨hC, hR, hS, hE, hL, hxs, (fun v hv => hst v (List.mem_cons_of_mem _ (List.mem_cons_of_mem _ hv)))⟩)
  · first | exact q1.mp c9 | exact q2.mp c9 | exact q3.mp c9 | exact q4.mp c9 | exact q5.mp c9 | exact fun z => c9 (q1.mpr z)
  · first | exact q1.mp c9 | exact fun z => c9 (q1.mpr z) | exact Classical.byContradiction (fun z => c9 (fun z2 => z (q1.mp z2))) | exact Int.not_lt.mp (fun z => c9 (q2.mpr z)) | exact Int.not_lt.mp (fun z => c9 (q4.mpr z)) | exact Int.not_le.mp (fun z => c9 (q3.mpr z)) | exact Int.not_le.mp (fun z => c9 (q5.mpr z))

theorem r_if_ge {I : MI} {pc : Nat} {xs : List (Option Av)} {st : List Av} {h : Hp} {cs sl : Nat} {Q : Option Av → Hp → Prop} {X : String → Hp → Prop} {x : Int} {off : Int} {tgt : Nat} (hd : decode (mC I) pc = .ok (.ifCond .ge off, 3)) (ht : (pc : Int) + off = (tgt : Int)) (kt : 0 ≤ x → Run I tgt xs st h cs sl Q X) (kf : x < 0 → Run I (pc + 3) xs st h cs sl Q X) : Run I pc xs (aI x :: st) h cs sl Q X := by
  intro l p e s m args below meth c D cA z0 n0 ad0 ad H locs ls B
  obtain ⟨hC, hR, hS, hE, hL, hxs, hst⟩ := B
  have kx := (show ax_32 x from hst _ List.mem_cons_self)
  have ky := (show ax_32 0 from ⟨by omega, by omega⟩)
  have q1 := ax_eq kx ky
  have q2 := ax_lt kx ky
  have q3 := ax_le kx ky
  have q4 := ax_lt ky kx
  have q5 := ax_le ky kx
  refine lv_if_ge hC.1 hC.2.1 hd ht (fun c9 => kt ?_ l p e s m args below meth c D cA z0 n0 ad0 ad H locs ls ⟨hC, hR, hS, hE, hL, hxs, (fun v hv => hst v (List.mem_cons_of_mem _ hv))⟩) (fun c9 => kf ?_ l p e s m args below meth c D cA z0 n0 ad0 ad H locs ls ⟨hC, hR, hS, hE, hL, hxs, (fun v hv => hst v (List.mem_cons_of_mem _ hv))⟩)
  · first | exact q1.mp c9 | exact q2.mp c9 | exact q3.mp c9 | exact q4.mp c9 | exact q5.mp c9 | exact fun z => c9 (q1.mpr z)
  · first | exact q1.mp c9 | exact fun z => c9 (q1.mpr z) | exact Classical.byContradiction (fun z => c9 (fun z2 => z (q1.mp z2))) | exact Int.not_lt.mp (fun z => c9 (q2.mpr z)) | exact Int.not_lt.mp (fun z => c9 (q4.mpr z)) | exact Int.not_le.mp (fun z => c9 (q3.mpr z)) | exact Int.not_le.mp (fun z => c9 (q5.mpr z))

theorem r_icmp_gt {I : MI} {pc : Nat} {xs : List (Option Av)} {st : List Av} {h : Hp} {cs sl : Nat} {Q : Option Av → Hp → Prop} {X : String → Hp → Prop} {x y : Int} {off : Int} {tgt : Nat} (hd : decode (mC I) pc = .ok (.if_icmp .gt off, 3)) (ht : (pc : Int) + off = (tgt : Int)) (kt : y < x → Run I tgt xs st h cs sl Q X) (kf : x ≤ y → Run I (pc + 3) xs st h cs sl Q X) : Run I pc xs (aI y :: aI x :: st) h cs sl Q X := by
  intro l p e s m args below meth c D cA z0 n0 ad0 ad H locs ls B
  obtain ⟨hC, hR, hS, hE, hL, hxs, hst⟩ := B
  have kx := (show ax_32 x from hst _ (List.mem_cons_of_mem _ List.mem_cons_self))
  have ky := (show ax_32 y from hst _ List.mem_cons_self)
  have q1 := ax_eq kx ky
  have q2 := ax_lt kx ky
  have q3 := ax_le kx ky
  have q4 := ax_lt ky kx
  have q5 := ax_le ky kx
  refine lv_icmp_gt hC.1 hC.2.1 hd ht (fun c9 => kt ?_ l p e s m args below meth c D cA z0 n0 ad0 ad H locs ls ⟨hC, hR, hS, hE, hL, hxs, (fun v hv => hst v (List.mem_cons_of_mem _ (List.mem_cons_of_mem _ hv)))⟩) (fun c9 => kf ?_ l p e s m args below meth c D cA z0 n0 ad0 ad H locs ls ⟨hC, hR, hS, hE, hL, hxs, (fun v hv => hst v (List.mem_cons_of_mem _ (List.mem_cons_of_mem _ hv)))⟩)
  · first | exact q1.mp c9 | exact q2.mp c9 | exact q3.mp c9 | exact q4.mp c9 | exact q5.mp c9 | exact fun z => c9 (q1.mpr z)
  · first | exact q1.mp c9 | exact fun z => c9 (q1.mpr z) | exact Classical.byContradiction (fun z => c9 (fun z2 => z (q1.mp z2))) | exact Int.not_lt.mp (fun z => c9 (q2.mpr z)) | exact Int.not_lt.mp (fun z => c9 (q4.mpr z)) | exact Int.not_le.mp (fun z => c9 (q3.mpr z)) | exact Int.not_le.mp (fun z => c9 (q5.mpr z))

theorem r_if_gt {I : MI} {pc : Nat} {xs : List (Option Av)} {st : List Av} {h : Hp} {cs sl : Nat} {Q : Option Av → Hp → Prop} {X : String → Hp → Prop} {x : Int} {off : Int} {tgt : Nat} (hd : decode (mC I) pc = .ok (.ifCond .gt off, 3)) (ht : (pc : Int) + off = (tgt : Int)) (kt : 0 < x → Run I tgt xs st h cs sl Q X) (kf : x ≤ 0 → Run I (pc + 3) xs st h cs sl Q X) : Run I pc xs (aI x :: st) h cs sl Q X := by
  intro l p e s m args below meth c D cA z0 n0 ad0 ad H locs ls B
  obtain ⟨hC, hR, hS, hE, hL, hxs, hst⟩ := B
  have kx := (show ax_32 x from hst _ List.mem_cons_self)
  have ky := (show ax_32 0 from ⟨by omega, by omega⟩)
  have q1 := ax_eq kx ky
  have q2 := ax_lt kx ky
  have q3 := ax_le kx ky
  have q4 := ax_lt ky kx
  have q5 := ax_le ky kx
  refine lv_if_gt hC.1 hC.2.1 hd ht (fun c9 => kt ?_ l p e s m args below meth c D cA z0 n0 ad0 ad H locs ls ⟨hC, hR, hS, hE, hL, hxs, (fun v hv => hst v (List.mem_cons_of_mem _ hv))⟩) (fun c9 => kf ?_ l p e s m args below meth c D cA z0 n0 ad0 ad H locs ls ⟨hC, hR, hS, hE, hL, hxs, (fun v hv => hst v (List.mem_cons_of_mem _ hv))⟩)
  · first | exact q1.mp c9 | exact q2.mp c9 | exact q3.mp c9 | exact q4.mp c9 | exact q5.mp c9 | exact fun z => c9 (q1.mpr z)
  · first | exact q1.mp c9 | exact fun z => c9 (q1.mpr z) | exact Classical.byContradiction (fun z => c9 (fun z2 => z (q1.mp z2))) | exact Int.not_lt.mp (fun z => c9 (q2.mpr z)) | exact Int.not_lt.mp (fun z => c9 (q4.mpr z)) | exact Int.not_le.mp (fun z => c9 (q3.mpr z)) | exact Int.not_le.mp (fun z => c9 (q5.mpr z))

theorem r_icmp_le {I : MI} {pc : Nat} {xs : List (Option Av)} {st : List Av} {h : Hp} {cs sl : Nat} {Q : Option Av → Hp → Prop} {X : String → Hp → Prop} {x y : Int} {off : Int} {tgt : Nat} (hd : decode (mC I) pc = .ok (.if_icmp .le off, 3)) (ht : (pc : Int) + off = (tgt : Int)) (kt : x ≤ y → Run I tgt xs st h cs sl Q X) (kf : y < x → Run I (pc + 3) xs st h cs sl Q X) : Run I pc xs (aI y :: aI x :: st) h cs sl Q X := by
  intro l p e s m args below meth c D cA z0 n0 ad0 ad H locs ls B
  obtain ⟨hC, hR, hS, hE, hL, hxs, hst⟩ := B
  have kx := (show ax_32 x from hst _ (List.mem_cons_of_mem _ List.mem_cons_self))
  have ky := (show ax_32 y from hst _ List.mem_cons_self)
  have q1 := ax_eq kx ky
  have q2 := ax_lt kx ky
  have q3 := ax_le kx ky
  have q4 := ax_lt ky kx
  have q5 := ax_le ky kx
  refine lv_icmp_le hC.1 hC.2.1 hd ht (fun c9 => kt ?_ l p e s m args below meth c D cA z0 n0 ad0 ad H locs ls ⟨hC, hR, hS, hE, hL, hxs, (fun v hv => hst v (List.mem_cons_of_mem _ (List.mem_cons_of_mem _ hv)))⟩) (fun c9 => kf ?_ l p e s m args below meth c D cA z0 n0 ad0 ad H locs ls ⟨hC, hR, hS, hE, hL, hxs, (fun v hv => hst v (List.mem_cons_of_mem _ (List.mem_cons_of_mem _ hv)))⟩)
  · first | exact q1.mp c9 | exact q2.mp c9 | exact q3.mp c9 | exact q4.mp c9 | exact q5.mp c9 | exact fun z => c9 (q1.mpr z)
  · first | exact q1.mp c9 | exact fun z => c9 (q1.mpr z) | exact Classical.byContradiction (fun z => c9 (fun z2 => z (q1.mp z2))) | exact Int.not_lt.mp (fun z => c9 (q2.mpr z)) | exact Int.not_lt.mp (fun z => c9 (q4.mpr z)) | exact Int.not_le.mp (fun z => c9 (q3.mpr z)) | exact Int.not_le.mp (fun z => c9 (q5.mpr z))

theorem r_if_le {I : MI} {pc : Nat} {xs : List (Option Av)} {st : List Av} {h : Hp} {cs sl : Nat} {Q : Option Av → Hp → Prop} {X : String → Hp → Prop} {x : Int} {off : Int} {tgt : Nat} (hd : decode (mC I) pc = .ok (.ifCond .le off, 3)) (ht : (pc : Int) + off = (tgt : Int)) (kt : x ≤ 0 → Run I tgt xs st h cs sl Q X) (kf : 0 < x → Run I (pc + 3) xs st h cs sl Q X) : Run I pc xs (aI x :: st) h cs sl Q X := by
  intro l p e s m args below meth c D cA z0 n0 ad0 ad H locs ls B
  obtain ⟨hC, hR, hS, hE, hL, hxs, hst⟩ := B
  have kx := (show ax_32 x from hst _ List.mem_cons_self)
  have ky := (show ax_32 0 from ⟨by omega, by omega⟩)
  have q1 := ax_eq kx ky
  have q2 := ax_lt kx ky
  have q3 := ax_le kx ky
  have q4 := ax_lt ky kx
  have q5 := ax_le ky kx
  refine lv_if_le hC.1 hC.2.1 hd ht (fun c9 => kt ?_ l p e s m args below meth c D cA z0 n0 ad0 ad H locs ls ⟨hC, hR, hS, hE, hL, hxs, (fun v hv => hst v (List.mem_cons_of_mem _ hv))⟩) (fun c9 => kf ?_ l p e s m args below meth c D cA z0 n0 ad0 ad H locs ls ⟨hC, hR, hS, hE, hL, hxs, (fun v hv => hst v (List.mem_cons_of_mem _ hv))⟩)
  · first | exact q1.mp c9 | exact q2.mp c9 | exact q3.mp c9 | exact q4.mp c9 | exact q5.mp c9 | exact fun z => c9 (q1.mpr z)
  · first | exact q1.mp c9 | exact fun z => c9 (q1.mpr z) | exact Classical.byContradiction (fun z => c9 (fun z2 => z (q1.mp z2))) | exact Int.not_lt.mp (fun z => c9 (q2.mpr z)) | exact Int.not_lt.mp (fun z => c9 (q4.mpr z)) | exact Int.not_le.mp (fun z => c9 (q3.mpr z)) | exact Int.not_le.mp (fun z => c9 (q5.mpr z))

theorem r_goto {I : MI} {pc : Nat} {xs : List (Option Av)} {st : List Av} {h : Hp} {cs sl : Nat} {Q : Option Av → Hp → Prop} {X : String → Hp → Prop} {off : Int} {tgt : Nat} (hd : decode (mC I) pc = .ok (.goto off, 3)) (ht : (pc : Int) + off = (tgt : Int)) (k : Run I tgt xs st h cs sl Q X) : Run I pc xs st h cs sl Q X := by
  intro l p e s m args below meth c D cA z0 n0 ad0 ad H locs ls B
  exact lv_goto B.1.1 B.1.2.1 hd ht (k l p e s m args below meth c D cA z0 n0 ad0 ad H locs ls B)

theorem r_ifnull {I : MI} {pc : Nat} {xs : List (Option Av)} {st : List Av} {h : Hp} {cs sl : Nat} {Q : Option Av → Hp → Prop} {X : String → Hp → Prop} {x : Rf} {off : Int} {tgt : Nat} (hd : decode (mC I) pc = .ok (.ifnull off, 3)) (ht : (pc : Int) + off = (tgt : Int)) (kt : x = none → Run I tgt xs st h cs sl Q X) (kf : x ≠ none → Run I (pc + 3) xs st h cs sl Q X) : Run I pc xs (aQ x :: st) h cs sl Q X := by
  intro l p e s m args below meth c D cA z0 n0 ad0 ad H locs ls B
  obtain ⟨hC, hR, hS, hE, hL, hxs, hst⟩ := B
  cases x with
  | none => exact lv_ifnullN hC.1 hC.2.1 hd ht (kt rfl l p e s m args below meth c D cA z0 n0 ad0 ad H locs ls ⟨hC, hR, hS, hE, hL, hxs, (fun v hv => hst v (List.mem_cons_of_mem _ hv))⟩)
  | some q => exact lv_ifnull hC.1 hC.2.1 hd (kf (by simp) l p e s m args below meth c D cA z0 n0 ad0 ad H locs ls ⟨hC, hR, hS, hE, hL, hxs, (fun v hv => hst v (List.mem_cons_of_mem _ hv))⟩)

theorem r_ifnonnull {I : MI} {pc : Nat} {xs : List (Option Av)} {st : List Av} {h : Hp} {cs sl : Nat} {Q : Option Av → Hp → Prop} {X : String → Hp → Prop} {x : Rf} {off : Int} {tgt : Nat} (hd : decode (mC I) pc = .ok (.ifnonnull off, 3)) (ht : (pc : Int) + off = (tgt : Int)) (kt : x ≠ none → Run I tgt xs st h cs sl Q X) (kf : x = none → Run I (pc + 3) xs st h cs sl Q X) : Run I pc xs (aQ x :: st) h cs sl Q X := by
  intro l p e s m args below meth c D cA z0 n0 ad0 ad H locs ls B
  obtain ⟨hC, hR, hS, hE, hL, hxs, hst⟩ := B
  cases x with
  | none => exact lv_ifnonnullN hC.1 hC.2.1 hd (kf rfl l p e s m args below meth c D cA z0 n0 ad0 ad H locs ls ⟨hC, hR, hS, hE, hL, hxs, (fun v hv => hst v (List.mem_cons_of_mem _ hv))⟩)
  | some q => exact lv_ifnonnull hC.1 hC.2.1 hd ht (kt (by simp) l p e s m args below meth c D cA z0 n0 ad0 ad H locs ls ⟨hC, hR, hS, hE, hL, hxs, (fun v hv => hst v (List.mem_cons_of_mem _ hv))⟩)

theorem r_lookup {I : MI} {pc : Nat} {xs : List (Option Av)} {st : List Av} {h : Hp} {cs sl : Nat} {Q : Option Av → Hp → Prop} {X : String → Hp → Prop} {x off dflt : Int} {ps : Array (Int × Int)} {len tgt : Nat} (hd : decode (mC I) pc = .ok (.lookupswitch dflt ps, len)) (hp : (ps.toList.zip (ps.toList.drop 1)).all (fun (a, next) => a.1 < next.1) = true) (ho : Op.lookupswitch.offset ps.toList dflt x = off) (ht : (pc : Int) + off = (tgt : Int)) (k : Run I tgt xs st h cs sl Q X) : Run I pc xs (aI x :: st) h cs sl Q X := by
  intro l p e s m args below meth c D cA z0 n0 ad0 ad H locs ls B
  obtain ⟨hC, hR, hS, hE, hL, hxs, hst⟩ := B
  have kx : ax_32 x := hst _ List.mem_cons_self
  exact lv_lookup hC.1 hC.2.1 hd hp (by rw [ax_to kx]; exact ho) ht (k l p e s m args below meth c D cA z0 n0 ad0 ad H locs ls ⟨hC, hR, hS, hE, hL, hxs, (fun v hv => hst v (List.mem_cons_of_mem _ hv))⟩)
theorem r_tableOut {I : MI} {pc : Nat} {xs : List (Option Av)} {st : List Av} {h : Hp} {cs sl : Nat} {Q : Option Av → Hp → Prop} {X : String → Hp → Prop} {x dflt lo hi : Int} {offs : Array Int} {len tgt : Nat} (hd : decode (mC I) pc = .ok (.tableswitch dflt lo hi offs, len)) (hx : x < lo ∨ hi < x) (ht : (pc : Int) + dflt = (tgt : Int)) (k : Run I tgt xs st h cs sl Q X) : Run I pc xs (aI x :: st) h cs sl Q X := by
  intro l p e s m args below meth c D cA z0 n0 ad0 ad H locs ls B
  obtain ⟨hC, hR, hS, hE, hL, hxs, hst⟩ := B
  have kx : ax_32 x := hst _ List.mem_cons_self
  exact lv_tableOut hC.1 hC.2.1 hd (by rw [ax_to kx]; exact hx) ht (k l p e s m args below meth c D cA z0 n0 ad0 ad H locs ls ⟨hC, hR, hS, hE, hL, hxs, (fun v hv => hst v (List.mem_cons_of_mem _ hv))⟩)
theorem r_tableIn {I : MI} {pc : Nat} {xs : List (Option Av)} {st : List Av} {h : Hp} {cs sl : Nat} {Q : Option Av → Hp → Prop} {X : String → Hp → Prop} {x off dflt lo hi : Int} {offs : Array Int} {len tgt : Nat} (hd : decode (mC I) pc = .ok (.tableswitch dflt lo hi offs, len)) (h1 : lo ≤ x) (h2 : x ≤ hi) (ho : offs[(x - lo).toNat]? = some off) (ht : (pc : Int) + off = (tgt : Int)) (k : Run I tgt xs st h cs sl Q X) : Run I pc xs (aI x :: st) h cs sl Q X := by
  intro l p e s m args below meth c D cA z0 n0 ad0 ad H locs ls B
  obtain ⟨hC, hR, hS, hE, hL, hxs, hst⟩ := B
  have kx : ax_32 x := hst _ List.mem_cons_self
  exact lv_tableIn hC.1 hC.2.1 hd (by rw [ax_to kx]; omega) (by rw [ax_to kx]; omega) (by rw [ax_to kx]; exact ho) ht (k l p e s m args below meth c D cA z0 n0 ad0 ad H locs ls ⟨hC, hR, hS, hE, hL, hxs, (fun v hv => hst v (List.mem_cons_of_mem _ hv))⟩)
