/-! ===== rows of arrays, the rest: System.arraycopy, arrays of arrays, the script; a handler ===== -/
def cp1 (f : Nat → Int → Int → Int) (k : Nat) (i : Int) (k2 : Nat) (i2 n : Int) : Nat → Int → Int → Int := fun k' i' j => if k' = k2 ∧ i' = i2 ∧ 0 ≤ j ∧ j < n then f k i j else f k' i' j
section AXE
variable {I : MI} {pc index : Nat} {xs xs' : List (Option Av)} {st : List Av} {h : Hp} {cs sl : Nat} {Q : Option Av → Hp → Prop} {X : String → Hp → Prop}
theorem r_slen {L : Nat} {sc : Nat → Int32} (hsc : mSc I = some (L, sc)) (hL9 : L ≤ 100000) (hd : decode (mC I) pc = .ok (.arraylength, 1)) (k : Run I (pc + 1) xs (aI (L : Int) :: st) h cs sl Q X) : Run I pc xs (aR 99 0 :: st) h cs sl Q X := by
  intro l p e s m args below meth c D cA z0 n0 ad0 ad H locs ls B
  obtain ⟨hC, hR, hS, hE, hL, hxs, hst⟩ := B
  obtain ⟨s1, s2, s3⟩ := hC.2.2.2.2.2.2.2.2.2.2.2.2.2.2.2 _ hsc
  have ha := (hE 99 0 (Int.le_refl 0) s1).2
  have hk := k l p e s m args below meth c D cA z0 n0 ad0 ad H locs ls ⟨hC, hR, hS, hE, hL, hxs, List.forall_mem_cons.mpr ⟨(⟨by omega, by omega⟩ : ax_32 (L : Int)), fun v hv => hst v (List.mem_cons_of_mem _ hv)⟩⟩
  show W _ _ _ _ _ _ _ _ _ _ _ _ _ _ _ (F0 m pc ls (.ref (ad 99 0) :: _))
  rw [ha]
  refine va_slen hC.1 hC.2.1 s2 (Nat.lt_of_lt_of_le s3 hC.2.2.2.2.2.2.2.2.2.2.2.2.2.1) (Nat.not_le.mpr s3) hS hd ?_
  have e9 : Int32.ofInt (L : Int) = Int32.ofNat L := Int32.ofInt_eq_ofNat
  have e8 : (aI (L : Int) :: st).map (ax_v ad) = .int (Int32.ofNat L) :: st.map (ax_v ad) := by rw [← e9]; rfl
  rw [e8] at hk
  exact hk
theorem r_sld {L : Nat} {sc : Nat → Int32} {x : Int} (hsc : mSc I = some (L, sc)) (hd : decode (mC I) pc = .ok (.iaload, 1)) (x0 : 0 ≤ x) (x1 : x < L) (k : Run I (pc + 1) xs (aI (sc x.toNat).toInt :: st) h cs sl Q X) : Run I pc xs (aI x :: aR 99 0 :: st) h cs sl Q X := by
  intro l p e s m args below meth c D cA z0 n0 ad0 ad H locs ls B
  obtain ⟨hC, hR, hS, hE, hL, hxs, hst⟩ := B
  obtain ⟨s1, s2, s3⟩ := hC.2.2.2.2.2.2.2.2.2.2.2.2.2.2.2 _ hsc
  have ha := (hE 99 0 (Int.le_refl 0) s1).2
  have kx : ax_32 x := hst _ List.mem_cons_self
  have k32 : ax_32 (sc x.toNat).toInt := ⟨by have := (sc x.toNat).le_toInt; omega, by have := (sc x.toNat).toInt_lt; omega⟩
  have hk := k l p e s m args below meth c D cA z0 n0 ad0 ad H locs ls ⟨hC, hR, hS, hE, hL, hxs, List.forall_mem_cons.mpr ⟨k32, fun v hv => hst v (List.mem_cons_of_mem _ (List.mem_cons_of_mem _ hv))⟩⟩
  show W _ _ _ _ _ _ _ _ _ _ _ _ _ _ _ (F0 m pc ls (_ :: .ref (ad 99 0) :: _))
  rw [ha]
  refine va_sld hC.1 hC.2.1 s2 (Nat.lt_of_lt_of_le s3 hC.2.2.2.2.2.2.2.2.2.2.2.2.2.1) (Nat.not_le.mpr s3) hS (ax_in kx x0 x1) hd ?_
  rw [ax_cl kx]
  have e8 : (aI (sc x.toNat).toInt :: st).map (ax_v ad) = .int (sc x.toNat) :: st.map (ax_v ad) := by
    show Value.int (Int32.ofInt (sc x.toNat).toInt) :: _ = _
    rw [Int32.ofInt_toInt]
  rw [e8] at hk
  exact hk
theorem ax_L.drop {ad : AD} {nL i : Nat} {ls ls' : Array Slot} {xs xs' : List (Option Av)} {v : Value} (h : ax_L ad nL ls xs)
    (hl : lv_has ls' nL ((i, v) :: (ax_ls ad xs).filter (fun q => !(q.1 == i) && !(q.1 + 1 == i && q.2.category == 2)))) (hx : xs.set i none = xs') : ax_L ad nL ls' xs' := by
  subst hx
  refine ⟨hl.1, hl.2.1, fun j w hj hv => ?_⟩
  have gen : ∀ (j : Nat) (w : Av), (xs.set i none)[j]? = some (some w) → j ≠ i ∧ xs[j]? = some (some w) := by
    intro j w hj
    by_cases e : j = i
    · subst e
      rw [List.getElem?_set] at hj
      simp at hj
    · rw [List.getElem?_set_ne (Ne.symm e)] at hj
      exact ⟨e, hj⟩
  obtain ⟨e, hj'⟩ := gen j w hj
  refine hl.2.2 (j, ax_v ad w) (List.mem_cons_of_mem _ (List.mem_filter.mpr ⟨ax_ls_mem.mpr ⟨w, hj', hv.imp id (fun z => (gen _ _ z).2), rfl⟩, ?_⟩))
  rcases hv with c | c
  · simp [e, ax_catv, c]
  · have := (gen _ _ c).1
    simp [e, this]
/-- caught: the exception lies in a local of which nothing is said -/
theorem rx_catch {E : String} {x : Nat × Nat × Nat × Nat} {i ln : Nat} (pre suf : List (Nat × Nat × Nat × Nat)) (hh : mHH I = pre ++ x :: suf) (hcov : x.1 ≤ pc ∧ pc < x.2.1) (h0 : x.2.2.2 ≠ 0) (hl : Cond.classLink (mOwn I) x.2.2.2 E ∈ ax_GT) (hc : Cond.castable E E ∈ ax_NW)
    (hpass : ∀ z ∈ pre, z.2.2.2 ≠ 0 ∧ ∃ nm : String, Cond.classLink (mOwn I) z.2.2.2 nm ∈ ax_GT ∧ (E, nm) ∈ [("java/lang/IndexOutOfBoundsException", "java/lang/IllegalArgumentException"), ("java/lang/IndexOutOfBoundsException", "java/lang/IllegalStateException"), ("java/lang/IllegalArgumentException", "java/lang/IndexOutOfBoundsException"), ("java/lang/IllegalArgumentException", "java/lang/IllegalStateException"), ("java/lang/IllegalStateException", "java/lang/IndexOutOfBoundsException"), ("java/lang/IllegalStateException", "java/lang/IllegalArgumentException")])
    (hd : (decode (mC I) x.2.2.1 = .ok (.astore i, 2) ∧ ln = 2) ∨ (∃ k9 : Fin 4, decode (mC I) x.2.2.1 = .ok (.astore_n k9, 1) ∧ (k9 : Nat) = i ∧ ln = 1)) (hn : i < mL I) (hx : xs.set i none = xs') (k : Run I (x.2.2.1 + ln) xs' [] h cs sl Q X) : RunX I pc xs st h cs sl E Q X := by
  intro l p e s m args below meth c D cA z0 n0 ad0 ad H locs ls q ce B h1 h2 h3
  obtain ⟨hC, hR, hS, hE, hL, hxs, hst⟩ := B
  have ht := hC.2.2.2.2.2.2.2.2.2.2.2.2.1
  have hts := hC.2.2.2.2.1
  have hxs' : ∀ v, some v ∈ xs' → ax_k h.2.2 v := by
    subst hx
    intro w hw
    rcases List.mem_or_eq_of_mem_set hw with g | g
    · exact hxs w g
    · cases g
  have hk : ∀ ls' : Array Slot, ax_L ad (mL I) ls' xs' → W p l e (mRm I) s m args below meth c H locs cs sl (vx_MQ below (ax_Q D cA z0 n0 ad0 Q) (ax_X D cA z0 n0 ad0 X) args s (mRm I).cells (mRm I).slots (fun q => z0 ≤ q)) (F0 m (x.2.2.1 + ln) ls' []) := fun ls' hL' => k l p e s m args below meth c D cA z0 n0 ad0 ad H locs ls' ⟨hC, hR, hS, hE, hL', hxs', fun v hv => nomatch hv⟩
  have hwk : va_Nw (.castable E E) s := hC.2.2.2.2.2.2.1.1 _ hc
  refine vx_catch hC.2.2.2.1 (tableOf pre) ⟨x.1, x.2.1, x.2.2.1, x.2.2.2⟩ (tableOf suf) (by rw [ht, hh]; simp [tableOf]) (fun z hz => ?_) (by simp [covers, hcov.1, hcov.2]) h0 (hts _ hl) (va_Nw.use rfl hwk) h1 h2 h3 ?_
  · obtain ⟨y, hy, rfl⟩ := List.mem_map.mp hz
    obtain ⟨y0, nm, y1, y2⟩ := hpass y hy
    exact Or.inr ⟨y0, nm, hts _ y1, hC.2.2.2.2.2.2.1.2.2.2.2.2 _ y2⟩
  · rcases hd with ⟨hd, rfl⟩ | ⟨k9, hd, rfl, rfl⟩
    · exact lv_astore hC.1 hC.2.1 hd hL.has hn rfl (fun ls' hl' => hk ls' (hL.drop hl' hx))
    · exact lv_astore_n hC.1 hC.2.1 hd rfl hL.has hn rfl (fun ls' hl' => hk ls' (hL.drop hl' hx))
/-- System.arraycopy of ints, from place 0 to place 0 -/
theorem r_copy {k1 k2 N1 N2 : Nat} {i1 i2 x : Int} (hk1 : ax_kd k1 = (8, N1)) (hk2 : ax_kd k2 = (8, N2)) (hw : Cond.methodLink (mOwn I) index arraycopyName ∈ ax_GT ∧ Cond.native arraycopyName ∈ ax_GT ∧ Cond.static arraycopyName ∈ ax_GT ∧ Cond.initialized "java/lang/System" ∈ ax_GT) (hne : k1 ≠ k2) (x0 : 0 ≤ x) (x1 : x ≤ N1) (x2 : x ≤ N2) (a0 : 0 ≤ i1) (a1 : i1 < h.2.2 k1) (b0 : 0 ≤ i2) (b1 : i2 < h.2.2 k2)
    (hrm : 1 ≤ (mRm I).frames ∧ (st.map ax_cat).sum + 18 ≤ (mRm I).locals) (hd : decode (mC I) pc = .ok (.invokestatic index, 3)) (k : Run I (pc + 3) xs st (cp1 h.1 k1 i1 k2 i2 x, h.2.1, h.2.2) cs sl Q X) : Run I pc xs (aI x :: aI 0 :: aR k2 i2 :: aI 0 :: aR k1 i1 :: st) h cs sl Q X := by
  intro l p e s m args below meth c D cA z0 n0 ad0 ad H locs ls B
  obtain ⟨hC, hR, hS, hE, hL, hxs, hst⟩ := B
  have hts := hC.2.2.2.2.1
  obtain ⟨ha1, -⟩ := hR.1 k1 i1 (by rw [hk1]; show 8 < 14; omega) a0 a1
  obtain ⟨ha2, hz⟩ := hR.1 k2 i2 (by rw [hk2]; show 8 < 14; omega) b0 b1
  rw [ax_ei hk1 (Or.inl rfl)] at ha1
  rw [ax_ei hk2 (Or.inl rfl)] at ha2
  have kx : ax_32 x := hst _ List.mem_cons_self
  have hcx : (Int32.ofInt x).toNatClampNeg = x.toNat := ax_cl kx
  have hc0 : (Int32.ofInt 0).toNatClampNeg = 0 := rfl
  have hxi : (Int32.ofInt x).toInt = x := ax_to kx
  have h00 : (Int32.ofInt 0).toInt = 0 := rfl
  have hn0 : ¬ Int32.ofInt x < 0 := by
    intro q
    rw [Int32.lt_iff_toInt_lt, hxi] at q
    have : (0 : Int32).toInt = 0 := rfl
    omega
  have t0 : ∀ (n : Nat) (z : Nat → Value), s.isArrayOf (arrV (cA 8) n z) .int := fun n z => (hC.2.2.2.2.2.1.2 0 _ (ax_tyAt cA (t := 8) (by omega) (by omega))).1 n z
  have hnf : nativeFrameWords "java/lang/System" "arraycopy" 5 = 7 := by decide +kernel
  intro T hT Xs
  obtain ⟨-, k0, hk0, cm0, hkk0⟩ := t0 N1 (fun j => .int (Int32.ofInt (h.1 k1 i1 j)))
  obtain ⟨-, k9, hk9, cm9, hkk9⟩ := t0 N2 (fun j => .int (Int32.ofInt (h.1 k2 i2 j)))
  have hc0' : H[ad k1 i1]? = some (vp_cell (cA 8) (N1, .inl (fun j => Int32.ofInt (h.1 k1 i1 j)))) := ha1
  have hc1' : H[ad k2 i2]? = some (vp_cell (cA 8) (N2, .inl (fun j => Int32.ofInt (h.1 k2 i2 j)))) := ha2
  obtain ⟨vm', X', step⟩ := Xs.arraycopy hC.1 hC.2.2.2.1 (hts _ hw.1) (hts _ hw.2.1) (hts _ hw.2.2.1) (hts _ hw.2.2.2) (src := ad k1 i1) (dst := ad k2 i2) (cs := arrV (cA 8) N1 (fun j => .int (Int32.ofInt (h.1 k1 i1 j)))) (cd := arrV (cA 8) N2 (fun j => .int (Int32.ofInt (h.1 k2 i2 j)))) (srcPos := Int32.ofInt 0) (destPos := Int32.ofInt 0) (n := Int32.ofInt x) (by rw [hT]; exact hc0') (by rw [hT]; exact hc1')
    (fun _ h => by cases h) (fun _ h => by cases h) (fun h => by cases h) (fun h => by cases h) hk0 hk9 hkk0 hkk9 (by rfl) (by decide) (by decide) hn0
    (by rw [h00, hxi]; show ¬ _ > ((arrV (cA 8) N1 (fun j => .int (Int32.ofInt (h.1 k1 i1 j)))).slots.size : Int); rw [arrV_size]; omega)
    (by rw [h00, hxi]; show ¬ _ > ((arrV (cA 8) N2 (fun j => .int (Int32.ofInt (h.1 k2 i2 j)))).slots.size : Int); rw [arrV_size]; omega)
    (fun vm₁ _ i hi => by
      have e : (arrV (cA 8) N1 (fun j => .int (Int32.ofInt (h.1 k1 i1 j)))).slots.getD ((Int32.ofInt 0).toNatClampNeg + i) .null = .int (Int32.ofInt (h.1 k1 i1 (((Int32.ofInt 0).toNatClampNeg + i : Nat) : Int))) := by
        show (arrV (cA 8) N1 (fun j => .int (Int32.ofInt (h.1 k1 i1 j)))).slots.getD _ _ = _
        rw [Array.getD_eq_getD_getElem?, arrV_read _ _ (by rw [hc0]; rw [hcx] at hi; omega)]
        rfl
      refine ⟨?_, ?_⟩
      · rw [e]; rfl
      · rw [e]; exact trivial)
    (g := F0 m pc ls ((aI x :: aI 0 :: aR k2 i2 :: aI 0 :: aR k1 i1 :: st).map (ax_v ad))) rfl (by rw [hC.2.2.1]; exact hL.1) (rest := st.map (ax_v ad)) rfl (by rw [hC.2.1]; exact hd) hrm.1 (by rw [ax_cats, hnf]; have := hrm.2; show 2 * 0 + _ + (7 + 11) ≤ _; omega)
  have e1 := va_copied (fun z => Value.int z) (cA 8) (cA 8) (sp := (Int32.ofInt 0).toNatClampNeg) (dp := (Int32.ofInt 0).toNatClampNeg) (n := (Int32.ofInt x).toNatClampNeg) (n0 := N1) (n1 := N2) (fun j => Int32.ofInt (h.1 k1 i1 j)) (fun j => Int32.ofInt (h.1 k2 i2 j)) (by rw [hc0, hcx]; omega)
  have e2 : va_cpy (fun j : Nat => Int32.ofInt (h.1 k1 i1 j)) (fun j : Nat => Int32.ofInt (h.1 k2 i2 j)) (Int32.ofInt 0).toNatClampNeg (Int32.ofInt 0).toNatClampNeg (Int32.ofInt x).toNatClampNeg = fun j : Nat => Int32.ofInt (cp1 h.1 k1 i1 k2 i2 x k2 i2 j) := by
    funext j
    rw [hc0, hcx]
    unfold va_cpy cp1
    simp only [Nat.zero_le, true_and, Nat.zero_add, Nat.sub_zero]
    by_cases hj : j < x.toNat
    · rw [if_pos hj, if_pos ⟨by omega, by omega⟩]
    · rw [if_neg hj, if_neg (fun z => hj (by omega))]
  rw [e2] at e1
  have e3 : copied (arrV (cA 8) N1 (fun j => .int (Int32.ofInt (h.1 k1 i1 j)))) (arrV (cA 8) N2 (fun j => .int (Int32.ofInt (h.1 k2 i2 j)))) (Int32.ofInt 0) (Int32.ofInt 0) (Int32.ofInt x) = vp_cell (cA 8) (N2, .inl (fun j => Int32.ofInt (cp1 h.1 k1 i1 k2 i2 x k2 i2 j))) := e1
  rw [e3] at X' step
  generalize hnew : vp_cell (cA 8) (N2, .inl (fun j => Int32.ofInt (cp1 h.1 k1 i1 k2 i2 x k2 i2 j))) = cnew at X' step
  have hl : ad k2 i2 < H.size := (Array.getElem?_eq_some_iff.mp hc1').1
  have hheap : ((T.setVm vm').setCell (ad k2 i2) cnew).heap = H.setIfInBounds (ad k2 i2) cnew := by rw [← hT]; rfl
  have oq : ∀ q : Nat, q ≠ ad k2 i2 → (H.setIfInBounds (ad k2 i2) cnew)[q]? = H[q]? := fun q hq => by simp [Array.getElem?_setIfInBounds, Ne.symm hq]
  obtain ⟨t, b1, b2⟩ := k l p e s m args below meth c D cA z0 n0 ad0 ad _ _ ls ⟨hC, hR.put (H' := H.setIfInBounds (ad k2 i2) cnew) (h' := (cp1 h.1 k1 i1 k2 i2 x, h.2.1, h.2.2)) (by rw [hk2]; show 8 < 14; omega) b0 b1 (by
        rw [ax_ei hk2 (Or.inl rfl)]
        show (H.setIfInBounds _ _)[_]? = some (vp_cell _ _)
        rw [hnew]
        simp [Array.getElem?_setIfInBounds, hl]) oq (fun k' i' e9 => by
        have f9 : ∀ j' : Int, cp1 h.1 k1 i1 k2 i2 x k' i' j' = h.1 k' i' j' := fun j' => if_neg (fun q => e9 ⟨q.1, q.2.1⟩)
        unfold ax_e ax_f
        simp only [f9]) rfl (fun k' i' j' => by
        show ax_32 (if _ then _ else _)
        split
        · exact hR.2.2.1 _ _ _
        · exact hR.2.2.1 _ _ _) hR.2.2.2.1, ⟨by simp; exact hS.1, fun q g1 g2 => by
      rw [oq q (fun e => g2 (by rw [e]; exact hz))]
      exact hS.2.1 q g1 g2, fun q hq => by
      rcases List.mem_append.mp hq with h9 | h9
      · exact hS.2.2 q h9
      · obtain ⟨z, -, hz9⟩ := List.mem_map.mp h9
        rw [← hz9]
        exact hz⟩, hE, hL, hxs, fun v hv => hst v (List.mem_cons_of_mem _ (List.mem_cons_of_mem _ (List.mem_cons_of_mem _ (List.mem_cons_of_mem _ (List.mem_cons_of_mem _ hv)))))⟩ _ hheap X'
  exact ⟨t, step t b1, b2⟩
end AXE
