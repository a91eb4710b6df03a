/-! ===== rows that make cells ===== -/
def ax_nw (k : Nat) (h : Hp) : Hp := (fun k' i' j => if k' = k ∧ i' = h.2.2 k then 0 else h.1 k' i' j, fun k' i' j => if k' = k ∧ i' = h.2.2 k then none else h.2.1 k' i' j, fun k' => if k' = k then h.2.2 k + 1 else h.2.2 k')
theorem ax_v_ext {n n' : Nat → Int} {ad ad' : AD} {v : Av} (hk : ax_k n v) (hx : ax_ext n ad n' ad') : ax_v ad' v = ax_v ad v := by
  rcases v with z | r | z
  · rfl
  · cases r with
    | none => rfl
    | some p =>
      have := hk p rfl
      show Value.ref _ = Value.ref _
      rw [(hx p.1 p.2 this.1 this.2).2]
  · rfl
theorem ax_k_ext {n n' : Nat → Int} {ad ad' : AD} {v : Av} (hk : ax_k n v) (hx : ax_ext n ad n' ad') : ax_k n' v := by
  rcases v with z | r | z
  · exact hk
  · intro p hp
    have := hk p hp
    exact ⟨this.1, (hx p.1 p.2 this.1 this.2).1⟩
  · exact hk
theorem ax_st_ext {n n' : Nat → Int} {ad ad' : AD} {st : List Av} (hk : ∀ v ∈ st, ax_k n v) (hx : ax_ext n ad n' ad') : st.map (ax_v ad') = st.map (ax_v ad) := List.map_congr_left fun v hv => ax_v_ext (hk v hv) hx
theorem ax_L.ext {n n' : Nat → Int} {ad ad' : AD} {nL : Nat} {ls : Array Slot} {xs : List (Option Av)} (hL : ax_L ad nL ls xs) (hk : ∀ v, some v ∈ xs → ax_k n v) (hx : ax_ext n ad n' ad') : ax_L ad' nL ls xs := ⟨hL.1, hL.2.1, fun i v hv hl => by
  rw [ax_v_ext (hk v (List.mem_of_getElem? hv)) hx]
  exact hL.2.2 i v hv hl⟩
theorem ax_ext.trans {n0 n n' : Nat → Int} {ad0 ad ad' : AD} (h1 : ax_ext n0 ad0 n ad) (h2 : ax_ext n ad n' ad') : ax_ext n0 ad0 n' ad' := fun k i a b => by
  obtain ⟨c1, c2⟩ := h1 k i a b
  obtain ⟨d1, d2⟩ := h2 k i a c1
  exact ⟨d1, d2.trans c2⟩
theorem ax_B.go {I : MI} {l : Launch} {p : Program} {s : State} {m : MethodId} {args : Array Value} {meth : Method} {c : Code} {D : va_G} {cA : Nat → ClassId} {z0 : Nat} {n0 : Nat → Int} {ad0 ad ad' : AD} {h h' : Hp} {H H' : Heap} {locs locs' : List Loc} {ls : Array Slot} {xs : List (Option Av)} {st : List Av}
    (B : ax_B I l p s m args meth c D cA z0 n0 ad0 ad h H locs ls xs st) (hR : ax_R D cA z0 ad' h' H') (hS : va_S (fun q => z0 ≤ q) s.heap H' locs') (hx : ax_ext h.2.2 ad h'.2.2 ad') : ax_B I l p s m args meth c D cA z0 n0 ad0 ad' h' H' locs' ls xs st ∧ st.map (ax_v ad') = st.map (ax_v ad) := by
  obtain ⟨b1, b2, b3, b4, b5, b6, b7⟩ := B
  exact ⟨⟨b1, hR, hS, b4.trans hx, b5.ext b6 hx, fun v hv => ax_k_ext (b6 v hv) hx, fun v hv => ax_k_ext (b7 v hv) hx⟩, ax_st_ext b7 hx⟩
theorem ax_e_ext {cA : Nat → ClassId} {ad ad' : AD} {h h' : Hp} {k : Nat} {i : Int} (hr : ∀ j : Int, h'.2.1 k i j = h.2.1 k i j) (hi : ∀ j : Int, h'.1 k i j = h.1 k i j) (hk : ∀ j : Int, ax_rk h.2.2 (h.2.1 k i j)) (hx : ∀ (k : Nat) (i : Int), 0 ≤ i → i < h.2.2 k → ad' k i = ad k i) : ax_e cA ad' h' k i = ax_e cA ad h k i := by
  have f : ∀ j : Int, (h'.2.1 k i j).map (fun p => ad' p.1 p.2) = (h.2.1 k i j).map (fun p => ad p.1 p.2) := by
    intro j
    rw [hr]
    have := hk j
    cases hz : h.2.1 k i j with
    | none => rfl
    | some p =>
      have h9 := this p hz
      simp only [Option.map_some, hx p.1 p.2 h9.1 h9.2]
  unfold ax_e ax_f
  simp only [f, hi]
theorem ax_R.new {D : va_G} {cA : Nat → ClassId} {z0 : Nat} {ad : AD} {h : Hp} {H H' : Heap} {k : Nat} (hR : ax_R D cA z0 ad h H) (hz : z0 ≤ H.size) (o : ∀ q : Nat, q < H.size → H'[q]? = H[q]?)
    (hc : va_at D vwCl (H.size, ax_e cA (fun k' i' => if k' = k ∧ i' = h.2.2 k then H.size else ad k' i') (ax_nw k h) k (h.2.2 k)) H') :
    ax_R D cA z0 (fun k' i' => if k' = k ∧ i' = h.2.2 k then H.size else ad k' i') (ax_nw k h) H' ∧ ax_ext h.2.2 ad (ax_nw k h).2.2 (fun k' i' => if k' = k ∧ i' = h.2.2 k then H.size else ad k' i') := by
  obtain ⟨a1, a2, a3, a4, a5⟩ := hR
  have hx : ∀ (k' : Nat) (i' : Int), i' < h.2.2 k' → ¬ (k' = k ∧ i' = h.2.2 k) := fun k' i' q e => by
    obtain ⟨rfl, rfl⟩ := e
    omega
  have hnk : ∀ k' : Nat, (ax_nw k h).2.2 k' = if k' = k then h.2.2 k + 1 else h.2.2 k' := fun k' => rfl
  refine ⟨⟨fun k' i' hk' h0' h1' => ?_, fun k1 i1 k2 i2 g1 g2 p1 p2 p3 p4 e => ?_, fun k' i' j' => ?_, fun k' i' j' p1 p2 => ?_, fun k' => ?_⟩, fun k' i' p1 p2 => ⟨?_, if_neg (hx k' i' p2)⟩⟩
  · by_cases e : k' = k ∧ i' = h.2.2 k
    · obtain ⟨rfl, rfl⟩ := e
      simp only [and_self, if_true]
      exact ⟨hc, hz⟩
    · have hi : i' < h.2.2 k' := by
        rw [hnk] at h1'
        split at h1'
        next q => subst q; exact Classical.byContradiction fun z => e ⟨rfl, by omega⟩
        next => exact h1'
      simp only [if_neg e]
      obtain ⟨b1, b2⟩ := a1 k' i' hk' h0' hi
      refine ⟨?_, b2⟩
      rw [ax_e_ext (h := h) (ad := ad) (fun j => if_neg e) (fun j => if_neg e) (fun j => a4 k' i' j h0' hi) (fun k9 i9 q1 q2 => if_neg (hx k9 i9 q2))]
      exact b1.kept (o _ b1.lt)
  · have lt : ∀ (k' : Nat) (i' : Int), (ax_kd k').1 < 14 → 0 ≤ i' → i' < h.2.2 k' → ad k' i' < H.size := fun k' i' q1 q2 q3 => (a1 k' i' q1 q2 q3).1.lt
    have inn : ∀ (k' : Nat) (i' : Int), ¬ (k' = k ∧ i' = h.2.2 k) → i' < (ax_nw k h).2.2 k' → i' < h.2.2 k' := fun k' i' e h1' => by
      rw [hnk] at h1'
      split at h1'
      next q => subst q; exact Classical.byContradiction fun z => e ⟨rfl, by omega⟩
      next => exact h1'
    by_cases e1 : k1 = k ∧ i1 = h.2.2 k
    · by_cases e2 : k2 = k ∧ i2 = h.2.2 k
      · exact ⟨e1.1.trans e2.1.symm, e1.2.trans e2.2.symm⟩
      · simp only [if_pos e1, if_neg e2] at e
        have := lt k2 i2 g2 p3 (inn k2 i2 e2 p4)
        omega
    · by_cases e2 : k2 = k ∧ i2 = h.2.2 k
      · simp only [if_neg e1, if_pos e2] at e
        have := lt k1 i1 g1 p1 (inn k1 i1 e1 p2)
        omega
      · simp only [if_neg e1, if_neg e2] at e
        exact a2 k1 i1 k2 i2 g1 g2 p1 (inn k1 i1 e1 p2) p3 (inn k2 i2 e2 p4) e
  · show ax_32 (if _ then _ else _)
    split
    · exact ⟨by omega, by omega⟩
    · exact a3 _ _ _
  · show ax_rk _ (if _ then _ else _)
    split
    · exact fun _ q => by cases q
    · next e =>
      have hi : i' < h.2.2 k' := by
        rw [hnk] at p2
        split at p2
        next q => subst q; exact Classical.byContradiction fun z => e ⟨rfl, by omega⟩
        next => exact p2
      intro q hq
      obtain ⟨b1, b2⟩ := a4 k' i' j' p1 hi q hq
      refine ⟨b1, ?_⟩
      rw [hnk]
      split
      next w => rw [w] at b2; omega
      next => exact b2
  · rw [hnk]
    split
    · have := a5 k; omega
    · exact a5 k'
  · rw [hnk]
    split
    next w => rw [w] at p2; omega
    next => exact p2
theorem va_S.grow {A : Nat → Prop} {H0 H H1 : Heap} {locs : List Loc} (h : va_S A H0 H locs) (o : ∀ q : Nat, q < H.size → H1[q]? = H[q]?) (z : H.size ≤ H1.size) : va_S A H0 H1 locs := ⟨Nat.le_trans h.1 z, fun q a b => (o q (Nat.lt_of_lt_of_le a h.1)).trans (h.2.1 q a b), h.2.2⟩
/-- what is known of a class whose objects are made -/
def ax_Nl (own : String) (index t : Nat) : Prop := ∃ (C : String) (T : u_T) (N : Nat), vwCl[t]? = some (C, T, N) ∧ ax_kd t = (t, N) ∧ t < 8 ∧ (∀ w ∈ u_ws C T N, w ∈ ax_GT) ∧ (∀ k, k < N → parseFieldDescriptor (T k).2.2.1 = some (ax_ft t k)) ∧
  Cond.classLink own index C ∈ ax_GT ∧ Cond.instantiable C N ∈ ax_GT ∧ Cond.initialized C ∈ ax_GT ∧ ∀ j, j < N → ax_rf t j = true ∨ ax_ft t j = .int ∨ ax_ft t j = .boolean
section AXN
variable {I : MI} {pc : Nat} {xs : List (Option Av)} {st : List Av} {h : Hp} {cs sl : Nat} {Q : Option Av → Hp → Prop} {X : String → Hp → Prop}
theorem r_new {t index : Nat} (hf : ax_Nl (mOwn I) index t) (hd : decode (mC I) pc = .ok (.new index, 3)) (hc : cs + 1 ≤ (mRm I).cells) (hs : sl + (ax_kd t).2 ≤ (mRm I).slots) (k : Run I (pc + 3) xs (aR t (h.2.2 t) :: st) (ax_nw t h) (cs + 1) (sl + (ax_kd t).2) Q X) : Run I pc xs st h cs sl Q X := by
  intro l p e s m args below meth c D cA z0 n0 ad0 ad H locs ls B
  obtain ⟨hC, hR, hS, hE, hL, hxs, hst⟩ := id B
  obtain ⟨C, T, N, f1, f3, f4, f5, f7, f8, f9, f10, f11⟩ := hf
  have hK := hC.2.2.2.2.2.1
  have hKn := hK.1 t _ f1
  have hN : (ax_kd t).2 = N := by rw [f3]
  rw [hN] at hs k
  refine W.newcK hC.1 hC.2.1 hC.2.2.2.1 (hC.2.2.2.2.1 _ f8) (hC.2.2.2.2.1 _ f9) (hC.2.2.2.2.1 _ f10) rfl hd hc hs hKn.2.1 rfl fun H1 kC hkC e1 z1 o1 => ?_
  have hz : z0 ≤ H.size := Nat.le_trans hC.2.2.2.2.2.2.2.2.2.2.2.2.2.1 hS.1
  obtain ⟨hR', hx'⟩ := hR.new (k := t) (H' := H1) hz o1 (by
    rw [ax_eo f3 f4]
    refine ⟨_, f1, (u_born (ax_ft t) hC.2.2.2.2.1 f5 hKn hkC e1 f7).to fun j hj => ?_⟩
    show _ = ((List.range N).map _).getD j Value.null
    rw [List.getD_eq_getElem?_getD, List.getElem?_map, List.getElem?_range hj]
    simp only [Option.map_some, Option.getD_some, ax_f, ax_nw, and_self, if_true]
    rcases f11 j hj with q | q | q
    · rw [q]
      simp only [if_true, Option.map_none]
      unfold ax_rf at q
      generalize ax_ft t j = ty at q ⊢
      cases ty <;> first | (simp [ax_isRef] at q; done) | rfl
    · have : ax_rf t j = false := by unfold ax_rf; rw [q]; rfl
      rw [this, q]; rfl
    · have : ax_rf t j = false := by unfold ax_rf; rw [q]; rfl
      rw [this, q]; rfl)
  obtain ⟨hB', hm⟩ := B.go hR' (hS.grow o1 (by omega)) hx'
  have hk2 := k l p e s m args below meth c D cA z0 n0 ad0 _ H1 locs ls ⟨hB'.1, hB'.2.1, hB'.2.2.1, hB'.2.2.2.1, hB'.2.2.2.2.1, hB'.2.2.2.2.2.1, List.forall_mem_cons.mpr ⟨?_, hB'.2.2.2.2.2.2⟩⟩
  · have hh : ax_v (fun k' i' => if k' = t ∧ i' = h.2.2 t then H.size else ad k' i') (aR t (h.2.2 t)) = .ref H.size := by simp [ax_v]
    rw [List.map_cons, hm, hh] at hk2
    exact hk2
  · intro q hq
    cases hq
    refine ⟨hR.2.2.2.2 t, ?_⟩
    show _ < (ax_nw t h).2.2 t
    simp only [ax_nw, if_true]
    omega
theorem r_newa {kk t n : Nat} {atype : ArrayType} {x : Int} (hk : ax_kd kk = (t, n)) (hx : x = n) (hn : n ≤ 10000) (ht : newarray.typeOf atype = ax_aty t ∧ 8 ≤ t ∧ t < 10) (hw : Cond.arrayClass (ax_aty t) ∈ ax_GT) (hd : decode (mC I) pc = .ok (.newarray atype, 2)) (hc : cs + 1 ≤ (mRm I).cells) (hs : sl + n ≤ (mRm I).slots) (k : Run I (pc + 2) xs (aR kk (h.2.2 kk) :: st) (ax_nw kk h) (cs + 1) (sl + n) Q X) : Run I pc xs (aI x :: st) h cs sl Q X := by
  intro l p e s m args below meth c D cA z0 n0 ad0 ad H locs ls B
  obtain ⟨hC, hR, hS, hE, hL, hxs, hst⟩ := id B
  subst hx
  have hK := hC.2.2.2.2.2.1
  have hx32 : ax_32 (n : Int) := hst _ List.mem_cons_self
  have hcl : (Int32.ofInt (n : Int)).toNatClampNeg = n := by rw [ax_cl hx32]; omega
  have hn0 : ¬ Int32.ofInt (n : Int) < 0 := by
    intro q
    rw [Int32.lt_iff_toInt_lt, ax_to hx32] at q
    have : (0 : Int32).toInt = 0 := rfl
    omega
  have hcb : componentBytes (newarray.typeOf atype) ≤ 8 := by cases atype <;> decide
  refine va_newaK hC.1 hC.2.1 (by rw [ht.1]; exact hC.2.2.2.2.1 _ hw) rfl hd rfl hn0 hcl (Nat.le_trans (Nat.mul_le_mul hn hcb) (by decide)) hc hs rfl fun H1 cA' e1 z1 o1 hAr hNm => ?_
  have hz : z0 ≤ H.size := Nat.le_trans hC.2.2.2.2.2.2.2.2.2.2.2.2.2.1 hS.1
  have hty := (hK.2 _ _ (ax_tyAt cA ht.2.1 (by omega))).2
  have hcc : cA' = cA t := by
    rw [ht.1] at hNm
    rcases (show t = 8 ∨ t = 9 by omega) with rfl | rfl
    all_goals exact Option.some.inj (hNm.symm.trans hty)
  subst hcc
  obtain ⟨hR', hx'⟩ := hR.new (k := kk) (H' := H1) hz o1 (by
    rw [ax_ei hk (by omega)]
    show H1[_]? = some (vp_cell _ _)
    rw [e1, vp_cell_i, ht.1]
    simp only [ax_nw, and_self, if_true]
    rcases (show t = 8 ∨ t = 9 by omega) with rfl | rfl <;> rfl)
  have B' : ax_B I l p s m args meth c D cA z0 n0 ad0 ad h H locs ls xs st := ⟨hC, hR, hS, hE, hL, hxs, fun v hv => hst v (List.mem_cons_of_mem _ hv)⟩
  obtain ⟨hB', hm⟩ := B'.go hR' (hS.grow o1 (by omega)) hx'
  have hk2 := k l p e s m args below meth c D cA z0 n0 ad0 _ H1 locs ls ⟨hB'.1, hB'.2.1, hB'.2.2.1, hB'.2.2.2.1, hB'.2.2.2.2.1, hB'.2.2.2.2.2.1, List.forall_mem_cons.mpr ⟨?_, hB'.2.2.2.2.2.2⟩⟩
  · have hh : ax_v (fun k' i' => if k' = kk ∧ i' = h.2.2 kk then H.size else ad k' i') (aR kk (h.2.2 kk)) = .ref H.size := by simp [ax_v]
    rw [List.map_cons, hm, hh] at hk2
    exact hk2
  · intro q hq
    cases hq
    refine ⟨hR.2.2.2.2 kk, ?_⟩
    show _ < (ax_nw kk h).2.2 kk
    simp only [ax_nw, if_true]
    omega
theorem r_anew {kk t n index : Nat} {C : String} {x : Int} (hk : ax_kd kk = (t, n)) (hx : x = n) (hn : n ≤ 10000) (ht : ax_aty t = .object C ∧ (t = 11 ∨ t = 12)) (hw : Cond.classLink (mOwn I) index C ∈ ax_GT) (hd : decode (mC I) pc = .ok (.anewarray index, 3)) (hc : cs + 1 ≤ (mRm I).cells) (hs : sl + n ≤ (mRm I).slots) (k : Run I (pc + 3) xs (aR kk (h.2.2 kk) :: st) (ax_nw kk h) (cs + 1) (sl + n) Q X) : Run I pc xs (aI x :: st) h cs sl Q X := by
  intro l p e s m args below meth c D cA z0 n0 ad0 ad H locs ls B
  obtain ⟨hC, hR, hS, hE, hL, hxs, hst⟩ := id B
  subst hx
  have hK := hC.2.2.2.2.2.1
  have hx32 : ax_32 (n : Int) := hst _ List.mem_cons_self
  have hcl : (Int32.ofInt (n : Int)).toNatClampNeg = n := by rw [ax_cl hx32]; omega
  have hn0 : ¬ Int32.ofInt (n : Int) < 0 := by
    intro q
    rw [Int32.lt_iff_toInt_lt, ax_to hx32] at q
    have : (0 : Int32).toInt = 0 := rfl
    omega
  have hov : va_AO C s := by
    obtain ⟨ht1, ht2 | ht2⟩ := ht
    · rw [ht2] at ht1; cases ht1; exact hC.2.2.2.2.2.2.1.2.2.1
    · rw [ht2] at ht1; cases ht1; exact hC.2.2.2.2.2.2.1.2.1
  refine W.anew hC.1 hC.2.1 hC.2.2.2.1 (hC.2.2.2.2.1 _ hw) (va_AO.use hov) rfl hd rfl hn0 (by rw [hcl]; omega) hc (by rw [hcl]; exact hs) fun cA' kA comp q1 q2 q3 q4 => ?_
  rw [hcl]
  generalize hH1 : H.push ({ cls := cA', slots := Array.replicate n .null, vm := .none } : Cell) = H1
  have z1 : H1.size = H.size + 1 := by rw [← hH1, Array.size_push]
  have e1 : H1[H.size]? = some (arrV cA' n (fun _ => .null)) := by rw [← hH1, Array.getElem?_push_size, ← arrV_new]
  have o1 : ∀ q, q < H.size → H1[q]? = H[q]? := fun q hq => by rw [← hH1, Array.getElem?_push, if_neg (Nat.ne_of_lt hq)]
  have hz : z0 ≤ H.size := Nat.le_trans hC.2.2.2.2.2.2.2.2.2.2.2.2.2.1 hS.1
  have hta := ax_tyAt cA (t := t) (by omega) (by omega)
  rw [ht.1] at hta
  obtain ⟨kA', comp', k1, k2, k3, k4⟩ := (hK.2 _ _ hta).2
  have hcc : cA' = cA t := Option.some.inj (q1.symm.trans k4)
  subst hcc
  obtain ⟨hR', hx'⟩ := hR.new (k := kk) (H' := H1) hz o1 (by
    rw [ax_er hk (by omega)]
    show H1[_]? = some (vp_cell _ _)
    rw [e1, vp_cell_q]
    simp only [ax_nw, and_self, if_true]
    rfl)
  have B' : ax_B I l p s m args meth c D cA z0 n0 ad0 ad h H locs ls xs st := ⟨hC, hR, hS, hE, hL, hxs, fun v hv => hst v (List.mem_cons_of_mem _ hv)⟩
  obtain ⟨hB', hm⟩ := B'.go hR' (hS.grow o1 (by omega)) hx'
  have hk2 := k l p e s m args below meth c D cA z0 n0 ad0 _ H1 locs ls ⟨hB'.1, hB'.2.1, hB'.2.2.1, hB'.2.2.2.1, hB'.2.2.2.2.1, hB'.2.2.2.2.2.1, List.forall_mem_cons.mpr ⟨?_, hB'.2.2.2.2.2.2⟩⟩
  · have hh : ax_v (fun k' i' => if k' = kk ∧ i' = h.2.2 kk then H.size else ad k' i') (aR kk (h.2.2 kk)) = .ref H.size := by simp [ax_v]
    rw [List.map_cons, hm, hh] at hk2
    exact hk2
  · intro q hq
    cases hq
    refine ⟨hR.2.2.2.2 kk, ?_⟩
    show _ < (ax_nw kk h).2.2 kk
    simp only [ax_nw, if_true]
    omega
end AXN
