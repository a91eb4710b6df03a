/-! ===== new int[N][K]: the outer array of kind ko, its rows of kind kr ===== -/
def ax_mn (ko kr : Nat) (N : Int) (h : Hp) : Hp :=
  (fun k' i' j => if (k' = ko ∧ i' = h.2.2 ko) ∨ (k' = kr ∧ h.2.2 kr ≤ i' ∧ i' < h.2.2 kr + N) then 0 else h.1 k' i' j,
   fun k' i' j => if k' = ko ∧ i' = h.2.2 ko then (if 0 ≤ j ∧ j < N then some (kr, h.2.2 kr + j) else none) else if k' = kr ∧ h.2.2 kr ≤ i' ∧ i' < h.2.2 kr + N then none else h.2.1 k' i' j,
   fun k' => if k' = ko then h.2.2 ko + 1 else if k' = kr then h.2.2 kr + N else h.2.2 k')
theorem ax_vro (c : ClassId) (N h0 : Nat) : ∀ i : Nat, Jvm.Free.Multi.outerC c N h0 i = arrV c N (fun j => va_rf (if j < i then some (h0 + 1 + j) else none))
  | 0 => by
    show ({ cls := c, slots := Array.replicate N .null, vm := .none } : Cell) = _
    rw [arrV_new]
    refine congrArg (arrV c N) (funext fun j => ?_)
    simp [va_rf]
  | i + 1 => by
    show (Jvm.Free.Multi.outerC c N h0 i).setSlot i (.ref (h0 + 1 + i)) = _
    rw [ax_vro c N h0 i, arrV_store]
    refine congrArg (arrV c N) (funext fun j => ?_)
    by_cases e : j = i
    · subst e
      simp [updV, va_rf]
    · by_cases h : j < i
      · simp [updV, e, h, Nat.lt_succ_of_lt h]
      · simp [updV, e, h, show ¬ j < i + 1 by omega]
theorem ax_R.mna {D : va_G} {cA : Nat → ClassId} {z0 : Nat} {ad : AD} {h : Hp} {H H' : Heap} {ko kr N K : Nat} (hR : ax_R D cA z0 ad h H) (hz : z0 ≤ H.size) (ho : ax_kd ko = (13, N)) (hr : ax_kd kr = (8, K)) (o : ∀ q : Nat, q < H.size → H'[q]? = H[q]?)
    (hc : H'[H.size]? = some (arrV (cA 13) N (fun j => va_rf (if j < N then some (H.size + 1 + j) else none)))) (hw : ∀ j : Nat, j < N → H'[H.size + 1 + j]? = some (arrV (cA 8) K (fun _ => .int 0))) :
    ax_R D cA z0 (fun k' i' => if k' = ko ∧ i' = h.2.2 ko then H.size else if k' = kr ∧ h.2.2 kr ≤ i' ∧ i' < h.2.2 kr + N then H.size + 1 + (i' - h.2.2 kr).toNat else ad k' i') (ax_mn ko kr N h) H' ∧
    ax_ext h.2.2 ad (ax_mn ko kr N h).2.2 (fun k' i' => if k' = ko ∧ i' = h.2.2 ko then H.size else if k' = kr ∧ h.2.2 kr ≤ i' ∧ i' < h.2.2 kr + N then H.size + 1 + (i' - h.2.2 kr).toNat else ad k' i') := by
  obtain ⟨a1, a2, a3, a4, a5⟩ := hR
  have hok : ko ≠ kr := fun e => by rw [e, hr] at ho; cases ho
  have x1 : ∀ (k' : Nat) (i' : Int), i' < h.2.2 k' → ¬ (k' = ko ∧ i' = h.2.2 ko) := fun k' i' q e => by
    obtain ⟨rfl, rfl⟩ := e
    omega
  have x2 : ∀ (k' : Nat) (i' : Int), i' < h.2.2 k' → ¬ (k' = kr ∧ h.2.2 kr ≤ i' ∧ i' < h.2.2 kr + N) := fun k' i' q e => by
    obtain ⟨rfl, e1, e2⟩ := e
    omega
  have hnk : ∀ k' : Nat, (ax_mn ko kr N h).2.2 k' = if k' = ko then h.2.2 ko + 1 else if k' = kr then h.2.2 kr + N else h.2.2 k' := fun k' => rfl
  have x3 : ∀ (k' : Nat) (i' : Int), i' < (ax_mn ko kr N h).2.2 k' → (k' = ko ∧ i' = h.2.2 ko) ∨ (k' = kr ∧ h.2.2 kr ≤ i' ∧ i' < h.2.2 kr + N) ∨ i' < h.2.2 k' := fun k' i' q => by
    rw [hnk] at q
    split at q
    next w => subst w; omega
    next =>
      split at q
      next w => subst w; omega
      next => exact Or.inr (Or.inr q)
  have hmono : ∀ k' : Nat, h.2.2 k' ≤ (ax_mn ko kr N h).2.2 k' := fun k' => by
    rw [hnk]
    split
    next w => subst w; omega
    next =>
      split
      next w => subst w; omega
      next => omega
  have hext : ax_ext h.2.2 ad (ax_mn ko kr N h).2.2 (fun k' i' => if k' = ko ∧ i' = h.2.2 ko then H.size else if k' = kr ∧ h.2.2 kr ≤ i' ∧ i' < h.2.2 kr + N then H.size + 1 + (i' - h.2.2 kr).toNat else ad k' i') := fun k' i' p1 p2 => ⟨by have := hmono k'; omega, by simp only [if_neg (x1 k' i' p2), if_neg (x2 k' i' p2)]⟩
  have lt : ∀ (k' : Nat) (i' : Int), (ax_kd k').1 < 14 → 0 ≤ i' → i' < h.2.2 k' → ad k' i' < H.size := fun k' i' q1 q2 q3 => (a1 k' i' q1 q2 q3).1.lt
  refine ⟨⟨fun k' i' hk' h0' h1' => ?_, fun k1 i1 k2 i2 g1 g2 p1 p2 p3 p4 e => ?_, fun k' i' j' => ?_, fun k' i' j' p1 p2 => ?_, fun k' => ?_⟩, hext⟩
  · rcases x3 k' i' h1' with e | e | e
    · obtain ⟨rfl, rfl⟩ := e
      simp only [and_self, if_true]
      refine ⟨?_, hz⟩
      rw [ax_er ho (by omega)]
      show H'[_]? = some (vp_cell _ _)
      rw [hc, vp_cell_q]
      congr 2
      funext j
      simp only [ax_mn, and_self, if_true]
      by_cases hj : j < N
      · rw [if_pos hj, if_pos ⟨by omega, by omega⟩]
        simp only [Option.map_some, Ne.symm hok, false_and, if_false, true_and]
        rw [if_pos ⟨by omega, by omega⟩]
        congr 2
        omega
      · rw [if_neg hj, if_neg (fun z => hj (by omega))]
        rfl
    · have e0 : ¬ (k' = ko ∧ i' = h.2.2 ko) := fun q => hok (q.1.symm.trans e.1)
      simp only [if_neg e0, if_pos e]
      refine ⟨?_, by omega⟩
      obtain ⟨rfl, e1, e2⟩ := e
      rw [ax_ei hr (Or.inl rfl)]
      show H'[_]? = some (vp_cell _ _)
      rw [hw _ (by omega), vp_cell_i]
      congr 2
      funext j
      simp only [ax_mn]
      rw [if_pos (Or.inr ⟨trivial, e1, e2⟩)]
      rfl
    · simp only [if_neg (x1 k' i' e), if_neg (x2 k' i' e)]
      obtain ⟨b1, b2⟩ := a1 k' i' hk' h0' e
      refine ⟨?_, b2⟩
      rw [ax_e_ext (h := h) (ad := ad) (fun j => by simp only [ax_mn, if_neg (x1 k' i' e), if_neg (x2 k' i' e)]) (fun j => by simp only [ax_mn]; rw [if_neg (fun z => z.elim (x1 k' i' e) (x2 k' i' e))]) (fun j => a4 k' i' j h0' e) (fun k9 i9 q1 q2 => (hext k9 i9 q1 q2).2)]
      exact b1.kept (o _ b1.lt)
  · have key : ∀ (k' : Nat) (i' : Int), (ax_kd k').1 < 14 → 0 ≤ i' → i' < (ax_mn ko kr N h).2.2 k' →
        (k' = ko ∧ i' = h.2.2 ko ∧ (if k' = ko ∧ i' = h.2.2 ko then H.size else if k' = kr ∧ h.2.2 kr ≤ i' ∧ i' < h.2.2 kr + N then H.size + 1 + (i' - h.2.2 kr).toNat else ad k' i') = H.size) ∨
        (k' = kr ∧ h.2.2 kr ≤ i' ∧ (if k' = ko ∧ i' = h.2.2 ko then H.size else if k' = kr ∧ h.2.2 kr ≤ i' ∧ i' < h.2.2 kr + N then H.size + 1 + (i' - h.2.2 kr).toNat else ad k' i') = H.size + 1 + (i' - h.2.2 kr).toNat) ∨
        (i' < h.2.2 k' ∧ (if k' = ko ∧ i' = h.2.2 ko then H.size else if k' = kr ∧ h.2.2 kr ≤ i' ∧ i' < h.2.2 kr + N then H.size + 1 + (i' - h.2.2 kr).toNat else ad k' i') = ad k' i' ∧ ad k' i' < H.size) := by
      intro k' i' q1 q2 q3
      rcases x3 k' i' q3 with w | w | w
      · exact Or.inl ⟨w.1, w.2, if_pos w⟩
      · have e0 : ¬ (k' = ko ∧ i' = h.2.2 ko) := fun q => hok (q.1.symm.trans w.1)
        exact Or.inr (Or.inl ⟨w.1, w.2.1, by rw [if_neg e0, if_pos w]⟩)
      · exact Or.inr (Or.inr ⟨w, by rw [if_neg (x1 k' i' w), if_neg (x2 k' i' w)], lt k' i' q1 q2 w⟩)
    have e : (if k1 = ko ∧ i1 = h.2.2 ko then H.size else if k1 = kr ∧ h.2.2 kr ≤ i1 ∧ i1 < h.2.2 kr + N then H.size + 1 + (i1 - h.2.2 kr).toNat else ad k1 i1) = (if k2 = ko ∧ i2 = h.2.2 ko then H.size else if k2 = kr ∧ h.2.2 kr ≤ i2 ∧ i2 < h.2.2 kr + N then H.size + 1 + (i2 - h.2.2 kr).toNat else ad k2 i2) := e
    rcases key k1 i1 g1 p1 p2 with ⟨w1, w2, w3⟩ | ⟨w1, w2, w3⟩ | ⟨w1, w2, w3⟩ <;> rcases key k2 i2 g2 p3 p4 with ⟨v1, v2, v3⟩ | ⟨v1, v2, v3⟩ | ⟨v1, v2, v3⟩
    · exact ⟨w1.trans v1.symm, w2.trans v2.symm⟩
    · rw [w3, v3] at e; omega
    · rw [w3, v2] at e; omega
    · rw [w3, v3] at e; omega
    · rw [w3, v3] at e; exact ⟨w1.trans v1.symm, by omega⟩
    · rw [w3, v2] at e; omega
    · rw [w2, v3] at e; omega
    · rw [w2, v3] at e; omega
    · rw [w2, v2] at e; exact a2 k1 i1 k2 i2 g1 g2 p1 w1 p3 v1 e
  · show ax_32 (if _ then _ else _)
    split
    · exact ⟨by omega, by omega⟩
    · exact a3 _ _ _
  · show ax_rk _ (if _ then _ else _)
    split
    · split
      · intro q hq
        cases hq
        refine ⟨?_, ?_⟩
        · have := a5 kr
          show 0 ≤ h.2.2 kr + j'
          omega
        · rw [hnk]
          simp only [Ne.symm hok, if_false, if_true]
          omega
      · exact fun _ q => by cases q
    next e0 =>
      split
      · exact fun _ q => by cases q
      next e1 =>
        have hi : i' < h.2.2 k' := by
          rcases x3 k' i' p2 with w | w | w
          · exact absurd w e0
          · exact absurd w e1
          · exact w
        intro q hq
        obtain ⟨b1, b2⟩ := a4 k' i' j' p1 hi q hq
        exact ⟨b1, by have := hmono q.1; omega⟩
  · have := hmono k'
    have := a5 k'
    omega
theorem r_mna {I : MI} {pc index : Nat} {xs : List (Option Av)} {st : List Av} {h : Hp} {cs sl : Nat} {Q : Option Av → Hp → Prop} {X : String → Hp → Prop} {ko kr N K : Nat} {x y : Int} (ho : ax_kd ko = (13, N)) (hr : ax_kd kr = (8, K)) (hx : x = N) (hy : y = K) (hN : N ≤ 1000 ∧ K ≤ 1000) (hw : Cond.classLink (mOwn I) index ("[" ++ (FieldType.array .int).toString) ∈ ax_GT ∧ Cond.arrayClass .int ∈ ax_GT) (hd : decode (mC I) pc = .ok (.multianewarray index 2, 4)) (hc : cs + (1 + N) ≤ (mRm I).cells) (hs : sl + (N + N * K) ≤ (mRm I).slots)
    (k : Run I (pc + 4) xs (aR ko (h.2.2 ko) :: st) (ax_mn ko kr N h) (cs + 1 + N) (sl + N + N * K) Q X) : Run I pc xs (aI y :: aI x :: st) h cs sl Q X := by
  intro l p e s m args below meth c D cA z0 n0 ad0 ad H locs ls B
  obtain ⟨hC, hR, hS, hE, hL, hxs, hst⟩ := id B
  subst hx
  subst hy
  have hts := hC.2.2.2.2.1
  have hK := hC.2.2.2.2.2.1
  have kN : ax_32 (N : Int) := hst _ (List.mem_cons_of_mem _ List.mem_cons_self)
  have kK : ax_32 (K : Int) := hst _ List.mem_cons_self
  have cN : (Int32.ofInt (N : Int)).toNatClampNeg = N := by rw [ax_cl kN]; omega
  have cK : (Int32.ofInt (K : Int)).toNatClampNeg = K := by rw [ax_cl kK]; omega
  have pos : ∀ z : Nat, ax_32 (z : Int) → ¬ Int32.ofInt (z : Int) < 0 := by
    intro z kz q
    rw [Int32.lt_iff_toInt_lt, ax_to kz] at q
    have : (0 : Int32).toInt = 0 := rfl
    omega
  have hov : (Cond.arrayOver (.array .int)).before args s = true := hC.2.2.2.2.2.2.1.2.2.2.1
  intro T hT Xs
  obtain ⟨vm₁, cA', comp, -, fA, fC, -, -, X', step⟩ := Xs.multianewarray2F hC.1 hC.2.2.2.1 (hts _ hw.1) hov (hts _ hw.2) (g := F0 m pc ls ((aI (K : Int) :: aI (N : Int) :: st).map (ax_v ad))) rfl (by rw [hC.2.1]; exact hd) rfl (pos N kN) (pos K kK) (by rw [cN]; omega) (by rw [cK]; show K * 4 ≤ _; omega) (by rw [cK]; omega) rfl rfl (by rw [cN]; exact hc) (by rw [cN, cK]; exact hs)
  rw [cN, cK] at X' step
  have hcA : cA' = cA 13 := Option.some.inj (fA.symm.trans ((hK.2 5 _ (ax_tyAt cA (t := 13) (by omega) (by omega))).2))
  have hcI : comp = cA 8 := Option.some.inj (fC.symm.trans ((hK.2 0 _ (ax_tyAt cA (t := 8) (by omega) (by omega))).2))
  subst hcA
  subst hcI
  generalize hF : Jvm.Free.Multi.fill (T.setVm vm₁) (cA 13) (cA 8) N K (defaultValue .int) N = F at X' step
  have hTh : (T.setVm vm₁).heap = H := hT
  obtain ⟨f1, f2, -, -⟩ := Jvm.Free.Multi.fill_facts (T.setVm vm₁) (cA 13) (cA 8) N K (defaultValue .int) N
  rw [hF, hTh] at f1 f2
  have hold : ∀ x : Nat, x < H.size → F.heap[x]? = H[x]? := fun x hx => by
    have := Jvm.Free.Multi.fill_old (T.setVm vm₁) (cA 13) (cA 8) N K (defaultValue .int) (a := x) (by rw [hTh]; exact hx) N
    rw [hF, hTh] at this
    exact this
  have hrow : ∀ j : Nat, j < N → F.heap[H.size + 1 + j]? = some (arrV (cA 8) K (fun _ => .int 0)) := fun j hj => by
    have := Jvm.Free.Multi.fill_inner (T.setVm vm₁) (cA 13) (cA 8) N K (defaultValue .int) N j hj
    rw [hF, hTh] at this
    rw [this, ← arrV_new]
    rfl
  rw [ax_vro] at f2
  have hz : z0 ≤ H.size := Nat.le_trans hC.2.2.2.2.2.2.2.2.2.2.2.2.2.1 hS.1
  obtain ⟨hR', hx'⟩ := hR.mna hz ho hr hold f2 hrow
  have B' : ax_B I l p s m args meth c D cA z0 n0 ad0 ad h H locs ls xs st := ⟨hC, hR, hS, hE, hL, hxs, fun v hv => hst v (List.mem_cons_of_mem _ (List.mem_cons_of_mem _ hv))⟩
  obtain ⟨hB', hm⟩ := B'.go hR' (hS.grow hold (by omega)) hx'
  have hk2 := k l p e s m args below meth c D cA z0 n0 ad0 _ F.heap locs ls ⟨hB'.1, hB'.2.1, hB'.2.2.1, hB'.2.2.2.1, hB'.2.2.2.2.1, hB'.2.2.2.2.2.1, List.forall_mem_cons.mpr ⟨?_, hB'.2.2.2.2.2.2⟩⟩
  · have hh : ax_v (fun k' i' => if k' = ko ∧ i' = h.2.2 ko then H.size else if k' = kr ∧ h.2.2 kr ≤ i' ∧ i' < h.2.2 kr + N then H.size + 1 + (i' - h.2.2 kr).toNat else ad k' i') (aR ko (h.2.2 ko)) = .ref H.size := by simp [ax_v]
    rw [List.map_cons, hm, hh] at hk2
    obtain ⟨t, b1, b2⟩ := hk2 F rfl X'
    refine ⟨t, step t ?_, b2⟩
    rw [hT]
    exact b1
  · intro q hq
    cases hq
    refine ⟨hR.2.2.2.2 ko, ?_⟩
    show _ < (ax_mn ko kr N h).2.2 ko
    simp only [ax_mn, if_true]
    omega
