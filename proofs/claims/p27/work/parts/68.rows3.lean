/-! ===== rows more: the script in a method that is called, numbers that wrap around, bits, arrays that are forgotten ===== -/
theorem ax_32t (v : Int32) : ax_32 v.toInt := ⟨by have := v.le_toInt; omega, by have := v.toInt_lt; omega⟩
/-! rows of kit/laws/BITS.to-paste -/
theorem wb_tb (n : Nat) : (lN n).toBitVec = BitVec.ofNat 64 n := rfl
theorem wb_inj {a b : Int64} (h : a.toBitVec = b.toBitVec) : a = b := Int64.toBitVec_inj.mp h
theorem wb_c : ∀ k, k < 64 → ((nI k).toInt64 &&& 63) = lN k := by decide +kernel
theorem wb_sm : ∀ k, k < 64 → (BitVec.ofNat 64 k).smod 64 = BitVec.ofNat 64 k := by decide +kernel
theorem wb_shl (n : Nat) {k : Nat} (hk : k < 64) : lN n <<< ((nI k).toInt64 &&& 63) = lN (n * 2 ^ k) := by
  rw [wb_c k hk]
  apply wb_inj
  rw [Int64.toBitVec_shiftLeft, wb_tb, wb_tb, wb_tb, wb_sm k hk]
  apply BitVec.eq_of_toNat_eq
  rw [BitVec.shiftLeft_eq', BitVec.toNat_shiftLeft, BitVec.toNat_ofNat, BitVec.toNat_ofNat, BitVec.toNat_ofNat, Nat.mod_eq_of_lt (show k < 2 ^ 64 by omega), Nat.shiftLeft_eq, Nat.mul_mod, Nat.mod_mod, ← Nat.mul_mod]
theorem wb_and {a b : Nat} (ha : a < 2 ^ 64) (hb : b < 2 ^ 64) : lN a &&& lN b = lN (a &&& b) := by
  apply wb_inj
  rw [Int64.toBitVec_and, wb_tb, wb_tb, wb_tb]
  apply BitVec.eq_of_toNat_eq
  rw [BitVec.toNat_and, BitVec.toNat_ofNat, BitVec.toNat_ofNat, BitVec.toNat_ofNat, Nat.mod_eq_of_lt ha, Nat.mod_eq_of_lt hb, Nat.mod_eq_of_lt (Nat.and_lt_two_pow _ hb)]
theorem wb_or {a b : Nat} (ha : a < 2 ^ 64) (hb : b < 2 ^ 64) : lN a ||| lN b = lN (a ||| b) := by
  apply wb_inj
  rw [Int64.toBitVec_or, wb_tb, wb_tb, wb_tb]
  apply BitVec.eq_of_toNat_eq
  rw [BitVec.toNat_or, BitVec.toNat_ofNat, BitVec.toNat_ofNat, BitVec.toNat_ofNat, Nat.mod_eq_of_lt ha, Nat.mod_eq_of_lt hb, Nat.mod_eq_of_lt (Nat.or_lt_two_pow ha hb)]
theorem pf_lI {a : Nat} (h : a < 2 ^ 63) : (lN a).toInt = (a : Int) := lg_ofNat_toInt h
theorem pf_shr {a d : Nat} {D : Int64} (hD : (D.toBitVec.smod 64).toNat = d) (h : a < 2 ^ 62) : lN a >>> D = lN (a / 2 ^ d) := by
  have hd : a / 2 ^ d ≤ a := Nat.div_le_self _ _
  apply Int64.toInt_inj.mp
  have e : (lN a >>> D).toInt = (lN a).toInt >>> d := by
    rw [← hD]
    exact BitVec.toInt_sshiftRight ..
  rw [e, Int.shiftRight_eq_div_pow, pf_lI (by omega), pf_lI (by omega)]
  rfl
/-! a set of boxes as a long -/
theorem b_lN (n : Nat) : Int64.ofInt (n : Int) = lN n := Int64.ofInt_eq_ofNat
theorem b_nI {b : Int} (h : 0 ≤ b) : Int32.ofInt b = nI b.toNat := by
  obtain ⟨m, rfl⟩ := Int.eq_ofNat_of_zero_le h
  exact Int32.ofInt_eq_ofNat
theorem b_shr {N : Nat} {b : Int} (hN : N < 2 ^ 62) (h0 : 0 ≤ b) (h1 : b < 64) : Int64.ofInt (N : Int) >>> ((Int32.ofInt b).toInt64 &&& 63) = Int64.ofInt ((N / 2 ^ b.toNat : Nat) : Int) := by
  rw [b_lN, b_lN, b_nI h0, wb_c _ (by omega)]
  refine pf_shr ?_ hN
  rw [wb_tb, wb_sm _ (by omega), BitVec.toNat_ofNat]
  omega
theorem b_and1 {N : Nat} (hN : N < 2 ^ 62) : Int64.ofInt (N : Int) &&& Int64.ofInt 1 = Int64.ofInt ((N % 2 : Nat) : Int) := by
  rw [show (1 : Int) = ((1 : Nat) : Int) from rfl, b_lN, b_lN, b_lN, wb_and (by omega) (by decide), Nat.and_one_is_mod]
theorem b_shl {b : Int} (h0 : 0 ≤ b) (h1 : b < 62) : Int64.ofInt 1 <<< ((Int32.ofInt b).toInt64 &&& 63) = Int64.ofInt ((2 ^ b.toNat : Nat) : Int) := by
  rw [show (1 : Int) = ((1 : Nat) : Int) from rfl, b_lN, b_lN, b_nI h0, wb_shl 1 (by omega), Nat.one_mul]
theorem b_or {N M : Nat} (hN : N < 2 ^ 62) (hM : M < 2 ^ 62) : Int64.ofInt (N : Int) ||| Int64.ofInt (M : Int) = Int64.ofInt ((N ||| M : Nat) : Int) := by
  rw [b_lN, b_lN, b_lN, wb_or (by omega) (by omega)]
theorem b_64 {N : Nat} (h : N < 2 ^ 62) : ax_64 (N : Int) := ⟨by omega, by omega⟩
/-- the set of the boxes of the first u units -/
def setN (f : Int → Int) : Nat → Nat
  | 0 => 0
  | u + 1 => setN f u ||| (if f u < 0 then 0 else 2 ^ (f u).toNat)
theorem setN_lt {f : Int → Int} (h : ∀ v, f v < 40) (u : Nat) : setN f u < 2 ^ 40 := by
  induction u with
  | zero => exact (by decide : (0 : Nat) < 2 ^ 40)
  | succ u ih =>
    simp only [setN]
    refine Nat.or_lt_two_pow ih ?_
    split
    · decide
    · exact Nat.pow_lt_pow_right (by decide) (by have := h u; omega)
theorem setN_bit {f : Int → Int} (u : Nat) (b : Nat) : (setN f u).testBit b = true ↔ ∃ v : Nat, v < u ∧ f v = (b : Int) := by
  induction u with
  | zero => simp [setN]
  | succ u ih =>
    simp only [setN]
    rw [Nat.testBit_or, Bool.or_eq_true, ih]
    constructor
    · rintro (⟨v, v1, v2⟩ | q)
      · exact ⟨v, by omega, v2⟩
      · by_cases z : f u < 0
        · rw [if_pos z] at q
          simp at q
        · rw [if_neg z, Nat.testBit_two_pow] at q
          exact ⟨u, by omega, by have := of_decide_eq_true q; omega⟩
    · rintro ⟨v, v1, v2⟩
      by_cases e : v = u
      · subst e
        right
        rw [if_neg (by omega), Nat.testBit_two_pow]
        exact decide_eq_true (by omega)
      · exact Or.inl ⟨v, by omega, v2⟩
theorem setN_no {f : Int → Int} {u : Nat} {b : Int} (h0 : 0 ≤ b) (h : ∀ v : Nat, v < u → f v ≠ b) : setN f u / 2 ^ b.toNat % 2 = 0 := by
  have : (setN f u).testBit b.toNat = false := by
    cases q : (setN f u).testBit b.toNat with
    | false => rfl
    | true =>
      obtain ⟨v, v1, v2⟩ := (setN_bit u b.toNat).mp q
      exact absurd (by omega) (h v v1)
  rw [Nat.testBit_eq_decide_div_mod_eq] at this
  have := of_decide_eq_false this
  omega
theorem setN_ne {f : Int → Int} {u v : Nat} (hv : v < u) (h : 0 ≤ f v) : setN f u ≠ 0 := by
  intro q
  have := (setN_bit (f := f) u (f v).toNat).mpr ⟨v, hv, by omega⟩
  rw [q] at this
  simp at this
section RX
variable {I I' : MI} {pc index : Nat} {xs : List (Option Av)} {st : List Av} {h : Hp} {cs sl cs' sl' : Nat} {Q Q' : Option Av → Hp → Prop} {X X' : String → Hp → Prop}
theorem r_wide (h1 : cs ≤ cs') (h2 : sl ≤ sl') (k : Run I pc xs st h cs' sl' Q X) : Run I pc xs st h cs sl Q X := by
  intro l p e s m args below meth c D cA z0 n0 ad0 ad H locs ls B
  exact W.widen h1 h2 (k l p e s m args below meth c D cA z0 n0 ad0 ad H locs ls B)
theorem r_imulX {x y : Int} (hd : decode (mC I) pc = .ok (.imul, 1)) (k : ∀ z, ax_32 z → Run I (pc + 1) xs (aI z :: st) h cs sl Q X) : Run I pc xs (aI y :: aI x :: st) h cs sl Q X := by
  intro l p e s m args below meth c D cA z0 n0 ad0 ad H locs ls B
  obtain ⟨hC, hR, hS, hE, hL, hxs, hst⟩ := B
  refine lv_imul hC.1 hC.2.1 hd ?_
  have hk := k _ (ax_32t (Int32.ofInt x * Int32.ofInt y)) l p e s m args below meth c D cA z0 n0 ad0 ad H locs ls ⟨hC, hR, hS, hE, hL, hxs, List.forall_mem_cons.mpr ⟨ax_32t _, fun v hv => hst v (List.mem_cons_of_mem _ (List.mem_cons_of_mem _ hv))⟩⟩
  have e8 : (aI (Int32.ofInt x * Int32.ofInt y).toInt :: st).map (ax_v ad) = .int (Int32.ofInt x * Int32.ofInt y) :: st.map (ax_v ad) := by
    show Value.int (Int32.ofInt (Int32.ofInt x * Int32.ofInt y).toInt) :: _ = _
    rw [Int32.ofInt_toInt]
  rw [e8] at hk
  exact hk
theorem r_iaddX {x y : Int} (hd : decode (mC I) pc = .ok (.iadd, 1)) (k : ∀ z, ax_32 z → Run I (pc + 1) xs (aI z :: st) h cs sl Q X) : Run I pc xs (aI y :: aI x :: st) h cs sl Q X := by
  intro l p e s m args below meth c D cA z0 n0 ad0 ad H locs ls B
  obtain ⟨hC, hR, hS, hE, hL, hxs, hst⟩ := B
  refine lv_iadd hC.1 hC.2.1 hd ?_
  have hk := k _ (ax_32t (Int32.ofInt x + Int32.ofInt y)) l p e s m args below meth c D cA z0 n0 ad0 ad H locs ls ⟨hC, hR, hS, hE, hL, hxs, List.forall_mem_cons.mpr ⟨ax_32t _, fun v hv => hst v (List.mem_cons_of_mem _ (List.mem_cons_of_mem _ hv))⟩⟩
  have e8 : (aI (Int32.ofInt x + Int32.ofInt y).toInt :: st).map (ax_v ad) = .int (Int32.ofInt x + Int32.ofInt y) :: st.map (ax_v ad) := by
    show Value.int (Int32.ofInt (Int32.ofInt x + Int32.ofInt y).toInt) :: _ = _
    rw [Int32.ofInt_toInt]
  rw [e8] at hk
  exact hk
/-- a shift to the right whose result isn't asked for -/
theorem r_ishrX {x y : Int} (hd : decode (mC I) pc = .ok (.ishr, 1)) (k : ∀ z, ax_32 z → (0 ≤ x → 0 ≤ z ∧ z ≤ x) → Run I (pc + 1) xs (aI z :: st) h cs sl Q X) : Run I pc xs (aI y :: aI x :: st) h cs sl Q X := by
  intro l p e s m args below meth c D cA z0 n0 ad0 ad H locs ls B
  obtain ⟨hC, hR, hS, hE, hL, hxs, hst⟩ := B
  refine lv_ishr hC.1 hC.2.1 hd ?_
  have kx : ax_32 x := hst _ (List.mem_cons_of_mem _ List.mem_cons_self)
  have hk := k _ (ax_32t (Int32.ofInt x >>> (Int32.ofInt y &&& 31))) (fun h0 => by
    have e : (Int32.ofInt x >>> (Int32.ofInt y &&& 31)).toInt = (Int32.ofInt x).toInt >>> ((Int32.ofInt y &&& 31).toBitVec.smod 32).toNat := BitVec.toInt_sshiftRight ..
    rw [e, ax_to kx, Int.shiftRight_eq_div_pow]
    exact ⟨Int.ediv_nonneg h0 (by exact_mod_cast Nat.zero_le _), Int.ediv_le_self _ h0⟩) l p e s m args below meth c D cA z0 n0 ad0 ad H locs ls ⟨hC, hR, hS, hE, hL, hxs, List.forall_mem_cons.mpr ⟨ax_32t _, fun v hv => hst v (List.mem_cons_of_mem _ (List.mem_cons_of_mem _ hv))⟩⟩
  have e8 : (aI (Int32.ofInt x >>> (Int32.ofInt y &&& 31)).toInt :: st).map (ax_v ad) = .int (Int32.ofInt x >>> (Int32.ofInt y &&& 31)) :: st.map (ax_v ad) := by
    show Value.int (Int32.ofInt (Int32.ofInt x >>> (Int32.ofInt y &&& 31)).toInt) :: _ = _
    rw [Int32.ofInt_toInt]
  rw [e8] at hk
  exact hk
/-- what stands under a mask -/
theorem r_iandX {x y : Int} (hd : decode (mC I) pc = .ok (.iand, 1)) (hy : 0 ≤ y) (k : ∀ z, 0 ≤ z → z ≤ y → Run I (pc + 1) xs (aI z :: st) h cs sl Q X) : Run I pc xs (aI y :: aI x :: st) h cs sl Q X := by
  intro l p e s m args below meth c D cA z0 n0 ad0 ad H locs ls B
  obtain ⟨hC, hR, hS, hE, hL, hxs, hst⟩ := B
  refine lv_iand hC.1 hC.2.1 hd ?_
  have ky : ax_32 y := hst _ List.mem_cons_self
  have hz : 0 ≤ (Int32.ofInt x &&& Int32.ofInt y).toInt ∧ (Int32.ofInt x &&& Int32.ofInt y).toInt ≤ y := by
    have e1 : (Int32.ofInt x &&& Int32.ofInt y).toInt = (Int32.ofInt x &&& Int32.ofInt y).toBitVec.toInt := rfl
    have e2 : (Int32.ofInt y).toInt = (Int32.ofInt y).toBitVec.toInt := rfl
    rw [ax_to ky, BitVec.toInt_eq_toNat_cond] at e2
    have lt := (Int32.ofInt y).toBitVec.isLt
    have le : (Int32.ofInt x &&& Int32.ofInt y).toBitVec.toNat ≤ (Int32.ofInt y).toBitVec.toNat := by
      rw [Int32.toBitVec_and, BitVec.toNat_and]
      exact Nat.and_le_right
    rw [e1, BitVec.toInt_eq_toNat_cond]
    generalize (Int32.ofInt x &&& Int32.ofInt y).toBitVec.toNat = a at *
    generalize (Int32.ofInt y).toBitVec.toNat = b at *
    have := ky.2
    split at e2 <;> split <;> omega
  have hk := k _ hz.1 hz.2 l p e s m args below meth c D cA z0 n0 ad0 ad H locs ls ⟨hC, hR, hS, hE, hL, hxs, List.forall_mem_cons.mpr ⟨ax_32t _, fun v hv => hst v (List.mem_cons_of_mem _ (List.mem_cons_of_mem _ hv))⟩⟩
  have e8 : (aI (Int32.ofInt x &&& Int32.ofInt y).toInt :: st).map (ax_v ad) = .int (Int32.ofInt x &&& Int32.ofInt y) :: st.map (ax_v ad) := by
    show Value.int (Int32.ofInt (Int32.ofInt x &&& Int32.ofInt y).toInt) :: _ = _
    rw [Int32.ofInt_toInt]
  rw [e8] at hk
  exact hk
/-! a method that reads the script -/
def ax_SX (I : MI) (z0 : Nat) (n : Nat → Int) (ad : AD) (U : State) : Prop := ∀ q, mSc I = some q → 0 < n 99 ∧ va_X (ad 99 0) q.1 q.2 U U.heap ∧ ad 99 0 < z0
def ConS (I : MI) (av : List Av) (h : Hp) (Q : Option Av → Hp → Prop) (X : String → Hp → Prop) : Prop :=
  ∀ (l : Launch) (D : va_G) (cA : Nat → ClassId) (z0 : Nat) (ad : AD), l.stackTraces = false →
    vx_Met l (mY I) (ax_ws I) (mRm I) (fun a U => ax_P D cA z0 ad av h a U ∧ ax_SX I z0 h.2.2 ad U) (ax_Q D cA z0 h.2.2 ad Q) (ax_X D cA z0 h.2.2 ad X) (mRm I).cells (mRm I).slots (fun q => z0 ≤ q)
theorem ax_PS_blind {D : va_G} {cA : Nat → ClassId} {z0 : Nat} {ad : AD} {av : List Av} : FrameBlind (fun a U => ax_P D cA z0 ad av h a U ∧ ax_SX I z0 h.2.2 ad U) := fun a U g mk hp =>
  ⟨ax_P.blind a U g mk hp.1, fun q hq => ⟨(hp.2 q hq).1, va_X.moved (u := U) (U := U.calling g mk a) (Vm.Alike.refl U.vm) (hp.2 q hq).2.1, (hp.2 q hq).2.2⟩⟩
theorem ax_startS {av : List Av} (hh : mHH I = []) (hy : plainName (mY I).cls = true) (hown : mOwn I = (mY I).cls) (hlen : av.length ≤ mL I) (hcat : av.all (fun v => ax_cat v == 1) = true) (hxs : xs = av.map some ++ List.replicate (mL I - av.length) none) (k : Run I 0 xs [] h 0 0 Q X) : ConS I av h Q X := by
  intro l D cA z0 ad hst
  have hca : ∀ v ∈ av.map (ax_v ad), v.category = 1 := by
    intro w hw
    obtain ⟨v, hv, rfl⟩ := List.mem_map.mp hw
    rw [ax_catv]
    have := List.all_eq_true.mp hcat v hv
    simpa using this
  refine vx_ofW (cc := mC I) (maxL := mL I) (ret := mRet I) hy (show ax_ws I = _ by unfold ax_ws; rw [hh]) ?_
  intro p e s m args below meth c s₁ B hml ht hv
  have ht' : c.exceptionTable.toList = tableOf (mHH I) := by
    rw [hh]
    cases hq : c.exceptionTable.toList with
    | nil => rfl
    | cons x _ => exact absurd (ht x (by rw [hq]; exact List.mem_cons_self)) id
  obtain ⟨⟨rfl, hR, hK, hN, hU, hV, hz, hok⟩, hSX⟩ := hv
  have hts := atoms_spec (ws := ax_ws I) B.pre
  have hl := lv_entry (av.map (ax_v ad)) (n := mL I) (by rw [ax_lgs _ hca, List.length_map]; exact hlen)
  rw [lg_entry_eq]
  generalize (lg_sl (av.map (ax_v ad)) ++ List.replicate (mL I - (lg_sl (av.map (ax_v ad))).length) Slot.unset).toArray = ls at hl ⊢
  refine k l p e s m _ below meth c D cA z0 h.2.2 ad ad s.heap [] ls ⟨⟨B.exec, B.bytes, hml, ?_, fun w hw => hts w (List.mem_cons_of_mem _ hw), hK, hN, hU, hV, B.notSynchronized, (name_of_methodNamed B.named B.method).1, hst, ht', hz, B.returns, hSX⟩, hR, va_S.rf, fun k i a b => ⟨b, rfl⟩, ⟨hl.1, hl.2.1, fun i v hv _ => ?_⟩, fun v hv => ?_, fun v hv => nomatch hv⟩
  · rw [hown]; exact findClass_of_methodNamed B.named
  · subst hxs
    by_cases hi : i < av.length
    · rw [List.getElem?_append_left (by rw [List.length_map]; exact hi), List.getElem?_map] at hv
      cases hz : av[i]? with
      | none => rw [hz] at hv; cases hv
      | some w =>
        rw [hz] at hv
        cases hv
        have h9 : (av.map (ax_v ad))[i]? = some (ax_v ad v) := by rw [List.getElem?_map, hz]; rfl
        have := ax_lva _ hca 0 i _ h9
        rw [Nat.zero_add] at this
        exact hl.2.2 _ this
    · rw [List.getElem?_append_right (by rw [List.length_map]; omega)] at hv
      have := List.eq_of_mem_replicate (List.mem_of_getElem? hv)
      cases this
  · subst hxs
    rcases List.mem_append.mp hv with h9 | h9
    · obtain ⟨w, hw, e⟩ := List.mem_map.mp h9
      cases e
      exact hok _ hw
    · have := List.eq_of_mem_replicate h9
      cases this
theorem r_callSS {n : Nat} {as rest : List Av} (hm : ax_Ms (mOwn I) index I' n) (hh : mHH I' = []) (hsc : mSc I' = mSc I) (hcon : ConS I' as h Q' X') (hn : as.length = n) (hrm : ax_rm I I') (hcat : (rest.map ax_cat).sum ≤ 8) (hd : decode (mC I) pc = .ok (.invokestatic index, 3)) (hc : cs + (mRm I').cells = cs' ∧ cs' ≤ (mRm I).cells) (hs : sl + (mRm I').slots = sl' ∧ sl' ≤ (mRm I).slots)
    (hst0 : st = as.reverse ++ rest) (k : ∀ (r : Option Av) (h' : Hp), Q' r h' → Run I (pc + 3) xs (r.toList ++ rest) h' cs' sl' Q X) (kx : ∀ (E : String) (h' : Hp), X' E h' → RunX I pc xs rest h' cs' sl' E Q X) : Run I pc xs st h cs sl Q X := by
  intro l p e s m args below meth c D cA z0 n0 ad0 ad H locs ls B
  subst hst0
  obtain ⟨⟨m1, m2, m3, m4⟩, m5, m6⟩ := hm
  have hts := B.1.2.2.2.2.1
  have hcode : Cond.code (mY I') (mC I') (mL I') (mRet I') ∈ ax_GT := by
    rcases m3 with q | q
    · exact q.2
    · exact absurd hh q.1
  obtain ⟨rfl, hc2⟩ := hc
  obtain ⟨rfl, hs2⟩ := hs
  have hGv : GoodIn ax_GT (wsS (mOwn I) index (mY I') (ax_ws I')) := by
    unfold wsS
    refine goodIn_app (ax_Gc m1 (ax_Gc m6 (ax_Gc (by rw [← m5]; exact m2) (fun _ q => nomatch q)))) ?_
    rw [ax_wsn hh]
    exact ax_Gc hcode ax_GG
  have hpre : ∀ U : State, U.heap = H → s.WarmedH U.vm → (ax_P D cA z0 ad as h (as.map (ax_v ad)).toArray U ∧ ax_SX I' z0 h.2.2 ad U) := fun U hU hW => by
    refine ⟨ax_pre B (av := as) (fun v hv => List.mem_append_left _ (List.mem_reverse.mpr hv)) U hU hW, fun q hq => ?_⟩
    rw [hsc] at hq
    obtain ⟨s1, s2, s3⟩ := B.1.2.2.2.2.2.2.2.2.2.2.2.2.2.2.2 q hq
    obtain ⟨e1, e2⟩ := B.2.2.2.1 99 0 (Int.le_refl 0) s1
    rw [e2]
    have hz := B.1.2.2.2.2.2.2.2.2.2.2.2.2.2.1
    refine ⟨e1, ?_, s3⟩
    rw [hU]
    exact va_X.moved hW.alike (va_X.kept s2 (B.2.2.1.2.1 _ (Nat.lt_of_lt_of_le s3 hz) (Nat.not_le.mpr s3)))
  have hrun := vx_runS (As := as.map (ax_v ad)) (rest := rest.map (ax_v ad)) (g := F0 m pc ls ((as.reverse ++ rest).map (ax_v ad))) (cells := cs) (slots := sl) (e := e) (below := below) (R := mRm I) (meth := meth) (H := H) (locs := locs) (args := args) ⟨B.1.1, B.1.2.1, B.1.2.2.1, B.1.2.2.2.1, hts⟩ (hcon l D cA z0 ad B.1.2.2.2.2.2.2.2.2.2.2.2.1) (cwS n hts hGv (ax_wsn hh) rfl rfl ⟨m5, m4⟩ hrm) ⟨ax_PS_blind, hpre⟩ rfl (by rw [List.length_map]; exact hn) B.2.2.2.2.1.1 (by simp) (lv_room (by rw [ax_cats]; exact hcat)) hd ⟨hc2, hs2⟩
  exact ax_after ⟨B.1, B.2.1, B.2.2.1, B.2.2.2.1, B.2.2.2.2.1, B.2.2.2.2.2.1, fun v hv => B.2.2.2.2.2.2 v (List.mem_append_right _ hv)⟩ hrun k kx
/-- what was made in a method and isn't in its answer may be forgotten at its end -/
theorem Con_forget {I : MI} {av : List Av} {h : Hp} {n : Nat → Int} {Q Q' : Option Av → Hp → Prop} {X : String → Hp → Prop} (c : Con I av h Q X) (hQ : ∀ r h1, Q r h1 → (∃ v : Int, r = some (aI v)) ∧ (∀ k, h.2.2 k ≤ n k) ∧ (∀ k, n k ≤ h1.2.2 k) ∧ (∀ k, 0 ≤ n k) ∧ (∀ (k : Nat) (i j : Int), 0 ≤ i → i < n k → ax_rk n (h1.2.1 k i j)) ∧ Q' r (h1.1, h1.2.1, n)) : Con I av h Q' X := by
  intro l D cA z0 ad hl p e a1 a2 a3 s m args below b1 b2 b3 b4
  obtain ⟨k, o, c1, c2, c3, c4⟩ := c l D cA z0 ad hl p e a1 a2 a3 s m args below b1 b2 b3 b4
  refine ⟨k, o, c1, c2, c3, ?_⟩
  rcases c4 with ⟨⟨r, h1, ad1, e1, q, w1, w2, w3, w4⟩, L⟩ | q
  · obtain ⟨⟨v, hv⟩, q1, q2, q3, q4, q5⟩ := hQ _ _ q
    refine Or.inl ⟨⟨r, (h1.1, h1.2.1, n), ad1, e1, q5, ?_, ?_, ?_, w4⟩, L⟩
    · refine ⟨fun k i hk h0 hi => w1.1 k i hk h0 (by have := q2 k; have : i < n k := hi; omega), fun k i k' i' hk hk' h0 hi h0' hi' => w1.2.1 k i k' i' hk hk' h0 (by have := q2 k; have : i < n k := hi; omega) h0' (by have := q2 k'; have : i' < n k' := hi'; omega), w1.2.2.1, q4, q3⟩
    · intro k i h0 hi
      have := w2 k i h0 hi
      exact ⟨by show i < n k; have := q1 k; omega, this.2⟩
    · intro v' hv'
      rw [hv] at hv'
      cases hv'
      have := w3 _ hv
      exact this
  · exact Or.inr q
end RX
