/-! ===== constructors, nest mates, methods with handlers, the JDK's own, throws and catches ===== -/
section AXD
variable {I I' : MI} {pc index : Nat} {xs : List (Option Av)} {st : List Av} {h : Hp} {cs sl cs' sl' : Nat} {Q Q' : Option Av → Hp → Prop} {X X' : String → Hp → Prop}
theorem r_objInit {t : Nat} {i : Int} (hl : Cond.methodLink (mOwn I) index Lib.objectInit ∈ ax_GT ∧ Cond.instanceMethod Lib.objectInit ∈ ax_GT ∧ Cond.code Lib.objectInit ⟨#[0xb1]⟩ 1 none ∈ ax_GT) (hrm : 1 ≤ (mRm I).frames ∧ (st.map ax_cat).sum + 12 ≤ (mRm I).locals) (hd : decode (mC I) pc = .ok (.invokespecial index, 3)) (k : Run I (pc + 3) xs st h cs sl Q X) : Run I pc xs (aR t i :: st) h cs sl Q X := by
  intro l p e s m args below meth c D cA z0 n0 ad0 ad H locs ls B
  have hts := B.1.2.2.2.2.1
  refine W.objInit B.1.1 B.1.2.1 B.1.2.2.2.1 (hts _ hl.1) (hts _ hl.2.1) (hts _ hl.2.2) (g := F0 m pc ls ((aR t i :: st).map (ax_v ad))) rfl (by rw [B.1.2.2.1]; exact B.2.2.2.2.1.1) (rest := st.map (ax_v ad)) rfl hd hrm.1 (by rw [ax_cats]; show 2 * 0 + _ + 12 ≤ _; have := hrm.2; omega) ?_
  exact k l p e s m args below meth c D cA z0 n0 ad0 ad H locs ls ⟨B.1, B.2.1, B.2.2.1, B.2.2.2.1, B.2.2.2.2.1, B.2.2.2.2.2.1, fun v hv => B.2.2.2.2.2.2 v (List.mem_cons_of_mem _ hv)⟩
def ax_Mi (own : String) (index : Nat) (I' : MI) (n : Nat) : Prop := ax_Mc own index I' n ∧ mHH I' = [] ∧ mRet I' = none ∧ (mY I').name = "<init>" ∧ Cond.instanceMethod (mY I') ∈ ax_GT
theorem r_callI {n t : Nat} {i : Int} {as rest : List Av} (hm : ax_Mi (mOwn I) index I' n) (hcon : Con I' (aR t i :: as) h Q' X') (hn : as.length = n) (hrm : ax_rm I I') (hcat : (rest.map ax_cat).sum ≤ 8) (hd : decode (mC I) pc = .ok (.invokespecial index, 3)) (hc : cs + (mRm I').cells = cs' ∧ cs' ≤ (mRm I).cells) (hs : sl + (mRm I').slots = sl' ∧ sl' ≤ (mRm I).slots)
    (hst0 : st = as.reverse ++ aR t i :: rest) (k : ∀ (r : Option Av) (h' : Hp), Q' r h' → Run I (pc + 3) xs (r.toList ++ rest) h' cs' sl' Q X) (kx : ∀ (E : String) (h' : Hp), X' E h' → RunX I pc xs rest h' cs' sl' E Q X) : Run I pc xs st h cs sl Q X := by
  intro l p e s m args below meth c D cA z0 n0 ad0 ad H locs ls B
  subst hst0
  obtain ⟨⟨m1, m2, m3, m4⟩, m5, m6, m7, m8⟩ := hm
  have hts := B.1.2.2.2.2.1
  have hcode : Cond.code (mY I') (mC I') (mL I') none ∈ ax_GT := by
    rw [← m6]
    rcases m3 with q | q
    · exact q.2
    · exact absurd m5 q.1
  obtain ⟨rfl, hc2⟩ := hc
  obtain ⟨rfl, hs2⟩ := hs
  have hws : ax_ws I' = .code (mY I') (mC I') (mL I') none :: ax_GT := by rw [← m6]; exact ax_wsn m5
  have hG : GoodIn ax_GT (ax_ws I') := by rw [hws]; exact ax_Gc hcode ax_GG
  have hrun := vx_runI (As := as.map (ax_v ad)) (rest := rest.map (ax_v ad)) (g := F0 m pc ls ((as.reverse ++ aR t i :: rest).map (ax_v ad))) (cells := cs) (slots := sl) (e := e) (below := below) (R := mRm I) (meth := meth) (H := H) (locs := locs) (args := args) (b := ad t i) ⟨B.1.1, B.1.2.1, B.1.2.2.1, B.1.2.2.2.1, hts⟩ (hcon l D cA z0 ad B.1.2.2.2.2.2.2.2.2.2.2.2.1) (cwI n hts hG hws rfl rfl (hts _ m2) (hts _ m1) (hts _ m8) m7 m4 hrm) ⟨ax_P.blind, ax_pre B (av := aR t i :: as) (fun v hv => by
      rcases List.mem_cons.mp hv with rfl | hv
      · exact List.mem_append_right _ List.mem_cons_self
      · exact List.mem_append_left _ (List.mem_reverse.mpr hv))⟩ rfl (by rw [List.length_map]; exact hn) B.2.2.2.2.1.1 (by simp [ax_v]) (lv_room (by rw [ax_cats]; exact hcat)) hd ⟨hc2, hs2⟩
  exact ax_after ⟨B.1, B.2.1, B.2.2.1, B.2.2.2.1, B.2.2.2.2.1, B.2.2.2.2.2.1, fun v hv => B.2.2.2.2.2.2 v (List.mem_append_right _ (List.mem_cons_of_mem _ hv))⟩ hrun k kx
/-- a nest mate's private constructor or static method -/
def ax_Mn (own : String) (index : Nat) (I' : MI) (n : Nat) : Prop := Cond.methodLinkNest own index (mY I') RX6 ∈ ax_NW ∧ Cond.initialized (mY I').cls ∈ ax_GT ∧ mHH I' = [] ∧ Cond.code (mY I') (mC I') (mL I') (mRet I') ∈ ax_GT ∧
  ((mY I').cls ≠ "java/lang/invoke/MethodHandle" ∧ (mY I').cls ≠ "java/lang/invoke/VarHandle" ∧ (parseMethodDescriptor (mY I').desc).map (fun d => d.parameters.length) = some n)
theorem r_callIN {n t : Nat} {i : Int} {as rest : List Av} (hm : ax_Mn (mOwn I) index I' n ∧ mRet I' = none ∧ (mY I').name = "<init>" ∧ Cond.instanceMethod (mY I') ∈ ax_GT) (hcon : Con I' (aR t i :: as) h Q' X') (hn : as.length = n) (hrm : ax_rm I I') (hcat : (rest.map ax_cat).sum ≤ 8) (hd : decode (mC I) pc = .ok (.invokespecial index, 3)) (hc : cs + (mRm I').cells = cs' ∧ cs' ≤ (mRm I).cells) (hs : sl + (mRm I').slots = sl' ∧ sl' ≤ (mRm I).slots)
    (hst0 : st = as.reverse ++ aR t i :: rest) (k : ∀ (r : Option Av) (h' : Hp), Q' r h' → Run I (pc + 3) xs (r.toList ++ rest) h' cs' sl' Q X) (kx : ∀ (E : String) (h' : Hp), X' E h' → RunX I pc xs rest h' cs' sl' E Q X) : Run I pc xs st h cs sl Q X := by
  intro l p e s m args below meth c D cA z0 n0 ad0 ad H locs ls B
  subst hst0
  obtain ⟨⟨m1, m2, m3, m4, m5⟩, m6, m7, m8⟩ := hm
  have hts := B.1.2.2.2.2.1
  obtain ⟨rfl, hc2⟩ := hc
  obtain ⟨rfl, hs2⟩ := hs
  rw [m6] at m4
  have hws : ax_ws I' = .code (mY I') (mC I') (mL I') none :: ax_GT := by rw [← m6]; exact ax_wsn m3
  have hG : GoodIn ax_GT (ax_ws I') := by rw [hws]; exact ax_Gc m4 ax_GG
  have hrun := vx_runIN (host := RX6) (As := as.map (ax_v ad)) (rest := rest.map (ax_v ad)) (g := F0 m pc ls ((as.reverse ++ aR t i :: rest).map (ax_v ad))) (cells := cs) (slots := sl) (e := e) (below := below) (R := mRm I) (meth := meth) (H := H) (locs := locs) (args := args) (b := ad t i) ⟨B.1.1, B.1.2.1, B.1.2.2.1, B.1.2.2.2.1, hts⟩ (hcon l D cA z0 ad B.1.2.2.2.2.2.2.2.2.2.2.2.1) ⟨va_cnB n hts hG hws rfl rfl (B.1.2.2.2.2.2.2.1.1 _ m1) (hts _ m2) m5 hrm, m7, hts _ m8⟩ ⟨ax_P.blind, ax_pre B (av := aR t i :: as) (fun v hv => by
      rcases List.mem_cons.mp hv with rfl | hv
      · exact List.mem_append_right _ List.mem_cons_self
      · exact List.mem_append_left _ (List.mem_reverse.mpr hv))⟩ rfl (by rw [List.length_map]; exact hn) B.2.2.2.2.1.1 (by simp [ax_v]) (lv_room (by rw [ax_cats]; exact hcat)) hd ⟨hc2, hs2⟩
  exact ax_after ⟨B.1, B.2.1, B.2.2.1, B.2.2.2.1, B.2.2.2.2.1, B.2.2.2.2.2.1, fun v hv => B.2.2.2.2.2.2 v (List.mem_append_right _ (List.mem_cons_of_mem _ hv))⟩ hrun k kx
theorem r_callSN {n : Nat} {as rest : List Av} (hm : ax_Mn (mOwn I) index I' n ∧ Cond.static (mY I') ∈ ax_GT) (hcon : Con I' as h Q' X') (hn : as.length = n) (hrm : ax_rm I I') (hcat : (rest.map ax_cat).sum ≤ 8) (hd : decode (mC I) pc = .ok (.invokestatic index, 3)) (hc : cs + (mRm I').cells = cs' ∧ cs' ≤ (mRm I).cells) (hs : sl + (mRm I').slots = sl' ∧ sl' ≤ (mRm I).slots)
    (hst0 : st = as.reverse ++ rest) (k : ∀ (r : Option Av) (h' : Hp), Q' r h' → Run I (pc + 3) xs (r.toList ++ rest) h' cs' sl' Q X) (kx : ∀ (E : String) (h' : Hp), X' E h' → RunX I pc xs rest h' cs' sl' E Q X) : Run I pc xs st h cs sl Q X := by
  intro l p e s m args below meth c D cA z0 n0 ad0 ad H locs ls B
  subst hst0
  obtain ⟨⟨m1, m2, m3, m4, m5⟩, m6⟩ := hm
  have hts := B.1.2.2.2.2.1
  obtain ⟨rfl, hc2⟩ := hc
  obtain ⟨rfl, hs2⟩ := hs
  have hG : GoodIn ax_GT (ax_ws I') := by rw [ax_wsn m3]; exact ax_Gc m4 ax_GG
  have hrun := vx_runSN (host := RX6) (As := as.map (ax_v ad)) (rest := rest.map (ax_v ad)) (g := F0 m pc ls ((as.reverse ++ rest).map (ax_v ad))) (cells := cs) (slots := sl) (e := e) (below := below) (R := mRm I) (meth := meth) (H := H) (locs := locs) (args := args) ⟨B.1.1, B.1.2.1, B.1.2.2.1, B.1.2.2.2.1, hts⟩ (hcon l D cA z0 ad B.1.2.2.2.2.2.2.2.2.2.2.2.1) ⟨va_cnB n hts hG (ax_wsn m3) rfl rfl (B.1.2.2.2.2.2.2.1.1 _ m1) (hts _ m2) m5 hrm, hts _ m6, trivial⟩ ⟨ax_P.blind, ax_pre B (av := as) (fun v hv => List.mem_append_left _ (List.mem_reverse.mpr hv))⟩ rfl (by rw [List.length_map]; exact hn) B.2.2.2.2.1.1 (by simp) (lv_room (by rw [ax_cats]; exact hcat)) hd ⟨hc2, hs2⟩
  exact ax_after ⟨B.1, B.2.1, B.2.2.1, B.2.2.2.1, B.2.2.2.2.1, B.2.2.2.2.2.1, fun v hv => B.2.2.2.2.2.2 v (List.mem_append_right _ hv)⟩ hrun k kx
/-- a static method with a table of handlers -/
theorem r_callSX {n : Nat} {as rest : List Av} (hm : ax_Ms (mOwn I) index I' n) (hh : mHH I' ≠ []) (hcon : Con I' as h Q' X') (hn : as.length = n) (hrm : ax_rm I I') (hcat : (rest.map ax_cat).sum ≤ 8) (hd : decode (mC I) pc = .ok (.invokestatic index, 3)) (hc : cs + (mRm I').cells = cs' ∧ cs' ≤ (mRm I).cells) (hs : sl + (mRm I').slots = sl' ∧ sl' ≤ (mRm I).slots)
    (hst0 : st = as.reverse ++ rest) (k : ∀ (r : Option Av) (h' : Hp), Q' r h' → Run I (pc + 3) xs (r.toList ++ rest) h' cs' sl' Q X) (kx : ∀ (E : String) (h' : Hp), X' E h' → RunX I pc xs rest h' cs' sl' E Q X) : Run I pc xs st h cs sl Q X := by
  intro l p e s m args below meth c D cA z0 n0 ad0 ad H locs ls B
  subst hst0
  obtain ⟨⟨m1, m2, m3, m4⟩, m5, m6⟩ := hm
  have hts := B.1.2.2.2.2.1
  have hcode : Cond.codeWith (mY I') (mC I') (mL I') (mRet I') (mHH I') ∈ ax_GT := by
    rcases m3 with q | q
    · exact absurd q.1 hh
    · exact q.2
  obtain ⟨rfl, hc2⟩ := hc
  obtain ⟨rfl, hs2⟩ := hs
  have hws : ax_ws I' = .codeWith (mY I') (mC I') (mL I') (mRet I') (mHH I') :: ax_GT := by
    unfold ax_ws
    cases hz : mHH I' with
    | nil => exact absurd hz hh
    | cons _ _ => rfl
  have hG : GoodIn ax_GT (ax_ws I') := by rw [hws]; exact ax_Gc hcode ax_GG
  have hcw : Cond.codeWith (mY I') (mC I') (mL I') (mRet I') (mHH I') ∈ ax_ws I' := by rw [hws]; exact List.mem_cons_self
  have hrun := vx_runSX (hh := mHH I') (As := as.map (ax_v ad)) (rest := rest.map (ax_v ad)) (g := F0 m pc ls ((as.reverse ++ rest).map (ax_v ad))) (cells := cs) (slots := sl) (e := e) (below := below) (R := mRm I) (meth := meth) (H := H) (locs := locs) (args := args) ⟨B.1.1, B.1.2.1, B.1.2.2.1, B.1.2.2.2.1, hts⟩ (hcon l D cA z0 ad B.1.2.2.2.2.2.2.2.2.2.2.2.1) ⟨⟨rfl, rfl, hrm.1, hrm.2, pay_in hts hG, hcw⟩, hts _ hcode, hts _ m2, ⟨m4.1, m4.2.1⟩, fun sig h9 => by
      have h2 := m4.2.2
      rw [h9] at h2
      exact (Option.some.inj h2).symm, hts _ m1, hts _ m6⟩ ⟨ax_P.blind, ax_pre B (av := as) (fun v hv => List.mem_append_left _ (List.mem_reverse.mpr hv))⟩ rfl (by rw [List.length_map]; exact hn) B.2.2.2.2.1.1 (by simp) (lv_room (by rw [ax_cats]; exact hcat)) hd ⟨hc2, hs2⟩
  exact ax_after ⟨B.1, B.2.1, B.2.2.1, B.2.2.2.1, B.2.2.2.2.1, B.2.2.2.2.2.1, fun v hv => B.2.2.2.2.2.2 v (List.mem_append_right _ hv)⟩ hrun k kx
def ax_mw (own : String) (index : Nat) (y : MethodName) (b : ByteArray) : Prop := Cond.methodLink own index y ∈ ax_GT ∧ Cond.static y ∈ ax_GT ∧ Cond.initialized "java/lang/Math" ∈ ax_GT ∧ Cond.code y b 2 (some .int) ∈ ax_GT
theorem r_max {x y : Int} (hl : ax_mw (mOwn I) index Lib.Math.max.name Lib.Math.max.code) (hrm : 1 ≤ (mRm I).frames ∧ (st.map ax_cat).sum + 13 ≤ (mRm I).locals) (hc : cs ≤ (mRm I).cells) (hs : sl ≤ (mRm I).slots) (hd : decode (mC I) pc = .ok (.invokestatic index, 3)) (k : Run I (pc + 3) xs (aI (if x < y then y else x) :: st) h cs sl Q X) : Run I pc xs (aI y :: aI x :: st) h cs sl Q X := by
  intro l p e s m args below meth c D cA z0 n0 ad0 ad H locs ls B
  have hts := B.1.2.2.2.2.1
  have kx : ax_32 x := B.2.2.2.2.2.2 _ (List.mem_cons_of_mem _ List.mem_cons_self)
  have ky : ax_32 y := B.2.2.2.2.2.2 _ List.mem_cons_self
  refine va_mmax B.1.1 B.1.2.1 (B.1.2.2.1.trans B.2.2.2.2.1.1.symm) B.1.2.2.2.1 (hts _ hl.1) (hts _ hl.2.1) (hts _ hl.2.2.1) (hts _ hl.2.2.2) hrm.1 (by rw [ax_cats]; exact hrm.2) hc hs hd ?_
  have e9 : (if Int32.ofInt x < Int32.ofInt y then Int32.ofInt y else Int32.ofInt x) = Int32.ofInt (if x < y then y else x) := by
    simp only [ax_lt kx ky]
    split <;> rfl
  rw [e9]
  refine k l p e s m args below meth c D cA z0 n0 ad0 ad H locs ls ⟨B.1, B.2.1, B.2.2.1, B.2.2.2.1, B.2.2.2.2.1, B.2.2.2.2.2.1, List.forall_mem_cons.mpr ⟨?_, fun v hv => B.2.2.2.2.2.2 v (List.mem_cons_of_mem _ (List.mem_cons_of_mem _ hv))⟩⟩
  show ax_32 (if x < y then y else x)
  split <;> assumption
theorem r_min {x y : Int} (hl : ax_mw (mOwn I) index Lib.Math.min.name Lib.Math.min.code) (hrm : 1 ≤ (mRm I).frames ∧ (st.map ax_cat).sum + 13 ≤ (mRm I).locals) (hc : cs ≤ (mRm I).cells) (hs : sl ≤ (mRm I).slots) (hd : decode (mC I) pc = .ok (.invokestatic index, 3)) (k : Run I (pc + 3) xs (aI (if y < x then y else x) :: st) h cs sl Q X) : Run I pc xs (aI y :: aI x :: st) h cs sl Q X := by
  intro l p e s m args below meth c D cA z0 n0 ad0 ad H locs ls B
  have hts := B.1.2.2.2.2.1
  have kx : ax_32 x := B.2.2.2.2.2.2 _ (List.mem_cons_of_mem _ List.mem_cons_self)
  have ky : ax_32 y := B.2.2.2.2.2.2 _ List.mem_cons_self
  refine va_mmin B.1.1 B.1.2.1 (B.1.2.2.1.trans B.2.2.2.2.1.1.symm) B.1.2.2.2.1 (hts _ hl.1) (hts _ hl.2.1) (hts _ hl.2.2.1) (hts _ hl.2.2.2) hrm.1 (by rw [ax_cats]; exact hrm.2) hc hs hd ?_
  have e9 : (if Int32.ofInt y < Int32.ofInt x then Int32.ofInt y else Int32.ofInt x) = Int32.ofInt (if y < x then y else x) := by
    simp only [ax_lt ky kx]
    split <;> rfl
  rw [e9]
  refine k l p e s m args below meth c D cA z0 n0 ad0 ad H locs ls ⟨B.1, B.2.1, B.2.2.1, B.2.2.2.1, B.2.2.2.2.1, B.2.2.2.2.2.1, List.forall_mem_cons.mpr ⟨?_, fun v hv => B.2.2.2.2.2.2 v (List.mem_cons_of_mem _ (List.mem_cons_of_mem _ hv))⟩⟩
  show ax_32 (if y < x then y else x)
  split <;> assumption
def ax_xn : List String := ["java/lang/RuntimeException", "java/lang/Exception"]
/-- what is known of the class of a throw, by its constructor's link -/
def ax_Th (own : String) (ik ic : Nat) (E : String) : Prop := own = RX6 ∧ Bundle.fit E = true ∧ Cond.classLink own ik E ∈ ax_GT ∧ Cond.initialized E ∈ ax_GT ∧ (∀ w ∈ vx_atS own ic E ax_xn, (w ∈ ax_GT ∨ w ∈ ax_NW) ∧ vx_ot w = true)
theorem r_throw {E text : String} {ik is ic : Nat} (hh : mHH I = []) (ht : ax_Th (mOwn I) ik ic E) (hstr : (is, text) ∈ ax_strs) (d0 : decode (mC I) pc = .ok (.new ik, 3)) (d3 : decode (mC I) (pc + 3) = .ok (.dup, 1)) (d4 : decode (mC I) (pc + 4) = .ok (.ldc is, 2)) (d6 : decode (mC I) (pc + 6) = .ok (.invokespecial ic, 3)) (d9 : decode (mC I) (pc + 9) = .ok (.athrow, 1))
    (hrm : 6 ≤ (mRm I).frames ∧ 82 ≤ (mRm I).locals ∧ cs + 1 ≤ (mRm I).cells ∧ sl + 6 ≤ (mRm I).slots) (hX : X E h) : Run I pc xs [] h cs sl Q X := by
  intro l p e s m args below meth c D cA z0 n0 ad0 ad H locs ls B
  obtain ⟨hC, hR, hS, hE, hL, hxs, hst⟩ := B
  have htb := hC.2.2.2.2.2.2.2.2.2.2.2.2.1
  rw [hh] at htb
  obtain ⟨t1, t2, t3, t4, t5⟩ := ht
  obtain ⟨sa, hsa⟩ := hC.2.2.2.2.2.2.1.2.2.2.2.1 _ hstr
  have hts := hC.2.2.2.2.1
  refine vx_throwS (names := ax_xn) (sa := sa) (text := text) hC.1 hC.2.1 hC.2.2.2.2.2.2.2.2.2.2.2.1 hC.2.2.2.1 t2 (by decide +kernel) (hts _ t3) (hts _ t4) (by rw [t1]; exact hsa) (fun w hw => ?_) (fun w hw => ?_) hC.2.2.2.2.2.2.2.1 hC.2.2.2.2.2.2.2.2.1 hS (hL.1.trans hC.2.2.1.symm) d0 d3 d4 d6 d9 (fun x hx => by rw [htb] at hx; cases hx) (by show 2 + 3 < _; have := hrm.1; omega) (by show 0 + (13 * (2 + 1) + 43) ≤ _; have := hrm.2.1; omega) hrm.2.2.1 hrm.2.2.2 hC.2.2.2.2.2.2.2.2.2.1 (fun t h1 h2 h3 => ⟨h, ad, hX, ?_, hE, ?_⟩) hS.2.2 hrm.2.2.1 hrm.2.2.2
  · rcases (t5 w hw).1 with q | q
    · exact hts _ q
    · have h9 := hC.2.2.2.2.2.2.1.1 w q
      refine va_Nw.use ?_ h9
      simp only [ax_NW, List.mem_cons, List.not_mem_nil, or_false] at q
      rcases q with rfl | rfl | rfl | rfl | rfl | rfl | rfl | rfl | rfl | rfl | rfl | rfl | rfl | rfl <;> rfl
  · rcases List.mem_cons.mp hw with rfl | hw
    · rfl
    · rcases List.mem_cons.mp hw with rfl | hw
      · rfl
      · exact (t5 w hw).2
  · refine ⟨fun k i a b d => ⟨(hR.1 k i a b d).1.kept (h3 _ (hR.1 k i a b d).1.lt), (hR.1 k i a b d).2⟩, hR.2⟩
  · exact ⟨Nat.le_trans hS.1 h2, fun q a b => (h3 q (Nat.lt_of_lt_of_le a hS.1)).trans (hS.2.1 q a b)⟩
theorem r_throwW {E text : String} {ik is ic : Nat} (hh : mHH I = []) (ht : ax_Th (mOwn I) ik ic E) (hstr : (is, text) ∈ ax_strs) (d0 : decode (mC I) pc = .ok (.new ik, 3)) (d3 : decode (mC I) (pc + 3) = .ok (.dup, 1)) (d4 : decode (mC I) (pc + 4) = .ok (.ldc_w is, 3)) (d7 : decode (mC I) (pc + 7) = .ok (.invokespecial ic, 3)) (d10 : decode (mC I) (pc + 10) = .ok (.athrow, 1))
    (hrm : 6 ≤ (mRm I).frames ∧ 82 ≤ (mRm I).locals ∧ cs + 1 ≤ (mRm I).cells ∧ sl + 6 ≤ (mRm I).slots) (hX : X E h) : Run I pc xs [] h cs sl Q X := by
  intro l p e s m args below meth c D cA z0 n0 ad0 ad H locs ls B
  obtain ⟨hC, hR, hS, hE, hL, hxs, hst⟩ := B
  have htb := hC.2.2.2.2.2.2.2.2.2.2.2.2.1
  rw [hh] at htb
  obtain ⟨t1, t2, t3, t4, t5⟩ := ht
  obtain ⟨sa, hsa⟩ := hC.2.2.2.2.2.2.1.2.2.2.2.1 _ hstr
  have hts := hC.2.2.2.2.1
  refine vx_throwSW (names := ax_xn) (sa := sa) (text := text) hC.1 hC.2.1 hC.2.2.2.2.2.2.2.2.2.2.2.1 hC.2.2.2.1 t2 (by decide +kernel) (hts _ t3) (hts _ t4) (by rw [t1]; exact hsa) (fun w hw => ?_) (fun w hw => ?_) hC.2.2.2.2.2.2.2.1 hC.2.2.2.2.2.2.2.2.1 hS (hL.1.trans hC.2.2.1.symm) d0 d3 d4 d7 d10 (fun x hx => by rw [htb] at hx; cases hx) (by show 2 + 3 < _; have := hrm.1; omega) (by show 0 + (13 * (2 + 1) + 43) ≤ _; have := hrm.2.1; omega) hrm.2.2.1 hrm.2.2.2 hC.2.2.2.2.2.2.2.2.2.1 (fun t h1 h2 h3 => ⟨h, ad, hX, ?_, hE, ?_⟩) hS.2.2 hrm.2.2.1 hrm.2.2.2
  · rcases (t5 w hw).1 with q | q
    · exact hts _ q
    · have h9 := hC.2.2.2.2.2.2.1.1 w q
      refine va_Nw.use ?_ h9
      simp only [ax_NW, List.mem_cons, List.not_mem_nil, or_false] at q
      rcases q with rfl | rfl | rfl | rfl | rfl | rfl | rfl | rfl | rfl | rfl | rfl | rfl | rfl | rfl <;> rfl
  · rcases List.mem_cons.mp hw with rfl | hw
    · rfl
    · rcases List.mem_cons.mp hw with rfl | hw
      · rfl
      · exact (t5 w hw).2
  · refine ⟨fun k i a b d => ⟨(hR.1 k i a b d).1.kept (h3 _ (hR.1 k i a b d).1.lt), (hR.1 k i a b d).2⟩, hR.2⟩
  · exact ⟨Nat.le_trans hS.1 h2, fun q a b => (h3 q (Nat.lt_of_lt_of_le a hS.1)).trans (hS.2.1 q a b)⟩
end AXD
