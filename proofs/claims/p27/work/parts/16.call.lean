/-! ===== a method's start and ends, calls, throws ===== -/
theorem ax_cats (ad : AD) (st : List Av) : ((st.map (ax_v ad)).map fun v => v.category) = st.map ax_cat := by
  rw [List.map_map]
  exact List.map_congr_left fun v _ => ax_catv ad v
theorem ax_GG : GoodIn ax_GT ax_GT := fun w hw => ⟨hw, good_of_word (List.mem_filter.mp hw).2⟩
theorem ax_Gc {w : Cond} {ws : List Cond} (hw : w ∈ ax_GT) (h : GoodIn ax_GT ws) : GoodIn ax_GT (w :: ws) := fun x hx => (List.mem_cons.mp hx).elim (fun e => by rw [e]; exact ax_GG w hw) (h x)
theorem ax_lgs (vs : List Value) (h : ∀ v ∈ vs, v.category = 1) : (lg_sl vs).length = vs.length := by
  induction vs with
  | nil => rfl
  | cons v vs ih =>
    have h1 := h v List.mem_cons_self
    have h2 := ih fun w hw => h w (List.mem_cons_of_mem _ hw)
    simp only [lg_sl, List.flatMap_cons, List.length_append, List.length_cons] at h2 ⊢
    rw [h2]
    simp [h1]
    omega
theorem ax_lva (vs : List Value) (h : ∀ v ∈ vs, v.category = 1) : ∀ (i j : Nat) (v : Value), vs[j]? = some v → (i + j, v) ∈ lv_args i vs := by
  induction vs with
  | nil => intro i j v hv; simp at hv
  | cons w vs ih =>
    intro i j v hv
    have h1 := h w List.mem_cons_self
    have hn : ¬ w.category = 2 := by omega
    simp only [lv_args, if_neg hn]
    cases j with
    | zero =>
      simp only [List.getElem?_cons_zero, Option.some.injEq] at hv
      subst hv
      exact List.mem_cons_self
    | succ j =>
      rw [List.getElem?_cons_succ] at hv
      have := ih (fun w hw => h w (List.mem_cons_of_mem _ hw)) (i + 1) j v hv
      rw [show i + (j + 1) = i + 1 + j by omega]
      exact List.mem_cons_of_mem _ this
theorem ax_P.blind {D : va_G} {cA : Nat → ClassId} {z0 : Nat} {ad : AD} {av : List Av} {h : Hp} : FrameBlind (ax_P D cA z0 ad av h) := by
  intro a U g mk hp
  obtain ⟨h1, h2, h3, h4, h5, h6, h7, h8⟩ := hp
  exact ⟨h1, h2, va_K.moved (u := U) (U := U.calling g mk a) (Vm.Alike.refl U.vm) h3, ax_N.warm (s := U) (U := U.calling g mk a) (State.WarmedH.refl U) h4, vx_Zq.moved (u := U) (U := U.calling g mk a) (Vm.Alike.refl U.vm) h5, vx_Zq.moved (u := U) (U := U.calling g mk a) (Vm.Alike.refl U.vm) h6, h7, h8⟩
/-- from a method's start -/
theorem ax_start {I : MI} {av : List Av} {h : Hp} {Q : Option Av → Hp → Prop} {X : String → Hp → Prop} {xs : List (Option Av)} (hy : plainName (mY I).cls = true) (hsc : mSc I = none) (hown : mOwn I = (mY I).cls) (hlen : av.length ≤ mL I) (hcat : av.all (fun v => ax_cat v == 1) = true) (hxs : xs = av.map some ++ List.replicate (mL I - av.length) none) (k : Run I 0 xs [] h 0 0 Q X) : Con I av h Q X := by
  intro l D cA z0 ad hst
  have hca : ∀ v ∈ av.map (ax_v ad), v.category = 1 := by
    intro w hw
    obtain ⟨v, hv, rfl⟩ := List.mem_map.mp hw
    rw [ax_catv]
    have := List.all_eq_true.mp hcat v hv
    simpa using this
  have body : ∀ (p : Program) (e : Env) (s : State) (m : MethodId) (args : Array Value) (below : List Frame) (meth : Method) (c : Code) (s₁ : State), BodyLoose p l (mY I) (headSpec (ax_ws I) (mRm I)) (mC I) (mL I) (mRet I) e s m args below meth c s₁ → c.maxLocals = mL I → c.exceptionTable.toList = tableOf (mHH I) → ax_P D cA z0 ad av h args s →
      W p l e (mRm I) s m args below meth c s.heap [] 0 0 (vx_MQ below (ax_Q D cA z0 h.2.2 ad Q) (ax_X D cA z0 h.2.2 ad X) args s (mRm I).cells (mRm I).slots (fun q => z0 ≤ q)) (entryFrame m args (mL I)) := by
    intro p e s m args below meth c s₁ B hml ht hv
    obtain ⟨rfl, hR, hK, hN, hU, hV, hz, hok⟩ := hv
    have hts := atoms_spec (ws := ax_ws I) B.pre
    have hl := lv_entry (av.map (ax_v ad)) (n := mL I) (by rw [ax_lgs _ hca, List.length_map]; exact hlen)
    rw [lg_entry_eq]
    generalize (lg_sl (av.map (ax_v ad)) ++ List.replicate (mL I - (lg_sl (av.map (ax_v ad))).length) Slot.unset).toArray = ls at hl ⊢
    refine k l p e s m _ below meth c D cA z0 h.2.2 ad ad s.heap [] ls ⟨⟨B.exec, B.bytes, hml, ?_, fun w hw => hts w (List.mem_cons_of_mem _ hw), hK, hN, hU, hV, B.notSynchronized, (name_of_methodNamed B.named B.method).1, hst, ht, hz, B.returns, fun q hq => by rw [hsc] at hq; cases hq⟩, hR, va_S.rf, fun k i a b => ⟨b, rfl⟩, ⟨hl.1, hl.2.1, fun i v hv _ => ?_⟩, fun v hv => ?_, fun v hv => nomatch hv⟩
    · rw [hown]; exact findClass_of_methodNamed B.named
    · subst hxs
      by_cases hi : i < av.length
      · rw [List.getElem?_append_left (by rw [List.length_map]; exact hi), List.getElem?_map] at hv
        cases hz : av[i]? with
        | none => rw [hz] at hv; cases hv
        | some w =>
          rw [hz] at hv
          cases hv
          have h9 : (av.map (ax_v ad))[i]? = some (ax_v ad v) := by rw [List.getElem?_map, hz]; rfl
          have := ax_lva _ hca 0 i _ h9
          rw [Nat.zero_add] at this
          exact hl.2.2 _ this
      · rw [List.getElem?_append_right (by rw [List.length_map]; omega)] at hv
        have := List.eq_of_mem_replicate (List.mem_of_getElem? hv)
        cases this
    · subst hxs
      rcases List.mem_append.mp hv with h9 | h9
      · obtain ⟨w, hw, e⟩ := List.mem_map.mp h9
        cases e
        exact hok _ hw
      · have := List.eq_of_mem_replicate h9
        cases this
  cases hhh : mHH I with
  | nil =>
    refine vx_ofW (cc := mC I) (maxL := mL I) (ret := mRet I) hy (show ax_ws I = _ by unfold ax_ws; rw [hhh]) ?_
    intro p e s m args below meth c s₁ B hml ht hv
    refine body p e s m args below meth c s₁ B hml ?_ hv
    rw [hhh]
    cases hq : c.exceptionTable.toList with
    | nil => rfl
    | cons x _ => exact absurd (ht x (by rw [hq]; exact List.mem_cons_self)) id
  | cons hh1 hh2 =>
    refine vx_ofWH (cc := mC I) (maxL := mL I) (ret := mRet I) (hh := hh1 :: hh2) hy (show ax_ws I = _ by unfold ax_ws; rw [hhh]) ?_
    intro p e s m args below meth c s₁ B hml hv
    refine body p e s m args below meth c s₁ B hml ?_ hv
    rw [hhh]
    exact vx_table (x := mY I) B (atoms_spec (ws := ax_ws I) B.pre _ (by unfold ax_ws; rw [hhh]; exact List.mem_cons_self))
/-- as Run, where an exception of class E is thrown at the instruction -/
def RunX (I : MI) (pc : Nat) (xs : List (Option Av)) (st : List Av) (h : Hp) (cs sl : Nat) (E : String) (Q : Option Av → Hp → Prop) (X : String → Hp → Prop) : Prop :=
  ∀ (l : Launch) (p : Program) (e : Env) (s : State) (m : MethodId) (args : Array Value) (below : List Frame) (meth : Method) (c : Code) (D : va_G) (cA : Nat → ClassId) (z0 : Nat) (n0 : Nat → Int) (ad0 ad : AD) (H : Heap) (locs : List Loc) (ls : Array Slot) (q : Addr) (ce : Cell),
    ax_B I l p s m args meth c D cA z0 n0 ad0 ad h H locs ls xs st → H[q]? = some ce → ce.vm = .none → s.vm.findClass E = some ce.cls →
    vx_W p l e (mRm I) s m args below meth c H locs cs sl (vx_MQ below (ax_Q D cA z0 n0 ad0 Q) (ax_X D cA z0 n0 ad0 X) args s (mRm I).cells (mRm I).slots (fun q => z0 ≤ q)) (F0 m pc ls (st.map (ax_v ad))) q
section AXC
variable {I I' : MI} {pc index : Nat} {xs : List (Option Av)} {st : List Av} {h : Hp} {cs sl cs' sl' : Nat} {Q Q' : Option Av → Hp → Prop} {X X' : String → Hp → Prop}
theorem rx_out {E : String} (hh : mHH I = []) (hX : X E h) (hc : cs ≤ (mRm I).cells) (hs : sl ≤ (mRm I).slots) : RunX I pc xs st h cs sl E Q X := by
  intro l p e s m args below meth c D cA z0 n0 ad0 ad H locs ls q ce B h1 h2 h3
  obtain ⟨hC, hR, hS, hE, hL, hxs, hst⟩ := B
  have ht := hC.2.2.2.2.2.2.2.2.2.2.2.2.1
  rw [hh] at ht
  exact vx_out (fun x hx => by rw [ht] at hx; cases hx) hC.2.2.2.2.2.2.2.2.2.1 h1 h2 h3 (fun t ht _ => ⟨h, ad, hX, by rw [ht]; exact hR, hE, hS.F ht⟩) hS.2.2 hc hs
theorem r_iret {v : Int} (hd : decode (mC I) pc = .ok (.ireturn, 1)) (hr : mRet I = some .int ∨ (mRet I = some .boolean ∧ (v = 0 ∨ v = 1))) (hc : cs ≤ (mRm I).cells) (hs : sl ≤ (mRm I).slots) (hq : Q (some (aI v)) h) : Run I pc xs [aI v] h cs sl Q X := by
  intro l p e s m args below meth c D cA z0 n0 ad0 ad H locs ls B
  obtain ⟨hC, hR, hS, hE, hL, hxs, hst⟩ := B
  have hlk := hC.2.2.2.2.2.2.2.2.2.1
  have hret := hC.2.2.2.2.2.2.2.2.2.2.2.2.2.2.1
  have hv : ax_32 v := hst _ List.mem_cons_self
  refine W.widen hc hs (vx_ret ?_)
  have fin : ∀ t : State, t.heap = H → s.WarmedH t.vm → ax_Q D cA z0 n0 ad0 Q args s (.returned (some (.int (Int32.ofInt v)))) t := fun t ht _ => ⟨some (aI v), h, ad, rfl, hq, by rw [ht]; exact hR, hE, fun w hw => by cases hw; exact hv, hS.F ht⟩
  rcases hr with hr | ⟨hr, hv9⟩
  · exact W.zret (ty := .int) hC.1 hC.2.1 (hret.trans hr) rfl fin hS.2.2 hd hlk
  · exact W.zret (ty := .boolean) hC.1 hC.2.1 (hret.trans hr) (by rcases hv9 with rfl | rfl <;> rfl) fin hS.2.2 hd hlk
theorem r_vret (hd : decode (mC I) pc = .ok (.return_, 1)) (hr : mRet I = none) (hc : cs ≤ (mRm I).cells) (hs : sl ≤ (mRm I).slots) (hq : Q none h) : Run I pc xs [] h cs sl Q X := by
  intro l p e s m args below meth c D cA z0 n0 ad0 ad H locs ls B
  obtain ⟨hC, hR, hS, hE, hL, hxs, hst⟩ := B
  have hlk := hC.2.2.2.2.2.2.2.2.2.1
  have hret := hC.2.2.2.2.2.2.2.2.2.2.2.2.2.2.1
  refine W.widen hc hs (vx_ret ?_)
  exact W.vret hC.1 hC.2.1 (hret.trans hr) (fun t ht _ => ⟨none, h, ad, rfl, hq, by rw [ht]; exact hR, hE, fun w hw => (by cases hw), hS.F ht⟩) hS.2.2 hd hlk
theorem r_aret {r : Rf} {C : String} (hd : decode (mC I) pc = .ok (.areturn, 1)) (hr : mRet I = some (.object C)) (hc : cs ≤ (mRm I).cells) (hs : sl ≤ (mRm I).slots) (hq : Q (some (aQ r)) h) : Run I pc xs [aQ r] h cs sl Q X := by
  intro l p e s m args below meth c D cA z0 n0 ad0 ad H locs ls B
  obtain ⟨hC, hR, hS, hE, hL, hxs, hst⟩ := B
  have hlk := hC.2.2.2.2.2.2.2.2.2.1
  have hret := hC.2.2.2.2.2.2.2.2.2.2.2.2.2.2.1
  have hv : ax_k h.2.2 (aQ r) := hst _ List.mem_cons_self
  refine W.widen hc hs (vx_ret ?_)
  exact W.aret hC.1 hC.2.1 (hret.trans hr) (Or.inl ⟨C, rfl⟩) (by cases r with | none => exact Or.inl rfl | some p => exact Or.inr ⟨_, rfl⟩) (fun t ht _ => ⟨some (aQ r), h, ad, rfl, hq, by rw [ht]; exact hR, hE, fun w hw => by cases hw; exact hv, hS.F ht⟩) hS.2.2 hd hlk
/-- behind a call -/
theorem ax_after {l : Launch} {p : Program} {e : Env} {s : State} {m : MethodId} {args a : Array Value} {below : List Frame} {meth : Method} {c : Code} {D : va_G} {cA : Nat → ClassId} {z0 : Nat} {n0 : Nat → Int} {ad0 ad : AD} {H : Heap} {locs : List Loc} {ls : Array Slot} {rest : List Av} {st0 : List Value} {mc ms : Nat}
    (B : ax_B I l p s m args meth c D cA z0 n0 ad0 ad h H locs ls xs rest) (hr : vx_Run p l e (mRm I) s m args below meth c H locs cs sl mc ms (F0 m pc ls st0) (rest.map (ax_v ad)) (ax_Q D cA z0 h.2.2 ad Q' a) (ax_X D cA z0 h.2.2 ad X') (fun q => z0 ≤ q))
    (k : ∀ (r : Option Av) (h' : Hp), Q' r h' → Run I (pc + 3) xs (r.toList ++ rest) h' (cs + mc) (sl + ms) Q X) (kx : ∀ (E : String) (h' : Hp), X' E h' → RunX I pc xs rest h' (cs + mc) (sl + ms) E Q X) :
    W p l e (mRm I) s m args below meth c H locs cs sl (vx_MQ below (ax_Q D cA z0 n0 ad0 Q) (ax_X D cA z0 n0 ad0 X) args s (mRm I).cells (mRm I).slots (fun q => z0 ≤ q)) (F0 m pc ls st0) := by
  intro T hT Xs
  have hz := B.1.2.2.2.2.2.2.2.2.2.2.2.2.2.1
  rcases hr T hT Xs with ⟨v, st₀, t, T', L, h0, X', hL, e1, e2, ⟨r, h', ad', hv, hq, hR, hE, hk, hF⟩, st⟩ | ⟨q, st₀, t, T', L, E, ce, h0, X', hL, e1, e2, ⟨h', ad', hq, hR, hE, hF⟩, hce, hcv, hcl, st⟩
  · cases hv
    obtain ⟨k1, k2, k3⟩ := vx_keep h0 e1 B.2.2.1 (fun q _ z => z) (fun q z => z) hL hF
    obtain ⟨hB', hm⟩ := B.go (by rw [e1]; exact hR) k3 hE
    have hw := k r h' hq l p e s m args below meth c D cA z0 n0 ad0 ad' T'.heap (locs ++ L) ls ⟨hB'.1, hB'.2.1, hB'.2.2.1, hB'.2.2.2.1, hB'.2.2.2.2.1, hB'.2.2.2.2.2.1, fun w hw => by
      rcases List.mem_append.mp hw with g | g
      · cases r with
        | none => cases g
        | some r =>
          simp only [Option.toList_some, List.mem_singleton] at g
          subst g
          exact hk _ rfl
      · exact hB'.2.2.2.2.2.2 w g⟩
    obtain ⟨t2, a1, b1⟩ := hw T' rfl X'
    refine ⟨t2, st t2 ?_, b1⟩
    have e9 : (r.toList ++ rest).map (ax_v ad') = (r.map (ax_v ad')).toList ++ rest.map (ax_v ad) := by
      rw [List.map_append, hm]
      cases r <;> rfl
    rw [e9] at a1
    exact a1
  · obtain ⟨k1, k2, k3⟩ := vx_keep h0 e1 B.2.2.1 (fun q _ z => z) (fun q z => z) hL hF
    obtain ⟨hB', hm⟩ := B.go (by rw [e1]; exact hR) k3 hE
    have hw := kx E h' hq l p e s m args below meth c D cA z0 n0 ad0 ad' T'.heap (locs ++ L) ls q ce hB' (by rw [e1]; exact hce) hcv hcl
    rw [hm] at hw
    obtain ⟨t2, a1, b1⟩ := hw T' rfl X'
    exact ⟨t2, st.trans a1, b1⟩
/-- what is known of a method that is called by a link: an instance method of class t, or a static one -/
def ax_Mc (own : String) (index : Nat) (I' : MI) (n : Nat) : Prop := Cond.methodLink own index (mY I') ∈ ax_GT ∧ Cond.initialized (mY I').cls ∈ ax_GT ∧ (mHH I' = [] ∧ Cond.code (mY I') (mC I') (mL I') (mRet I') ∈ ax_GT ∨ mHH I' ≠ [] ∧ Cond.codeWith (mY I') (mC I') (mL I') (mRet I') (mHH I') ∈ ax_GT) ∧
  ((mY I').cls ≠ "java/lang/invoke/MethodHandle" ∧ (mY I').cls ≠ "java/lang/invoke/VarHandle" ∧ (parseMethodDescriptor (mY I').desc).map (fun d => d.parameters.length) = some n)
def ax_Mv (own : String) (index : Nat) (I' : MI) (n t : Nat) : Prop := ax_Mc own index I' n ∧ mHH I' = [] ∧ Cond.instanceMethod (mY I') ∈ ax_GT ∧ Cond.selects (mY I').cls (mY I') (mY I') ∈ ax_GT ∧ ∃ (T : u_T) (N : Nat), vwCl[t]? = some ((mY I').cls, T, N) ∧ ax_kd t = (t, N) ∧ t < 8
def ax_Ms (own : String) (index : Nat) (I' : MI) (n : Nat) : Prop := ax_Mc own index I' n ∧ (mY I').cls = own ∧ Cond.static (mY I') ∈ ax_GT
def ax_rm (I I' : MI) : Prop := (mRm I').frames + 1 ≤ (mRm I).frames ∧ 8 + (mL I' + 11) + (mRm I').locals ≤ (mRm I).locals
theorem ax_wsn (hh : mHH I' = []) : ax_ws I' = .code (mY I') (mC I') (mL I') (mRet I') :: ax_GT := by unfold ax_ws; rw [hh]
theorem ax_pre {l : Launch} {p : Program} {s : State} {m : MethodId} {args : Array Value} {meth : Method} {c : Code} {D : va_G} {cA : Nat → ClassId} {z0 : Nat} {n0 : Nat → Int} {ad0 ad : AD} {H : Heap} {locs : List Loc} {ls : Array Slot} {av : List Av}
    (B : ax_B I l p s m args meth c D cA z0 n0 ad0 ad h H locs ls xs st) (hav : ∀ v ∈ av, v ∈ st) : ∀ U : State, U.heap = H → s.WarmedH U.vm → ax_P D cA z0 ad av h (av.map (ax_v ad)).toArray U := by
  obtain ⟨hC, hR, hS, hE, hL, hxs, hst⟩ := B
  intro U hU hW
  refine ⟨rfl, by rw [hU]; exact hR, va_K.moved hW.alike hC.2.2.2.2.2.1, ax_N.warm hW hC.2.2.2.2.2.2.1, ?_, ?_, ?_, fun v hv => hst v (hav v hv)⟩
  · rw [hU]; exact vx_Zq.moved hW.alike (hC.2.2.2.2.2.2.2.1.kept hS.2.1)
  · rw [hU]; exact vx_Zq.moved hW.alike (hC.2.2.2.2.2.2.2.2.1.kept hS.2.1)
  · rw [hU]; exact Nat.le_trans hC.2.2.2.2.2.2.2.2.2.2.2.2.2.1 hS.1
theorem r_callV {n t : Nat} {i : Int} {as rest : List Av} (hm : ax_Mv (mOwn I) index I' n t) (hcon : Con I' (aR t i :: as) h Q' X') (hn : as.length = n) (hrm : ax_rm I I') (hcat : (rest.map ax_cat).sum ≤ 8) (hd : decode (mC I) pc = .ok (.invokevirtual index, 3)) (h0 : 0 ≤ i) (h1 : i < h.2.2 t) (hc : cs + (mRm I').cells = cs' ∧ cs' ≤ (mRm I).cells) (hs : sl + (mRm I').slots = sl' ∧ sl' ≤ (mRm I).slots)
    (hst0 : st = as.reverse ++ aR t i :: rest) (k : ∀ (r : Option Av) (h' : Hp), Q' r h' → Run I (pc + 3) xs (r.toList ++ rest) h' cs' sl' Q X) (kx : ∀ (E : String) (h' : Hp), X' E h' → RunX I pc xs rest h' cs' sl' E Q X) : Run I pc xs st h cs sl Q X := by
  intro l p e s m args below meth c D cA z0 n0 ad0 ad H locs ls B
  subst hst0
  obtain ⟨⟨m1, m2, m3, m4⟩, m5, m6, m7, T, N, m8, m9, m10⟩ := hm
  have hts := B.1.2.2.2.2.1
  have hcode : Cond.code (mY I') (mC I') (mL I') (mRet I') ∈ ax_GT := by
    rcases m3 with q | q
    · exact q.2
    · exact absurd m5 q.1
  obtain ⟨rfl, hc2⟩ := hc
  obtain ⟨rfl, hs2⟩ := hs
  have ha := (B.2.1.1 t i (by rw [m9]; show t < 14; omega) h0 h1).1
  rw [ax_eo m9 m10] at ha
  have hK := B.1.2.2.2.2.2.1
  have hrecv := va_recv hK (ax_at ha) m8 (q0 := 0) rfl
  have hGv : GoodIn ax_GT (wsV (mOwn I) index (mY I').cls (mY I') (ax_ws I')) := by
    unfold wsV
    refine goodIn_app (ax_Gc m1 (ax_Gc m6 (ax_Gc m7 (ax_Gc m2 (fun _ q => nomatch q))))) ?_
    rw [ax_wsn m5]
    exact ax_Gc hcode ax_GG
  have hrun := vx_runV (As := as.map (ax_v ad)) (rest := rest.map (ax_v ad)) (g := F0 m pc ls ((as.reverse ++ aR t i :: rest).map (ax_v ad))) (cells := cs) (slots := sl) (e := e) (below := below) (R := mRm I) (meth := meth) (H := H) (locs := locs) (args := args) (C := (mY I').cls) (b := ad t i) ⟨B.1.1, B.1.2.1, B.1.2.2.1, B.1.2.2.2.1, hts⟩ (hcon l D cA z0 ad B.1.2.2.2.2.2.2.2.2.2.2.2.1) (cwV n hts hGv (ax_wsn m5) rfl rfl ⟨rfl, m4⟩ hrm) ⟨ax_P.blind, hrecv, ax_pre B (av := aR t i :: as) (fun v hv => by
      rcases List.mem_cons.mp hv with rfl | hv
      · exact List.mem_append_right _ List.mem_cons_self
      · exact List.mem_append_left _ (List.mem_reverse.mpr hv))⟩ rfl (by rw [List.length_map]; exact hn) B.2.2.2.2.1.1 (by simp [ax_v]) (lv_room (by rw [ax_cats]; exact hcat)) hd ⟨hc2, hs2⟩
  exact ax_after ⟨B.1, B.2.1, B.2.2.1, B.2.2.2.1, B.2.2.2.2.1, B.2.2.2.2.2.1, fun v hv => B.2.2.2.2.2.2 v (List.mem_append_right _ (List.mem_cons_of_mem _ hv))⟩ hrun k kx
theorem r_callS {n : Nat} {as rest : List Av} (hm : ax_Ms (mOwn I) index I' n) (hh : mHH I' = []) (hcon : Con I' as h Q' X') (hn : as.length = n) (hrm : ax_rm I I') (hcat : (rest.map ax_cat).sum ≤ 8) (hd : decode (mC I) pc = .ok (.invokestatic index, 3)) (hc : cs + (mRm I').cells = cs' ∧ cs' ≤ (mRm I).cells) (hs : sl + (mRm I').slots = sl' ∧ sl' ≤ (mRm I).slots)
    (hst0 : st = as.reverse ++ rest) (k : ∀ (r : Option Av) (h' : Hp), Q' r h' → Run I (pc + 3) xs (r.toList ++ rest) h' cs' sl' Q X) (kx : ∀ (E : String) (h' : Hp), X' E h' → RunX I pc xs rest h' cs' sl' E Q X) : Run I pc xs st h cs sl Q X := by
  intro l p e s m args below meth c D cA z0 n0 ad0 ad H locs ls B
  subst hst0
  obtain ⟨⟨m1, m2, m3, m4⟩, m5, m6⟩ := hm
  have hts := B.1.2.2.2.2.1
  have hcode : Cond.code (mY I') (mC I') (mL I') (mRet I') ∈ ax_GT := by
    rcases m3 with q | q
    · exact q.2
    · exact absurd hh q.1
  obtain ⟨rfl, hc2⟩ := hc
  obtain ⟨rfl, hs2⟩ := hs
  have hGv : GoodIn ax_GT (wsS (mOwn I) index (mY I') (ax_ws I')) := by
    unfold wsS
    refine goodIn_app (ax_Gc m1 (ax_Gc m6 (ax_Gc (by rw [← m5]; exact m2) (fun _ q => nomatch q)))) ?_
    rw [ax_wsn hh]
    exact ax_Gc hcode ax_GG
  have hrun := vx_runS (As := as.map (ax_v ad)) (rest := rest.map (ax_v ad)) (g := F0 m pc ls ((as.reverse ++ rest).map (ax_v ad))) (cells := cs) (slots := sl) (e := e) (below := below) (R := mRm I) (meth := meth) (H := H) (locs := locs) (args := args) ⟨B.1.1, B.1.2.1, B.1.2.2.1, B.1.2.2.2.1, hts⟩ (hcon l D cA z0 ad B.1.2.2.2.2.2.2.2.2.2.2.2.1) (cwS n hts hGv (ax_wsn hh) rfl rfl ⟨m5, m4⟩ hrm) ⟨ax_P.blind, ax_pre B (av := as) (fun v hv => List.mem_append_left _ (List.mem_reverse.mpr hv))⟩ rfl (by rw [List.length_map]; exact hn) B.2.2.2.2.1.1 (by simp) (lv_room (by rw [ax_cats]; exact hcat)) hd ⟨hc2, hs2⟩
  exact ax_after ⟨B.1, B.2.1, B.2.2.1, B.2.2.2.1, B.2.2.2.2.1, B.2.2.2.2.2.1, fun v hv => B.2.2.2.2.2.2 v (List.mem_append_right _ hv)⟩ hrun k kx
end AXC
