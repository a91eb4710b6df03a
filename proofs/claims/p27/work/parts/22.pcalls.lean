/-! ===== shapes of contracts, and calls by shape (printed by wip/p27/tools/pcalls.py) ===== -/
/-- it answers r, and leaves the heap h2 -/
def Det (I : MI) (av : List Av) (h : Hp) (r : Option Av) (h2 : Hp) : Prop := Con I av h (fun r1 h1 => r1 = r ∧ h1 = h2) (fun _ _ => False)
/-- where P holds, it answers r; else it throws E; the heap stays -/
def Need (I : MI) (av : List Av) (h : Hp) (P : Prop) (r : Option Av) (E : String) : Prop := Con I av h (fun r1 h1 => P ∧ r1 = r ∧ h1 = h) (fun E1 h1 => E1 = E ∧ h1 = h ∧ ¬ P)
/-- it answers something that Q tells, with a heap -/
def Rel (I : MI) (av : List Av) (h : Hp) (Q : Option Av → Hp → Prop) : Prop := Con I av h Q (fun _ _ => False)
section PC
variable {I I' : MI} {pc index : Nat} {xs : List (Option Av)} {st : List Av} {h : Hp} {cs sl cs' sl' : Nat} {Q : Option Av → Hp → Prop} {X : String → Hp → Prop}
theorem d1_V {n t : Nat} {i : Int} {as rest : List Av} (hm : ax_Mv (mOwn I) index I' n t) {v : Av} {h2 : Hp} (hcon : Det I' (aR t i :: as) h (some v) h2) (hn : as.length = n) (hrm : ax_rm I I') (hcat : (rest.map ax_cat).sum ≤ 8) (hd : decode (mC I) pc = .ok (.invokevirtual index, 3)) (h0 : 0 ≤ i) (h1 : i < h.2.2 t) (hc : cs + (mRm I').cells = cs' ∧ cs' ≤ (mRm I).cells) (hs : sl + (mRm I').slots = sl' ∧ sl' ≤ (mRm I).slots) (hst0 : st = as.reverse ++ aR t i :: rest) (k : Run I (pc + 3) xs (v :: rest) h2 cs' sl' Q X) : Run I pc xs st h cs sl Q X := by
  refine r_callV hm hcon hn hrm hcat hd h0 h1 hc hs hst0 (fun r h' hq => ?_) (fun E h' hx => hx.elim)
  obtain ⟨rfl, rfl⟩ := hq
  exact k
theorem n1_V {n t : Nat} {i : Int} {as rest : List Av} (hm : ax_Mv (mOwn I) index I' n t) {v : Av} {P : Prop} {E : String} (hcon : Need I' (aR t i :: as) h P (some v) E) (hn : as.length = n) (hrm : ax_rm I I') (hcat : (rest.map ax_cat).sum ≤ 8) (hd : decode (mC I) pc = .ok (.invokevirtual index, 3)) (h0 : 0 ≤ i) (h1 : i < h.2.2 t) (hc : cs + (mRm I').cells = cs' ∧ cs' ≤ (mRm I).cells) (hs : sl + (mRm I').slots = sl' ∧ sl' ≤ (mRm I).slots) (hst0 : st = as.reverse ++ aR t i :: rest) (k : P → Run I (pc + 3) xs (v :: rest) h cs' sl' Q X) (kx : ¬ P → RunX I pc xs rest h cs' sl' E Q X) : Run I pc xs st h cs sl Q X := by
  refine r_callV hm hcon hn hrm hcat hd h0 h1 hc hs hst0 (fun r h' hq => ?_) (fun E' h' hx => ?_)
  · obtain ⟨hp, rfl, rfl⟩ := hq
    exact k hp
  · obtain ⟨rfl, rfl, hp⟩ := hx
    exact kx hp
theorem d0_V {n t : Nat} {i : Int} {as rest : List Av} (hm : ax_Mv (mOwn I) index I' n t)  {h2 : Hp} (hcon : Det I' (aR t i :: as) h (none) h2) (hn : as.length = n) (hrm : ax_rm I I') (hcat : (rest.map ax_cat).sum ≤ 8) (hd : decode (mC I) pc = .ok (.invokevirtual index, 3)) (h0 : 0 ≤ i) (h1 : i < h.2.2 t) (hc : cs + (mRm I').cells = cs' ∧ cs' ≤ (mRm I).cells) (hs : sl + (mRm I').slots = sl' ∧ sl' ≤ (mRm I).slots) (hst0 : st = as.reverse ++ aR t i :: rest) (k : Run I (pc + 3) xs (rest) h2 cs' sl' Q X) : Run I pc xs st h cs sl Q X := by
  refine r_callV hm hcon hn hrm hcat hd h0 h1 hc hs hst0 (fun r h' hq => ?_) (fun E h' hx => hx.elim)
  obtain ⟨rfl, rfl⟩ := hq
  exact k
theorem n0_V {n t : Nat} {i : Int} {as rest : List Av} (hm : ax_Mv (mOwn I) index I' n t)  {P : Prop} {E : String} (hcon : Need I' (aR t i :: as) h P (none) E) (hn : as.length = n) (hrm : ax_rm I I') (hcat : (rest.map ax_cat).sum ≤ 8) (hd : decode (mC I) pc = .ok (.invokevirtual index, 3)) (h0 : 0 ≤ i) (h1 : i < h.2.2 t) (hc : cs + (mRm I').cells = cs' ∧ cs' ≤ (mRm I).cells) (hs : sl + (mRm I').slots = sl' ∧ sl' ≤ (mRm I).slots) (hst0 : st = as.reverse ++ aR t i :: rest) (k : P → Run I (pc + 3) xs (rest) h cs' sl' Q X) (kx : ¬ P → RunX I pc xs rest h cs' sl' E Q X) : Run I pc xs st h cs sl Q X := by
  refine r_callV hm hcon hn hrm hcat hd h0 h1 hc hs hst0 (fun r h' hq => ?_) (fun E' h' hx => ?_)
  · obtain ⟨hp, rfl, rfl⟩ := hq
    exact k hp
  · obtain ⟨rfl, rfl, hp⟩ := hx
    exact kx hp
theorem d1_S {n : Nat} {as rest : List Av} (hm : ax_Ms (mOwn I) index I' n) (hh : mHH I' = []) {v : Av} {h2 : Hp} (hcon : Det I' as h (some v) h2) (hn : as.length = n) (hrm : ax_rm I I') (hcat : (rest.map ax_cat).sum ≤ 8) (hd : decode (mC I) pc = .ok (.invokestatic index, 3))  (hc : cs + (mRm I').cells = cs' ∧ cs' ≤ (mRm I).cells) (hs : sl + (mRm I').slots = sl' ∧ sl' ≤ (mRm I).slots) (hst0 : st = as.reverse ++ rest) (k : Run I (pc + 3) xs (v :: rest) h2 cs' sl' Q X) : Run I pc xs st h cs sl Q X := by
  refine r_callS hm hh hcon hn hrm hcat hd hc hs hst0 (fun r h' hq => ?_) (fun E h' hx => hx.elim)
  obtain ⟨rfl, rfl⟩ := hq
  exact k
theorem n1_S {n : Nat} {as rest : List Av} (hm : ax_Ms (mOwn I) index I' n) (hh : mHH I' = []) {v : Av} {P : Prop} {E : String} (hcon : Need I' as h P (some v) E) (hn : as.length = n) (hrm : ax_rm I I') (hcat : (rest.map ax_cat).sum ≤ 8) (hd : decode (mC I) pc = .ok (.invokestatic index, 3))  (hc : cs + (mRm I').cells = cs' ∧ cs' ≤ (mRm I).cells) (hs : sl + (mRm I').slots = sl' ∧ sl' ≤ (mRm I).slots) (hst0 : st = as.reverse ++ rest) (k : P → Run I (pc + 3) xs (v :: rest) h cs' sl' Q X) (kx : ¬ P → RunX I pc xs rest h cs' sl' E Q X) : Run I pc xs st h cs sl Q X := by
  refine r_callS hm hh hcon hn hrm hcat hd hc hs hst0 (fun r h' hq => ?_) (fun E' h' hx => ?_)
  · obtain ⟨hp, rfl, rfl⟩ := hq
    exact k hp
  · obtain ⟨rfl, rfl, hp⟩ := hx
    exact kx hp
theorem d0_S {n : Nat} {as rest : List Av} (hm : ax_Ms (mOwn I) index I' n) (hh : mHH I' = [])  {h2 : Hp} (hcon : Det I' as h (none) h2) (hn : as.length = n) (hrm : ax_rm I I') (hcat : (rest.map ax_cat).sum ≤ 8) (hd : decode (mC I) pc = .ok (.invokestatic index, 3))  (hc : cs + (mRm I').cells = cs' ∧ cs' ≤ (mRm I).cells) (hs : sl + (mRm I').slots = sl' ∧ sl' ≤ (mRm I).slots) (hst0 : st = as.reverse ++ rest) (k : Run I (pc + 3) xs (rest) h2 cs' sl' Q X) : Run I pc xs st h cs sl Q X := by
  refine r_callS hm hh hcon hn hrm hcat hd hc hs hst0 (fun r h' hq => ?_) (fun E h' hx => hx.elim)
  obtain ⟨rfl, rfl⟩ := hq
  exact k
theorem n0_S {n : Nat} {as rest : List Av} (hm : ax_Ms (mOwn I) index I' n) (hh : mHH I' = [])  {P : Prop} {E : String} (hcon : Need I' as h P (none) E) (hn : as.length = n) (hrm : ax_rm I I') (hcat : (rest.map ax_cat).sum ≤ 8) (hd : decode (mC I) pc = .ok (.invokestatic index, 3))  (hc : cs + (mRm I').cells = cs' ∧ cs' ≤ (mRm I).cells) (hs : sl + (mRm I').slots = sl' ∧ sl' ≤ (mRm I).slots) (hst0 : st = as.reverse ++ rest) (k : P → Run I (pc + 3) xs (rest) h cs' sl' Q X) (kx : ¬ P → RunX I pc xs rest h cs' sl' E Q X) : Run I pc xs st h cs sl Q X := by
  refine r_callS hm hh hcon hn hrm hcat hd hc hs hst0 (fun r h' hq => ?_) (fun E' h' hx => ?_)
  · obtain ⟨hp, rfl, rfl⟩ := hq
    exact k hp
  · obtain ⟨rfl, rfl, hp⟩ := hx
    exact kx hp
theorem d1_SX {n : Nat} {as rest : List Av} (hm : ax_Ms (mOwn I) index I' n) (hh : mHH I' ≠ []) {v : Av} {h2 : Hp} (hcon : Det I' as h (some v) h2) (hn : as.length = n) (hrm : ax_rm I I') (hcat : (rest.map ax_cat).sum ≤ 8) (hd : decode (mC I) pc = .ok (.invokestatic index, 3))  (hc : cs + (mRm I').cells = cs' ∧ cs' ≤ (mRm I).cells) (hs : sl + (mRm I').slots = sl' ∧ sl' ≤ (mRm I).slots) (hst0 : st = as.reverse ++ rest) (k : Run I (pc + 3) xs (v :: rest) h2 cs' sl' Q X) : Run I pc xs st h cs sl Q X := by
  refine r_callSX hm hh hcon hn hrm hcat hd hc hs hst0 (fun r h' hq => ?_) (fun E h' hx => hx.elim)
  obtain ⟨rfl, rfl⟩ := hq
  exact k
theorem n1_SX {n : Nat} {as rest : List Av} (hm : ax_Ms (mOwn I) index I' n) (hh : mHH I' ≠ []) {v : Av} {P : Prop} {E : String} (hcon : Need I' as h P (some v) E) (hn : as.length = n) (hrm : ax_rm I I') (hcat : (rest.map ax_cat).sum ≤ 8) (hd : decode (mC I) pc = .ok (.invokestatic index, 3))  (hc : cs + (mRm I').cells = cs' ∧ cs' ≤ (mRm I).cells) (hs : sl + (mRm I').slots = sl' ∧ sl' ≤ (mRm I).slots) (hst0 : st = as.reverse ++ rest) (k : P → Run I (pc + 3) xs (v :: rest) h cs' sl' Q X) (kx : ¬ P → RunX I pc xs rest h cs' sl' E Q X) : Run I pc xs st h cs sl Q X := by
  refine r_callSX hm hh hcon hn hrm hcat hd hc hs hst0 (fun r h' hq => ?_) (fun E' h' hx => ?_)
  · obtain ⟨hp, rfl, rfl⟩ := hq
    exact k hp
  · obtain ⟨rfl, rfl, hp⟩ := hx
    exact kx hp
theorem d0_SX {n : Nat} {as rest : List Av} (hm : ax_Ms (mOwn I) index I' n) (hh : mHH I' ≠ [])  {h2 : Hp} (hcon : Det I' as h (none) h2) (hn : as.length = n) (hrm : ax_rm I I') (hcat : (rest.map ax_cat).sum ≤ 8) (hd : decode (mC I) pc = .ok (.invokestatic index, 3))  (hc : cs + (mRm I').cells = cs' ∧ cs' ≤ (mRm I).cells) (hs : sl + (mRm I').slots = sl' ∧ sl' ≤ (mRm I).slots) (hst0 : st = as.reverse ++ rest) (k : Run I (pc + 3) xs (rest) h2 cs' sl' Q X) : Run I pc xs st h cs sl Q X := by
  refine r_callSX hm hh hcon hn hrm hcat hd hc hs hst0 (fun r h' hq => ?_) (fun E h' hx => hx.elim)
  obtain ⟨rfl, rfl⟩ := hq
  exact k
theorem n0_SX {n : Nat} {as rest : List Av} (hm : ax_Ms (mOwn I) index I' n) (hh : mHH I' ≠ [])  {P : Prop} {E : String} (hcon : Need I' as h P (none) E) (hn : as.length = n) (hrm : ax_rm I I') (hcat : (rest.map ax_cat).sum ≤ 8) (hd : decode (mC I) pc = .ok (.invokestatic index, 3))  (hc : cs + (mRm I').cells = cs' ∧ cs' ≤ (mRm I).cells) (hs : sl + (mRm I').slots = sl' ∧ sl' ≤ (mRm I).slots) (hst0 : st = as.reverse ++ rest) (k : P → Run I (pc + 3) xs (rest) h cs' sl' Q X) (kx : ¬ P → RunX I pc xs rest h cs' sl' E Q X) : Run I pc xs st h cs sl Q X := by
  refine r_callSX hm hh hcon hn hrm hcat hd hc hs hst0 (fun r h' hq => ?_) (fun E' h' hx => ?_)
  · obtain ⟨hp, rfl, rfl⟩ := hq
    exact k hp
  · obtain ⟨rfl, rfl, hp⟩ := hx
    exact kx hp
theorem d1_SN {n : Nat} {as rest : List Av} (hm : ax_Mn (mOwn I) index I' n ∧ Cond.static (mY I') ∈ ax_GT) {v : Av} {h2 : Hp} (hcon : Det I' as h (some v) h2) (hn : as.length = n) (hrm : ax_rm I I') (hcat : (rest.map ax_cat).sum ≤ 8) (hd : decode (mC I) pc = .ok (.invokestatic index, 3))  (hc : cs + (mRm I').cells = cs' ∧ cs' ≤ (mRm I).cells) (hs : sl + (mRm I').slots = sl' ∧ sl' ≤ (mRm I).slots) (hst0 : st = as.reverse ++ rest) (k : Run I (pc + 3) xs (v :: rest) h2 cs' sl' Q X) : Run I pc xs st h cs sl Q X := by
  refine r_callSN hm hcon hn hrm hcat hd hc hs hst0 (fun r h' hq => ?_) (fun E h' hx => hx.elim)
  obtain ⟨rfl, rfl⟩ := hq
  exact k
theorem n1_SN {n : Nat} {as rest : List Av} (hm : ax_Mn (mOwn I) index I' n ∧ Cond.static (mY I') ∈ ax_GT) {v : Av} {P : Prop} {E : String} (hcon : Need I' as h P (some v) E) (hn : as.length = n) (hrm : ax_rm I I') (hcat : (rest.map ax_cat).sum ≤ 8) (hd : decode (mC I) pc = .ok (.invokestatic index, 3))  (hc : cs + (mRm I').cells = cs' ∧ cs' ≤ (mRm I).cells) (hs : sl + (mRm I').slots = sl' ∧ sl' ≤ (mRm I).slots) (hst0 : st = as.reverse ++ rest) (k : P → Run I (pc + 3) xs (v :: rest) h cs' sl' Q X) (kx : ¬ P → RunX I pc xs rest h cs' sl' E Q X) : Run I pc xs st h cs sl Q X := by
  refine r_callSN hm hcon hn hrm hcat hd hc hs hst0 (fun r h' hq => ?_) (fun E' h' hx => ?_)
  · obtain ⟨hp, rfl, rfl⟩ := hq
    exact k hp
  · obtain ⟨rfl, rfl, hp⟩ := hx
    exact kx hp
theorem d0_SN {n : Nat} {as rest : List Av} (hm : ax_Mn (mOwn I) index I' n ∧ Cond.static (mY I') ∈ ax_GT)  {h2 : Hp} (hcon : Det I' as h (none) h2) (hn : as.length = n) (hrm : ax_rm I I') (hcat : (rest.map ax_cat).sum ≤ 8) (hd : decode (mC I) pc = .ok (.invokestatic index, 3))  (hc : cs + (mRm I').cells = cs' ∧ cs' ≤ (mRm I).cells) (hs : sl + (mRm I').slots = sl' ∧ sl' ≤ (mRm I).slots) (hst0 : st = as.reverse ++ rest) (k : Run I (pc + 3) xs (rest) h2 cs' sl' Q X) : Run I pc xs st h cs sl Q X := by
  refine r_callSN hm hcon hn hrm hcat hd hc hs hst0 (fun r h' hq => ?_) (fun E h' hx => hx.elim)
  obtain ⟨rfl, rfl⟩ := hq
  exact k
theorem n0_SN {n : Nat} {as rest : List Av} (hm : ax_Mn (mOwn I) index I' n ∧ Cond.static (mY I') ∈ ax_GT)  {P : Prop} {E : String} (hcon : Need I' as h P (none) E) (hn : as.length = n) (hrm : ax_rm I I') (hcat : (rest.map ax_cat).sum ≤ 8) (hd : decode (mC I) pc = .ok (.invokestatic index, 3))  (hc : cs + (mRm I').cells = cs' ∧ cs' ≤ (mRm I).cells) (hs : sl + (mRm I').slots = sl' ∧ sl' ≤ (mRm I).slots) (hst0 : st = as.reverse ++ rest) (k : P → Run I (pc + 3) xs (rest) h cs' sl' Q X) (kx : ¬ P → RunX I pc xs rest h cs' sl' E Q X) : Run I pc xs st h cs sl Q X := by
  refine r_callSN hm hcon hn hrm hcat hd hc hs hst0 (fun r h' hq => ?_) (fun E' h' hx => ?_)
  · obtain ⟨hp, rfl, rfl⟩ := hq
    exact k hp
  · obtain ⟨rfl, rfl, hp⟩ := hx
    exact kx hp
theorem d1_I {n t : Nat} {i : Int} {as rest : List Av} (hm : ax_Mi (mOwn I) index I' n) {v : Av} {h2 : Hp} (hcon : Det I' (aR t i :: as) h (some v) h2) (hn : as.length = n) (hrm : ax_rm I I') (hcat : (rest.map ax_cat).sum ≤ 8) (hd : decode (mC I) pc = .ok (.invokespecial index, 3))  (hc : cs + (mRm I').cells = cs' ∧ cs' ≤ (mRm I).cells) (hs : sl + (mRm I').slots = sl' ∧ sl' ≤ (mRm I).slots) (hst0 : st = as.reverse ++ aR t i :: rest) (k : Run I (pc + 3) xs (v :: rest) h2 cs' sl' Q X) : Run I pc xs st h cs sl Q X := by
  refine r_callI hm hcon hn hrm hcat hd hc hs hst0 (fun r h' hq => ?_) (fun E h' hx => hx.elim)
  obtain ⟨rfl, rfl⟩ := hq
  exact k
theorem n1_I {n t : Nat} {i : Int} {as rest : List Av} (hm : ax_Mi (mOwn I) index I' n) {v : Av} {P : Prop} {E : String} (hcon : Need I' (aR t i :: as) h P (some v) E) (hn : as.length = n) (hrm : ax_rm I I') (hcat : (rest.map ax_cat).sum ≤ 8) (hd : decode (mC I) pc = .ok (.invokespecial index, 3))  (hc : cs + (mRm I').cells = cs' ∧ cs' ≤ (mRm I).cells) (hs : sl + (mRm I').slots = sl' ∧ sl' ≤ (mRm I).slots) (hst0 : st = as.reverse ++ aR t i :: rest) (k : P → Run I (pc + 3) xs (v :: rest) h cs' sl' Q X) (kx : ¬ P → RunX I pc xs rest h cs' sl' E Q X) : Run I pc xs st h cs sl Q X := by
  refine r_callI hm hcon hn hrm hcat hd hc hs hst0 (fun r h' hq => ?_) (fun E' h' hx => ?_)
  · obtain ⟨hp, rfl, rfl⟩ := hq
    exact k hp
  · obtain ⟨rfl, rfl, hp⟩ := hx
    exact kx hp
theorem d0_I {n t : Nat} {i : Int} {as rest : List Av} (hm : ax_Mi (mOwn I) index I' n)  {h2 : Hp} (hcon : Det I' (aR t i :: as) h (none) h2) (hn : as.length = n) (hrm : ax_rm I I') (hcat : (rest.map ax_cat).sum ≤ 8) (hd : decode (mC I) pc = .ok (.invokespecial index, 3))  (hc : cs + (mRm I').cells = cs' ∧ cs' ≤ (mRm I).cells) (hs : sl + (mRm I').slots = sl' ∧ sl' ≤ (mRm I).slots) (hst0 : st = as.reverse ++ aR t i :: rest) (k : Run I (pc + 3) xs (rest) h2 cs' sl' Q X) : Run I pc xs st h cs sl Q X := by
  refine r_callI hm hcon hn hrm hcat hd hc hs hst0 (fun r h' hq => ?_) (fun E h' hx => hx.elim)
  obtain ⟨rfl, rfl⟩ := hq
  exact k
theorem n0_I {n t : Nat} {i : Int} {as rest : List Av} (hm : ax_Mi (mOwn I) index I' n)  {P : Prop} {E : String} (hcon : Need I' (aR t i :: as) h P (none) E) (hn : as.length = n) (hrm : ax_rm I I') (hcat : (rest.map ax_cat).sum ≤ 8) (hd : decode (mC I) pc = .ok (.invokespecial index, 3))  (hc : cs + (mRm I').cells = cs' ∧ cs' ≤ (mRm I).cells) (hs : sl + (mRm I').slots = sl' ∧ sl' ≤ (mRm I).slots) (hst0 : st = as.reverse ++ aR t i :: rest) (k : P → Run I (pc + 3) xs (rest) h cs' sl' Q X) (kx : ¬ P → RunX I pc xs rest h cs' sl' E Q X) : Run I pc xs st h cs sl Q X := by
  refine r_callI hm hcon hn hrm hcat hd hc hs hst0 (fun r h' hq => ?_) (fun E' h' hx => ?_)
  · obtain ⟨hp, rfl, rfl⟩ := hq
    exact k hp
  · obtain ⟨rfl, rfl, hp⟩ := hx
    exact kx hp
theorem d1_IN {n t : Nat} {i : Int} {as rest : List Av} (hm : ax_Mn (mOwn I) index I' n ∧ mRet I' = none ∧ (mY I').name = "<init>" ∧ Cond.instanceMethod (mY I') ∈ ax_GT) {v : Av} {h2 : Hp} (hcon : Det I' (aR t i :: as) h (some v) h2) (hn : as.length = n) (hrm : ax_rm I I') (hcat : (rest.map ax_cat).sum ≤ 8) (hd : decode (mC I) pc = .ok (.invokespecial index, 3))  (hc : cs + (mRm I').cells = cs' ∧ cs' ≤ (mRm I).cells) (hs : sl + (mRm I').slots = sl' ∧ sl' ≤ (mRm I).slots) (hst0 : st = as.reverse ++ aR t i :: rest) (k : Run I (pc + 3) xs (v :: rest) h2 cs' sl' Q X) : Run I pc xs st h cs sl Q X := by
  refine r_callIN hm hcon hn hrm hcat hd hc hs hst0 (fun r h' hq => ?_) (fun E h' hx => hx.elim)
  obtain ⟨rfl, rfl⟩ := hq
  exact k
theorem n1_IN {n t : Nat} {i : Int} {as rest : List Av} (hm : ax_Mn (mOwn I) index I' n ∧ mRet I' = none ∧ (mY I').name = "<init>" ∧ Cond.instanceMethod (mY I') ∈ ax_GT) {v : Av} {P : Prop} {E : String} (hcon : Need I' (aR t i :: as) h P (some v) E) (hn : as.length = n) (hrm : ax_rm I I') (hcat : (rest.map ax_cat).sum ≤ 8) (hd : decode (mC I) pc = .ok (.invokespecial index, 3))  (hc : cs + (mRm I').cells = cs' ∧ cs' ≤ (mRm I).cells) (hs : sl + (mRm I').slots = sl' ∧ sl' ≤ (mRm I).slots) (hst0 : st = as.reverse ++ aR t i :: rest) (k : P → Run I (pc + 3) xs (v :: rest) h cs' sl' Q X) (kx : ¬ P → RunX I pc xs rest h cs' sl' E Q X) : Run I pc xs st h cs sl Q X := by
  refine r_callIN hm hcon hn hrm hcat hd hc hs hst0 (fun r h' hq => ?_) (fun E' h' hx => ?_)
  · obtain ⟨hp, rfl, rfl⟩ := hq
    exact k hp
  · obtain ⟨rfl, rfl, hp⟩ := hx
    exact kx hp
theorem d0_IN {n t : Nat} {i : Int} {as rest : List Av} (hm : ax_Mn (mOwn I) index I' n ∧ mRet I' = none ∧ (mY I').name = "<init>" ∧ Cond.instanceMethod (mY I') ∈ ax_GT)  {h2 : Hp} (hcon : Det I' (aR t i :: as) h (none) h2) (hn : as.length = n) (hrm : ax_rm I I') (hcat : (rest.map ax_cat).sum ≤ 8) (hd : decode (mC I) pc = .ok (.invokespecial index, 3))  (hc : cs + (mRm I').cells = cs' ∧ cs' ≤ (mRm I).cells) (hs : sl + (mRm I').slots = sl' ∧ sl' ≤ (mRm I).slots) (hst0 : st = as.reverse ++ aR t i :: rest) (k : Run I (pc + 3) xs (rest) h2 cs' sl' Q X) : Run I pc xs st h cs sl Q X := by
  refine r_callIN hm hcon hn hrm hcat hd hc hs hst0 (fun r h' hq => ?_) (fun E h' hx => hx.elim)
  obtain ⟨rfl, rfl⟩ := hq
  exact k
theorem n0_IN {n t : Nat} {i : Int} {as rest : List Av} (hm : ax_Mn (mOwn I) index I' n ∧ mRet I' = none ∧ (mY I').name = "<init>" ∧ Cond.instanceMethod (mY I') ∈ ax_GT)  {P : Prop} {E : String} (hcon : Need I' (aR t i :: as) h P (none) E) (hn : as.length = n) (hrm : ax_rm I I') (hcat : (rest.map ax_cat).sum ≤ 8) (hd : decode (mC I) pc = .ok (.invokespecial index, 3))  (hc : cs + (mRm I').cells = cs' ∧ cs' ≤ (mRm I).cells) (hs : sl + (mRm I').slots = sl' ∧ sl' ≤ (mRm I).slots) (hst0 : st = as.reverse ++ aR t i :: rest) (k : P → Run I (pc + 3) xs (rest) h cs' sl' Q X) (kx : ¬ P → RunX I pc xs rest h cs' sl' E Q X) : Run I pc xs st h cs sl Q X := by
  refine r_callIN hm hcon hn hrm hcat hd hc hs hst0 (fun r h' hq => ?_) (fun E' h' hx => ?_)
  · obtain ⟨hp, rfl, rfl⟩ := hq
    exact k hp
  · obtain ⟨rfl, rfl, hp⟩ := hx
    exact kx hp
end PC
