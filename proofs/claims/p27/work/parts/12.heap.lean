/-! ===== rows that read and write the heap ===== -/
/-- one place told anew -/
def up1 {α : Type} (f : Nat → Int → Int → α) (k : Nat) (i j : Int) (v : α) : Nat → Int → Int → α := fun k' i' j' => if k' = k ∧ i' = i ∧ j' = j then v else f k' i' j'
theorem up1_s {α : Type} {f : Nat → Int → Int → α} {k : Nat} {i j : Int} {v : α} : up1 f k i j v k i j = v := by simp [up1]
theorem up1_n {α : Type} {f : Nat → Int → Int → α} {k k' : Nat} {i j i' j' : Int} {v : α} (h : ¬ (k' = k ∧ i' = i ∧ j' = j)) : up1 f k i j v k' i' j' = f k' i' j' := if_neg h
theorem ax_vf {ad : AD} {r : Rf} : va_rf (r.map fun p => ad p.1 p.2) = ax_v ad (aQ r) := by cases r <;> rfl
theorem ax_R.put {D : va_G} {cA : Nat → ClassId} {z0 : Nat} {ad : AD} {h h' : Hp} {H H' : Heap} {k : Nat} {i : Int} (hR : ax_R D cA z0 ad h H) (hk : (ax_kd k).1 < 14) (h0 : 0 ≤ i) (h1 : i < h.2.2 k)
    (hc : va_at D vwCl (ad k i, ax_e cA ad h' k i) H') (oq : ∀ q : Nat, q ≠ ad k i → H'[q]? = H[q]?) (hs : ∀ (k' : Nat) (i' : Int), ¬ (k' = k ∧ i' = i) → ax_e cA ad h' k' i' = ax_e cA ad h k' i')
    (hn : h'.2.2 = h.2.2) (h32 : ∀ (k : Nat) (i j : Int), ax_32 (h'.1 k i j)) (hrf : ∀ (k : Nat) (i j : Int), 0 ≤ i → i < h.2.2 k → ax_rk h.2.2 (h'.2.1 k i j)) : ax_R D cA z0 ad h' H' := by
  obtain ⟨a1, a2, a3, a4, a5⟩ := hR
  refine ⟨fun k' i' hk' h0' h1' => ?_, by rw [hn]; exact a2, h32, by rw [hn]; exact hrf, by rw [hn]; exact a5⟩
  rw [hn] at h1'
  refine ⟨?_, (a1 k' i' hk' h0' h1').2⟩
  by_cases e : k' = k ∧ i' = i
  · obtain ⟨rfl, rfl⟩ := e; exact hc
  · rw [hs k' i' e]
    exact (a1 k' i' hk' h0' h1').1.kept (oq _ (fun q => e (a2 k' i' k i hk' hk h0' h1' h0 h1 q)))
theorem ax_e_i {cA : Nat → ClassId} {ad : AD} {h : Hp} {k k' : Nat} {i i' j : Int} {x : Int} (e : ¬ (k' = k ∧ i' = i)) : ax_e cA ad (up1 h.1 k i j x, h.2.1, h.2.2) k' i' = ax_e cA ad h k' i' := by
  have f : ∀ j' : Int, up1 h.1 k i j x k' i' j' = h.1 k' i' j' := fun j' => up1_n (fun q => e ⟨q.1, q.2.1⟩)
  unfold ax_e ax_f
  simp only [f]
theorem ax_e_r {cA : Nat → ClassId} {ad : AD} {h : Hp} {k k' : Nat} {i i' j : Int} {x : Rf} (e : ¬ (k' = k ∧ i' = i)) : ax_e cA ad (h.1, up1 h.2.1 k i j x, h.2.2) k' i' = ax_e cA ad h k' i' := by
  have f : ∀ j' : Int, up1 h.2.1 k i j x k' i' j' = h.2.1 k' i' j' := fun j' => up1_n (fun q => e ⟨q.1, q.2.1⟩)
  unfold ax_e ax_f
  simp only [f]
theorem ax_32up {f : Nat → Int → Int → Int} {k : Nat} {i j x : Int} (h : ∀ k i j, ax_32 (f k i j)) (hx : ax_32 x) : ∀ k' i' j', ax_32 (up1 f k i j x k' i' j') := by
  intro k' i' j'
  unfold up1
  split
  · exact hx
  · exact h k' i' j'
/-- what is known of a field: its class's place and its own, the words -/
def ax_Fl (own : String) (index t j : Nat) : Prop := ∃ (C : String) (T : u_T) (N : Nat), vwCl[t]? = some (C, T, N) ∧ j < N ∧ ax_kd t = (t, N) ∧ t < 8 ∧ (∀ w ∈ u_ws C T N, w ∈ ax_GT) ∧
  Cond.fieldLink own index (T j).1 (T j).2.1 (T j).2.2.1 ∈ ax_GT ∧ (∀ k, k < N → parseFieldDescriptor (T k).2.2.1 = some (ax_ft t k)) ∧ (∀ a, a < N → ∀ b, b < N → a ≠ b → (T a).2.1 ≠ (T b).2.1)
def ax_fin (t j : Nat) : Bool := match vwCl[t]? with | some (_, T, _) => (T j).2.2.2 | none => false
def ax_dcl (t j : Nat) : String := match vwCl[t]? with | some (_, T, _) => (T j).1 | none => ""
theorem ax_at {D : va_G} {cl : List vw_C} {q : Nat × va_E} {H : Heap} (h : va_at D cl q H) : va_P D cl [q] H := by
  intro k x hx
  have hz : k < 1 := (List.getElem?_eq_some_iff.mp hx).1
  rw [show k = 0 by omega] at hx
  cases hx
  exact h
theorem ax_eo {cA : Nat → ClassId} {ad : AD} {h : Hp} {t N : Nat} {i : Int} (hk : ax_kd t = (t, N)) (ht : t < 8) : ax_e cA ad h t i = .inr (t, (List.range N).map (fun j => ax_f ad h t i (ax_rf t j) j)) := by
  unfold ax_e
  rw [hk]
  simp [ht]
section AXH
variable {I : MI} {pc : Nat} {xs : List (Option Av)} {st : List Av} {h : Hp} {cs sl : Nat} {Q : Option Av → Hp → Prop} {X : String → Hp → Prop}
theorem r_getI {t j index : Nat} {i : Int} (hf : ax_Fl (mOwn I) index t j) (hr : ax_rf t j = false) (hd : decode (mC I) pc = .ok (.getfield index, 3)) (h0 : 0 ≤ i) (h1 : i < h.2.2 t) (k : Run I (pc + 3) xs (aI (h.1 t i j) :: st) h cs sl Q X) : Run I pc xs (aR t i :: st) h cs sl Q X := by
  intro l p e s m args below meth c D cA z0 n0 ad0 ad H locs ls B
  obtain ⟨hC, hR, hS, hE, hL, hxs, hst⟩ := B
  obtain ⟨C, T, N, f1, f2, f3, f4, f5, f6, f7, f8⟩ := hf
  have ha := (hR.1 t i (by rw [f3]; show t < 14; omega) h0 h1).1
  rw [ax_eo f3 f4] at ha
  refine va_get (D := D) (v := .int (Int32.ofInt (h.1 t i j))) hC.1 hC.2.1 hC.2.2.2.2.1 f5 hC.2.2.2.1 hC.2.2.2.2.2.1 (ax_at ha) 0 rfl f1 j f2 (hC.2.2.2.2.1 _ f6) (fun _ z => z) ?_ hd ?_
  · rw [List.getElem?_map, List.getElem?_range f2]
    simp [ax_f, hr]
  · exact k l p e s m args below meth c D cA z0 n0 ad0 ad H locs ls ⟨hC, hR, hS, hE, hL, hxs, List.forall_mem_cons.mpr ⟨hR.2.2.1 _ _ _, fun v hv => hst v (List.mem_cons_of_mem _ hv)⟩⟩
theorem r_getQ {t j index : Nat} {i : Int} {r : Rf} (hf : ax_Fl (mOwn I) index t j) (hr : ax_rf t j = true) (hd : decode (mC I) pc = .ok (.getfield index, 3)) (h0 : 0 ≤ i) (h1 : i < h.2.2 t) (hv : h.2.1 t i j = r) (k : Run I (pc + 3) xs (aQ r :: st) h cs sl Q X) : Run I pc xs (aR t i :: st) h cs sl Q X := by
  intro l p e s m args below meth c D cA z0 n0 ad0 ad H locs ls B
  obtain ⟨hC, hR, hS, hE, hL, hxs, hst⟩ := B
  obtain ⟨C, T, N, f1, f2, f3, f4, f5, f6, f7, f8⟩ := hf
  have ha := (hR.1 t i (by rw [f3]; show t < 14; omega) h0 h1).1
  rw [ax_eo f3 f4] at ha
  refine va_get (D := D) (v := ax_v ad (aQ r)) hC.1 hC.2.1 hC.2.2.2.2.1 f5 hC.2.2.2.1 hC.2.2.2.2.2.1 (ax_at ha) 0 rfl f1 j f2 (hC.2.2.2.2.1 _ f6) (fun _ z => z) ?_ hd ?_
  · rw [List.getElem?_map, List.getElem?_range f2]
    simp only [Option.map_some, ax_f, hr, if_true, hv, ax_vf]
  · exact k l p e s m args below meth c D cA z0 n0 ad0 ad H locs ls ⟨hC, hR, hS, hE, hL, hxs, List.forall_mem_cons.mpr ⟨by rw [← hv]; exact hR.2.2.2.1 _ _ _ h0 h1, fun v hv => hst v (List.mem_cons_of_mem _ hv)⟩⟩
end AXH
section AXP
variable {p : Program} {l : Launch} {e : Env} {R : Room} {s : State} {m : MethodId} {args : Array Value} {below : List Frame} {meth : Method} {c : Code} {H : Heap} {locs : List Loc} {cells slots : Nat} {Q : State → Prop}
variable {cc : ByteArray} {pc : Nat} {ls : Array Slot} {rest : List Value} {D : va_G} {cl : List vw_C} {A : Nat → Prop} {a : Nat} {tys : List (ClassId × FieldType)} {H0 : Heap}
/-- va_put, saying that no other cell changes (its proof is va_put's) -/
theorem ax_putG (hexec : p.tables.exec = Jvm.exec) (hb : c.code = cc) {own ref C : String} {T : u_T} {N ci index : Nat} {Ts : List Cond} (hts : ∀ w ∈ Ts, w.before args s = true) (hin : ∀ w ∈ u_ws C T N, w ∈ Ts) (ty0 : Nat → FieldType) (hty : ∀ k, k < N → parseFieldDescriptor (T k).2.2.1 = some (ty0 k)) (hnm : ∀ a, a < N → ∀ b, b < N → a ≠ b → (T a).2.1 ≠ (T b).2.1) (hown : s.vm.findClass own = some m.cls) (hK : va_K D cl tys s) (hA : A a) (hS0 : va_S A H0 H locs) {fs : List Value} (he : va_at D cl (a, .inr (ci, fs)) H) (hc : cl[ci]? = some (C, T, N)) (k : Nat) (hk : k < N) (hlink : (Cond.fieldLink own index ref (T k).2.1 (T k).2.2.1).before args s = true) (hsame : ∀ x, s.fieldFound? (T k).1 (T k).2.1 (T k).2.2.1 = some x → s.fieldFound? ref (T k).2.1 (T k).2.2.1 = some x)
    (hfin : (T k).2.2.2 = true → meth.name = "<init>" ∧ (T k).1 = own) {ty : FieldType} {v : Value} (hd : parseFieldDescriptor (T k).2.2.1 = some ty) (hn : narrow ty v = v) (hfit : fits ty v = true) (hl : k < fs.length)
    (hdg : decode cc pc = .ok (.putfield index, 3)) (kk : ∀ (H1 : Heap) (locs1 : List Loc), va_at D cl (a, .inr (ci, fs.set k v)) H1 → (∀ q : Nat, q ≠ a → H1[q]? = H[q]?) → va_S A H0 H1 locs1 → W p l e R s m args below meth c H1 locs1 cells slots Q (F0 m (pc + 3) ls rest)) : W p l e R s m args below meth c H locs cells slots Q (F0 m pc ls (v :: .ref a :: rest)) := by
  have hap := va_apart (own := own) hts hin ty0 hty hnm hK hc
  obtain ⟨r, h1, cell, q1, q2, q3, q4⟩ := he
  have hr : r = (C, T, N) := Option.some.inj (h1.symm.trans hc)
  subst hr
  obtain ⟨hS, hfc, kC, hkC, hkind⟩ := hK.1 ci _ hc
  obtain ⟨cf, kf, fi, f, hi, hsl⟩ := hS k hk
  have hlay := hts _ (hin _ (u_in_lay hk))
  unfold u_lay at hlay
  have hst := (u_facts hfc hkC (u_lays hts hin hk) hi).1
  by_cases hz : (T k).2.2.2 = true
  · obtain ⟨hin2, hdecl⟩ := hfin hz
    rw [if_pos hz] at hlay
    have hcf : m.cls = cf := by
      obtain ⟨_, _, c', _, _, _, -, -, hf', -, -, -, hown2, -⟩ := Cond.laysFinal_spec hlay
      have e1 : c' = cf := by have := hi.symm.trans hf'; simp at this; exact this.1.symm
      rw [hdecl] at hown2
      rw [← e1]; exact Option.some.inj (hown.symm.trans hown2)
    have h6 := u_fits hfc hkC hkind (Or.inr hlay) hi hd hn hfit
    refine W.putFinK hexec hb hown hlink (hsame _ hi) hst hcf hin2 (by rw [q2]; exact h6) q1 q3 (by rw [hsl]; exact k2_hasslot (q4 k hk)) rfl rfl hdg fun H' e1 e2 e3 => ?_
    rw [hsl] at e1 ⊢
    exact kk H' _ ⟨_, hc, t_OB.to (V := updV (vp_V fs) k v) ⟨_, e1, q2, q3, t_set q4 hap hk v⟩ (fun j _ => vp_updV_set hl v j)⟩ e3 (hS0.put e2 e3 hA)
  · rw [if_neg hz] at hlay
    have h6 := u_store hfc hkC hkind hlay hi hd hn hfit
    refine W.putK hexec hb (f := f) ⟨hown, hlink, ⟨_, _, _, hsame _ hi⟩, hst⟩ (by rw [q2]; exact h6) q1 q3 (by rw [hsl]; exact k2_hasslot (q4 k hk)) rfl rfl hdg fun H' e1 e2 e3 => ?_
    rw [hsl] at e1 ⊢
    exact kk H' _ ⟨_, hc, t_OB.to (V := updV (vp_V fs) k v) ⟨_, e1, q2, q3, t_set q4 hap hk v⟩ (fun j _ => vp_updV_set hl v j)⟩ e3 (hS0.put e2 e3 hA)
end AXP
theorem ax_fit_ref {ty : FieldType} (h : ax_isRef ty = true) (ad : AD) (r : Rf) : narrow ty (ax_v ad (aQ r)) = ax_v ad (aQ r) ∧ fits ty (ax_v ad (aQ r)) = true := by
  cases ty <;> first | (simp [ax_isRef] at h; done) | (cases r <;> exact ⟨rfl, rfl⟩)
section AXQ
variable {I : MI} {pc : Nat} {xs : List (Option Av)} {st : List Av} {h : Hp} {cs sl : Nat} {Q : Option Av → Hp → Prop} {X : String → Hp → Prop}
theorem r_putI {t j index : Nat} {i x : Int} (hf : ax_Fl (mOwn I) index t j) (hr : ax_ft t j = .int ∨ (ax_ft t j = .boolean ∧ (x = 0 ∨ x = 1))) (hfin : ax_fin t j = false ∨ ((mY I).name = "<init>" ∧ ax_dcl t j = mOwn I)) (hd : decode (mC I) pc = .ok (.putfield index, 3)) (h0 : 0 ≤ i) (h1 : i < h.2.2 t) (k : Run I (pc + 3) xs st (up1 h.1 t i j x, h.2.1, h.2.2) cs sl Q X) : Run I pc xs (aI x :: aR t i :: st) h cs sl Q X := by
  intro l p e s m args below meth c D cA z0 n0 ad0 ad H locs ls B
  obtain ⟨hC, hR, hS, hE, hL, hxs, hst⟩ := B
  obtain ⟨C, T, N, f1, f2, f3, f4, f5, f6, f7, f8⟩ := hf
  obtain ⟨ha, hz⟩ := hR.1 t i (by rw [f3]; show t < 14; omega) h0 h1
  rw [ax_eo f3 f4] at ha
  have hx : ax_32 x := hst _ List.mem_cons_self
  have hrf : ax_rf t j = false := by
    unfold ax_rf
    rcases hr with hr | hr
    · rw [hr]; rfl
    · rw [hr.1]; rfl
  have hnf : narrow (ax_ft t j) (.int (Int32.ofInt x)) = .int (Int32.ofInt x) ∧ fits (ax_ft t j) (.int (Int32.ofInt x)) = true := by
    rcases hr with hr | ⟨hr, rfl | rfl⟩
    · rw [hr]; exact ⟨rfl, rfl⟩
    · rw [hr]; exact ⟨rfl, rfl⟩
    · rw [hr]; exact ⟨rfl, rfl⟩
  refine ax_putG (D := D) (v := .int (Int32.ofInt x)) (A := fun q => z0 ≤ q) hC.1 hC.2.1 hC.2.2.2.2.1 f5 (ax_ft t) f7 f8 hC.2.2.2.1 hC.2.2.2.2.2.1 hz hS ha f1 j f2 (hC.2.2.2.2.1 _ f6) (fun _ z => z) ?_ (f7 j f2) hnf.1 hnf.2 (by rw [List.length_map, List.length_range]; exact f2) hd ?_
  · intro hz
    rcases hfin with q | ⟨q, q2⟩
    · unfold ax_fin at q; rw [f1] at q; exact absurd (q.symm.trans hz) (by decide)
    · unfold ax_dcl at q2; rw [f1] at q2; exact ⟨by rw [hC.2.2.2.2.2.2.2.2.2.2.1]; exact q, q2⟩
  · intro H1 locs1 e1 oq hS1
    refine k l p e s m args below meth c D cA z0 n0 ad0 ad H1 locs1 ls ⟨hC, ?_, hS1, hE, hL, hxs, fun v hv => hst v (List.mem_cons_of_mem _ (List.mem_cons_of_mem _ hv))⟩
    refine hR.put (by rw [f3]; show t < 14; omega) h0 h1 ?_ oq (fun k' i' e => ax_e_i e) rfl (ax_32up hR.2.2.1 hx) hR.2.2.2.1
    rw [ax_eo f3 f4]
    have hl : (List.range N).map (fun j' => ax_f ad (up1 h.1 t i j x, h.2.1, h.2.2) t i (ax_rf t j') j') = ((List.range N).map (fun j' => ax_f ad h t i (ax_rf t j') j')).set j (.int (Int32.ofInt x)) := by
      apply List.ext_getElem?
      intro q
      rw [List.getElem?_set]
      by_cases hq : j = q
      · subst hq
        rw [if_pos rfl, List.getElem?_map, List.getElem?_range f2]
        simp [ax_f, hrf, up1, f2]
      · rw [if_neg hq, List.getElem?_map, List.getElem?_map]
        by_cases hqn : q < N
        · rw [List.getElem?_range hqn]
          have hjq : ¬ ((q : Int) = (j : Int)) := fun z => hq (by omega)
          simp [ax_f, up1, hjq]
        · rw [List.getElem?_eq_none (by rw [List.length_range]; omega)]
          rfl
    rw [hl]
    exact e1
end AXQ
