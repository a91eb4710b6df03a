/-! ===== rows of arrays ===== -/
def ax_aty : Nat → FieldType
  | 8 => .int | 9 => .boolean | 10 => .int | 11 => .object "BoxPool$Booking" | 12 => .object "BoxPool$Box" | _ => .array .int
theorem ax_tyAt (cA : Nat → ClassId) {t : Nat} (h8 : 8 ≤ t) (h14 : t < 14) : (ax_ty cA)[t - 8]? = some (cA t, ax_aty t) := by
  rcases (show t = 8 ∨ t = 9 ∨ t = 10 ∨ t = 11 ∨ t = 12 ∨ t = 13 by omega) with rfl | rfl | rfl | rfl | rfl | rfl <;> rfl
theorem ax_ei {cA : Nat → ClassId} {ad : AD} {h : Hp} {k t n : Nat} {i : Int} (hk : ax_kd k = (t, n)) (ht : t = 8 ∨ t = 9) : ax_e cA ad h k i = .inl (cA t, n, .inl (fun j => Int32.ofInt (h.1 k i j))) := by
  unfold ax_e
  rw [hk]
  rcases ht with rfl | rfl <;> simp
theorem ax_er {cA : Nat → ClassId} {ad : AD} {h : Hp} {k t n : Nat} {i : Int} (hk : ax_kd k = (t, n)) (ht : 11 ≤ t) : ax_e cA ad h k i = .inl (cA t, n, .inr (.inr (.inr (.inr (fun j => (h.2.1 k i j).map fun p => ad p.1 p.2))))) := by
  unfold ax_e
  rw [hk]
  simp only
  rw [if_neg (by omega), if_neg (by omega), if_neg (by omega)]
theorem ax_nn {x : Int} (h : ax_32 x) (h0 : 0 ≤ x) : (((Int32.ofInt x).toNatClampNeg : Nat) : Int) = x := by
  rw [ax_cl h]
  omega
section AXA
variable {I : MI} {pc : Nat} {xs : List (Option Av)} {st : List Av} {h : Hp} {cs sl : Nat} {Q : Option Av → Hp → Prop} {X : String → Hp → Prop}
theorem r_alen {kk t n : Nat} {i : Int} (hk : ax_kd kk = (t, n)) (ht : 8 ≤ t ∧ t < 14 ∧ t ≠ 10) (hn : n ≤ 100000) (hd : decode (mC I) pc = .ok (.arraylength, 1)) (h0 : 0 ≤ i) (h1 : i < h.2.2 kk) (k : Run I (pc + 1) xs (aI (n : Int) :: st) h cs sl Q X) : Run I pc xs (aR kk i :: st) h cs sl Q X := by
  intro l p e s m args below meth c D cA z0 n0 ad0 ad H locs ls B
  obtain ⟨hC, hR, hS, hE, hL, hxs, hst⟩ := B
  have ha := (hR.1 kk i (by rw [hk]; exact ht.2.1) h0 h1).1
  have hk2 := k l p e s m args below meth c D cA z0 n0 ad0 ad H locs ls ⟨hC, hR, hS, hE, hL, hxs, List.forall_mem_cons.mpr ⟨(⟨by omega, by omega⟩ : ax_32 (n : Int)), fun v hv => hst v (List.mem_cons_of_mem _ hv)⟩⟩
  have hx : ∃ x : vp_A, ax_e cA ad h kk i = .inl (cA t, x) ∧ x.1 = n := by
    by_cases a : t = 8 ∨ t = 9
    · exact ⟨_, ax_ei hk a, rfl⟩
    · exact ⟨_, ax_er hk (by omega), rfl⟩
  obtain ⟨x, hx, hxn⟩ := hx
  rw [hx] at ha
  exact va_alen (D := D) (v := Int32.ofInt (n : Int)) hC.1 hC.2.1 hC.2.2.2.2.2.1 (ax_at ha) 0 (t - 8) rfl (ax_tyAt cA ht.1 ht.2.1) (by rw [hxn]; exact Int32.ofInt_eq_ofNat.symm) hd hk2
theorem r_iald {kk n : Nat} {i x : Int} (hk : ax_kd kk = (8, n)) (hd : decode (mC I) pc = .ok (.iaload, 1)) (h0 : 0 ≤ i) (h1 : i < h.2.2 kk) (x0 : 0 ≤ x) (x1 : x < n) (k : Run I (pc + 1) xs (aI (h.1 kk i x) :: st) h cs sl Q X) : Run I pc xs (aI x :: aR kk i :: st) h cs sl Q X := by
  intro l p e s m args below meth c D cA z0 n0 ad0 ad H locs ls B
  obtain ⟨hC, hR, hS, hE, hL, hxs, hst⟩ := B
  have ha := (hR.1 kk i (by rw [hk]; show 8 < 14; omega) h0 h1).1
  rw [ax_ei hk (Or.inl rfl)] at ha
  have kx : ax_32 x := hst _ List.mem_cons_self
  refine va_iald (D := D) hC.1 hC.2.1 hC.2.2.2.2.2.1 (ax_at ha) 0 0 rfl (ax_tyAt cA (t := 8) (by omega) (by omega)) (ax_in kx x0 x1) hd ?_
  rw [ax_nn kx x0]
  exact k l p e s m args below meth c D cA z0 n0 ad0 ad H locs ls ⟨hC, hR, hS, hE, hL, hxs, List.forall_mem_cons.mpr ⟨hR.2.2.1 _ _ _, fun v hv => hst v (List.mem_cons_of_mem _ (List.mem_cons_of_mem _ hv))⟩⟩
theorem r_zald {kk n : Nat} {i x : Int} (hk : ax_kd kk = (9, n)) (hd : decode (mC I) pc = .ok (.baload, 1)) (h0 : 0 ≤ i) (h1 : i < h.2.2 kk) (x0 : 0 ≤ x) (x1 : x < n) (k : Run I (pc + 1) xs (aI (h.1 kk i x) :: st) h cs sl Q X) : Run I pc xs (aI x :: aR kk i :: st) h cs sl Q X := by
  intro l p e s m args below meth c D cA z0 n0 ad0 ad H locs ls B
  obtain ⟨hC, hR, hS, hE, hL, hxs, hst⟩ := B
  have ha := (hR.1 kk i (by rw [hk]; show 9 < 14; omega) h0 h1).1
  rw [ax_ei hk (Or.inr rfl)] at ha
  have kx : ax_32 x := hst _ List.mem_cons_self
  refine va_zald (D := D) hC.1 hC.2.1 hC.2.2.2.2.2.1 (ax_at ha) 0 1 rfl (ax_tyAt cA (t := 9) (by omega) (by omega)) (ax_in kx x0 x1) hd ?_
  rw [ax_nn kx x0]
  exact k l p e s m args below meth c D cA z0 n0 ad0 ad H locs ls ⟨hC, hR, hS, hE, hL, hxs, List.forall_mem_cons.mpr ⟨hR.2.2.1 _ _ _, fun v hv => hst v (List.mem_cons_of_mem _ (List.mem_cons_of_mem _ hv))⟩⟩
theorem r_aald {kk t n : Nat} {i x : Int} {r : Rf} (hk : ax_kd kk = (t, n)) (ht : 11 ≤ t ∧ t < 14) (hd : decode (mC I) pc = .ok (.aaload, 1)) (h0 : 0 ≤ i) (h1 : i < h.2.2 kk) (x0 : 0 ≤ x) (x1 : x < n) (hv : h.2.1 kk i x = r) (k : Run I (pc + 1) xs (aQ r :: st) h cs sl Q X) : Run I pc xs (aI x :: aR kk i :: st) h cs sl Q X := by
  intro l p e s m args below meth c D cA z0 n0 ad0 ad H locs ls B
  obtain ⟨hC, hR, hS, hE, hL, hxs, hst⟩ := B
  have ha := (hR.1 kk i (by rw [hk]; exact ht.2) h0 h1).1
  rw [ax_er hk ht.1] at ha
  have kx : ax_32 x := hst _ List.mem_cons_self
  have hin := ax_in kx x0 x1
  have hlt : (Int32.ofInt x).toNatClampNeg < n := Nat.not_le.mp fun q => hin (Or.inr q)
  have hrd : va_rf ((h.2.1 kk i (((Int32.ofInt x).toNatClampNeg : Nat) : Int)).map fun p => ad p.1 p.2) = ax_v ad (aQ r) := by rw [ax_nn kx x0, hv, ax_vf]
  refine W.aald (v := ax_v ad (aQ r)) (ty := ax_aty t) hC.1 hC.2.1 ha ((hC.2.2.2.2.2.1.2 (t - 8) _ (ax_tyAt cA (by omega) ht.2)).1 n (fun j => va_rf ((h.2.1 kk i j).map fun p => ad p.1 p.2))) ?_ (fun q => by cases q) (by show ¬ (_ < 0 ∨ (arrV _ _ _).slots.size ≤ _); rw [arrV_size]; exact hin) ?_ rfl rfl hd ?_
  · rcases (show t = 11 ∨ t = 12 ∨ t = 13 by omega) with rfl | rfl | rfl <;> rfl
  · show (arrV _ _ _).slots[_]? = _
    rw [arrV_read _ _ hlt, hrd]
  · exact k l p e s m args below meth c D cA z0 n0 ad0 ad H locs ls ⟨hC, hR, hS, hE, hL, hxs, List.forall_mem_cons.mpr ⟨by rw [← hv]; exact hR.2.2.2.1 _ _ _ h0 h1, fun v hv => hst v (List.mem_cons_of_mem _ (List.mem_cons_of_mem _ hv))⟩⟩
theorem ax_upf {α β : Type} {f : Nat → Int → Int → α} {k : Nat} {i x : Int} {v : α} {u : Int32} {F : α → β} (hu : ((u.toNatClampNeg : Nat) : Int) = x) (j : Nat) : F (up1 f k i x v k i (j : Int)) = if j = u.toNatClampNeg then F v else F (f k i j) := by
  by_cases e : j = u.toNatClampNeg
  · rw [if_pos e, e, hu]
    simp [up1]
  · rw [if_neg e]
    have : ¬ ((j : Int) = x) := fun z => e (by omega)
    simp [up1, this]
theorem r_iast {kk n : Nat} {i x v : Int} (hk : ax_kd kk = (8, n)) (hd : decode (mC I) pc = .ok (.iastore, 1)) (h0 : 0 ≤ i) (h1 : i < h.2.2 kk) (x0 : 0 ≤ x) (x1 : x < n) (k : Run I (pc + 1) xs st (up1 h.1 kk i x v, h.2.1, h.2.2) cs sl Q X) : Run I pc xs (aI v :: aI x :: aR kk i :: st) h cs sl Q X := by
  intro l p e s m args below meth c D cA z0 n0 ad0 ad H locs ls B
  obtain ⟨hC, hR, hS, hE, hL, hxs, hst⟩ := B
  obtain ⟨ha, hz⟩ := hR.1 kk i (by rw [hk]; show 8 < 14; omega) h0 h1
  rw [ax_ei hk (Or.inl rfl)] at ha
  have kv : ax_32 v := hst _ List.mem_cons_self
  have kx : ax_32 x := hst _ (List.mem_cons_of_mem _ List.mem_cons_self)
  have hin := ax_in kx x0 x1
  refine W.iast hC.1 hC.2.1 ha ((hC.2.2.2.2.2.1.2 0 _ (ax_tyAt cA (t := 8) (by omega) (by omega))).1 n (fun j => .int (Int32.ofInt (h.1 kk i j)))) (fun q => by cases q) (by show ¬ (_ < 0 ∨ (arrV _ _ _).slots.size ≤ _); rw [arrV_size]; exact hin) rfl rfl hd fun H1 e1 z1 oq => ?_
  refine k l p e s m args below meth c D cA z0 n0 ad0 ad H1 _ ls ⟨hC, ?_, hS.put z1 oq hz, hE, hL, hxs, fun w hw => hst w (List.mem_cons_of_mem _ (List.mem_cons_of_mem _ (List.mem_cons_of_mem _ hw)))⟩
  refine hR.put (by rw [hk]; show 8 < 14; omega) h0 h1 ?_ oq (fun k' i' e => ax_e_i e) rfl (ax_32up hR.2.2.1 kv) hR.2.2.2.1
  rw [ax_ei hk (Or.inl rfl)]
  show H1[_]? = some (vp_cell _ _)
  rw [e1, vp_cell_i, vp_cell_i, arrV_store]
  congr 2
  funext j
  rw [ax_upf (F := fun z => Value.int (Int32.ofInt z)) (ax_nn kx x0) j]
  rfl
theorem r_zast {kk n : Nat} {i x v : Int} (hk : ax_kd kk = (9, n)) (hv : v = 0 ∨ v = 1) (hd : decode (mC I) pc = .ok (.bastore, 1)) (h0 : 0 ≤ i) (h1 : i < h.2.2 kk) (x0 : 0 ≤ x) (x1 : x < n) (k : Run I (pc + 1) xs st (up1 h.1 kk i x v, h.2.1, h.2.2) cs sl Q X) : Run I pc xs (aI v :: aI x :: aR kk i :: st) h cs sl Q X := by
  intro l p e s m args below meth c D cA z0 n0 ad0 ad H locs ls B
  obtain ⟨hC, hR, hS, hE, hL, hxs, hst⟩ := B
  obtain ⟨ha, hz⟩ := hR.1 kk i (by rw [hk]; show 9 < 14; omega) h0 h1
  rw [ax_ei hk (Or.inr rfl)] at ha
  have kv : ax_32 v := hst _ List.mem_cons_self
  have kx : ax_32 x := hst _ (List.mem_cons_of_mem _ List.mem_cons_self)
  have hin := ax_in kx x0 x1
  refine W.zast hC.1 hC.2.1 ha ((hC.2.2.2.2.2.1.2 1 _ (ax_tyAt cA (t := 9) (by omega) (by omega))).1 n (fun j => .int (Int32.ofInt (h.1 kk i j)))) (fun q => by cases q) (by show ¬ (_ < 0 ∨ (arrV _ _ _).slots.size ≤ _); rw [arrV_size]; exact hin) rfl rfl hd fun H1 e1 z1 oq => ?_
  refine k l p e s m args below meth c D cA z0 n0 ad0 ad H1 _ ls ⟨hC, ?_, hS.put z1 oq hz, hE, hL, hxs, fun w hw => hst w (List.mem_cons_of_mem _ (List.mem_cons_of_mem _ (List.mem_cons_of_mem _ hw)))⟩
  refine hR.put (by rw [hk]; show 9 < 14; omega) h0 h1 ?_ oq (fun k' i' e => ax_e_i e) rfl (ax_32up hR.2.2.1 kv) hR.2.2.2.1
  rw [ax_ei hk (Or.inr rfl)]
  show H1[_]? = some (vp_cell _ _)
  have hnr : narrow .boolean (.int (Int32.ofInt v)) = .int (Int32.ofInt v) := by rcases hv with rfl | rfl <;> rfl
  rw [e1, hnr, vp_cell_i, vp_cell_i, arrV_store]
  congr 2
  funext j
  rw [ax_upf (F := fun z => Value.int (Int32.ofInt z)) (ax_nn kx x0) j]
  rfl
/-- an object goes into an array of its class -/
theorem r_aast {kk t n : Nat} {i x y : Int} (hk : ax_kd kk = (t + 11, n)) (ht : t = 0 ∨ t = 1) (hd : decode (mC I) pc = .ok (.aastore, 1)) (h0 : 0 ≤ i) (h1 : i < h.2.2 kk) (x0 : 0 ≤ x) (x1 : x < n) (y0 : 0 ≤ y) (y1 : y < h.2.2 t) (k : Run I (pc + 1) xs st (h.1, up1 h.2.1 kk i x (some (t, y)), h.2.2) cs sl Q X) : Run I pc xs (aR t y :: aI x :: aR kk i :: st) h cs sl Q X := by
  intro l p e s m args below meth c D cA z0 n0 ad0 ad H locs ls B
  obtain ⟨hC, hR, hS, hE, hL, hxs, hst⟩ := B
  obtain ⟨ha, hz⟩ := hR.1 kk i (by rw [hk]; show t + 11 < 14; omega) h0 h1
  rw [ax_er hk (by omega)] at ha
  have kx : ax_32 x := hst _ (List.mem_cons_of_mem _ List.mem_cons_self)
  have hin := ax_in kx x0 x1
  have hK := hC.2.2.2.2.2.1
  obtain ⟨N, C, T, hkt, hcl, hnm⟩ : ∃ (N : Nat) (C : String) (T : u_T), ax_kd t = (t, N) ∧ vwCl[t]? = some (C, T, N) ∧ ax_aty (t + 11) = .object C := by
    rcases ht with rfl | rfl
    · exact ⟨_, _, _, rfl, rfl, rfl⟩
    · exact ⟨_, _, _, rfl, rfl, rfl⟩
  have hv := (hR.1 t y (by rw [hkt]; show t < 14; omega) y0 y1).1
  rw [ax_eo hkt (by omega)] at hv
  obtain ⟨r', hr', cellV, g1, g2, g3, -⟩ := hv
  have hcls := (hK.1 t _ hcl).2
  have hta := ax_tyAt cA (t := t + 11) (by omega) (by omega)
  rw [hnm] at hta
  obtain ⟨kA, comp, k1, k2, k3, -⟩ := (hK.2 _ _ hta).2
  have hcomp : comp = D.1 t := Option.some.inj (k3.symm.trans hcls.1)
  subst hcomp
  obtain ⟨kC, hkC, -⟩ := hcls.2
  have hlt : (Int32.ofInt x).toNatClampNeg < n := Nat.not_le.mp fun q => hin (Or.inr q)
  have hx0 : ¬ Int32.ofInt x < 0 := fun q => hin (Or.inl q)
  refine W.aast hC.1 hC.2.1 ha (fun q h => by cases h) (fun h => by cases h) k1 k2 rfl hkC ⟨hx0, by show _ < (arrV _ _ _).slots.size; rw [arrV_size]; exact hlt⟩ g1 (fun q h => by rw [g3] at h; cases h) (by rw [g2]; exact hkC) (by rw [g2]; exact va_assign hcls) rfl rfl hd fun H1 e1 z1 oq => ?_
  refine k l p e s m args below meth c D cA z0 n0 ad0 ad H1 _ ls ⟨hC, ?_, hS.put z1 oq hz, hE, hL, hxs, fun w hw => hst w (List.mem_cons_of_mem _ (List.mem_cons_of_mem _ (List.mem_cons_of_mem _ hw)))⟩
  refine hR.put (by rw [hk]; show t + 11 < 14; omega) h0 h1 ?_ oq (fun k' i' e => ax_e_r e) rfl hR.2.2.1 ?_
  · rw [ax_er hk (by omega)]
    show H1[_]? = some (vp_cell _ _)
    rw [e1, vp_cell_q, vp_cell_q, arrV_store]
    congr 2
    funext j
    rw [ax_upf (F := fun z : Rf => va_rf (z.map fun p => ad p.1 p.2)) (ax_nn kx x0) j]
    rfl
  · intro k' i' j' a b
    show ax_rk _ (up1 h.2.1 kk i x (some (t, y)) k' i' j')
    unfold up1
    split
    · intro q hq; cases hq; exact ⟨y0, y1⟩
    · exact hR.2.2.2.1 k' i' j' a b
/-- a reference into a field -/
theorem r_putQ {t j index : Nat} {i : Int} {x : Rf} (hf : ax_Fl (mOwn I) index t j) (hr : ax_rf t j = true) (hfin : ax_fin t j = false ∨ ((mY I).name = "<init>" ∧ ax_dcl t j = mOwn I)) (hd : decode (mC I) pc = .ok (.putfield index, 3)) (h0 : 0 ≤ i) (h1 : i < h.2.2 t) (k : Run I (pc + 3) xs st (h.1, up1 h.2.1 t i j x, h.2.2) cs sl Q X) : Run I pc xs (aQ x :: aR t i :: st) h cs sl Q X := by
  intro l p e s m args below meth c D cA z0 n0 ad0 ad H locs ls B
  obtain ⟨hC, hR, hS, hE, hL, hxs, hst⟩ := B
  obtain ⟨C, T, N, f1, f2, f3, f4, f5, f6, f7, f8⟩ := hf
  obtain ⟨ha, hz⟩ := hR.1 t i (by rw [f3]; show t < 14; omega) h0 h1
  rw [ax_eo f3 f4] at ha
  have hx : ax_rk h.2.2 x := hst _ List.mem_cons_self
  have hnf := ax_fit_ref (show ax_isRef (ax_ft t j) = true from hr) ad x
  refine ax_putG (D := D) (v := ax_v ad (aQ x)) (A := fun q => z0 ≤ q) hC.1 hC.2.1 hC.2.2.2.2.1 f5 (ax_ft t) f7 f8 hC.2.2.2.1 hC.2.2.2.2.2.1 hz hS ha f1 j f2 (hC.2.2.2.2.1 _ f6) (fun _ z => z) ?_ (f7 j f2) hnf.1 hnf.2 (by rw [List.length_map, List.length_range]; exact f2) hd ?_
  · intro hz
    rcases hfin with q | ⟨q, q2⟩
    · unfold ax_fin at q; rw [f1] at q; exact absurd (q.symm.trans hz) (by decide)
    · unfold ax_dcl at q2; rw [f1] at q2; exact ⟨by rw [hC.2.2.2.2.2.2.2.2.2.2.1]; exact q, q2⟩
  · intro H1 locs1 e1 oq hS1
    refine k l p e s m args below meth c D cA z0 n0 ad0 ad H1 locs1 ls ⟨hC, ?_, hS1, hE, hL, hxs, fun v hv => hst v (List.mem_cons_of_mem _ (List.mem_cons_of_mem _ hv))⟩
    refine hR.put (by rw [f3]; show t < 14; omega) h0 h1 ?_ oq (fun k' i' e => ax_e_r e) rfl hR.2.2.1 ?_
    · rw [ax_eo f3 f4]
      have hl : (List.range N).map (fun j' => ax_f ad (h.1, up1 h.2.1 t i j x, h.2.2) t i (ax_rf t j') j') = ((List.range N).map (fun j' => ax_f ad h t i (ax_rf t j') j')).set j (ax_v ad (aQ x)) := by
        apply List.ext_getElem?
        intro q
        rw [List.getElem?_set]
        by_cases hq : j = q
        · subst hq
          rw [if_pos rfl, List.getElem?_map, List.getElem?_range f2]
          simp only [Option.map_some, ax_f, hr, if_true, up1_s, ax_vf, List.length_map, List.length_range, f2]
        · rw [if_neg hq, List.getElem?_map, List.getElem?_map]
          by_cases hqn : q < N
          · rw [List.getElem?_range hqn]
            have hjq : ¬ ((q : Int) = (j : Int)) := fun z => hq (by omega)
            simp [ax_f, up1, hjq]
          · rw [List.getElem?_eq_none (by rw [List.length_range]; omega)]
            rfl
      rw [hl]
      exact e1
    · intro k' i' j' a b
      show ax_rk _ (up1 h.2.1 t i j x k' i' j')
      unfold up1
      split
      · exact hx
      · exact hR.2.2.2.1 k' i' j' a b
end AXA
