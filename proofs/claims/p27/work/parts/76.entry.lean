/-! ===== the law's entry and its end ===== -/
theorem kd_big {k : Nat} (h : 61 < k) : ax_kd k = (99, 0) := by
  unfold ax_kd
  split <;> first | omega | rfl
theorem kd_real {k : Nat} (h : (ax_kd k).1 < 14) : nZ k = 0 := by
  by_cases q : k ≤ 61
  · have : ∀ j : Fin 62, (ax_kd j).1 < 14 → nZ j = 0 := by decide +kernel
    exact this ⟨k, by omega⟩ h
  · rw [kd_big (by omega)] at h
    exact absurd h (by decide)
theorem HR_n {k : Nat} {i j : Int} (h : nZ k ≠ 0) : HR 0 0 k i j = none := by
  have : 15 ≤ k ∨ k = 7 := by
    unfold nZ at h
    split at h
    · omega
    · split at h <;> omega
  unfold HR
  split <;> first | omega | rfl
theorem nZ_0 (k : Nat) : 0 ≤ nZ k := by
  unfold nZ
  split
  · decide
  · split <;> decide
theorem R_start {D : va_G} {cA : Nat → ClassId} {z0 : Nat} {ad : AD} {H : Heap} : ax_R D cA z0 ad (zz, HR 0 0, nZ) H := by
  have no : ∀ (k : Nat) (i : Int), (ax_kd k).1 < 14 → 0 ≤ i → ¬ i < nZ k := fun k i h h0 h1 => by
    rw [kd_real h] at h1
    omega
  refine ⟨fun k i hk h0 h1 => absurd h1 (no k i hk h0), fun k i k' i' hk _ h0 h1 _ _ _ => absurd h1 (no k i hk h0), fun k i j => (show ax_32 0 from ⟨by decide, by decide⟩), fun k i j h0 h1 => ?_, nZ_0⟩
  intro p hp
  have hp' : HR 0 0 k i j = some p := hp
  rw [HR_n (fun z => by have h1' : i < nZ k := h1; omega)] at hp'
  cases hp'
theorem arr_of {args : Array Value} {s : State} {ty : FieldType} (h : (Cond.arrayClass ty).before args s = true) (hty : ty = .int ∨ ty = .boolean ∨ ty = .long) : ∃ cA : ClassId, ArrOfT s cA ty ∧ va_RA s cA ty := by
  obtain ⟨cA, kA, comp, h1, h2, h3⟩ := Cond.arrayClass_spec h
  refine ⟨cA, fun n z => ⟨fun k h => (by cases h), kA, h2, comp, h3⟩, ?_⟩
  rcases hty with rfl | rfl | rfl <;> exact h1
theorem arr_ofO {args : Array Value} {s : State} {C : String} (h : (Cond.arrayOver (.object C)).before args s = true) : ∃ cA : ClassId, ArrOfT s cA (.object C) ∧ va_RA s cA (.object C) := by
  obtain ⟨comp, c, k, h1, h2, h3, h4, h5⟩ := Cond.arrayOver_spec h
  exact ⟨c, fun n z => ⟨fun k h => (by cases h), k, h3, comp, h4⟩, k, comp, h3, h4, h1, h5⟩
theorem arr_ofA {args : Array Value} {s : State} (h : (Cond.arrayOver (.array .int)).before args s = true) : ∃ cA : ClassId, ArrOfT s cA (.array .int) ∧ va_RA s cA (.array .int) := by
  obtain ⟨comp, c, k, h1, h2, h3, h4, h5⟩ := arrayOverA_spec h
  exact ⟨c, fun n z => ⟨fun k h => (by cases h), k, h3, comp, h4⟩, h5⟩
theorem NW_ok : ax_NW.all (fun w => decide (w ∈ lw_tbl) && w.onTables) = true := by decide +kernel
theorem strs_ok : ax_strs.all (fun q => decide (Cond.stringRef RX6 q.1 q.2 ∈ lw_tbl)) = true := by decide +kernel
theorem strx_ok : ax_strs.all (fun q => decide (Cond.exactly (.string RX6 q.1) "java/lang/String" ∈ flatC (Jvm.Cond.and given_1 narrow_1))) = true := by decide +kernel
theorem nc_ok : ([("java/lang/IndexOutOfBoundsException", "java/lang/IllegalArgumentException"), ("java/lang/IndexOutOfBoundsException", "java/lang/IllegalStateException"), ("java/lang/IllegalArgumentException", "java/lang/IndexOutOfBoundsException"), ("java/lang/IllegalArgumentException", "java/lang/IllegalStateException"), ("java/lang/IllegalStateException", "java/lang/IndexOutOfBoundsException"), ("java/lang/IllegalStateException", "java/lang/IllegalArgumentException")] : List (String × String)).all (fun q => decide (Cond.not (.castable q.1 q.2) ∈ flatC (Jvm.Cond.and given_1 narrow_1))) = true := by decide +kernel
theorem us_ok : Cond.isRef (.static Bundle.tN "UNASSIGNED_STACK" Bundle.steD) ∈ flatC (Jvm.Cond.and given_1 narrow_1) ∧ Cond.isRef (.static Bundle.tN "SUPPRESSED_SENTINEL" Bundle.listD) ∈ flatC (Jvm.Cond.and given_1 narrow_1) := by decide +kernel
theorem N_start {b : Nat} {s : State} (hts : ∀ w ∈ lw_tbl, w.before #[Value.ref b] s = true) (hgv : (Jvm.Cond.and given_1 narrow_1).before #[Value.ref b] s = true) : ax_N s := by
  have hf := flat_of_before _ hgv
  refine ⟨fun w hw => ?_, va_AO.of (hts _ (List.mem_of_getElem? (i := 38) (by decide +kernel))), va_AO.of (hts _ (List.mem_of_getElem? (i := 40) (by decide +kernel))), hts (.arrayOver (.array .int)) (List.mem_of_getElem? (i := 36) (by decide +kernel)), fun q hq => ?_, fun q hq => ?_⟩
  · have h := List.all_eq_true.mp NW_ok w hw
    rw [Bool.and_eq_true, decide_eq_true_eq] at h
    exact va_Nw.of h.2 (hts w h.1)
  · have h1 := List.all_eq_true.mp strs_ok q hq
    have h2 := List.all_eq_true.mp strx_ok q hq
    rw [decide_eq_true_eq] at h1 h2
    obtain ⟨a, -, -, -, q1, -⟩ := Cond.exactly_spec (hf _ h2)
    exact ⟨a, vk_R.of (hts _ h1) q1⟩
  · have h := List.all_eq_true.mp nc_ok q hq
    rw [decide_eq_true_eq] at h
    exact va_Nc.of (hf _ h)
theorem K_start {b : Nat} {s : State} (hts : ∀ w ∈ lw_tbl, w.before #[Value.ref b] s = true) : ∃ (D : va_G) (cA : Nat → ClassId), va_K D vwCl (ax_ty cA) s := by
  have hG : ∀ w ∈ ax_GT, w.before #[Value.ref b] s = true := fun w hw => hts w (List.mem_filter.mp hw).1
  obtain ⟨c0, i0, k0⟩ := u_known (C := RX0) (T := TX0) (N := 5) (n := 5) hG in_0 (hG _ gt_532)
  obtain ⟨c1, i1, k1⟩ := u_known (C := RX1) (T := TX1) (N := 10) (n := 10) hG in_1 (hG _ gt_315)
  obtain ⟨c2, i2, k2⟩ := u_known (C := RX2) (T := TX2) (N := 3) (n := 3) hG in_2 (hG _ gt_363)
  obtain ⟨c3, i3, k3⟩ := u_known (C := RX3) (T := TX3) (N := 3) (n := 3) hG in_3 (hG _ gt_347)
  obtain ⟨c4, i4, k4⟩ := u_known (C := RX4) (T := TX4) (N := 6) (n := 6) hG in_4 (hG _ gt_321)
  obtain ⟨c5, i5, k5⟩ := u_known (C := RX5) (T := TX5) (N := 11) (n := 11) hG in_5 (hG _ gt_42)
  obtain ⟨c6, i6, k6⟩ := u_known (C := RX6) (T := TX6) (N := 11) (n := 11) hG in_6 (hG _ gt_28)
  obtain ⟨a8, e8⟩ := arr_of (hG _ gt_83) (Or.inl rfl)
  obtain ⟨a9, e9⟩ := arr_of (hG _ gt_84) (Or.inr (Or.inl rfl))
  obtain ⟨a11, e11⟩ := arr_ofO (C := "BoxPool$Booking") (hts _ (List.mem_of_getElem? (i := 40) (by decide +kernel)))
  obtain ⟨a12, e12⟩ := arr_ofO (C := "BoxPool$Box") (hts _ (List.mem_of_getElem? (i := 38) (by decide +kernel)))
  obtain ⟨a13, e13⟩ := arr_ofA (hts (.arrayOver (.array .int)) (List.mem_of_getElem? (i := 36) (by decide +kernel)))
  refine ⟨(fun k => match k with | 0 => c0 | 1 => c1 | 2 => c2 | 3 => c3 | 4 => c4 | 5 => c5 | _ => c6, fun k => match k with | 0 => i0 | 1 => i1 | 2 => i2 | 3 => i3 | 4 => i4 | 5 => i5 | _ => i6), fun k => match k with | 8 => a8 | 9 => a9 | 10 => a8 | 11 => a11 | 12 => a12 | _ => a13, fun k q hq => ?_, fun k q hq => ?_⟩
  · match k, hq with
    | 0, hq => cases hq; exact k0
    | 1, hq => cases hq; exact k1
    | 2, hq => cases hq; exact k2
    | 3, hq => cases hq; exact k3
    | 4, hq => cases hq; exact k4
    | 5, hq => cases hq; exact k5
    | 6, hq => cases hq; exact k6
    | k + 7, hq => simp [vwCl] at hq
  · match k, hq with
    | 0, hq => cases hq; exact e8
    | 1, hq => cases hq; exact e9
    | 2, hq => cases hq; exact e8
    | 3, hq => cases hq; exact e11
    | 4, hq => cases hq; exact e12
    | 5, hq => cases hq; exact e13
    | k + 6, hq => simp [ax_ty] at hq
/-- where only slots of new cells were written, nothing is said to be written -/
theorem same_new {s t : State} {o : Outcome} {L : List Loc} {k n : Nat} (h : FrameEnd s o t L k n) (hL : ∀ q ∈ L, s.heap.size ≤ q.base) : Framed s o t [] k n := by
  obtain ⟨h1, h2, h3, h4, h5, h6, h7, h8⟩ := h
  refine ⟨h1, h2, h3, h4, h5, h6, h7, fun a c hc => ?_⟩
  obtain ⟨c', d1, d2, d3, d4⟩ := h8 a c hc
  refine ⟨c', d1, d2, d3, fun i _ => d4 i (fun z => ?_)⟩
  have := hL _ z
  have ha := (Array.getElem?_eq_some_iff.mp hc).1
  exact absurd ha (Nat.not_lt.mpr this)
theorem whole_start {p : Program} {e : Env} {s : State} {m : MethodId} {below : List Frame} {meth : Method} {c : Code} (l : Launch) (hflags : l.flags = flags0) {b L : Nat} {xs : Nat → Int32} (hL : L ≤ 260) (C0 : lw_At p s m meth c b L xs) : W p l e room_1 s m #[Value.ref b] below meth c s.heap [] 0 0 (lw_Z below #[Value.ref b] s) (entryFrame m ([Value.ref b] : List Value).toArray 19) := by
  obtain ⟨hx, hb, hr, hml, hown, hts, hX, hbl, hlocks, hgv⟩ := id C0
  have hG : ∀ w ∈ ax_GT, w.before #[Value.ref b] s = true := fun w hw => hts w (List.mem_filter.mp hw).1
  have hf := flat_of_before _ hgv
  have hA : ∀ a : Nat, a < s.heap.size → ¬ (fun q : Nat => s.heap.size ≤ q) a := fun a h => Nat.not_le.mpr h
  obtain ⟨D, cA, hK⟩ := K_start hts
  have hN := N_start hts hgv
  have hZ1 : vx_Zq Bundle.tN "UNASSIGNED_STACK" Bundle.steD (fun q => s.heap.size ≤ q) s s.heap := vx_Zqof (hts _ (List.mem_of_getElem? (i := 154) (by decide +kernel))) (hts _ (List.mem_of_getElem? (i := 14) (by decide +kernel))) (hf _ us_ok.1) hA
  have hZ2 : vx_Zq Bundle.tN "SUPPRESSED_SENTINEL" Bundle.listD (fun q => s.heap.size ≤ q) s s.heap := vx_Zqof (hts _ (List.mem_of_getElem? (i := 156) (by decide +kernel))) (hts _ (List.mem_of_getElem? (i := 14) (by decide +kernel))) (hf _ us_ok.2) hA
  have hst : l.stackTraces = false := by
    unfold Launch.stackTraces
    rw [hflags]
    decide +kernel
  have hl := lv_entry ([.ref b]) (n := 19) (Nat.le_of_ble_eq_true rfl)
  rw [lg_entry_eq]
  generalize (lg_sl ([.ref b]) ++ List.replicate (19 - (lg_sl ([.ref b])).length) Slot.unset).toArray = ls at hl ⊢
  have hl : lv_has ls 19 [(0, .ref b)] := hl
  have hrun := law_start (nm := meth.name) (hh := c.exceptionTable.toList.map fun h => (h.startPc, h.endPc, h.handlerPc, h.catchType)) (L := L) (sc := xs) hL (Q := fun r _ => r = some (aI 1)) (X := fun _ _ => False) (fun _ => rfl)
  have k := hrun l p e s m #[Value.ref b] below meth c D cA s.heap.size nZ (fun _ _ => b) (fun _ _ => b) s.heap [] ls
    ⟨⟨hx, hb, hml, hown, hG, hK, hN, hZ1, hZ2, hlocks, rfl, hst, (table_eq _).symm, Nat.le_refl _, hr, fun q hq => by cases hq; exact ⟨(by decide : (0 : Int) < nZ 99), hX, hbl⟩⟩, R_start, va_S.rf, fun k i a b => ⟨b, rfl⟩, ⟨hl.1, hl.2.1, fun i v hv _ => ?_⟩, fun v hv => ?_, fun v hv => nomatch hv⟩
  · intro T hT X
    obtain ⟨t, st, o, hr, he, hq⟩ := k T hT X
    refine ⟨t, st, o, hr, he, ?_⟩
    rcases hq with ⟨⟨r, h, ad, eo, eq, -⟩, Lx, hfe, hLx⟩ | ⟨q, eo, E, ce, Lx, ⟨h, ad, hx, -⟩, -⟩
    · refine ⟨?_, same_new hfe hLx⟩
      rw [eo, show r = some (aI 1) from eq]
      rfl
    · exact hx.elim
  · match i, hv with
    | 0, hv => cases hv; exact hl.2.2 (0, .ref b) List.mem_cons_self
    | i + 1, hv =>
      exfalso
      have h9 : (List.replicate 18 (none : Option Av))[i]? = some (some v) := hv
      have := List.eq_of_mem_replicate (List.mem_of_getElem? h9)
      cases this
  · have h9 : some v ∈ some (aR 99 0) :: List.replicate 18 (none : Option Av) := hv
    rcases List.mem_cons.mp h9 with h9 | h9
    · cases h9
      intro p hp
      cases hp
      exact ⟨Int.le_refl 0, (by decide : (0 : Int) < nZ 99)⟩
    · have := List.eq_of_mem_replicate h9
      cases this
