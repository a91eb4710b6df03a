/-! ===== the plan: cheapest, findLeastFrom (walks printed by wip/p27/tools/g52.py) ===== -/
def mnN (f : Int → Int) : Nat → Int
  | 0 => 9999
  | n + 1 => if f n < mnN f n then f n else mnN f n
def mnI (f : Int → Int) (n : Int) : Int := mnN f n.toNat
theorem mnI_0 {f : Int → Int} : mnI f 0 = 9999 := rfl
theorem mnI_s {f : Int → Int} {n : Int} (h : 0 ≤ n) : mnI f (n + 1) = if f n < mnI f n then f n else mnI f n := by
  unfold mnI
  obtain ⟨m, rfl⟩ := Int.eq_ofNat_of_zero_le h
  have : ((m : Int) + 1).toNat = m + 1 := by omega
  rw [this]
  simp [mnN]
theorem mnI_r {f : Int → Int} {n : Int} (h : 0 ≤ n) (hf : ∀ i, 0 ≤ i → i < n → 0 ≤ f i) : 0 ≤ mnI f n ∧ mnI f n ≤ 9999 ∧ ∀ i, 0 ≤ i → i < n → mnI f n ≤ f i := by
  obtain ⟨m, rfl⟩ := Int.eq_ofNat_of_zero_le h
  induction m with
  | zero => exact ⟨by rw [show ((0 : Nat) : Int) = 0 from rfl, mnI_0]; decide, Int.le_refl _, fun i a b => by omega⟩
  | succ m ih =>
    have e : ((m + 1 : Nat) : Int) = (m : Int) + 1 := by omega
    obtain ⟨a, b, c⟩ := ih (by omega) (fun i i0 i1 => hf i i0 (by omega))
    have d := hf m (by omega) (by omega)
    rw [e, mnI_s (by omega)]
    by_cases q : f m < mnI f m
    · rw [if_pos q]
      refine ⟨d, by omega, fun i i0 i1 => ?_⟩
      by_cases z : i = m
      · rw [z]; omega
      · have := c i i0 (by omega); omega
    · rw [if_neg q]
      refine ⟨a, b, fun i i0 i1 => ?_⟩
      by_cases z : i = m
      · rw [z]; omega
      · exact c i i0 (by omega)
/-- a sum from u up to U, begun at its end -/
def hsI (f : Int → Int) (u U : Int) : Int := sI (fun t => f (U - 1 - t)) (U - u)
theorem hsI_0 {f : Int → Int} {U : Int} : hsI f U U = 0 := by unfold hsI; rw [Int.sub_self]; rfl
theorem hsI_s {f : Int → Int} {u U : Int} (h : u < U) : hsI f u U = hsI f (u + 1) U + f u := by
  unfold hsI
  rw [show U - u = U - (u + 1) + 1 by omega, sI_s (by omega), show U - 1 - (U - (u + 1)) = u by omega]
theorem hsI_r {f : Int → Int} {u U a b : Int} (h : u ≤ U) (hf : ∀ i, u ≤ i → i < U → a ≤ f i ∧ f i ≤ b) : a * (U - u) ≤ hsI f u U ∧ hsI f u U ≤ b * (U - u) :=
  sI_r (fun i i0 i1 => hf _ (by omega) (by omega)) (by omega)
theorem K_X5_cheapest {hi : Hi} {nb nk : Int} {t : Int} (ht : 0 ≤ t ∧ t < 6) (hc : ∀ a b, 0 ≤ a → a < 6 → 0 ≤ b → b < 6 → 0 ≤ hi 9 a b ∧ hi 9 a b ≤ 9999) (ho : 0 ≤ hi 5 0 9 ∧ hi 5 0 9 ≤ 40) (hop : ∀ i, 0 ≤ i → i < hi 5 0 9 → 0 ≤ hi 17 0 i ∧ hi 17 0 i < 6) : Det I_X5_cheapest [aR 5 0, aR 8 0, aI t] (hp hi nb nk) (some (aI (mnI (fun i => hi 9 (hi 17 0 i) t) (hi 5 0 9)))) (hp hi nb nk) := by
  refine st_d (xs := [some (aR 5 0), some (aR 8 0), some (aI t), none, none]) pn_X5 rfl rfl (Nat.le_of_ble_eq_true rfl) rfl rfl (fun Q X hQ => ?_)
  refine r_sipush (pc := 0) (n := 9999) dX5_cheapest_0 rfl (by decide) ?_
  refine r_istore_n (pc := 3) (xs' := [some (aR 5 0), some (aR 8 0), some (aI t), some (aI 9999), none]) dX5_cheapest_3 (by decide) rfl ?_
  refine r_iconst (pc := 4) (n := 0) dX5_cheapest_4 (by decide) ?_
  refine r_istore (pc := 5) (xs' := [some (aR 5 0), some (aR 8 0), some (aI t), some (aI 9999), some (aI 0)]) dX5_cheapest_5 (by decide) rfl ?_
  have loop : ∀ (n9 : Nat) (i l : Int), (0 ≤ i ∧ i ≤ hi 5 0 9) → (l = mnI (fun i => hi 9 (hi 17 0 i) t) i) → hi 5 0 9 - i < (n9 : Int) → Run I_X5_cheapest 7 [some (aR 5 0), some (aR 8 0), some (aI t), some (aI l), some (aI i)] [] (hp hi nb nk) 0 0 Q X := by
    intro n9
    induction n9 with
    | zero => intro i l h0 h2 hf9; exfalso; omega
    | succ n9 ih_loop =>
      intro i l h0 h2 hf9
      have hp9 := fun z => hop i h0.1 z
      refine r_iload (pc := 7) dX5_cheapest_7 rfl ?_
      refine r_aload_n (pc := 9) dX5_cheapest_9 rfl ?_
      refine q_getI (pc := 10) (jI := 9) (n9 := 1) (v := hi 5 0 9) fl_X5_41 rfl dX5_cheapest_10 rfl rfl (by decide) (by decide) rfl ?_
      refine r_icmp_ge (pc := 13) (tgt := 38) dX5_cheapest_13 rfl (fun c13 => ?_) (fun c13 => ?_)
      · refine r_iload_n (pc := 38) dX5_cheapest_38 rfl ?_
        refine r_iret (pc := 39) dX5_cheapest_39 (Or.inl rfl) (Nat.le_of_ble_eq_true rfl) (Nat.le_of_ble_eq_true rfl) ?_
        exact qI hQ (by rw [h2, show i = hi 5 0 9 by omega]) rfl
      · refine r_iload_n (pc := 16) dX5_cheapest_16 rfl ?_
        refine r_aload_n (pc := 17) dX5_cheapest_17 rfl ?_
        refine r_aload_n (pc := 18) dX5_cheapest_18 rfl ?_
        refine p_getQ (pc := 19) (jI := 2) (n9 := 1) (r := some (17, 0)) fl_X5_18 rfl dX5_cheapest_19 rfl rfl (by decide) (by decide) rfl ?_
        refine r_iload (pc := 22) dX5_cheapest_22 rfl ?_
        refine q_iald (pc := 24) (n9 := 1) (nI := 40) (v := hi 17 0 i) rfl dX5_cheapest_24 rfl (by decide) (by decide) rfl (by omega) (by omega) rfl ?_
        refine p_aald (pc := 25) (n9 := 1) (nI := 6) (r := some (9, hi 17 0 i)) rfl ⟨(by decide), (by decide)⟩ dX5_cheapest_25 rfl (by decide) (by decide) rfl (by have := hp9 (by omega); omega) (by have := hp9 (by omega); omega) (hr_8 (by have := hp9 (by omega); omega) (by have := hp9 (by omega); omega)) ?_
        refine r_iload_n (pc := 26) dX5_cheapest_26 rfl ?_
        refine q_iald (pc := 27) (n9 := 6) (nI := 6) (v := hi 9 (hi 17 0 i) t) rfl dX5_cheapest_27 rfl (by have := hp9 (by omega); omega) (by have := hp9 (by omega); omega) rfl (by omega) (by omega) rfl ?_
        refine r_min (pc := 28) (x := l) (y := hi 9 (hi 17 0 i) t) mw_X5_70 ⟨(by decide), (Nat.le_of_ble_eq_true rfl)⟩ (by decide) (by decide) dX5_cheapest_28 ?_
        refine r_istore_n (pc := 31) (xs' := [some (aR 5 0), some (aR 8 0), some (aI t), some (aI (if hi 9 (hi 17 0 i) t < l then hi 9 (hi 17 0 i) t else l)), some (aI i)]) dX5_cheapest_31 (by decide) rfl ?_
        refine r_iinc (pc := 32) (xs' := [some (aR 5 0), some (aR 8 0), some (aI t), some (aI (if hi 9 (hi 17 0 i) t < l then hi 9 (hi 17 0 i) t else l)), some (aI (i + 1))]) dX5_cheapest_32 rfl (by decide) (by omega) rfl ?_
        refine r_goto (pc := 35) (tgt := 7) dX5_cheapest_35 rfl ?_
        exact ih_loop (i + 1) (if hi 9 (hi 17 0 i) t < l then hi 9 (hi 17 0 i) t else l) (by omega) (by rw [mnI_s h0.1, ← h2]) (by omega)
  exact loop 41 0 9999 (by omega) rfl (by omega)

/-- what a unit costs at the least -/
def cpI (hi : Hi) (u : Int) : Int := if hi 5 0 9 < hi 5 0 8 then 0 else mnI (fun i => hi 9 (hi 17 0 i) (hi 15 0 u)) (hi 5 0 9)
def lffH (hi : Hi) (n : Int) : Hi := fun k i j => if k = 21 ∧ i = 0 ∧ n ≤ j ∧ j ≤ hi 5 0 8 then hsI (cpI hi) j (hi 5 0 8) else hi k i j
theorem lffH_0 {hi : Hi} : up1 hi 21 0 (hi 5 0 8) 0 = lffH hi (hi 5 0 8) := by
  funext k i j
  simp only [up1, lffH]
  by_cases q : k = 21 ∧ i = 0 ∧ j = hi 5 0 8
  · obtain ⟨rfl, rfl, rfl⟩ := q
    rw [if_pos ⟨rfl, rfl, rfl⟩, if_pos ⟨rfl, rfl, Int.le_refl _, Int.le_refl _⟩, hsI_0]
  · rw [if_neg q, if_neg (by omega)]
theorem lffH_s {hi : Hi} {n : Int} (h : n < hi 5 0 8) : up1 (lffH hi (n + 1)) 21 0 n (hsI (cpI hi) (n + 1) (hi 5 0 8) + cpI hi n) = lffH hi n := by
  funext k i j
  simp only [up1, lffH]
  by_cases q : k = 21 ∧ i = 0 ∧ j = n
  · obtain ⟨rfl, rfl, rfl⟩ := q
    rw [if_pos ⟨rfl, rfl, rfl⟩, if_pos ⟨rfl, rfl, Int.le_refl _, by omega⟩, hsI_s h]
  · rw [if_neg q]
    have : (k = 21 ∧ i = 0 ∧ n + 1 ≤ j ∧ j ≤ hi 5 0 8) ↔ (k = 21 ∧ i = 0 ∧ n ≤ j ∧ j ≤ hi 5 0 8) := by omega
    simp only [this]
theorem lffH_r {hi : Hi} {n : Int} {k : Nat} {i j : Int} (h : k ≠ 21) : lffH hi n k i j = hi k i j := by
  unfold lffH
  rw [if_neg (by omega)]
theorem lffH_at {hi : Hi} {n j : Int} (h : n ≤ j ∧ j ≤ hi 5 0 8) : lffH hi n 21 0 j = hsI (cpI hi) j (hi 5 0 8) := by
  unfold lffH
  rw [if_pos ⟨rfl, rfl, h.1, h.2⟩]
theorem lffH_k {hi : Hi} {n : Int} {k : Nat} (h : k ≠ 21) : lffH hi n k = hi k := by
  funext i j
  exact lffH_r h
theorem K_X5_findLeastFrom {hi : Hi} {nb nk : Int} (hu : 0 ≤ hi 5 0 8 ∧ hi 5 0 8 ≤ 5) (hc : ∀ a b, 0 ≤ a → a < 6 → 0 ≤ b → b < 6 → 0 ≤ hi 9 a b ∧ hi 9 a b ≤ 9999) (ho : 0 ≤ hi 5 0 9 ∧ hi 5 0 9 ≤ 40) (hop : ∀ i, 0 ≤ i → i < hi 5 0 9 → 0 ≤ hi 17 0 i ∧ hi 17 0 i < 6) (hup : ∀ u, 0 ≤ u → u < hi 5 0 8 → 0 ≤ hi 15 0 u ∧ hi 15 0 u < 6) : Det I_X5_findLeastFrom [aR 5 0, aR 8 0] (hp hi nb nk) none (hp (lffH hi 0) nb nk) := by
  have hcp : ∀ u, 0 ≤ u → u < hi 5 0 8 → 0 ≤ cpI hi u ∧ cpI hi u ≤ 9999 := fun u u0 u1 => by
    have q := hup u u0 u1
    have := mnI_r (f := fun i => hi 9 (hi 17 0 i) (hi 15 0 u)) ho.1 (fun i i0 i1 => (hc _ _ (hop i i0 i1).1 (hop i i0 i1).2 q.1 q.2).1)
    unfold cpI
    split
    · omega
    · exact ⟨this.1, this.2.1⟩
  refine st_d (xs := [some (aR 5 0), some (aR 8 0), none, none]) pn_X5 rfl rfl (Nat.le_of_ble_eq_true rfl) rfl rfl (fun Q X hQ => ?_)
  refine r_aload_n (pc := 0) dX5_findLeastFrom_0 rfl ?_
  refine p_getQ (pc := 1) (jI := 6) (n9 := 1) (r := some (21, 0)) fl_X5_31 rfl dX5_findLeastFrom_1 rfl rfl (by decide) (by decide) rfl ?_
  refine r_aload_n (pc := 4) dX5_findLeastFrom_4 rfl ?_
  refine q_getI (pc := 5) (jI := 8) (n9 := 1) (v := hi 5 0 8) fl_X5_38 rfl dX5_findLeastFrom_5 rfl rfl (by decide) (by decide) rfl ?_
  refine r_iconst (pc := 8) (n := 0) dX5_findLeastFrom_8 (by decide) ?_
  refine p_iast (pc := 9) (n9 := 1) (nI := 6) rfl dX5_findLeastFrom_9 rfl (by decide) (by decide) rfl (by omega) (by omega) ?_
  refine r_aload_n (pc := 10) dX5_findLeastFrom_10 rfl ?_
  refine q_getI (pc := 11) (jI := 8) (n9 := 1) (v := hi 5 0 8) fl_X5_38 rfl dX5_findLeastFrom_11 rfl rfl (by decide) (by decide) (by simp [up1]) ?_
  refine r_iconst (pc := 14) (n := 1) dX5_findLeastFrom_14 (by decide) ?_
  refine r_isub (pc := 15) dX5_findLeastFrom_15 (by omega) ?_
  refine r_istore_n (pc := 16) (xs' := [some (aR 5 0), some (aR 8 0), some (aI ((hi 5 0 8) - 1)), none]) dX5_findLeastFrom_16 (by decide) rfl ?_
  have loop : ∀ (n9 : Nat) (u : Int), (-1 ≤ u ∧ u < hi 5 0 8) → u + 1 < (n9 : Int) → Run I_X5_findLeastFrom 17 [some (aR 5 0), some (aR 8 0), some (aI u), none] [] (hp (lffH hi (u + 1)) nb nk) 0 0 Q X := by
    intro n9
    induction n9 with
    | zero => intro u h0 hf9; exfalso; omega
    | succ n9 ih_loop =>
      intro u h0 hf9
      have hr9 := hsI_r (f := cpI hi) (u := u + 1) (U := hi 5 0 8) (a := 0) (b := 9999) (by omega) (fun i i0 i1 => hcp i (by omega) i1)
      have hm9 : -1 < u → 0 ≤ mnI (fun i => hi 9 (hi 17 0 i) (hi 15 0 u)) (hi 5 0 9) ∧ mnI (fun i => hi 9 (hi 17 0 i) (hi 15 0 u)) (hi 5 0 9) ≤ 9999 := fun z => by have q := hup u (by omega) h0.2; have := mnI_r (f := fun i => hi 9 (hi 17 0 i) (hi 15 0 u)) ho.1 (fun i i0 i1 => (hc _ _ (hop i i0 i1).1 (hop i i0 i1).2 q.1 q.2).1); exact ⟨this.1, this.2.1⟩
      refine r_iload_n (pc := 17) dX5_findLeastFrom_17 rfl ?_
      refine r_if_lt (pc := 18) (tgt := 70) dX5_findLeastFrom_18 rfl (fun c18 => ?_) (fun c18 => ?_)
      · refine r_vret (pc := 70) dX5_findLeastFrom_70 rfl (Nat.le_of_ble_eq_true rfl) (Nat.le_of_ble_eq_true rfl) ?_
        exact qN hQ (by rw [show u + 1 = 0 by omega])
      · refine r_aload_n (pc := 21) dX5_findLeastFrom_21 rfl ?_
        refine q_getI (pc := 22) (jI := 9) (n9 := 1) (v := hi 5 0 9) fl_X5_41 rfl dX5_findLeastFrom_22 rfl rfl (by decide) (by decide) (by exact lffH_r (by decide)) ?_
        refine r_aload_n (pc := 25) dX5_findLeastFrom_25 rfl ?_
        refine q_getI (pc := 26) (jI := 8) (n9 := 1) (v := hi 5 0 8) fl_X5_38 rfl dX5_findLeastFrom_26 rfl rfl (by decide) (by decide) (by exact lffH_r (by decide)) ?_
        refine r_icmp_ge (pc := 29) (tgt := 36) dX5_findLeastFrom_29 rfl (fun c29 => ?_) (fun c29 => ?_)
        · refine r_aload_n (pc := 36) dX5_findLeastFrom_36 rfl ?_
          refine r_aload_n (pc := 37) dX5_findLeastFrom_37 rfl ?_
          refine r_aload_n (pc := 38) dX5_findLeastFrom_38 rfl ?_
          refine p_getQ (pc := 39) (jI := 0) (n9 := 1) (r := some (15, 0)) fl_X5_9 rfl dX5_findLeastFrom_39 rfl rfl (by decide) (by decide) rfl ?_
          refine r_iload_n (pc := 42) dX5_findLeastFrom_42 rfl ?_
          refine q_iald (pc := 43) (n9 := 1) (nI := 5) (v := hi 15 0 u) rfl dX5_findLeastFrom_43 rfl (by decide) (by decide) rfl (by omega) (by omega) (by exact lffH_r (by decide)) ?_
          refine d1_V (pc := 44) (t := 5) (i := 0) (rest := []) (cs' := 0) (sl' := 0) mv_X5_66 (by have := K_X5_cheapest (hi := lffH hi (u + 1)) (nb := nb) (nk := nk) (t := hi 15 0 u) (hup u (by omega) (by omega)) (by rw [lffH_k (k := 9) (by decide)]; exact hc) (by rw [lffH_k (k := 5) (by decide)]; exact ho) (by rw [lffH_k (k := 5) (by decide), lffH_k (k := 17) (by decide)]; exact hop); rw [lffH_k (k := 5) (by decide), lffH_k (k := 17) (by decide), lffH_k (k := 9) (by decide)] at this; exact this) rfl ⟨(Nat.le_of_ble_eq_true rfl), (Nat.le_of_ble_eq_true rfl)⟩ (Nat.le_of_ble_eq_true rfl) dX5_findLeastFrom_44 (show (0 : Int) ≤ 0 by omega) (show 0 < 1 by omega) ⟨rfl, (Nat.le_of_ble_eq_true rfl)⟩ ⟨rfl, (Nat.le_of_ble_eq_true rfl)⟩ rfl ?_
          refine r_istore_n (pc := 47) (xs' := [some (aR 5 0), some (aR 8 0), some (aI u), some (aI (mnI (fun i => hi 9 (hi 17 0 i) (hi 15 0 u)) (hi 5 0 9)))]) dX5_findLeastFrom_47 (by decide) rfl ?_
          refine r_aload_n (pc := 48) dX5_findLeastFrom_48 rfl ?_
          refine p_getQ (pc := 49) (jI := 6) (n9 := 1) (r := some (21, 0)) fl_X5_31 rfl dX5_findLeastFrom_49 rfl rfl (by decide) (by decide) rfl ?_
          refine r_iload_n (pc := 52) dX5_findLeastFrom_52 rfl ?_
          refine r_aload_n (pc := 53) dX5_findLeastFrom_53 rfl ?_
          refine p_getQ (pc := 54) (jI := 6) (n9 := 1) (r := some (21, 0)) fl_X5_31 rfl dX5_findLeastFrom_54 rfl rfl (by decide) (by decide) rfl ?_
          refine r_iload_n (pc := 57) dX5_findLeastFrom_57 rfl ?_
          refine r_iconst (pc := 58) (n := 1) dX5_findLeastFrom_58 (by decide) ?_
          refine r_iadd (pc := 59) dX5_findLeastFrom_59 (by omega) ?_
          refine q_iald (pc := 60) (n9 := 1) (nI := 6) (v := hsI (cpI hi) (u + 1) (hi 5 0 8)) rfl dX5_findLeastFrom_60 rfl (by decide) (by decide) rfl (by omega) (by omega) (by exact lffH_at (by omega)) ?_
          refine r_iload_n (pc := 61) dX5_findLeastFrom_61 rfl ?_
          refine r_iadd (pc := 62) dX5_findLeastFrom_62 (by omega) ?_
          refine p_iast (pc := 63) (n9 := 1) (nI := 6) rfl dX5_findLeastFrom_63 rfl (by decide) (by decide) rfl (by omega) (by omega) ?_
          refine r_iinc (pc := 64) (xs' := [some (aR 5 0), some (aR 8 0), some (aI (u + (-1))), some (aI (mnI (fun i => hi 9 (hi 17 0 i) (hi 15 0 u)) (hi 5 0 9)))]) dX5_findLeastFrom_64 rfl (by decide) (by omega) rfl ?_
          refine r_goto (pc := 67) (tgt := 17) dX5_findLeastFrom_67 rfl ?_
          refine r_drop (xs' := [some (aR 5 0), some (aR 8 0), some (aI (u + (-1))), none]) 3 rfl ?_
          refine r_hp (hi' := (lffH hi ((u + (-1)) + 1))) (by have e := lffH_s (hi := hi) (n := u) (by omega); rw [show cpI hi u = mnI (fun i => hi 9 (hi 17 0 i) (hi 15 0 u)) (hi 5 0 9) from if_neg (by omega)] at e; rw [show u + -1 + 1 = u by omega]; exact e) ?_
          exact ih_loop (u + (-1)) (by omega) (by omega)
        · refine r_iconst (pc := 32) (n := 0) dX5_findLeastFrom_32 (by decide) ?_
          refine r_goto (pc := 33) (tgt := 47) dX5_findLeastFrom_33 rfl ?_
          refine r_istore_n (pc := 47) (xs' := [some (aR 5 0), some (aR 8 0), some (aI u), some (aI 0)]) dX5_findLeastFrom_47 (by decide) rfl ?_
          refine r_aload_n (pc := 48) dX5_findLeastFrom_48 rfl ?_
          refine p_getQ (pc := 49) (jI := 6) (n9 := 1) (r := some (21, 0)) fl_X5_31 rfl dX5_findLeastFrom_49 rfl rfl (by decide) (by decide) rfl ?_
          refine r_iload_n (pc := 52) dX5_findLeastFrom_52 rfl ?_
          refine r_aload_n (pc := 53) dX5_findLeastFrom_53 rfl ?_
          refine p_getQ (pc := 54) (jI := 6) (n9 := 1) (r := some (21, 0)) fl_X5_31 rfl dX5_findLeastFrom_54 rfl rfl (by decide) (by decide) rfl ?_
          refine r_iload_n (pc := 57) dX5_findLeastFrom_57 rfl ?_
          refine r_iconst (pc := 58) (n := 1) dX5_findLeastFrom_58 (by decide) ?_
          refine r_iadd (pc := 59) dX5_findLeastFrom_59 (by omega) ?_
          refine q_iald (pc := 60) (n9 := 1) (nI := 6) (v := hsI (cpI hi) (u + 1) (hi 5 0 8)) rfl dX5_findLeastFrom_60 rfl (by decide) (by decide) rfl (by omega) (by omega) (by exact lffH_at (by omega)) ?_
          refine r_iload_n (pc := 61) dX5_findLeastFrom_61 rfl ?_
          refine r_iadd (pc := 62) dX5_findLeastFrom_62 (by omega) ?_
          refine p_iast (pc := 63) (n9 := 1) (nI := 6) rfl dX5_findLeastFrom_63 rfl (by decide) (by decide) rfl (by omega) (by omega) ?_
          refine r_iinc (pc := 64) (xs' := [some (aR 5 0), some (aR 8 0), some (aI (u + (-1))), some (aI 0)]) dX5_findLeastFrom_64 rfl (by decide) (by omega) rfl ?_
          refine r_goto (pc := 67) (tgt := 17) dX5_findLeastFrom_67 rfl ?_
          refine r_drop (xs' := [some (aR 5 0), some (aR 8 0), some (aI (u + (-1))), none]) 3 rfl ?_
          refine r_hp (hi' := (lffH hi ((u + (-1)) + 1))) (by have e := lffH_s (hi := hi) (n := u) (by omega); rw [show cpI hi u = 0 from if_pos c29] at e; rw [show u + -1 + 1 = u by omega]; exact e) ?_
          exact ih_loop (u + (-1)) (by omega) (by omega)
  refine r_hp (hi' := (lffH hi ((hi 5 0 8 - 1) + 1))) (by rw [show hi 5 0 8 - 1 + 1 = hi 5 0 8 by omega]; exact lffH_0) ?_
  exact loop 6 (hi 5 0 8 - 1) (by omega) (by omega)
