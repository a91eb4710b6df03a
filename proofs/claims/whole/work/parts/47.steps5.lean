/-! ===== the calls, one after another: serve ===== -/
section ST5
variable {hi : Hi} {nb nk : Int}
theorem gvB_cc {ok ok' : Int → Int} {lack k n : Int} {B B' : Int → Int} (h : ∀ b, 0 ≤ b → b < n → ok b = ok' b) {b : Int} (hb : B b = B' b) : gvB ok lack k B n b = gvB ok' lack k B' n b := by
  unfold gvB
  by_cases z : 0 ≤ b ∧ b < n
  · rw [h b z.1 z.2, gvI_c (n := b) (fun x x0 x1 => h x x0 (by omega)), hb]
  · rw [if_neg (by omega), if_neg (by omega), hb]
/-- serving looks at the boxes that are there alone -/
theorem svI_c {B B' : Int → Int} (hB : ∀ b, 0 ≤ b → b < nb → B b = B' b) {n : Int} (h0 : 0 ≤ n) : (svI hi nb B n).2 = (svI hi nb B' n).2 ∧ ∀ b, 0 ≤ b → b < nb → (svI hi nb B n).1 b = (svI hi nb B' n).1 b := by
  obtain ⟨m, rfl⟩ := Int.eq_ofNat_of_zero_le h0
  induction m with
  | zero => exact ⟨rfl, hB⟩
  | succ m ih =>
    have e : ((m + 1 : Nat) : Int) = (m : Int) + 1 := by omega
    rw [e, svI_s (by omega), svI_s (by omega)]
    obtain ⟨i1, i2⟩ := ih (by omega)
    generalize (svI hi nb B m).1 = C at *
    generalize (svI hi nb B' m).1 = C' at *
    have key : ∀ (L : Int) (j : Nat), (svK hi nb m L C j).2 = (svK hi nb m L C' j).2 ∧ ∀ b, 0 ≤ b → b < nb → (svK hi nb m L C j).1 b = (svK hi nb m L C' j).1 b := by
      intro L j
      induction j with
      | zero => exact ⟨rfl, i2⟩
      | succ j ihj =>
        have q : ∀ b, 0 ≤ b → b < nb → okS hi (svK hi nb m L C j).1 (hi 0 m 0) (hi 0 m 1 + (j : Int)) b = okS hi (svK hi nb m L C' j).1 (hi 0 m 0) (hi 0 m 1 + (j : Int)) b := fun b b0 b1 => by
          unfold okS
          rw [ihj.2 b b0 b1]
        simp only [svK]
        rw [ihj.1]
        exact ⟨by rw [gvI_c q], fun b b0 b1 => gvB_cc q (ihj.2 b b0 b1)⟩
    have g : givI C nb m = givI C' nb m := sI_c (fun b b0 b1 => by rw [i2 b b0 b1])
    unfold svO
    rw [g]
    exact ⟨by rw [i1, (key _ _).1], (key _ _).2⟩
theorem swI_c {hi' : Hi} {B : Int → Int} {n : Int} (e : ∀ C po kd b, okM hi' C po kd b = okM hi C po kd b) (e51 : hi' 51 = hi 51) (e52 : hi' 52 = hi 52) (e53 : hi' 53 = hi 53) (e54 : hi' 54 = hi 54) : swI hi' nb B n = swI hi nb B n := by
  have key : ∀ (k L : Int) (C : Int → Int) (j : Nat), swK hi' nb k L C j = swK hi nb k L C j := by
    intro k L C j
    induction j with
    | zero => rfl
    | succ j ih =>
      simp only [swK]
      rw [ih, e51, e52]
      have : ∀ D po kd, okM hi' D po kd = okM hi D po kd := fun D po kd => funext fun b => e D po kd b
      rw [this]
  unfold swI
  generalize n.toNat = m
  induction m with
  | zero => rfl
  | succ m ih =>
    simp only [swS]
    rw [ih]
    unfold swO
    rw [key, e52, e53, e54]
def BothS (hi : Hi) (nb nk : Int) : Prop := Con I_X6_serve [aR 6 0] (hp hi nb nk) (fun r h => ∃ (v : Int) (hi1 hi2 : Hi), r = some (aI v) ∧ h = hp hi1 nb nk ∧ Det I_X7_serve [aR 7 0] (hp hi1 nb nk) (some (aI v)) (hp hi2 nb nk) ∧ Inv hi2 nb nk) (fun _ _ => False)
theorem J_serve (hI : Inv hi nb nk) : BothS hi nb nk := by
  have hn := hI.num
  unfold vNum at hn
  refine Con_mono (K_X6_serve hI) ?_ (fun _ _ z => z)
  rintro r h ⟨g, rfl, rfl, hg, hb⟩
  have hMV : MV (setB hi (svI hi nb (fun b => hi 1 b 7) nk).1 g) nb nk := hI.mv.cong (fun k hk => ⟨fun _ j _ => setB_r (by omega), fun _ => setB_k (by
    rcases (show k = 0 ∨ k = 1 ∨ 2 ≤ k by omega) with rfl | rfl | q
    · cases hk
    · cases hk
    · exact q)⟩)
  have k := K_X7_serve hMV
  have cc := svI_c (hi := hi) (nb := nb) (B := hi 36 0) (B' := fun b => hi 1 b 7) (fun b b0 b1 => (hI.box b b0 b1).2.2.2.2.2.1) (n := nk) (by omega)
  generalize hB : (svI hi nb (fun b => hi 1 b 7) nk).1 = B at *
  have e1 : swI (thr (setB hi B g)) nb (setB hi B g 36 0) nk = svI hi nb (hi 36 0) nk := by
    rw [show setB hi B g 36 0 = hi 36 0 from rfl, ← swSV hI (by omega) (Int.le_refl _)]
    exact swI_c (fun _ _ _ _ => rfl) rfl rfl rfl rfl
  rw [e1, cc.1] at k
  generalize hC : (svI hi nb (hi 36 0) nk).1 = C at *
  refine ⟨_, _, _, rfl, rfl, k, ?_⟩
  have c17 : ∀ x, setM (thr (setB hi B g)) C 1 x 7 = B x := fun x => by simp [setM, thr, up1, setB]
  have c1 : ∀ x j, j ≠ 7 → setM (thr (setB hi B g)) C 1 x j = hi 1 x j := fun x j hj => by simp [setM, thr, up1, setB, hj]
  have c03 : ∀ x, setM (thr (setB hi B g)) C 0 x 3 = g x := fun x => by simp [setM, thr, up1, setB]
  have c0 : ∀ x j, j ≠ 3 → setM (thr (setB hi B g)) C 0 x j = hi 0 x j := fun x j hj => by simp [setM, thr, up1, setB, hj]
  have m36 : ∀ x, setM (thr (setB hi B g)) C 36 0 x = C x := fun x => by simp [setM]
  refine ⟨hI.num, hI.day, hI.cst, hI.quo, hI.std, fun x x0 x1 => ?_, hI.fre, hI.rep, hI.lea.c rfl rfl rfl rfl rfl rfl (fun x => ⟨c1 x 1 (by decide), c1 x 8 (by decide)⟩), hI.dam, hI.han.c rfl rfl rfl (fun x => ⟨c1 x 8 (by decide), c1 x 1 (by decide), c1 x 9 (by decide)⟩), fun x x0 x1 => ?_, hI.nov⟩
  · have o := hI.box x x0 x1
    rw [m36, c17, c1 x 0 (by decide), c1 x 1 (by decide), c1 x 5 (by decide), c1 x 6 (by decide), c1 x 8 (by decide)]
    exact ⟨o.1, o.2.1, o.2.2.1, o.2.2.2.1, o.2.2.2.2.1, cc.2 x x0 x1, hb x x0 x1⟩
  · have o := hI.bok x x0 x1
    have w := hg x x0 x1
    have eg : givI (fun b => setM (thr (setB hi B g)) C 1 b 7) nb x = givI B nb x := sI_c (fun b _ _ => by show bI (setM (thr (setB hi B g)) C 1 b 7 = x) = bI (B b = x); rw [c17])
    rw [eg, c03, c0 x 0 (by decide), c0 x 1 (by decide), c0 x 2 (by decide), c0 x 4 (by decide)]
    exact ⟨o.1, o.2.1, o.2.2.1, o.2.2.2.1, ⟨w.1, w.2.1⟩, w.2.2⟩
end ST5
