/-! ===== rows for the printed walks: reads that say their value, branches on told truths ===== -/
/-- 1 where P holds, else 0 -/
noncomputable def bI (P : Prop) : Int := @ite Int P (Classical.propDecidable P) 1 0
theorem bI_t {P : Prop} (h : P) : bI P = 1 := by unfold bI; exact if_pos h
theorem bI_f {P : Prop} (h : ¬ P) : bI P = 0 := by unfold bI; exact if_neg h
theorem bI_01 {P : Prop} : bI P = 0 ∨ bI P = 1 := by
  by_cases h : P
  · exact Or.inr (bI_t h)
  · exact Or.inl (bI_f h)
theorem bI_ne {P : Prop} : bI P ≠ 0 ↔ P := by
  by_cases h : P
  · rw [bI_t h]; simp [h]
  · rw [bI_f h]; simp [h]
theorem bI_eq {P : Prop} : bI P = 0 ↔ ¬ P := by
  by_cases h : P
  · rw [bI_t h]; simp [h]
  · rw [bI_f h]; simp [h]
theorem bI_iff {P R : Prop} (h : P ↔ R) : bI P = bI R := by
  by_cases p : P
  · rw [bI_t p, bI_t (h.mp p)]
  · rw [bI_f p, bI_f (fun q => p (h.mpr q))]
theorem bI_le {P : Prop} : 0 ≤ bI P ∧ bI P ≤ 1 := by
  rcases bI_01 (P := P) with h | h <;> omega
theorem dR {P : Prop} {x y : Int} {h h' : Hp} (e : x = y) (g : h = h') : some (aI x) = some (aI y) ∧ h = h' := ⟨by rw [e], g⟩
section P2
variable {I : MI} {pc : Nat} {xs : List (Option Av)} {st : List Av} {hi : Hi} {nb nk : Int} {h : Hp} {cs sl : Nat} {Q : Option Av → Hp → Prop} {X : String → Hp → Prop}
theorem q_getI {t j index : Nat} {i jI n9 v : Int} (hf : ax_Fl (mOwn I) index t j) (hr : ax_rf t j = false) (hd : decode (mC I) pc = .ok (.getfield index, 3)) (hj : ((j : Nat) : Int) = jI) (hn : CN (hi 98 0 0) nb nk t = n9) (h0 : 0 ≤ i) (h1 : i < n9) (hv : hi t i jI = v) (k : Run I (pc + 3) xs (aI v :: st) (hp hi nb nk) cs sl Q X) : Run I pc xs (aR t i :: st) (hp hi nb nk) cs sl Q X := by
  subst hv
  exact p_getI hf hr hd hj hn h0 h1 k
theorem q_iald {kk n : Nat} {i x n9 nI v : Int} (hk : ax_kd kk = (8, n)) (hd : decode (mC I) pc = .ok (.iaload, 1)) (hc : CN (hi 98 0 0) nb nk kk = n9) (h0 : 0 ≤ i) (h1 : i < n9) (hnI : ((n : Nat) : Int) = nI) (x0 : 0 ≤ x) (x1 : x < nI) (hv : hi kk i x = v) (k : Run I (pc + 1) xs (aI v :: st) (hp hi nb nk) cs sl Q X) : Run I pc xs (aI x :: aR kk i :: st) (hp hi nb nk) cs sl Q X := by
  subst hv
  exact p_iald hk hd hc h0 h1 hnI x0 x1 k
theorem q_zald {kk n : Nat} {i x n9 nI v : Int} (hk : ax_kd kk = (9, n)) (hd : decode (mC I) pc = .ok (.baload, 1)) (hc : CN (hi 98 0 0) nb nk kk = n9) (h0 : 0 ≤ i) (h1 : i < n9) (hnI : ((n : Nat) : Int) = nI) (x0 : 0 ≤ x) (x1 : x < nI) (hv : hi kk i x = v) (k : Run I (pc + 1) xs (aI v :: st) (hp hi nb nk) cs sl Q X) : Run I pc xs (aI x :: aR kk i :: st) (hp hi nb nk) cs sl Q X := by
  subst hv
  exact p_zald hk hd hc h0 h1 hnI x0 x1 k
theorem q_ifeqB {P : Prop} {off : Int} {tgt : Nat} (hd : decode (mC I) pc = .ok (.ifCond .eq off, 3)) (ht : (pc : Int) + off = (tgt : Int)) (kt : ¬ P → Run I tgt xs st h cs sl Q X) (kf : P → Run I (pc + 3) xs st h cs sl Q X) : Run I pc xs (aI (bI P) :: st) h cs sl Q X :=
  r_if_eq hd ht (fun c => kt (bI_eq.mp c)) (fun c => kf (bI_ne.mp c))
theorem q_ifneB {P : Prop} {off : Int} {tgt : Nat} (hd : decode (mC I) pc = .ok (.ifCond .ne off, 3)) (ht : (pc : Int) + off = (tgt : Int)) (kt : P → Run I tgt xs st h cs sl Q X) (kf : ¬ P → Run I (pc + 3) xs st h cs sl Q X) : Run I pc xs (aI (bI P) :: st) h cs sl Q X :=
  r_if_ne hd ht (fun c => kt (bI_ne.mp c)) (fun c => kf (bI_eq.mp c))
theorem q_ifnullS {kk : Nat} {i off : Int} {tgt : Nat} (hd : decode (mC I) pc = .ok (.ifnull off, 3)) (ht : (pc : Int) + off = (tgt : Int)) (kf : Run I (pc + 3) xs st h cs sl Q X) : Run I pc xs (aR kk i :: st) h cs sl Q X :=
  r_ifnull hd ht (fun c => by cases c) (fun _ => kf)
theorem q_ifnullN {off : Int} {tgt : Nat} (hd : decode (mC I) pc = .ok (.ifnull off, 3)) (ht : (pc : Int) + off = (tgt : Int)) (kt : Run I tgt xs st h cs sl Q X) : Run I pc xs (aN :: st) h cs sl Q X :=
  r_ifnull hd ht (fun _ => kt) (fun c => absurd rfl c)
theorem q_ifnonnullS {kk : Nat} {i off : Int} {tgt : Nat} (hd : decode (mC I) pc = .ok (.ifnonnull off, 3)) (ht : (pc : Int) + off = (tgt : Int)) (kt : Run I tgt xs st h cs sl Q X) : Run I pc xs (aR kk i :: st) h cs sl Q X :=
  r_ifnonnull hd ht (fun _ => kt) (fun c => by cases c)
theorem q_ifnonnullN {off : Int} {tgt : Nat} (hd : decode (mC I) pc = .ok (.ifnonnull off, 3)) (ht : (pc : Int) + off = (tgt : Int)) (kf : Run I (pc + 3) xs st h cs sl Q X) : Run I pc xs (aN :: st) h cs sl Q X :=
  r_ifnonnull hd ht (fun c => absurd rfl c) (fun _ => kf)
/-- where P holds throughout -/
theorem q_if {P : Prop} (hP : P) (k : P → Run I pc xs st h cs sl Q X) : Run I pc xs st h cs sl Q X := k hP
end P2
/-! sums, and folds over the first reports -/
def sN (f : Int → Int) : Nat → Int
  | 0 => 0
  | n + 1 => sN f n + f (n : Int)
def sI (f : Int → Int) (n : Int) : Int := sN f n.toNat
theorem sI_0 {f : Int → Int} : sI f 0 = 0 := rfl
theorem sI_s {f : Int → Int} {n : Int} (h : 0 ≤ n) : sI f (n + 1) = sI f n + f n := by
  unfold sI
  obtain ⟨m, rfl⟩ := Int.eq_ofNat_of_zero_le h
  have : ((m : Int) + 1).toNat = m + 1 := by omega
  rw [this]
  simp [sN]
theorem sI_c {f g : Int → Int} {n : Int} (h : ∀ i, 0 ≤ i → i < n → f i = g i) : sI f n = sI g n := by
  unfold sI
  have : ∀ m : Nat, (m : Int) ≤ n ∨ m = 0 → sN f m = sN g m := by
    intro m
    induction m with
    | zero => intro _; rfl
    | succ m ih =>
      intro hm
      simp only [sN]
      rw [ih (Or.inl (by omega)), h m (by omega) (by omega)]
  exact this n.toNat (by omega)
theorem sI_r {f : Int → Int} {n a b : Int} (h : ∀ i, 0 ≤ i → i < n → a ≤ f i ∧ f i ≤ b) (hn : 0 ≤ n) : a * n ≤ sI f n ∧ sI f n ≤ b * n := by
  obtain ⟨m, rfl⟩ := Int.eq_ofNat_of_zero_le hn
  unfold sI
  simp only [Int.toNat_natCast]
  induction m with
  | zero => simp [sN]
  | succ m ih =>
    have h1 := ih (fun i h0 h1 => h i h0 (by omega)) (by omega)
    have h2 := h m (by omega) (by omega)
    simp only [sN]
    have e1 : a * ((m + 1 : Nat) : Int) = a * m + a := by push_cast; rw [Int.mul_add, Int.mul_one]
    have e2 : b * ((m + 1 : Nat) : Int) = b * m + b := by push_cast; rw [Int.mul_add, Int.mul_one]
    omega
def foN {α : Type} (f : α → Int → α) (a : α) : Nat → α
  | 0 => a
  | n + 1 => f (foN f a n) (n : Int)
def foI {α : Type} (f : α → Int → α) (a : α) (n : Int) : α := foN f a n.toNat
theorem foI_0 {α : Type} {f : α → Int → α} {a : α} : foI f a 0 = a := rfl
theorem foI_s {α : Type} {f : α → Int → α} {a : α} {n : Int} (h : 0 ≤ n) : foI f a (n + 1) = f (foI f a n) n := by
  unfold foI
  obtain ⟨m, rfl⟩ := Int.eq_ofNat_of_zero_le h
  have : ((m : Int) + 1).toNat = m + 1 := by omega
  rw [this]
  simp [foN]
theorem foI_c {α : Type} {f g : α → Int → α} {a : α} {n : Int} (h : ∀ i, 0 ≤ i → i < n → ∀ x, f x i = g x i) : foI f a n = foI g a n := by
  unfold foI
  have : ∀ m : Nat, (m : Int) ≤ n ∨ m = 0 → foN f a m = foN g a m := by
    intro m
    induction m with
    | zero => intro _; rfl
    | succ m ih =>
      intro hm
      simp only [foN]
      rw [ih (Or.inl (by omega)), h m (by omega) (by omega)]
  exact this n.toNat (by omega)
/-- how many of the first n days lie up to a day, before the first that doesn't -/
def upN (ds : Int → Int) (day : Int) : Nat → Int
  | 0 => 0
  | n + 1 => if upN ds day n = (n : Int) ∧ ds n ≤ day then (n : Int) + 1 else upN ds day n
def upI (ds : Int → Int) (day n : Int) : Int := upN ds day n.toNat
theorem upN_le {ds : Int → Int} {day : Int} (n : Nat) : 0 ≤ upN ds day n ∧ upN ds day n ≤ n := by
  induction n with
  | zero => simp [upN]
  | succ n ih => simp only [upN]; split <;> omega
theorem upN_all {ds : Int → Int} {day : Int} (n : Nat) (h : ∀ k, 0 ≤ k → k < (n : Int) → ds k ≤ day) : upN ds day n = n := by
  induction n with
  | zero => rfl
  | succ n ih =>
    simp only [upN]
    rw [if_pos ⟨ih (fun k a b => h k a (by omega)), h n (by omega) (by omega)⟩]
    omega
theorem upN_at {ds : Int → Int} {day : Int} (n i : Nat) (hi : i < n) (h : ∀ k, 0 ≤ k → k < (i : Int) → ds k ≤ day) (hx : ¬ ds i ≤ day) : upN ds day n = i := by
  induction n with
  | zero => omega
  | succ n ih =>
    simp only [upN]
    by_cases e : i = n
    · subst e
      rw [if_neg (fun q => hx q.2), upN_all i h]
    · rw [ih (by omega), if_neg (by omega)]
theorem upI_eq {ds : Int → Int} {day n i : Int} (h0 : 0 ≤ i) (hn : i ≤ n) (h : ∀ k, 0 ≤ k → k < i → ds k ≤ day) (hx : i = n ∨ ¬ ds i ≤ day) : upI ds day n = i := by
  unfold upI
  obtain ⟨m, rfl⟩ := Int.eq_ofNat_of_zero_le h0
  by_cases e : (m : Int) = n
  · subst e; simp only [Int.toNat_natCast]; exact upN_all m h
  · exact upN_at n.toNat m (by omega) h (by rcases hx with q | q; exact absurd q e; exact q)
theorem upI_r {ds : Int → Int} {day n : Int} (h : 0 ≤ n) : 0 ≤ upI ds day n ∧ upI ds day n ≤ n := by
  have := upN_le (ds := ds) (day := day) n.toNat
  unfold upI
  omega
theorem upN_c {ds es : Int → Int} {day : Int} (n : Nat) (h : ∀ k, 0 ≤ k → k < (n : Int) → ds k = es k) : upN ds day n = upN es day n := by
  induction n with
  | zero => rfl
  | succ n ih =>
    simp only [upN]
    rw [ih (fun k a b => h k a (by omega)), h n (by omega) (by omega)]
theorem upI_c {ds es : Int → Int} {day n : Int} (h : ∀ k, 0 ≤ k → k < n → ds k = es k) : upI ds day n = upI es day n :=
  upN_c n.toNat (fun k a b => h k a (by omega))
theorem r_dup2 {I : MI} {pc : Nat} {xs : List (Option Av)} {st : List Av} {h : Hp} {cs sl : Nat} {Q : Option Av → Hp → Prop} {X : String → Hp → Prop} {v w : Av} (hd : decode (mC I) pc = .ok (.dup2, 1)) (hv : ∀ ad, (ax_v ad v).category = 1) (hw : ∀ ad, (ax_v ad w).category = 1) (k : Run I (pc + 1) xs (v :: w :: v :: w :: st) h cs sl Q X) : Run I pc xs (v :: w :: st) h cs sl Q X := by
  intro l p e s m args below meth c D cA z0 n0 ad0 ad H locs ls B
  obtain ⟨hC, hR, hS, hE, hL, hxs, hst⟩ := B
  exact lv_dup2_11 hC.1 hC.2.1 hd (hv ad) (hw ad) (k l p e s m args below meth c D cA z0 n0 ad0 ad H locs ls ⟨hC, hR, hS, hE, hL, hxs, List.forall_mem_cons.mpr ⟨hst _ List.mem_cons_self, List.forall_mem_cons.mpr ⟨hst _ (List.mem_cons_of_mem _ List.mem_cons_self), hst⟩⟩⟩)
theorem hr_8 {nb nk i x : Int} (h0 : 0 ≤ x) (h1 : x < 6) : HR nb nk 8 i x = some (9, x) := if_pos ⟨h0, h1⟩
theorem hr_10 {nb nk i x : Int} (h0 : 0 ≤ x) (h1 : x < 3) : HR nb nk 10 i x = some (11, x) := if_pos ⟨h0, h1⟩
theorem hr_13 {nb nk x : Int} (h0 : 0 ≤ x) (h1 : x < nb) : HR nb nk 13 0 x = some (1, x) := if_pos ⟨rfl, h0, h1⟩
theorem hr_14 {nb nk x : Int} (h0 : 0 ≤ x) (h1 : x < nk) : HR nb nk 14 0 x = some (0, x) := if_pos ⟨rfl, h0, h1⟩
theorem hr_13n {nb nk x : Int} (h1 : ¬ (0 ≤ x ∧ x < nb)) : HR nb nk 13 0 x = none := if_neg (fun q => h1 q.2)
theorem hr_14n {nb nk x : Int} (h1 : ¬ (0 ≤ x ∧ x < nk)) : HR nb nk 14 0 x = none := if_neg (fun q => h1 q.2)
theorem pn_X0 : plainName RX0 = true := by decide +kernel
theorem pn_X1 : plainName RX1 = true := by decide +kernel
theorem pn_X2 : plainName RX2 = true := by decide +kernel
theorem pn_X3 : plainName RX3 = true := by decide +kernel
theorem pn_X4 : plainName RX4 = true := by decide +kernel
theorem pn_X5 : plainName RX5 = true := by decide +kernel
theorem pn_X6 : plainName RX6 = true := by decide +kernel
theorem pn_L : plainName RL = true := by decide +kernel
section ST
variable {I : MI} {av : List Av} {h h2 : Hp} {xs : List (Option Av)} {r : Option Av} {P : Prop} {E : String} {Q0 : Option Av → Hp → Prop} {X0 : String → Hp → Prop}
theorem st_d (hy : plainName (mY I).cls = true) (hsc : mSc I = none) (hown : mOwn I = (mY I).cls) (hlen : av.length ≤ mL I) (hcat : av.all (fun v => ax_cat v == 1) = true) (hxs : xs = av.map some ++ List.replicate (mL I - av.length) none) (k : ∀ (Q : Option Av → Hp → Prop) (X : String → Hp → Prop), Q r h2 → Run I 0 xs [] h 0 0 Q X) : Det I av h r h2 := ax_start hy hsc hown hlen hcat hxs (k _ _ ⟨rfl, rfl⟩)
theorem st_n (hy : plainName (mY I).cls = true) (hsc : mSc I = none) (hown : mOwn I = (mY I).cls) (hlen : av.length ≤ mL I) (hcat : av.all (fun v => ax_cat v == 1) = true) (hxs : xs = av.map some ++ List.replicate (mL I - av.length) none) (k : ∀ (Q : Option Av → Hp → Prop) (X : String → Hp → Prop), (P → Q r h) → (¬ P → X E h) → Run I 0 xs [] h 0 0 Q X) : Need I av h P r E := ax_start hy hsc hown hlen hcat hxs (k _ _ (fun p => ⟨p, rfl, rfl⟩) (fun p => ⟨rfl, rfl, p⟩))
theorem st_r (hy : plainName (mY I).cls = true) (hsc : mSc I = none) (hown : mOwn I = (mY I).cls) (hlen : av.length ≤ mL I) (hcat : av.all (fun v => ax_cat v == 1) = true) (hxs : xs = av.map some ++ List.replicate (mL I - av.length) none) (k : ∀ (Q : Option Av → Hp → Prop) (X : String → Hp → Prop), (∀ r h, Q0 r h → Q r h) → (∀ E h, X0 E h → X E h) → Run I 0 xs [] h 0 0 Q X) : Con I av h Q0 X0 := ax_start hy hsc hown hlen hcat hxs (k _ _ (fun _ _ q => q) (fun _ _ q => q))
theorem qI {Q : Option Av → Hp → Prop} {x y : Int} {h h' : Hp} (hQ : Q (some (aI y)) h') (e : x = y) (g : h = h') : Q (some (aI x)) h := by rw [e, g]; exact hQ
theorem qN {Q : Option Av → Hp → Prop} {h h' : Hp} (hQ : Q none h') (g : h = h') : Q none h := by rw [g]; exact hQ
end ST
theorem Int32_min {x y : Int} : (if y < x then y else x) = min x y := by
  rw [Int.min_def]; split <;> split <;> omega
