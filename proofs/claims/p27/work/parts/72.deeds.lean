/-! ===== the law's deeds: what each call answers, and what holds behind it ===== -/
def LawI (hi : Hi) (nb nk dy lk : Int) : Prop := Inv hi nb nk ∧ hi 6 0 8 = dy ∧ vWan hi nk ∧ 0 ≤ hi 98 0 0 ∧ hi 98 0 0 ≤ lk
section DE
variable {hi : Hi} {nb nk dy lk : Int}
theorem cd3 {cd : Int} (h : cd = 0 ∨ cd = 3) : cd = 0 ∨ (cd ≠ 0 ∧ cd = 3) := by omega
theorem J_box (LI : LawI hi nb nk dy lk) (h40 : nb < 40) {kd ls un : Int} (hk : 0 ≤ kd ∧ kd ≤ 2) (hl : -1 ≤ ls ∧ ls ≤ 2) (hu : 0 ≤ un ∧ un ≤ 9999) : ∃ h' : Hi, Det I_L_ask [aR 6 0, aI 0, aI kd, aI ls, aI un, aI 0] (hp hi nb nk) (some (aI nb)) (hp h' (nb + 1) nk) ∧ LawI h' (nb + 1) nk dy lk ∧ plcC h' nb dy = 10 := by
  obtain ⟨hI, hd, hw, hg⟩ := id LI
  have c0 : cC_box nb kd ls un = 0 := by unfold cC_box; (repeat' split) <;> omega
  have i9 := hI.boxed c0
  have bv := boxH_v (hi := hi) (nb := nb) (kd := kd) (ls := ls) (un := un)
  have ot : ∀ (k : Nat) (i j : Int), isBk k = false → k ≠ 6 → up1 (boxH hi nb kd ls un) 6 0 6 (nb + 1) k i j = hi k i j := fun k i j h1 h2 => by
    rw [up1_n (fun z => h2 z.1), boxH_r (Or.inl h1)]
  refine ⟨_, ask_ok (A_box hI) c0 (by decide) (by decide) (by decide), ⟨i9, ?_, fun k k0 k1 => ?_, ?_⟩, plc_0 i9 ?_⟩
  · rw [up1_n (by omega), boxH_r (Or.inl rfl)]; exact hd
  · rw [ot 60 0 k rfl (by decide), ot 0 k 4 rfl (by decide), ot 0 k 2 rfl (by decide)]
    exact hw k k0 k1
  · rw [ot 98 0 0 rfl (by decide)]
    exact hg
  · rw [up1_n (by omega)]
    exact bv.2.1
theorem J_wash (LI : LawI hi nb nk dy lk) {b u : Int} (b0 : 0 ≤ b) (b1 : b < nb) (hu : 0 ≤ u ∧ u ≤ 9999) : ∃ (told : Int) (h' : Hi), Det I_L_ask [aR 6 0, aI 1, aI b, aI u, aI 0, aI 0] (hp hi nb nk) (some (aI told)) (hp h' nb nk) ∧ LawI h' nb nk dy lk ∧ ((h' 1 b 8 ≠ -1 ∧ told = -1013) ∨ (h' 1 b 8 = -1 ∧ (told = 0 ∨ told = 1) ∧ h' 1 b 6 = 0)) := by
  obtain ⟨hI, hd, hw, hg⟩ := id LI
  by_cases q : hi 1 b 8 = -1
  · have c0 : cC_wash hi nb b u = 0 := by unfold cC_wash; (repeat' split) <;> omega
    refine ⟨_, _, ask_ok (A_wash hI) c0 (by decide) (by decide) (by decide), ⟨hI.wash c0, hd, hw, hg⟩, Or.inr ⟨?_, ?_, ?_⟩⟩
    · rw [up1_n (by omega), up1_n (by omega)]; exact q
    · have := hI.box b b0 b1; omega
    · rw [up1_n (by omega)]; exact up1_s
  · have c0 : cC_wash hi nb b u = 3 := by unfold cC_wash; (repeat' split) <;> omega
    exact ⟨_, hi, ask_no (A_wash hI) c0 (by decide) (by decide) (by decide), LI, Or.inl ⟨q, rfl⟩⟩
theorem J_report (LI : LawI hi nb nk dy lk) {b d e p : Int} (b0 : 0 ≤ b) (b1 : b < nb) (hd' : 0 ≤ d ∧ d ≤ dy) (he : 0 ≤ e ∧ e ≤ 3) (hp' : 0 ≤ p ∧ p < 6) : ∃ (told : Int) (h' : Hi), Det I_L_ask [aR 6 0, aI 2, aI b, aI d, aI e, aI p] (hp hi nb nk) (some (aI told)) (hp h' nb nk) ∧ LawI h' nb nk dy lk ∧ (told = -1013 ∨ (-1 ≤ told ∧ (told = -1 ∨ told = h' 4 b 5) ∧ ∃ told2 : Int, told2 < 0 ∧ Det I_L_ask [aR 6 0, aI 2, aI b, aI d, aI e, aI p] (hp h' nb nk) (some (aI told2)) (hp h' nb nk))) := by
  obtain ⟨hI, hd, hw, hg⟩ := id LI
  have cd : ∀ f : Hi, f 6 0 8 = dy → cC_report f nb b d e p = 0 ∨ cC_report f nb b d e p = 3 := fun f hf => by unfold cC_report; (repeat' split) <;> omega
  have rep : ∀ (f : Hi), LawI f nb nk dy lk → knoC f b d e p → ∃ told2 : Int, told2 < 0 ∧ Det I_L_ask [aR 6 0, aI 2, aI b, aI d, aI e, aI p] (hp f nb nk) (some (aI told2)) (hp f nb nk) := fun f lf kf => by
    rcases cd f lf.2.1 with c | c
    · have a := ask_ok (A_report lf.1 (x := b) (dy := d) (ev := e) (po := p)) c (by decide) (by decide) (by decide)
      rw [if_pos (bI_t kf), if_pos (bI_t kf)] at a
      exact ⟨-1, by decide, a⟩
    · exact ⟨-1013, by decide, ask_no (A_report lf.1 (x := b) (dy := d) (ev := e) (po := p)) c (by decide) (by decide) (by decide)⟩
  rcases cd hi hd with c | c
  · have a := ask_ok (A_report hI (x := b) (dy := d) (ev := e) (po := p)) c (by decide) (by decide) (by decide)
    by_cases k : knoC hi b d e p
    · rw [if_pos (bI_t k), if_pos (bI_t k)] at a
      exact ⟨_, hi, a, LI, Or.inr ⟨by decide, Or.inl rfl, rep hi LI k⟩⟩
    · rw [if_neg (c := bI (knoC hi b d e p) = 1) (by rw [bI_f k]; decide), if_neg (c := bI (knoC hi b d e p) = 1) (by rw [bI_f k]; decide)] at a
      have r : hi 4 b 4 < 30 := by unfold cC_report at c; (repeat' split at c) <;> omega
      have i9 := hI.told (d := d) (e := e) (p := p) b0 b1 r (by omega) he hp'
      have l9 : LawI (telH hi b d e p) nb nk dy lk := ⟨i9, hd, hw, hg⟩
      have dr := dbt_r i9 b0 b1
      exact ⟨_, _, a, l9, Or.inr ⟨by omega, Or.inr rfl, rep _ l9 (kno_told hI b0 b1)⟩⟩
  · exact ⟨_, hi, ask_no (A_report hI (x := b) (dy := d) (ev := e) (po := p)) c (by decide) (by decide) (by decide), LI, Or.inl rfl⟩
theorem J_lease (LI : LawI hi nb nk dy lk) {b fr to : Int} (b0 : 0 ≤ b) (b1 : b < nb) (hf : 0 ≤ fr ∧ fr ≤ to ∧ to ≤ 9999) : ∃ (told : Int) (h' : Hi), Det I_L_ask [aR 6 0, aI 3, aI b, aI fr, aI to, aI 0] (hp hi nb nk) (some (aI told)) (hp h' nb nk) ∧ LawI h' nb nk dy lk ∧ (told = -1013 ∨ (told = 0 ∧ 0 ≤ h' 1 b 1 ∧ h' 1 b 8 = -1)) := by
  obtain ⟨hI, hd, hw, hg⟩ := id LI
  have cd : cC_lease hi nb b fr to = 0 ∨ cC_lease hi nb b fr to = 3 := by unfold cC_lease; (repeat' split) <;> omega
  rcases cd with c | c
  · have r : hi 1 b 1 ≠ -1 ∧ hi 1 b 8 = -1 := by unfold cC_lease at c; (repeat' split at c) <;> omega
    have g := (hI.box b b0 b1).2.1
    refine ⟨_, _, ask_ok (A_lease hI) c (by decide) (by decide) (by decide), ⟨hI.lease c, hd, hw, hg⟩, Or.inr ⟨rfl, ?_, r.2⟩⟩
    show 0 ≤ hi 1 b 1
    omega
  · exact ⟨_, hi, ask_no (A_lease hI) c (by decide) (by decide) (by decide), LI, Or.inl rfl⟩
theorem J_handIn (LI : LawI hi nb nk dy lk) {b : Int} (b0 : 0 ≤ b) (b1 : b < nb) (hdy : dy ≤ 9000) : ∃ (told : Int) (h' : Hi), Det I_L_ask [aR 6 0, aI 4, aI b, aI 0, aI 0, aI 0] (hp hi nb nk) (some (aI told)) (hp h' nb nk) ∧ LawI h' nb nk dy lk ∧ (told = -1013 ∨ ((0 ≤ told ∧ told < 9) ∧ bI (holC hi b (hi 6 0 8)) = 1 ∧ plcC hi b dy < 6 ∧ h' 1 b 8 ≠ -1 ∧ plcC h' b 9999 = plcC h' b dy ∧ payC h' b 9999 = 1 ∧ Det I_L_ask [aR 6 0, aI 4, aI b, aI 0, aI 0, aI 0] (hp h' nb nk) (some (aI (-1013))) (hp h' nb nk))) := by
  obtain ⟨hI, hd, hw, hg⟩ := id LI
  have cd : cC_handIn hi nb b = 0 ∨ cC_handIn hi nb b = 2 := by unfold cC_handIn; (repeat' split) <;> omega
  rcases cd with c | c
  · have r : bI (holC hi b (hi 6 0 8)) ≠ 0 ∧ plcC hi b (hi 6 0 8) < 6 := by unfold cC_handIn at c; (repeat' split at c) <;> omega
    have i9 := hI.handed c
    have x8 : hanH hi b 1 b 8 = hi 6 0 8 := by simp [hanH, up1]
    have y := hI.day
    unfold vDay at y
    refine ⟨_, _, ask_ok (A_handIn hI) c (by decide) (by decide) (by decide), ⟨i9, hd, hw, hg⟩, Or.inr ⟨lef_r hI c, bI_t (bI_ne.mp r.1), by rw [← hd]; exact r.2, by rw [x8]; omega, ?_, pay_handed hI c (by omega), ?_⟩⟩
    · have e6 : hanH hi b 6 0 8 = hi 6 0 8 := rfl
      rw [plc_now i9 b0 b1 (by rw [e6]; omega), plc_now i9 b0 b1 (by rw [e6]; omega)]
    · refine ask_no (A_handIn i9) ?_ (by decide) (by decide) (by decide)
      unfold cC_handIn
      rw [if_neg (fun z => z ⟨b0, b1⟩), if_pos (by rw [x8]; omega)]
  · exact ⟨_, hi, ask_no (A_handIn hI) c (by decide) (by decide) (by decide), LI, Or.inl rfl⟩
theorem J_damage (LI : LawI hi nb nk dy lk) {b co si : Int} (b0 : 0 ≤ b) (b1 : b < nb) (hc : 0 ≤ co ∧ co < 5) (hs : 1 ≤ si ∧ si ≤ 20) : ∃ (told : Int) (h' : Hi), Det I_L_ask [aR 6 0, aI 5, aI b, aI co, aI si, aI 0] (hp hi nb nk) (some (aI told)) (hp h' nb nk) ∧ LawI h' nb nk dy lk ∧ (told = -1013 ∨ (0 ≤ told ∧ told = menC h' b)) := by
  obtain ⟨hI, hd, hw, hg⟩ := id LI
  have cd : cC_damage hi nb b co si = 0 ∨ cC_damage hi nb b co si = 3 := by unfold cC_damage; (repeat' split) <;> omega
  rcases cd with c | c
  · have i9 := hI.damage c
    exact ⟨_, _, ask_ok (A_damage hI) c (by decide) (by decide) (by decide), ⟨i9, hd, hw, hg⟩, Or.inr ⟨(men_r i9 b0 b1).1, rfl⟩⟩
  · exact ⟨_, hi, ask_no (A_damage hI) c (by decide) (by decide) (by decide), LI, Or.inl rfl⟩
theorem J_mend (LI : LawI hi nb nk dy lk) {b : Int} (b0 : 0 ≤ b) (b1 : b < nb) : ∃ (told : Int) (h' : Hi), Det I_L_ask [aR 6 0, aI 6, aI b, aI 0, aI 0, aI 0] (hp hi nb nk) (some (aI told)) (hp h' nb nk) ∧ LawI h' nb nk dy lk ∧ ((told = -1013 ∧ menC h' b = menC hi b) ∨ (told = menC hi b ∧ 0 < menC hi b ∧ menC h' b = 0)) := by
  obtain ⟨hI, hd, hw, hg⟩ := id LI
  have cd : cC_mend hi nb b = 0 ∨ cC_mend hi nb b = 2 := by unfold cC_mend; (repeat' split) <;> omega
  rcases cd with c | c
  · have r : menC hi b ≠ 0 := by unfold cC_mend at c; (repeat' split at c) <;> omega
    have := men_r hI b0 b1
    exact ⟨_, _, ask_ok (A_mend hI) c (by decide) (by decide) (by decide), ⟨hI.mend c, hd, hw, hg⟩, Or.inr ⟨rfl, by omega, men_z⟩⟩
  · exact ⟨_, hi, ask_no (A_mend hI) c (by decide) (by decide) (by decide), LI, Or.inl ⟨rfl, rfl⟩⟩
theorem Inv.wan (h : Inv hi nb nk) {k v : Int} : Inv (up1 hi 60 0 k v) nb nk := ⟨h.num, h.day, h.cst, h.quo, h.std, h.box, h.rep, h.lea, h.dam, h.bok, h.ext⟩
theorem J_book (LI : LawI hi nb nk dy lk) (h20 : nk < 20) {po kd wa : Int} (hp' : 0 ≤ po ∧ po < 6) (hk : 0 ≤ kd ∧ kd ≤ 2) (hwa : 1 ≤ wa ∧ wa ≤ 9) : ∃ h' : Hi, Det I_L_ask [aR 6 0, aI 7, aI po, aI kd, aI wa, aI 0] (hp (up1 hi 60 0 nk wa) nb nk) (some (aI nk)) (hp h' nb (nk + 1)) ∧ LawI h' nb (nk + 1) dy lk := by
  obtain ⟨hI, hd, hw, hg⟩ := id LI
  have hI' := hI.wan (k := nk) (v := wa)
  have c0 : cC_book nk po kd wa = 0 := by unfold cC_book; (repeat' split) <;> omega
  have bv : bokH (up1 hi 60 0 nk wa) nk po kd wa 0 nk 2 = wa ∧ bokH (up1 hi 60 0 nk wa) nk po kd wa 0 nk 4 = 0 := by simp [bokH, cF0, zf, up1]
  have ot : ∀ (k : Nat) (i j : Int), k ≠ 6 → (k ≠ 0 ∨ i ≠ nk) → up1 (bokH (up1 hi 60 0 nk wa) nk po kd wa) 6 0 7 (nk + 1) k i j = up1 hi 60 0 nk wa k i j := fun k i j h1 h2 => by
    rw [up1_n (fun z => h1 z.1), bokH_r h2]
  refine ⟨_, ask_ok (A_book hI') c0 (by decide) (by decide) (by decide), hI'.booked c0, ?_, fun k k0 k1 => ?_, ?_⟩
  · rw [up1_n (by omega), bokH_r (Or.inl (by decide))]; exact hd
  · rw [ot 60 0 k (by decide) (Or.inl (by decide))]
    by_cases q : k = nk
    · subst q
      rw [up1_s, up1_n (k' := 0) (by omega), up1_n (k' := 0) (by omega), bv.1, bv.2]
      rfl
    · rw [ot 0 k 4 (by decide) (Or.inr q), ot 0 k 2 (by decide) (Or.inr q), up1_n (by omega)]
      exact hw k k0 (by omega)
  · rw [ot 98 0 0 (by decide) (Or.inl (by decide)), up1_n (by omega)]
    exact hg
theorem lac_sv {B : Int → Int} (hI : Inv hi nb nk) {g : Int → Int} (hg : ∀ k, 0 ≤ k → k < nk → 0 ≤ g k ∧ g k ≤ hi 0 k 2 ∧ (hi 0 k 4 = 0 → g k = givI B nb k)) {k : Int} (k0 : 0 ≤ k) (k1 : k < nk) : lacC (setB hi B g) k = svL hi nb B k := by
  have c03 : setB hi B g 0 k 3 = g k := by simp [setB]
  have c0 : ∀ j, j ≠ 3 → setB hi B g 0 k j = hi 0 k j := fun j hj => by simp [setB, hj]
  unfold lacC svL
  rw [c03, c0 2 (by decide), c0 4 (by decide)]
  by_cases q : hi 0 k 4 = 0
  · rw [if_pos q, if_pos q, (hg k k0 k1).2.2 q]
  · rw [if_neg q, if_neg q]
theorem lac_s0 (hI : Inv hi nb nk) {k : Int} (k0 : 0 ≤ k) (k1 : k < nk) : svL hi nb (fun b => hi 1 b 7) k = lacC hi k := by
  unfold lacC svL
  by_cases q : hi 0 k 4 = 0
  · rw [if_pos q, if_pos q, (hI.bok k k0 k1).2.2.2.2.2 q]
  · rw [if_neg q, if_neg q]
theorem LawI.serve (LI : LawI hi nb nk dy lk) {B g : Int → Int} (hI' : Inv (setB hi B g) nb nk) : LawI (setB hi B g) nb nk dy lk := by
  obtain ⟨hI, hd, hw, hg⟩ := id LI
  refine ⟨hI', hd, fun k k0 k1 => ?_, hg⟩
  have c0 : ∀ j, j ≠ 3 → setB hi B g 0 k j = hi 0 k j := fun j hj => by simp [setB, hj]
  rw [c0 2 (by decide), c0 4 (by decide)]
  exact hw k k0 k1
/-- served once, and once more: the second time nothing is given -/
def srvR (nb nk dy lk : Int) (v : Int → Hi → Prop) (r : Option Av) (h : Hp) : Prop := ∃ (x : Int) (h' : Hi), r = some (aI x) ∧ h = hp h' nb nk ∧ LawI h' nb nk dy lk ∧ v x h'
theorem J_serve2 (LI : LawI hi nb nk dy lk) (hf : ∀ k, 0 ≤ k → k < nk → svF hi nb (fun b => hi 1 b 7) k) : Con I_X6_serve [aR 6 0] (hp hi nb nk) (srvR nb nk dy lk (fun x _ => x = 0)) (fun _ _ => False) := by
  obtain ⟨hI, hd, hw, hg⟩ := id LI
  have hn := hI.num
  unfold vNum at hn
  refine Con_mono (K_X6_serve hI) ?_ (fun _ _ z => z)
  rintro r h ⟨g, rfl, rfl, h1, h2⟩
  have tw := svI_twice (hi := hi) (nb := nb) (nk := nk) (B := fun b => hi 1 b 7) hn.1 hf (fun k k0 k1 => (hI.bok k k0 k1).2.1.2) nk.toNat (by omega)
  rw [show ((nk.toNat : Nat) : Int) = nk by omega] at tw
  exact ⟨_, _, rfl, rfl, LI.serve (hI.served rfl h1 h2), by rw [tw]⟩
theorem J_serve (LI : LawI hi nb nk dy lk) : Con I_X6_serve [aR 6 0] (hp hi nb nk) (srvR nb nk dy lk (fun x h' => x = sI (fun k => lacC hi k) nk - sI (fun k => lacC h' k) nk ∧ Con I_X6_serve [aR 6 0] (hp h' nb nk) (srvR nb nk dy lk (fun x _ => x = 0)) (fun _ _ => False))) (fun _ _ => False) := by
  obtain ⟨hI, hd, hw, hg⟩ := id LI
  have hn := hI.num
  unfold vNum at hn
  refine Con_mono (K_X6_serve hI) ?_ (fun _ _ z => z)
  rintro r h ⟨g, rfl, rfl, h1, h2⟩
  have al := svI_all (nk := nk) hI.svB hn.1 nk.toNat (by omega)
  have fu := svI_f (nk := nk) hI.svB hn.1 (fun k k0 k1 => (hI.bok k k0 k1).2.1.2) nk.toNat (by omega)
  rw [show ((nk.toNat : Nat) : Int) = nk by omega] at al fu
  have i9 := hI.served rfl h1 h2
  have l9 := LI.serve i9
  generalize hB : (svI hi nb (fun b => hi 1 b 7) nk).1 = B at *
  refine ⟨_, _, rfl, rfl, l9, ?_, J_serve2 l9 ?_⟩
  · rw [al.2.2.1]
    have e1 : sI (fun k => svL hi nb (fun b => hi 1 b 7) k) nk = sI (fun k => lacC hi k) nk := sI_c (fun k k0 k1 => lac_s0 hI k0 k1)
    have e2 : sI (fun k => svL hi nb B k) nk = sI (fun k => lacC (setB hi B g) k) nk := sI_c (fun k k0 k1 => (lac_sv hI h1 k0 k1).symm)
    rw [← e1, ← e2]
    have sub : ∀ (f f' : Int → Int) (m : Nat), sI (fun k => f k - f' k) m = sI f m - sI f' m := by
      intro f f' m
      induction m with
      | zero => rfl
      | succ m ih =>
        have e : ((m + 1 : Nat) : Int) = (m : Int) + 1 := by omega
        rw [e, sI_s (by omega), sI_s (by omega), sI_s (by omega), ih]
        omega
    have := sub (fun k => svL hi nb (fun b => hi 1 b 7) k) (fun k => svL hi nb B k) nk.toNat
    rw [show ((nk.toNat : Nat) : Int) = nk by omega] at this
    exact this
  · intro k k0 k1
    have f := fu k k0 k1
    have eB : (fun b => setB hi B g 1 b 7) = B := funext fun b => by simp [setB]
    rw [eB]
    have c0 : ∀ j, j ≠ 3 → setB hi B g 0 k j = hi 0 k j := fun j hj => by simp [setB, hj]
    have c1 : ∀ b j, j ≠ 7 → setB hi B g 1 b j = hi 1 b j := fun b j hj => by simp [setB, hj]
    have eok : ∀ po kd b, okS (setB hi B g) B po kd b = okS hi B po kd b := fun po kd b => by
      unfold okS srvC
      rw [c1 b 0 (by decide), c1 b 8 (by decide), c1 b 6 (by decide), c1 b 5 (by decide)]
      rfl
    unfold svF svL at f ⊢
    rw [c0 0 (by decide), c0 1 (by decide), c0 2 (by decide), c0 4 (by decide)]
    simp only [eok]
    exact f
theorem J_end (LI : LawI hi nb nk dy lk) {k : Int} (k0 : 0 ≤ k) (k1 : k < nk) : ∃ (told : Int) (h' : Hi), Det I_L_ask [aR 6 0, aI 8, aI k, aI 0, aI 0, aI 0] (hp hi nb nk) (some (aI told)) (hp h' nb nk) ∧ h' 60 0 k = hi 60 0 k ∧ LawI (up1 h' 60 0 k 0) nb nk dy lk ∧ ((hi 60 0 k = 0 ∧ told = -1013) ∨ (hi 60 0 k ≠ 0 ∧ told = hi 60 0 k - lacC hi k)) := by
  obtain ⟨hI, hd, hw, hg⟩ := id LI
  have o := hI.bok k k0 k1
  have wk := hw k k0 k1
  by_cases q : hi 0 k 4 = 0
  · have c0 : cC_end hi nk k = 0 := by unfold cC_end; (repeat' split) <;> omega
    rw [if_pos q] at wk
    have i9 := hI.ended c0
    have e4 : enH hi k nb 0 k 4 = 1 := by simp [enH]
    have en : ∀ x j, x ≠ k → enH hi k nb 0 x j = hi 0 x j := fun x j hx => by simp [enH, hx]
    have en2 : ∀ j, j ≠ 4 → enH hi k nb 0 k j = hi 0 k j := fun j hj => by simp [enH, hj]
    refine ⟨_, _, ask_ok (A_end hI) c0 (by decide) (by decide) (by decide), rfl, ⟨i9.wan, hd, fun x x0 x1 => ?_, hg⟩, Or.inr ⟨by omega, ?_⟩⟩
    · by_cases e : x = k
      · subst e
        rw [up1_s, up1_n (k' := 0) (by omega), e4]
        rfl
      · rw [up1_n (by omega), up1_n (k' := 0) (by omega), up1_n (k' := 0) (by omega), en x 4 e, en x 2 e]
        exact hw x x0 x1
    · unfold lacC
      rw [if_pos q, wk]
      omega
  · have c0 : cC_end hi nk k = 2 := by unfold cC_end; (repeat' split) <;> omega
    rw [if_neg q] at wk
    refine ⟨_, hi, ask_no (A_end hI) c0 (by decide) (by decide) (by decide), rfl, ⟨hI.wan, hd, fun x x0 x1 => ?_, hg⟩, Or.inl ⟨wk, rfl⟩⟩
    rw [up1_n (k' := 0) (by omega), up1_n (k' := 0) (by omega)]
    by_cases e : x = k
    · subst e
      rw [up1_s, if_neg q]
    · rw [up1_n (by omega)]
      exact hw x x0 x1
theorem J_pass (LI : LawI hi nb nk dy lk) {d : Int} (h1 : 1 ≤ d ∧ d ≤ 400) (h2 : dy + d ≤ 9999) : ∃ h' : Hi, Det I_X6_pass [aR 6 0, aI d] (hp hi nb nk) (some (aI (dy + d))) (hp h' nb nk) ∧ LawI h' nb nk (dy + d) lk := by
  obtain ⟨hI, hd, hw, hg⟩ := id LI
  have c0 : cC_pass hi d = 0 := by unfold cC_pass; (repeat' split) <;> omega
  have a := KL_pass hI (d := d) (by omega)
  rw [hd] at a
  have i9 := hI.pass c0
  rw [hd] at i9
  exact ⟨_, a, i9, up1_s, hw, hg⟩
end DE
