/-! ===== the reference's plan: leastFrom (walk printed by wip/whole/tools/g67.py) ===== -/
/-- the row of least costs set anew -/
def lsH (hi : Hi) (L : Int → Int) : Hi := fun k i j => if k = 59 ∧ i = 0 then L j else hi k i j
theorem lsH_0 {hi : Hi} : hi = lsH hi (hi 59 0) := by
  funext k i j
  unfold lsH
  split
  next e => obtain ⟨rfl, rfl⟩ := e; rfl
  next => rfl
theorem lsH_up {hi : Hi} {L : Int → Int} {j v : Int} : up1 (lsH hi L) 59 0 j v = lsH hi (se1 L j v) := by
  funext k i x
  simp only [up1, lsH, se1]
  by_cases q : k = 59 ∧ i = 0
  · obtain ⟨rfl, rfl⟩ := q
    by_cases z : x = j
    · subst z; simp
    · simp [z]
  · rw [if_neg q, if_neg (fun z => q ⟨z.1, z.2.1⟩), if_neg q]
theorem lsH_k {hi : Hi} {L : Int → Int} {k : Nat} (h : k ≠ 59) : lsH hi L k = hi k := by
  funext i j
  unfold lsH
  rw [if_neg (fun z => h z.1)]
theorem K_X7_leastFrom {hi : Hi} {nb nk : Int} {U S f : Int} (hc : ∀ x, 0 ≤ x → x < 36 → 0 ≤ hi 30 0 x ∧ hi 30 0 x ≤ 9999) (hU : hi 7 0 32 = U ∧ 0 ≤ U ∧ U ≤ 5) (hS : hi 7 0 35 = S ∧ 0 ≤ S ∧ S ≤ 40) (hf : 0 ≤ f ∧ f ≤ U) (ho : chO S f (hi 58 0)) (hpw : ∀ i, 0 ≤ i → i < S → 0 ≤ hi 57 0 i ∧ hi 57 0 i < 6) (hpu : ∀ u, 0 ≤ u → u < U → 0 ≤ hi 55 0 u ∧ hi 55 0 u < 6) : Con I_X7_leastFrom [aR 7 0, aI f] (hp hi nb nk) (fun r h => ∃ (x : Int) (L : Int → Int), r = some (aI x) ∧ h = hp (lsH hi L) nb nk ∧ LfA U S (brM hi) f (hi 58 0) x ∧ 0 ≤ x ∧ x ≤ 2000000) (fun _ _ => False) := by
  have hcb : ∀ i v, 0 ≤ i → i < S → 0 ≤ v → v < U → 0 ≤ brM hi i v ∧ brM hi i v ≤ 9999 := fun i v i0 i1 v0 v1 => by
    have a := hpw i i0 i1
    have b := hpu v v0 v1
    exact hc _ (by omega) (by omega)
  refine st_r (xs := [some (aR 7 0), some (aI f), none, none, none, none, none, none]) pn_X7 rfl rfl (Nat.le_of_ble_eq_true rfl) rfl rfl (fun Q X hQ hX => ?_)
  refine r_iconst (pc := 0) (n := 0) dX7_leastFrom_0 (by decide) ?_
  refine r_istore_n (pc := 1) (xs' := [some (aR 7 0), some (aI f), some (aI 0), none, none, none, none, none]) dX7_leastFrom_1 (Nat.le_of_ble_eq_true rfl) rfl ?_
  refine r_iconst (pc := 2) (n := 0) dX7_leastFrom_2 (by decide) ?_
  refine r_istore_n (pc := 3) (xs' := [some (aR 7 0), some (aI f), some (aI 0), some (aI 0), none, none, none, none]) dX7_leastFrom_3 (Nat.le_of_ble_eq_true rfl) rfl ?_
  refine r_iconst (pc := 4) (n := 0) dX7_leastFrom_4 (by decide) ?_
  refine r_istore (pc := 5) (xs' := [some (aR 7 0), some (aI f), some (aI 0), some (aI 0), some (aI 0), none, none, none]) dX7_leastFrom_5 (Nat.le_of_ble_eq_true rfl) rfl ?_
  have loopA : ∀ (n9 : Nat) (u sv co : Int), (0 ≤ u ∧ u ≤ f) → (sv = srvI (hi 58 0) u ∧ 0 ≤ sv ∧ sv ≤ u) → (co = spdI (brM hi) (hi 58 0) u ∧ 0 ≤ co ∧ co ≤ 9999 * u) → f - u < (n9 : Int) → Run I_X7_leastFrom 7 [some (aR 7 0), some (aI f), some (aI sv), some (aI co), some (aI u), none, none, none] [] (hp hi nb nk) 0 0 Q X := by
    intro n9
    induction n9 with
    | zero => intro u sv co hA hsv hco hf9; exfalso; omega
    | succ n9 ih_loopA =>
      intro u sv co hA hsv hco hf9
      refine r_iload (pc := 7) dX7_leastFrom_7 rfl ?_
      refine r_iload_n (pc := 9) dX7_leastFrom_9 rfl ?_
      refine r_icmp_ge (pc := 10) (tgt := 69) dX7_leastFrom_10 rfl (fun c10 => ?_) (fun c10 => ?_)
      · refine r_iconst (pc := 69) (n := 0) dX7_leastFrom_69 (by decide) ?_
        refine r_istore (pc := 70) (xs' := [some (aR 7 0), some (aI f), some (aI sv), some (aI co), some (aI 0), none, none, none]) dX7_leastFrom_70 (Nat.le_of_ble_eq_true rfl) rfl ?_
        have hp2 := p2_r (p := U)
        have loopB : ∀ (n9 : Nat) (t : Int) (L : Int → Int), (0 ≤ t ∧ t ≤ p2 U) → (∀ s, 0 ≤ s → s < t → L s = if s = 0 then 0 else 1000000) → p2 U - t < (n9 : Int) → Run I_X7_leastFrom 72 [some (aR 7 0), some (aI f), some (aI sv), some (aI co), some (aI t), none, none, none] [] (hp (lsH hi L) nb nk) 0 0 Q X := by
          intro n9
          induction n9 with
          | zero => intro t L ht hL hf9; exfalso; omega
          | succ n9 ih_loopB =>
            intro t L ht hL hf9
            refine r_iload (pc := 72) dX7_leastFrom_72 rfl ?_
            refine r_iconst (pc := 74) (n := 1) dX7_leastFrom_74 (by decide) ?_
            refine r_aload_n (pc := 75) dX7_leastFrom_75 rfl ?_
            refine q_getI (pc := 76) (jI := 32) (n9 := 1) (v := U) fl_X7_207 rfl dX7_leastFrom_76 rfl rfl (by decide) (by decide) (by exact hU.1) ?_
            refine r_ishl (pc := 79) (z := p2 U) dX7_leastFrom_79 (bt_shl (p := U) (by omega)) (by have := p2_r (p := U); omega) ?_
            refine r_icmp_ge (pc := 80) (tgt := 107) dX7_leastFrom_80 rfl (fun c80 => ?_) (fun c80 => ?_)
            · refine r_iconst (pc := 107) (n := 0) dX7_leastFrom_107 (by decide) ?_
              refine r_istore (pc := 108) (xs' := [some (aR 7 0), some (aI f), some (aI sv), some (aI co), some (aI 0), none, none, none]) dX7_leastFrom_108 (Nat.le_of_ble_eq_true rfl) rfl ?_
              have hC0 : ∀ s, 0 ≤ s → s < p2 U → Mn (Asg U f (hi 58 0) 0 s) (fun a => cstI (brM hi) a f U) (L s) := fun s s0 s1 => by
                rw [hL s s0 (by omega)]
                by_cases z : s = 0
                · rw [if_pos z, z]; exact Asg.zero hf.2
                · rw [if_neg z]; exact Asg.none hf.1 ⟨hU.2.1, hU.2.2⟩ ⟨s0, s1⟩ z
              have loopC : ∀ (n9 : Nat) (k : Int) (L2 : Int → Int), (0 ≤ k ∧ k ≤ S) → (∀ s, 0 ≤ s → s < p2 U → Mn (Asg U f (hi 58 0) k s) (fun a => cstI (brM hi) a f U) (L2 s)) → S - k < (n9 : Int) → Run I_X7_leastFrom 110 [some (aR 7 0), some (aI f), some (aI sv), some (aI co), some (aI k), none, none, none] [] (hp (lsH hi L2) nb nk) 0 0 Q X := by
                intro n9
                induction n9 with
                | zero => intro k L2 hk hC hf9; exfalso; omega
                | succ n9 ih_loopC =>
                  intro k L2 hk hC hf9
                  refine r_iload (pc := 110) dX7_leastFrom_110 rfl ?_
                  refine r_aload_n (pc := 112) dX7_leastFrom_112 rfl ?_
                  refine q_getI (pc := 113) (jI := 35) (n9 := 1) (v := S) fl_X7_210 rfl dX7_leastFrom_113 rfl rfl (by decide) (by decide) (by exact hS.1) ?_
                  refine r_icmp_ge (pc := 116) (tgt := 245) dX7_leastFrom_116 rfl (fun c116 => ?_) (fun c116 => ?_)
                  · refine r_aload_n (pc := 245) dX7_leastFrom_245 rfl ?_
                    refine q_getI (pc := 246) (jI := 32) (n9 := 1) (v := U) fl_X7_207 rfl dX7_leastFrom_246 rfl rfl (by decide) (by decide) (by exact hU.1) ?_
                    refine r_aload_n (pc := 249) dX7_leastFrom_249 rfl ?_
                    refine q_getI (pc := 250) (jI := 35) (n9 := 1) (v := S) fl_X7_210 rfl dX7_leastFrom_250 rfl rfl (by decide) (by decide) (by exact hS.1) ?_
                    refine r_icmp_ge (pc := 253) (tgt := 263) dX7_leastFrom_253 rfl (fun c253 => ?_) (fun c253 => ?_)
                    · refine r_aload_n (pc := 263) dX7_leastFrom_263 rfl ?_
                      refine q_getI (pc := 264) (jI := 35) (n9 := 1) (v := S) fl_X7_210 rfl dX7_leastFrom_264 rfl rfl (by decide) (by decide) (by exact hS.1) ?_
                      refine r_istore (pc := 267) (xs' := [some (aR 7 0), some (aI f), some (aI sv), some (aI co), some (aI S), none, none, none]) dX7_leastFrom_267 (Nat.le_of_ble_eq_true rfl) rfl ?_
                      have hmo9 : S = U - woI U S := by unfold woI; (repeat' split) <;> omega
                      refine r_ldc (pc := 269) (n := 1000000) dX7_leastFrom_269 lc_X7_216 rfl (by decide) ?_
                      refine r_istore (pc := 271) (xs' := [some (aR 7 0), some (aI f), some (aI sv), some (aI co), some (aI S), some (aI 1000000), none, none]) dX7_leastFrom_271 (Nat.le_of_ble_eq_true rfl) rfl ?_
                      refine r_iconst (pc := 273) (n := 0) dX7_leastFrom_273 (by decide) ?_
                      refine r_istore (pc := 274) (xs' := [some (aR 7 0), some (aI f), some (aI sv), some (aI co), some (aI S), some (aI 1000000), some (aI 0), none]) dX7_leastFrom_274 (Nat.le_of_ble_eq_true rfl) rfl ?_
                      have euf : u = f := by omega
                      have hsv1 : sv = srvI (hi 58 0) f := by rw [hsv.1, euf]
                      have loopF : ∀ (n9 : Nat) (t2 fo mo : Int), (0 ≤ t2 ∧ t2 ≤ p2 U) → (mo = U - woI U S) → (Mn (AsF U S f (hi 58 0) t2) (fun a => cstI (brM hi) a f U) fo) → p2 U - t2 < (n9 : Int) → Run I_X7_leastFrom 276 [some (aR 7 0), some (aI f), some (aI sv), some (aI co), some (aI mo), some (aI fo), some (aI t2), none] [] (hp (lsH hi L2) nb nk) 0 0 Q X := by
                        intro n9
                        induction n9 with
                        | zero => intro t2 fo mo ht2 hmo hF hf9; exfalso; omega
                        | succ n9 ih_loopF =>
                          intro t2 fo mo ht2 hmo hF hf9
                          have hbr9 := btI_r (s := t2)
                          refine r_iload (pc := 276) dX7_leastFrom_276 rfl ?_
                          refine r_iconst (pc := 278) (n := 1) dX7_leastFrom_278 (by decide) ?_
                          refine r_aload_n (pc := 279) dX7_leastFrom_279 rfl ?_
                          refine q_getI (pc := 280) (jI := 32) (n9 := 1) (v := U) fl_X7_207 rfl dX7_leastFrom_280 rfl rfl (by decide) (by decide) (by exact hU.1) ?_
                          refine r_ishl (pc := 283) (z := p2 U) dX7_leastFrom_283 (bt_shl (p := U) (by omega)) (by have := p2_r (p := U); omega) ?_
                          refine r_icmp_ge (pc := 284) (tgt := 331) dX7_leastFrom_284 rfl (fun c284 => ?_) (fun c284 => ?_)
                          · have hf9 := hF.1
                            have hLA := LfA.mk hf hU.2.2 ho hcb (by rw [show p2 U = t2 by omega]; exact hF)
                            have hco1 : co = spdI (brM hi) (hi 58 0) f := by rw [hco.1, euf]
                            refine r_iload (pc := 331) dX7_leastFrom_331 rfl ?_
                            refine r_ldc (pc := 333) (n := 1000000) dX7_leastFrom_333 lc_X7_216 rfl (by decide) ?_
                            refine r_icmp_ne (pc := 335) (tgt := 343) dX7_leastFrom_335 rfl (fun c335 => ?_) (fun c335 => ?_)
                            · refine r_iload_n (pc := 343) dX7_leastFrom_343 rfl ?_
                              refine r_iload (pc := 344) dX7_leastFrom_344 rfl ?_
                              refine r_iadd (pc := 346) dX7_leastFrom_346 (by omega) ?_
                              refine r_iret (pc := 347) dX7_leastFrom_347 (Or.inl rfl) (Nat.le_of_ble_eq_true rfl) (Nat.le_of_ble_eq_true rfl) ?_
                              exact hQ _ _ ⟨_, L2, rfl, rfl, by rw [if_neg c335, ← hco1] at hLA; exact hLA, by omega, by omega⟩
                            · refine r_ldc (pc := 338) (n := 1000000) dX7_leastFrom_338 lc_X7_216 rfl (by decide) ?_
                              refine r_goto (pc := 340) (tgt := 347) dX7_leastFrom_340 rfl ?_
                              refine r_iret (pc := 347) dX7_leastFrom_347 (Or.inl rfl) (Nat.le_of_ble_eq_true rfl) (Nat.le_of_ble_eq_true rfl) ?_
                              exact hQ _ _ ⟨_, L2, rfl, rfl, by rw [if_pos c335] at hLA; exact hLA, by decide, by decide⟩
                          · refine r_iload (pc := 287) dX7_leastFrom_287 rfl ?_
                            refine d1_S (pc := 289) (rest := []) (cs' := 0) (sl' := 0) ms_X7_220 rfl (K_X7_bits (s := t2) (by omega)) rfl ⟨(Nat.le_of_ble_eq_true rfl), (Nat.le_of_ble_eq_true rfl)⟩ (Nat.le_of_ble_eq_true rfl) dX7_leastFrom_289 ⟨rfl, (Nat.le_of_ble_eq_true rfl)⟩ ⟨rfl, (Nat.le_of_ble_eq_true rfl)⟩ rfl ?_
                            refine r_iload_n (pc := 292) dX7_leastFrom_292 rfl ?_
                            refine r_iadd (pc := 293) dX7_leastFrom_293 (by omega) ?_
                            refine r_iload (pc := 294) dX7_leastFrom_294 rfl ?_
                            refine r_icmp_ne (pc := 296) (tgt := 321) dX7_leastFrom_296 rfl (fun c296 => ?_) (fun c296 => ?_)
                            · refine r_iload (pc := 321) dX7_leastFrom_321 rfl ?_
                              have hF9 := AsF.no hF ht2.1 (show ¬ btI t2 + srvI (hi 58 0) f = U - woI U S by omega)
                              refine r_istore (pc := 323) (xs' := [some (aR 7 0), some (aI f), some (aI sv), some (aI co), some (aI mo), some (aI fo), some (aI t2), none]) dX7_leastFrom_323 (Nat.le_of_ble_eq_true rfl) rfl ?_
                              refine r_iinc (pc := 325) (xs' := [some (aR 7 0), some (aI f), some (aI sv), some (aI co), some (aI mo), some (aI fo), some (aI (t2 + 1)), none]) dX7_leastFrom_325 rfl (Nat.le_of_ble_eq_true rfl) (by omega) rfl ?_
                              refine r_goto (pc := 328) (tgt := 276) dX7_leastFrom_328 rfl ?_
                              refine r_hp (hi' := (lsH hi L2)) (by rfl) ?_
                              exact ih_loopF (t2 + 1) fo mo (by omega) hmo hF9 (by omega)
                            · refine r_aload_n (pc := 299) dX7_leastFrom_299 rfl ?_
                              refine p_getQ (pc := 300) (jI := 37) (n9 := 1) (r := some (59, 0)) fl_X7_105 rfl dX7_leastFrom_300 rfl rfl (by decide) (by decide) rfl ?_
                              refine r_iload (pc := 303) dX7_leastFrom_303 rfl ?_
                              refine q_iald (pc := 305) (n9 := 1) (nI := 32) (v := L2 t2) rfl dX7_leastFrom_305 rfl (by decide) (by decide) rfl (by omega) (by omega) (by rfl) ?_
                              refine r_iload (pc := 306) dX7_leastFrom_306 rfl ?_
                              refine r_icmp_ge (pc := 308) (tgt := 321) dX7_leastFrom_308 rfl (fun c308 => ?_) (fun c308 => ?_)
                              · refine r_iload (pc := 321) dX7_leastFrom_321 rfl ?_
                                have hF9 := AsF.step ht2.1 hF (show Mn (Asg U f (hi 58 0) S t2) (fun a => cstI (brM hi) a f U) (L2 t2) from by have := hC t2 ht2.1 (by omega); rw [show k = S by omega] at this; exact this) (show btI t2 + srvI (hi 58 0) f = U - woI U S by omega)
                                rw [if_neg (by omega)] at hF9
                                refine r_istore (pc := 323) (xs' := [some (aR 7 0), some (aI f), some (aI sv), some (aI co), some (aI mo), some (aI fo), some (aI t2), none]) dX7_leastFrom_323 (Nat.le_of_ble_eq_true rfl) rfl ?_
                                refine r_iinc (pc := 325) (xs' := [some (aR 7 0), some (aI f), some (aI sv), some (aI co), some (aI mo), some (aI fo), some (aI (t2 + 1)), none]) dX7_leastFrom_325 rfl (Nat.le_of_ble_eq_true rfl) (by omega) rfl ?_
                                refine r_goto (pc := 328) (tgt := 276) dX7_leastFrom_328 rfl ?_
                                refine r_hp (hi' := (lsH hi L2)) (by rfl) ?_
                                exact ih_loopF (t2 + 1) fo mo (by omega) hmo hF9 (by omega)
                              · refine r_aload_n (pc := 311) dX7_leastFrom_311 rfl ?_
                                refine p_getQ (pc := 312) (jI := 37) (n9 := 1) (r := some (59, 0)) fl_X7_105 rfl dX7_leastFrom_312 rfl rfl (by decide) (by decide) rfl ?_
                                refine r_iload (pc := 315) dX7_leastFrom_315 rfl ?_
                                refine q_iald (pc := 317) (n9 := 1) (nI := 32) (v := L2 t2) rfl dX7_leastFrom_317 rfl (by decide) (by decide) rfl (by omega) (by omega) (by rfl) ?_
                                refine r_goto (pc := 318) (tgt := 323) dX7_leastFrom_318 rfl ?_
                                have hF9 := AsF.step ht2.1 hF (show Mn (Asg U f (hi 58 0) S t2) (fun a => cstI (brM hi) a f U) (L2 t2) from by have := hC t2 ht2.1 (by omega); rw [show k = S by omega] at this; exact this) (show btI t2 + srvI (hi 58 0) f = U - woI U S by omega)
                                rw [if_pos (by omega)] at hF9
                                refine r_istore (pc := 323) (xs' := [some (aR 7 0), some (aI f), some (aI sv), some (aI co), some (aI mo), some (aI (L2 t2)), some (aI t2), none]) dX7_leastFrom_323 (Nat.le_of_ble_eq_true rfl) rfl ?_
                                refine r_iinc (pc := 325) (xs' := [some (aR 7 0), some (aI f), some (aI sv), some (aI co), some (aI mo), some (aI (L2 t2)), some (aI (t2 + 1)), none]) dX7_leastFrom_325 rfl (Nat.le_of_ble_eq_true rfl) (by omega) rfl ?_
                                refine r_goto (pc := 328) (tgt := 276) dX7_leastFrom_328 rfl ?_
                                refine r_hp (hi' := (lsH hi L2)) (by rfl) ?_
                                exact ih_loopF (t2 + 1) (L2 t2) mo (by omega) hmo hF9 (by omega)
                      refine r_hp (hi' := (lsH hi L2)) (by rfl) ?_
                      exact loopF 33 0 1000000 S (by omega) hmo9 (AsF.zero rfl) (by omega)
                    · refine r_aload_n (pc := 256) dX7_leastFrom_256 rfl ?_
                      refine q_getI (pc := 257) (jI := 32) (n9 := 1) (v := U) fl_X7_207 rfl dX7_leastFrom_257 rfl rfl (by decide) (by decide) (by exact hU.1) ?_
                      refine r_goto (pc := 260) (tgt := 267) dX7_leastFrom_260 rfl ?_
                      refine r_istore (pc := 267) (xs' := [some (aR 7 0), some (aI f), some (aI sv), some (aI co), some (aI U), none, none, none]) dX7_leastFrom_267 (Nat.le_of_ble_eq_true rfl) rfl ?_
                      have hmo9 : U = U - woI U S := by unfold woI; (repeat' split) <;> omega
                      refine r_ldc (pc := 269) (n := 1000000) dX7_leastFrom_269 lc_X7_216 rfl (by decide) ?_
                      refine r_istore (pc := 271) (xs' := [some (aR 7 0), some (aI f), some (aI sv), some (aI co), some (aI U), some (aI 1000000), none, none]) dX7_leastFrom_271 (Nat.le_of_ble_eq_true rfl) rfl ?_
                      refine r_iconst (pc := 273) (n := 0) dX7_leastFrom_273 (by decide) ?_
                      refine r_istore (pc := 274) (xs' := [some (aR 7 0), some (aI f), some (aI sv), some (aI co), some (aI U), some (aI 1000000), some (aI 0), none]) dX7_leastFrom_274 (Nat.le_of_ble_eq_true rfl) rfl ?_
                      have euf : u = f := by omega
                      have hsv1 : sv = srvI (hi 58 0) f := by rw [hsv.1, euf]
                      have loopF : ∀ (n9 : Nat) (t2 fo mo : Int), (0 ≤ t2 ∧ t2 ≤ p2 U) → (mo = U - woI U S) → (Mn (AsF U S f (hi 58 0) t2) (fun a => cstI (brM hi) a f U) fo) → p2 U - t2 < (n9 : Int) → Run I_X7_leastFrom 276 [some (aR 7 0), some (aI f), some (aI sv), some (aI co), some (aI mo), some (aI fo), some (aI t2), none] [] (hp (lsH hi L2) nb nk) 0 0 Q X := by
                        intro n9
                        induction n9 with
                        | zero => intro t2 fo mo ht2 hmo hF hf9; exfalso; omega
                        | succ n9 ih_loopF =>
                          intro t2 fo mo ht2 hmo hF hf9
                          have hbr9 := btI_r (s := t2)
                          refine r_iload (pc := 276) dX7_leastFrom_276 rfl ?_
                          refine r_iconst (pc := 278) (n := 1) dX7_leastFrom_278 (by decide) ?_
                          refine r_aload_n (pc := 279) dX7_leastFrom_279 rfl ?_
                          refine q_getI (pc := 280) (jI := 32) (n9 := 1) (v := U) fl_X7_207 rfl dX7_leastFrom_280 rfl rfl (by decide) (by decide) (by exact hU.1) ?_
                          refine r_ishl (pc := 283) (z := p2 U) dX7_leastFrom_283 (bt_shl (p := U) (by omega)) (by have := p2_r (p := U); omega) ?_
                          refine r_icmp_ge (pc := 284) (tgt := 331) dX7_leastFrom_284 rfl (fun c284 => ?_) (fun c284 => ?_)
                          · have hf9 := hF.1
                            have hLA := LfA.mk hf hU.2.2 ho hcb (by rw [show p2 U = t2 by omega]; exact hF)
                            have hco1 : co = spdI (brM hi) (hi 58 0) f := by rw [hco.1, euf]
                            refine r_iload (pc := 331) dX7_leastFrom_331 rfl ?_
                            refine r_ldc (pc := 333) (n := 1000000) dX7_leastFrom_333 lc_X7_216 rfl (by decide) ?_
                            refine r_icmp_ne (pc := 335) (tgt := 343) dX7_leastFrom_335 rfl (fun c335 => ?_) (fun c335 => ?_)
                            · refine r_iload_n (pc := 343) dX7_leastFrom_343 rfl ?_
                              refine r_iload (pc := 344) dX7_leastFrom_344 rfl ?_
                              refine r_iadd (pc := 346) dX7_leastFrom_346 (by omega) ?_
                              refine r_iret (pc := 347) dX7_leastFrom_347 (Or.inl rfl) (Nat.le_of_ble_eq_true rfl) (Nat.le_of_ble_eq_true rfl) ?_
                              exact hQ _ _ ⟨_, L2, rfl, rfl, by rw [if_neg c335, ← hco1] at hLA; exact hLA, by omega, by omega⟩
                            · refine r_ldc (pc := 338) (n := 1000000) dX7_leastFrom_338 lc_X7_216 rfl (by decide) ?_
                              refine r_goto (pc := 340) (tgt := 347) dX7_leastFrom_340 rfl ?_
                              refine r_iret (pc := 347) dX7_leastFrom_347 (Or.inl rfl) (Nat.le_of_ble_eq_true rfl) (Nat.le_of_ble_eq_true rfl) ?_
                              exact hQ _ _ ⟨_, L2, rfl, rfl, by rw [if_pos c335] at hLA; exact hLA, by decide, by decide⟩
                          · refine r_iload (pc := 287) dX7_leastFrom_287 rfl ?_
                            refine d1_S (pc := 289) (rest := []) (cs' := 0) (sl' := 0) ms_X7_220 rfl (K_X7_bits (s := t2) (by omega)) rfl ⟨(Nat.le_of_ble_eq_true rfl), (Nat.le_of_ble_eq_true rfl)⟩ (Nat.le_of_ble_eq_true rfl) dX7_leastFrom_289 ⟨rfl, (Nat.le_of_ble_eq_true rfl)⟩ ⟨rfl, (Nat.le_of_ble_eq_true rfl)⟩ rfl ?_
                            refine r_iload_n (pc := 292) dX7_leastFrom_292 rfl ?_
                            refine r_iadd (pc := 293) dX7_leastFrom_293 (by omega) ?_
                            refine r_iload (pc := 294) dX7_leastFrom_294 rfl ?_
                            refine r_icmp_ne (pc := 296) (tgt := 321) dX7_leastFrom_296 rfl (fun c296 => ?_) (fun c296 => ?_)
                            · refine r_iload (pc := 321) dX7_leastFrom_321 rfl ?_
                              have hF9 := AsF.no hF ht2.1 (show ¬ btI t2 + srvI (hi 58 0) f = U - woI U S by omega)
                              refine r_istore (pc := 323) (xs' := [some (aR 7 0), some (aI f), some (aI sv), some (aI co), some (aI mo), some (aI fo), some (aI t2), none]) dX7_leastFrom_323 (Nat.le_of_ble_eq_true rfl) rfl ?_
                              refine r_iinc (pc := 325) (xs' := [some (aR 7 0), some (aI f), some (aI sv), some (aI co), some (aI mo), some (aI fo), some (aI (t2 + 1)), none]) dX7_leastFrom_325 rfl (Nat.le_of_ble_eq_true rfl) (by omega) rfl ?_
                              refine r_goto (pc := 328) (tgt := 276) dX7_leastFrom_328 rfl ?_
                              refine r_hp (hi' := (lsH hi L2)) (by rfl) ?_
                              exact ih_loopF (t2 + 1) fo mo (by omega) hmo hF9 (by omega)
                            · refine r_aload_n (pc := 299) dX7_leastFrom_299 rfl ?_
                              refine p_getQ (pc := 300) (jI := 37) (n9 := 1) (r := some (59, 0)) fl_X7_105 rfl dX7_leastFrom_300 rfl rfl (by decide) (by decide) rfl ?_
                              refine r_iload (pc := 303) dX7_leastFrom_303 rfl ?_
                              refine q_iald (pc := 305) (n9 := 1) (nI := 32) (v := L2 t2) rfl dX7_leastFrom_305 rfl (by decide) (by decide) rfl (by omega) (by omega) (by rfl) ?_
                              refine r_iload (pc := 306) dX7_leastFrom_306 rfl ?_
                              refine r_icmp_ge (pc := 308) (tgt := 321) dX7_leastFrom_308 rfl (fun c308 => ?_) (fun c308 => ?_)
                              · refine r_iload (pc := 321) dX7_leastFrom_321 rfl ?_
                                have hF9 := AsF.step ht2.1 hF (show Mn (Asg U f (hi 58 0) S t2) (fun a => cstI (brM hi) a f U) (L2 t2) from by have := hC t2 ht2.1 (by omega); rw [show k = S by omega] at this; exact this) (show btI t2 + srvI (hi 58 0) f = U - woI U S by omega)
                                rw [if_neg (by omega)] at hF9
                                refine r_istore (pc := 323) (xs' := [some (aR 7 0), some (aI f), some (aI sv), some (aI co), some (aI mo), some (aI fo), some (aI t2), none]) dX7_leastFrom_323 (Nat.le_of_ble_eq_true rfl) rfl ?_
                                refine r_iinc (pc := 325) (xs' := [some (aR 7 0), some (aI f), some (aI sv), some (aI co), some (aI mo), some (aI fo), some (aI (t2 + 1)), none]) dX7_leastFrom_325 rfl (Nat.le_of_ble_eq_true rfl) (by omega) rfl ?_
                                refine r_goto (pc := 328) (tgt := 276) dX7_leastFrom_328 rfl ?_
                                refine r_hp (hi' := (lsH hi L2)) (by rfl) ?_
                                exact ih_loopF (t2 + 1) fo mo (by omega) hmo hF9 (by omega)
                              · refine r_aload_n (pc := 311) dX7_leastFrom_311 rfl ?_
                                refine p_getQ (pc := 312) (jI := 37) (n9 := 1) (r := some (59, 0)) fl_X7_105 rfl dX7_leastFrom_312 rfl rfl (by decide) (by decide) rfl ?_
                                refine r_iload (pc := 315) dX7_leastFrom_315 rfl ?_
                                refine q_iald (pc := 317) (n9 := 1) (nI := 32) (v := L2 t2) rfl dX7_leastFrom_317 rfl (by decide) (by decide) rfl (by omega) (by omega) (by rfl) ?_
                                refine r_goto (pc := 318) (tgt := 323) dX7_leastFrom_318 rfl ?_
                                have hF9 := AsF.step ht2.1 hF (show Mn (Asg U f (hi 58 0) S t2) (fun a => cstI (brM hi) a f U) (L2 t2) from by have := hC t2 ht2.1 (by omega); rw [show k = S by omega] at this; exact this) (show btI t2 + srvI (hi 58 0) f = U - woI U S by omega)
                                rw [if_pos (by omega)] at hF9
                                refine r_istore (pc := 323) (xs' := [some (aR 7 0), some (aI f), some (aI sv), some (aI co), some (aI mo), some (aI (L2 t2)), some (aI t2), none]) dX7_leastFrom_323 (Nat.le_of_ble_eq_true rfl) rfl ?_
                                refine r_iinc (pc := 325) (xs' := [some (aR 7 0), some (aI f), some (aI sv), some (aI co), some (aI mo), some (aI (L2 t2)), some (aI (t2 + 1)), none]) dX7_leastFrom_325 rfl (Nat.le_of_ble_eq_true rfl) (by omega) rfl ?_
                                refine r_goto (pc := 328) (tgt := 276) dX7_leastFrom_328 rfl ?_
                                refine r_hp (hi' := (lsH hi L2)) (by rfl) ?_
                                exact ih_loopF (t2 + 1) (L2 t2) mo (by omega) hmo hF9 (by omega)
                      refine r_hp (hi' := (lsH hi L2)) (by rfl) ?_
                      exact loopF 33 0 1000000 U (by omega) hmo9 (AsF.zero rfl) (by omega)
                  · refine r_iconst (pc := 119) (n := 1) dX7_leastFrom_119 (by decide) ?_
                    refine r_aload_n (pc := 120) dX7_leastFrom_120 rfl ?_
                    refine q_getI (pc := 121) (jI := 32) (n9 := 1) (v := U) fl_X7_207 rfl dX7_leastFrom_121 rfl rfl (by decide) (by decide) (by exact hU.1) ?_
                    refine r_ishl (pc := 124) (z := p2 U) dX7_leastFrom_124 (bt_shl (p := U) (by omega)) (by have := p2_r (p := U); omega) ?_
                    refine r_iconst (pc := 125) (n := 1) dX7_leastFrom_125 (by decide) ?_
                    refine r_isub (pc := 126) dX7_leastFrom_126 (by omega) ?_
                    refine r_istore (pc := 127) (xs' := [some (aR 7 0), some (aI f), some (aI sv), some (aI co), some (aI k), some (aI ((p2 U) - 1)), none, none]) dX7_leastFrom_127 (Nat.le_of_ble_eq_true rfl) rfl ?_
                    have loopD : ∀ (n9 : Nat) (s : Int) (L3 : Int → Int), (0 ≤ s ∧ s < p2 U) → (∀ t, 0 ≤ t → t ≤ s → Mn (Asg U f (hi 58 0) k t) (fun a => cstI (brM hi) a f U) (L3 t)) → (∀ t, s < t → t < p2 U → Mn (Asg U f (hi 58 0) (k + 1) t) (fun a => cstI (brM hi) a f U) (L3 t)) → (s = p2 U - 1 ∨ ∀ v, 0 ≤ v → v < f → hi 58 0 v ≠ k) → s < (n9 : Int) → Run I_X7_leastFrom 129 [some (aR 7 0), some (aI f), some (aI sv), some (aI co), some (aI k), some (aI s), none, none] [] (hp (lsH hi L3) nb nk) 0 0 Q X := by
                      intro n9
                      induction n9 with
                      | zero => intro s L3 hs hD1 hD2 hD3 hf9; exfalso; omega
                      | succ n9 ih_loopD =>
                        intro s L3 hs hD1 hD2 hD3 hf9
                        refine r_iload (pc := 129) dX7_leastFrom_129 rfl ?_
                        refine r_if_le (pc := 131) (tgt := 239) dX7_leastFrom_131 rfl (fun c131 => ?_) (fun c131 => ?_)
                        · have hC9 : ∀ t, 0 ≤ t → t < p2 U → Mn (Asg U f (hi 58 0) (k + 1) t) (fun a => cstI (brM hi) a f U) (L3 t) := fun t t0 t1 => by
                            by_cases z : t = 0
                            · rw [z]; exact (hD1 0 (by omega) (by omega)).cP (fun a => ⟨fun y => y.empty, fun y => y.empty⟩)
                            · exact hD2 t (by omega) t1
                          refine r_iinc (pc := 239) (xs' := [some (aR 7 0), some (aI f), some (aI sv), some (aI co), some (aI (k + 1)), some (aI s), none, none]) dX7_leastFrom_239 rfl (Nat.le_of_ble_eq_true rfl) (by omega) rfl ?_
                          refine r_goto (pc := 242) (tgt := 110) dX7_leastFrom_242 rfl ?_
                          refine r_drop (xs' := [some (aR 7 0), some (aI f), some (aI sv), some (aI co), some (aI (k + 1)), none, none, none]) 5 rfl ?_
                          refine r_hp (hi' := (lsH hi L3)) (by rfl) ?_
                          exact ih_loopC (k + 1) L3 (by omega) hC9 (by omega)
                        · refine r_aload_n (pc := 134) dX7_leastFrom_134 rfl ?_
                          refine r_iload (pc := 135) dX7_leastFrom_135 rfl ?_
                          refine r_iload_n (pc := 137) dX7_leastFrom_137 rfl ?_
                          refine d1_V (pc := 138) (t := 7) (i := 0) (rest := []) (cs' := 0) (sl' := 0) mv_X7_217 (show Det I_X7_isChosen [aR 7 0, aI k, aI f] (hp (lsH hi L3) nb nk) (some (aI (bI (∃ u, 0 ≤ u ∧ u < f ∧ hi 58 0 u = k)))) (hp (lsH hi L3) nb nk) from K_X7_isChosen (hi := lsH hi L3) (by omega)) rfl ⟨(Nat.le_of_ble_eq_true rfl), (Nat.le_of_ble_eq_true rfl)⟩ (Nat.le_of_ble_eq_true rfl) dX7_leastFrom_138 (show (0 : Int) ≤ 0 by omega) (show 0 < 1 by omega) ⟨rfl, (Nat.le_of_ble_eq_true rfl)⟩ ⟨rfl, (Nat.le_of_ble_eq_true rfl)⟩ rfl ?_
                          refine q_ifneB (pc := 141) (tgt := 239) dX7_leastFrom_141 rfl (fun c141 => ?_) (fun c141 => ?_)
                          · have hC9 : ∀ t, 0 ≤ t → t < p2 U → Mn (Asg U f (hi 58 0) (k + 1) t) (fun a => cstI (brM hi) a f U) (L3 t) := fun t t0 t1 => by
                              rcases hD3 with z | z
                              · exact (hD1 t t0 (by omega)).cP (fun a => Asg.skip c141)
                              · obtain ⟨v, v0, v1, v2⟩ := c141
                                exact absurd v2 (z v v0 v1)
                            refine r_iinc (pc := 239) (xs' := [some (aR 7 0), some (aI f), some (aI sv), some (aI co), some (aI (k + 1)), some (aI s), none, none]) dX7_leastFrom_239 rfl (Nat.le_of_ble_eq_true rfl) (by omega) rfl ?_
                            refine r_goto (pc := 242) (tgt := 110) dX7_leastFrom_242 rfl ?_
                            refine r_drop (xs' := [some (aR 7 0), some (aI f), some (aI sv), some (aI co), some (aI (k + 1)), none, none, none]) 5 rfl ?_
                            refine r_hp (hi' := (lsH hi L3)) (by rfl) ?_
                            exact ih_loopC (k + 1) L3 (by omega) hC9 (by omega)
                          · refine r_iload_n (pc := 144) dX7_leastFrom_144 rfl ?_
                            refine r_istore (pc := 145) (xs' := [some (aR 7 0), some (aI f), some (aI sv), some (aI co), some (aI k), some (aI s), some (aI f), none]) dX7_leastFrom_145 (Nat.le_of_ble_eq_true rfl) rfl ?_
                            have hn9 : ∀ v, 0 ≤ v → v < f → hi 58 0 v ≠ k := fun v v0 v1 v2 => c141 ⟨v, v0, v1, v2⟩
                            have loopE : ∀ (n9 : Nat) (u9 : Int) (L4 : Int → Int), (f ≤ u9 ∧ u9 ≤ U) → (∀ t, t ≠ s → L4 t = L3 t) → (Mn (AsE U f (hi 58 0) k s u9) (fun a => cstI (brM hi) a f U) (L4 s)) → U - u9 < (n9 : Int) → Run I_X7_leastFrom 147 [some (aR 7 0), some (aI f), some (aI sv), some (aI co), some (aI k), some (aI s), some (aI u9), none] [] (hp (lsH hi L4) nb nk) 0 0 Q X := by
                              intro n9
                              induction n9 with
                              | zero => intro u9 L4 hu hE1 hE2 hf9; exfalso; omega
                              | succ n9 ih_loopE =>
                                intro u9 L4 hu hE1 hE2 hf9
                                have hs6 : 0 ≤ s ∧ s < 64 := by omega
                                have hb0 := hE2.1
                                refine r_iload (pc := 147) dX7_leastFrom_147 rfl ?_
                                refine r_aload_n (pc := 149) dX7_leastFrom_149 rfl ?_
                                refine q_getI (pc := 150) (jI := 32) (n9 := 1) (v := U) fl_X7_207 rfl dX7_leastFrom_150 rfl rfl (by decide) (by decide) (by exact hU.1) ?_
                                refine r_icmp_ge (pc := 153) (tgt := 233) dX7_leastFrom_153 rfl (fun c153 => ?_) (fun c153 => ?_)
                                · refine r_iinc (pc := 233) (xs' := [some (aR 7 0), some (aI f), some (aI sv), some (aI co), some (aI k), some (aI (s + (-1))), some (aI u9), none]) dX7_leastFrom_233 rfl (Nat.le_of_ble_eq_true rfl) (by omega) rfl ?_
                                  refine r_goto (pc := 236) (tgt := 129) dX7_leastFrom_236 rfl ?_
                                  refine r_drop (xs' := [some (aR 7 0), some (aI f), some (aI sv), some (aI co), some (aI k), some (aI (s + (-1))), none, none]) 6 rfl ?_
                                  refine r_hp (hi' := (lsH hi L4)) (by rfl) ?_
                                  exact ih_loopD (s + (-1)) L4 (by omega) (fun t t0 t1 => by rw [hE1 t (by omega)]; exact hD1 t t0 (by omega)) (fun t t0 t1 => by by_cases z : t = s; (rw [z]; exact (hE2.cP (fun a => by rw [show u9 = U by omega]; exact AsE.last))); (rw [hE1 t z]; exact hD2 t (by omega) t1)) (Or.inr hn9) (by omega)
                                · refine r_iload (pc := 156) dX7_leastFrom_156 rfl ?_
                                  refine r_iload (pc := 158) dX7_leastFrom_158 rfl ?_
                                  refine r_ishr (pc := 160) (z := s / p2 u9) dX7_leastFrom_160 (bt_shr hs6 (by omega)).1 (by have := (bt_shr hs6 (u := u9) (by omega)).2; omega) ?_
                                  refine r_iconst (pc := 161) (n := 1) dX7_leastFrom_161 (by decide) ?_
                                  refine r_iand (pc := 162) (z := bitI s u9) dX7_leastFrom_162 (bt_and1 (bt_shr hs6 (by omega)).2) (by have := bit_01 (s := s) (u := u9); omega) ?_
                                  refine r_if_ne (pc := 163) (tgt := 171) dX7_leastFrom_163 rfl (fun c163 => ?_) (fun c163 => ?_)
                                  · have hu6 : 0 ≤ u9 ∧ u9 < 6 := by omega
                                    have hsb := (bt_andn hs6 hu6).2
                                    have hlt := hsb.2.2 c163
                                    have hM9 := hD1 (subI s u9) hsb.1 (by omega)
                                    rw [← hE1 (subI s u9) (by omega)] at hM9
                                    have hM8 := hM9.1
                                    have hb9 := hcb k u9 hk.1 (by omega) (by omega) (by omega)
                                    refine r_aload_n (pc := 171) dX7_leastFrom_171 rfl ?_
                                    refine p_getQ (pc := 172) (jI := 37) (n9 := 1) (r := some (59, 0)) fl_X7_105 rfl dX7_leastFrom_172 rfl rfl (by decide) (by decide) rfl ?_
                                    refine r_iload (pc := 175) dX7_leastFrom_175 rfl ?_
                                    refine r_iconst (pc := 177) (n := 1) dX7_leastFrom_177 (by decide) ?_
                                    refine r_iload (pc := 178) dX7_leastFrom_178 rfl ?_
                                    refine r_ishl (pc := 180) (z := p2 u9) dX7_leastFrom_180 (bt_shl (p := u9) (by omega)) (by have := p2_r (p := u9); omega) ?_
                                    refine r_iconst (pc := 181) (n := (-1)) dX7_leastFrom_181 (by decide) ?_
                                    refine r_ixor (pc := 182) (z := -1 - p2 u9) dX7_leastFrom_182 (bt_not (by omega)) (by have := p2_r (p := u9); omega) ?_
                                    refine r_iand (pc := 183) (z := subI s u9) dX7_leastFrom_183 (bt_andn hs6 (by omega)).1 (by omega) ?_
                                    refine q_iald (pc := 184) (n9 := 1) (nI := 32) (v := L4 (subI s u9)) rfl dX7_leastFrom_184 rfl (by decide) (by decide) rfl (by omega) (by omega) (by rfl) ?_
                                    refine r_aload_n (pc := 185) dX7_leastFrom_185 rfl ?_
                                    refine r_iload (pc := 186) dX7_leastFrom_186 rfl ?_
                                    refine r_iload (pc := 188) dX7_leastFrom_188 rfl ?_
                                    refine d1_V (pc := 190) (t := 7) (i := 0) (rest := [aI (L4 (subI s u9))]) (cs' := 0) (sl' := 0) mv_X7_213 (show Det I_X7_bringing [aR 7 0, aI k, aI u9] (hp (lsH hi L4) nb nk) (some (aI (brM hi k u9))) (hp (lsH hi L4) nb nk) from K_X7_bringing (hi := (lsH hi L4)) (by omega) (by omega) (hpw k hk.1 (by omega)) (hpu u9 (by omega) (by omega))) rfl ⟨(Nat.le_of_ble_eq_true rfl), (Nat.le_of_ble_eq_true rfl)⟩ (Nat.le_of_ble_eq_true rfl) dX7_leastFrom_190 (show (0 : Int) ≤ 0 by omega) (show 0 < 1 by omega) ⟨rfl, (Nat.le_of_ble_eq_true rfl)⟩ ⟨rfl, (Nat.le_of_ble_eq_true rfl)⟩ rfl ?_
                                    refine r_iadd (pc := 193) dX7_leastFrom_193 (by omega) ?_
                                    refine r_istore (pc := 194) (xs' := [some (aR 7 0), some (aI f), some (aI sv), some (aI co), some (aI k), some (aI s), some (aI u9), some (aI ((L4 (subI s u9)) + (brM hi k u9)))]) dX7_leastFrom_194 (Nat.le_of_ble_eq_true rfl) rfl ?_
                                    refine r_aload_n (pc := 196) dX7_leastFrom_196 rfl ?_
                                    refine p_getQ (pc := 197) (jI := 37) (n9 := 1) (r := some (59, 0)) fl_X7_105 rfl dX7_leastFrom_197 rfl rfl (by decide) (by decide) rfl ?_
                                    refine r_iload (pc := 200) dX7_leastFrom_200 rfl ?_
                                    refine r_iload (pc := 202) dX7_leastFrom_202 rfl ?_
                                    refine r_aload_n (pc := 204) dX7_leastFrom_204 rfl ?_
                                    refine p_getQ (pc := 205) (jI := 37) (n9 := 1) (r := some (59, 0)) fl_X7_105 rfl dX7_leastFrom_205 rfl rfl (by decide) (by decide) rfl ?_
                                    refine r_iload (pc := 208) dX7_leastFrom_208 rfl ?_
                                    refine q_iald (pc := 210) (n9 := 1) (nI := 32) (v := L4 s) rfl dX7_leastFrom_210 rfl (by decide) (by decide) rfl (by omega) (by omega) (by rfl) ?_
                                    refine r_icmp_ge (pc := 211) (tgt := 219) dX7_leastFrom_211 rfl (fun c211 => ?_) (fun c211 => ?_)
                                    · refine r_aload_n (pc := 219) dX7_leastFrom_219 rfl ?_
                                      refine p_getQ (pc := 220) (jI := 37) (n9 := 1) (r := some (59, 0)) fl_X7_105 rfl dX7_leastFrom_220 rfl rfl (by decide) (by decide) rfl ?_
                                      refine r_iload (pc := 223) dX7_leastFrom_223 rfl ?_
                                      refine q_iald (pc := 225) (n9 := 1) (nI := 32) (v := L4 s) rfl dX7_leastFrom_225 rfl (by decide) (by decide) rfl (by omega) (by omega) (by rfl) ?_
                                      refine p_iast (pc := 226) (n9 := 1) (nI := 32) rfl dX7_leastFrom_226 rfl (by decide) (by decide) rfl (by omega) (by omega) ?_
                                      have hE9 : Mn (AsE U f (hi 58 0) k s (u9 + 1)) (fun a => cstI (brM hi) a f U) (se1 L4 s (L4 s) s) := by
                                        have g := AsE.step1 hk.1 hf.1 hu.1 (by omega) hU.2.2 hs6 c163 hn9 (by omega) hE2 hM9
                                        rw [if_neg (by omega)] at g
                                        rw [se1_s]; exact g
                                      refine r_iinc (pc := 227) (xs' := [some (aR 7 0), some (aI f), some (aI sv), some (aI co), some (aI k), some (aI s), some (aI (u9 + 1)), some (aI ((L4 (subI s u9)) + (brM hi k u9)))]) dX7_leastFrom_227 rfl (Nat.le_of_ble_eq_true rfl) (by omega) rfl ?_
                                      refine r_goto (pc := 230) (tgt := 147) dX7_leastFrom_230 rfl ?_
                                      refine r_drop (xs' := [some (aR 7 0), some (aI f), some (aI sv), some (aI co), some (aI k), some (aI s), some (aI (u9 + 1)), none]) 7 rfl ?_
                                      refine r_hp (hi' := (lsH hi (se1 L4 s (L4 s)))) (by exact lsH_up) ?_
                                      exact ih_loopE (u9 + 1) (se1 L4 s (L4 s)) (by omega) (fun t z => by rw [se1_n z]; exact hE1 t z) hE9 (by omega)
                                    · refine r_iload (pc := 214) dX7_leastFrom_214 rfl ?_
                                      refine r_goto (pc := 216) (tgt := 226) dX7_leastFrom_216 rfl ?_
                                      refine p_iast (pc := 226) (n9 := 1) (nI := 32) rfl dX7_leastFrom_226 rfl (by decide) (by decide) rfl (by omega) (by omega) ?_
                                      have hE9 : Mn (AsE U f (hi 58 0) k s (u9 + 1)) (fun a => cstI (brM hi) a f U) (se1 L4 s ((L4 (subI s u9)) + (brM hi k u9)) s) := by
                                        have g := AsE.step1 hk.1 hf.1 hu.1 (by omega) hU.2.2 hs6 c163 hn9 (by omega) hE2 hM9
                                        rw [if_pos (by omega)] at g
                                        rw [se1_s]; exact g
                                      refine r_iinc (pc := 227) (xs' := [some (aR 7 0), some (aI f), some (aI sv), some (aI co), some (aI k), some (aI s), some (aI (u9 + 1)), some (aI ((L4 (subI s u9)) + (brM hi k u9)))]) dX7_leastFrom_227 rfl (Nat.le_of_ble_eq_true rfl) (by omega) rfl ?_
                                      refine r_goto (pc := 230) (tgt := 147) dX7_leastFrom_230 rfl ?_
                                      refine r_drop (xs' := [some (aR 7 0), some (aI f), some (aI sv), some (aI co), some (aI k), some (aI s), some (aI (u9 + 1)), none]) 7 rfl ?_
                                      refine r_hp (hi' := (lsH hi (se1 L4 s ((L4 (subI s u9)) + (brM hi k u9))))) (by exact lsH_up) ?_
                                      exact ih_loopE (u9 + 1) (se1 L4 s ((L4 (subI s u9)) + (brM hi k u9))) (by omega) (fun t z => by rw [se1_n z]; exact hE1 t z) hE9 (by omega)
                                  · refine r_ldc (pc := 166) (n := 1000000) dX7_leastFrom_166 lc_X7_216 rfl (by decide) ?_
                                    refine r_goto (pc := 168) (tgt := 194) dX7_leastFrom_168 rfl ?_
                                    refine r_istore (pc := 194) (xs' := [some (aR 7 0), some (aI f), some (aI sv), some (aI co), some (aI k), some (aI s), some (aI u9), some (aI 1000000)]) dX7_leastFrom_194 (Nat.le_of_ble_eq_true rfl) rfl ?_
                                    refine r_aload_n (pc := 196) dX7_leastFrom_196 rfl ?_
                                    refine p_getQ (pc := 197) (jI := 37) (n9 := 1) (r := some (59, 0)) fl_X7_105 rfl dX7_leastFrom_197 rfl rfl (by decide) (by decide) rfl ?_
                                    refine r_iload (pc := 200) dX7_leastFrom_200 rfl ?_
                                    refine r_iload (pc := 202) dX7_leastFrom_202 rfl ?_
                                    refine r_aload_n (pc := 204) dX7_leastFrom_204 rfl ?_
                                    refine p_getQ (pc := 205) (jI := 37) (n9 := 1) (r := some (59, 0)) fl_X7_105 rfl dX7_leastFrom_205 rfl rfl (by decide) (by decide) rfl ?_
                                    refine r_iload (pc := 208) dX7_leastFrom_208 rfl ?_
                                    refine q_iald (pc := 210) (n9 := 1) (nI := 32) (v := L4 s) rfl dX7_leastFrom_210 rfl (by decide) (by decide) rfl (by omega) (by omega) (by rfl) ?_
                                    refine r_icmp_ge (pc := 211) (tgt := 219) dX7_leastFrom_211 rfl (fun c211 => ?_) (fun c211 => ?_)
                                    · refine r_aload_n (pc := 219) dX7_leastFrom_219 rfl ?_
                                      refine p_getQ (pc := 220) (jI := 37) (n9 := 1) (r := some (59, 0)) fl_X7_105 rfl dX7_leastFrom_220 rfl rfl (by decide) (by decide) rfl ?_
                                      refine r_iload (pc := 223) dX7_leastFrom_223 rfl ?_
                                      refine q_iald (pc := 225) (n9 := 1) (nI := 32) (v := L4 s) rfl dX7_leastFrom_225 rfl (by decide) (by decide) rfl (by omega) (by omega) (by rfl) ?_
                                      refine p_iast (pc := 226) (n9 := 1) (nI := 32) rfl dX7_leastFrom_226 rfl (by decide) (by decide) rfl (by omega) (by omega) ?_
                                      have hE9 : Mn (AsE U f (hi 58 0) k s (u9 + 1)) (fun a => cstI (brM hi) a f U) (se1 L4 s (L4 s) s) := by
                                        have g := AsE.step0 hk.1 hu.1 (by omega) c163 hE2
                                        rw [if_neg (by omega)] at g
                                        rw [se1_s]; exact g
                                      refine r_iinc (pc := 227) (xs' := [some (aR 7 0), some (aI f), some (aI sv), some (aI co), some (aI k), some (aI s), some (aI (u9 + 1)), some (aI 1000000)]) dX7_leastFrom_227 rfl (Nat.le_of_ble_eq_true rfl) (by omega) rfl ?_
                                      refine r_goto (pc := 230) (tgt := 147) dX7_leastFrom_230 rfl ?_
                                      refine r_drop (xs' := [some (aR 7 0), some (aI f), some (aI sv), some (aI co), some (aI k), some (aI s), some (aI (u9 + 1)), none]) 7 rfl ?_
                                      refine r_hp (hi' := (lsH hi (se1 L4 s (L4 s)))) (by exact lsH_up) ?_
                                      exact ih_loopE (u9 + 1) (se1 L4 s (L4 s)) (by omega) (fun t z => by rw [se1_n z]; exact hE1 t z) hE9 (by omega)
                                    · refine r_iload (pc := 214) dX7_leastFrom_214 rfl ?_
                                      refine r_goto (pc := 216) (tgt := 226) dX7_leastFrom_216 rfl ?_
                                      refine p_iast (pc := 226) (n9 := 1) (nI := 32) rfl dX7_leastFrom_226 rfl (by decide) (by decide) rfl (by omega) (by omega) ?_
                                      have hE9 : Mn (AsE U f (hi 58 0) k s (u9 + 1)) (fun a => cstI (brM hi) a f U) (se1 L4 s (1000000) s) := by
                                        have g := AsE.step0 hk.1 hu.1 (by omega) c163 hE2
                                        rw [if_pos (by omega)] at g
                                        rw [se1_s]; exact g
                                      refine r_iinc (pc := 227) (xs' := [some (aR 7 0), some (aI f), some (aI sv), some (aI co), some (aI k), some (aI s), some (aI (u9 + 1)), some (aI 1000000)]) dX7_leastFrom_227 rfl (Nat.le_of_ble_eq_true rfl) (by omega) rfl ?_
                                      refine r_goto (pc := 230) (tgt := 147) dX7_leastFrom_230 rfl ?_
                                      refine r_drop (xs' := [some (aR 7 0), some (aI f), some (aI sv), some (aI co), some (aI k), some (aI s), some (aI (u9 + 1)), none]) 7 rfl ?_
                                      refine r_hp (hi' := (lsH hi (se1 L4 s 1000000))) (by exact lsH_up) ?_
                                      exact ih_loopE (u9 + 1) (se1 L4 s 1000000) (by omega) (fun t z => by rw [se1_n z]; exact hE1 t z) hE9 (by omega)
                            refine r_hp (hi' := (lsH hi L3)) (by rfl) ?_
                            exact loopE 6 f L3 (by omega) (fun t _ => rfl) ((hD1 s hs.1 (Int.le_refl _)).cP (fun a => AsE.first hk.1)) (by omega)
                    refine r_hp (hi' := (lsH hi L2)) (by rfl) ?_
                    exact loopD 33 (p2 U - 1) L2 (by omega) (fun t t0 t1 => hC t t0 (by omega)) (fun t t0 t1 => by omega) (Or.inl rfl) (by omega)
              refine r_hp (hi' := (lsH hi L)) (by rfl) ?_
              exact loopC 41 0 L (by omega) hC0 (by omega)
            · refine r_aload_n (pc := 83) dX7_leastFrom_83 rfl ?_
              refine p_getQ (pc := 84) (jI := 37) (n9 := 1) (r := some (59, 0)) fl_X7_105 rfl dX7_leastFrom_84 rfl rfl (by decide) (by decide) rfl ?_
              refine r_iload (pc := 87) dX7_leastFrom_87 rfl ?_
              refine r_iload (pc := 89) dX7_leastFrom_89 rfl ?_
              refine r_if_ne (pc := 91) (tgt := 98) dX7_leastFrom_91 rfl (fun c91 => ?_) (fun c91 => ?_)
              · refine r_ldc (pc := 98) (n := 1000000) dX7_leastFrom_98 lc_X7_216 rfl (by decide) ?_
                refine p_iast (pc := 100) (n9 := 1) (nI := 32) rfl dX7_leastFrom_100 rfl (by decide) (by decide) rfl (by omega) (by omega) ?_
                refine r_iinc (pc := 101) (xs' := [some (aR 7 0), some (aI f), some (aI sv), some (aI co), some (aI (t + 1)), none, none, none]) dX7_leastFrom_101 rfl (Nat.le_of_ble_eq_true rfl) (by omega) rfl ?_
                refine r_goto (pc := 104) (tgt := 72) dX7_leastFrom_104 rfl ?_
                refine r_hp (hi' := (lsH hi (se1 L t 1000000))) (by exact lsH_up) ?_
                exact ih_loopB (t + 1) (se1 L t 1000000) (by omega) (fun s s0 s1 => by by_cases z : s = t; (rw [z, se1_s, if_neg c91]); (rw [se1_n z]; exact hL s s0 (by omega))) (by omega)
              · refine r_iconst (pc := 94) (n := 0) dX7_leastFrom_94 (by decide) ?_
                refine r_goto (pc := 95) (tgt := 100) dX7_leastFrom_95 rfl ?_
                refine p_iast (pc := 100) (n9 := 1) (nI := 32) rfl dX7_leastFrom_100 rfl (by decide) (by decide) rfl (by omega) (by omega) ?_
                refine r_iinc (pc := 101) (xs' := [some (aR 7 0), some (aI f), some (aI sv), some (aI co), some (aI (t + 1)), none, none, none]) dX7_leastFrom_101 rfl (Nat.le_of_ble_eq_true rfl) (by omega) rfl ?_
                refine r_goto (pc := 104) (tgt := 72) dX7_leastFrom_104 rfl ?_
                refine r_hp (hi' := (lsH hi (se1 L t 0))) (by exact lsH_up) ?_
                exact ih_loopB (t + 1) (se1 L t 0) (by omega) (fun s s0 s1 => by by_cases z : s = t; (rw [z, se1_s, if_pos c91]); (rw [se1_n z]; exact hL s s0 (by omega))) (by omega)
        refine r_hp (hi' := (lsH hi (hi 59 0))) (by exact lsH_0) ?_
        exact loopB 33 0 (hi 59 0) (by omega) (fun s s0 s1 => by omega) (by omega)
      · refine r_iload_n (pc := 13) dX7_leastFrom_13 rfl ?_
        refine r_aload_n (pc := 14) dX7_leastFrom_14 rfl ?_
        refine p_getQ (pc := 15) (jI := 36) (n9 := 1) (r := some (58, 0)) fl_X7_102 rfl dX7_leastFrom_15 rfl rfl (by decide) (by decide) rfl ?_
        refine r_iload (pc := 18) dX7_leastFrom_18 rfl ?_
        refine q_iald (pc := 20) (n9 := 1) (nI := 5) (v := hi 58 0 u) rfl dX7_leastFrom_20 rfl (by decide) (by decide) rfl (by omega) (by omega) (by rfl) ?_
        refine r_iconst (pc := 21) (n := (-1)) dX7_leastFrom_21 (by decide) ?_
        refine r_icmp_ne (pc := 22) (tgt := 29) dX7_leastFrom_22 rfl (fun c22 => ?_) (fun c22 => ?_)
        · refine r_iconst (pc := 29) (n := 1) dX7_leastFrom_29 (by decide) ?_
          refine r_iadd (pc := 30) dX7_leastFrom_30 (by omega) ?_
          refine r_istore_n (pc := 31) (xs' := [some (aR 7 0), some (aI f), some (aI (sv + 1)), some (aI co), some (aI u), none, none, none]) dX7_leastFrom_31 (Nat.le_of_ble_eq_true rfl) rfl ?_
          refine r_iload_n (pc := 32) dX7_leastFrom_32 rfl ?_
          refine r_aload_n (pc := 33) dX7_leastFrom_33 rfl ?_
          refine p_getQ (pc := 34) (jI := 36) (n9 := 1) (r := some (58, 0)) fl_X7_102 rfl dX7_leastFrom_34 rfl rfl (by decide) (by decide) rfl ?_
          refine r_iload (pc := 37) dX7_leastFrom_37 rfl ?_
          refine q_iald (pc := 39) (n9 := 1) (nI := 5) (v := hi 58 0 u) rfl dX7_leastFrom_39 rfl (by decide) (by decide) rfl (by omega) (by omega) (by rfl) ?_
          refine r_iconst (pc := 40) (n := (-1)) dX7_leastFrom_40 (by decide) ?_
          refine r_icmp_ne (pc := 41) (tgt := 48) dX7_leastFrom_41 rfl (fun c41 => ?_) (fun c41 => absurd (show hi 58 0 u = -1 by omega) c22)
          have hr9 : 0 ≤ hi 58 0 u ∧ hi 58 0 u < S := by
            rcases ho.1 u hA.1 (by omega) with z | z
            · exact absurd z c22
            · exact z
          have hb9 := hcb _ u hr9.1 hr9.2 hA.1 (by omega)
          refine r_aload_n (pc := 48) dX7_leastFrom_48 rfl ?_
          refine r_aload_n (pc := 49) dX7_leastFrom_49 rfl ?_
          refine p_getQ (pc := 50) (jI := 36) (n9 := 1) (r := some (58, 0)) fl_X7_102 rfl dX7_leastFrom_50 rfl rfl (by decide) (by decide) rfl ?_
          refine r_iload (pc := 53) dX7_leastFrom_53 rfl ?_
          refine q_iald (pc := 55) (n9 := 1) (nI := 5) (v := hi 58 0 u) rfl dX7_leastFrom_55 rfl (by decide) (by decide) rfl (by omega) (by omega) (by rfl) ?_
          refine r_iload (pc := 56) dX7_leastFrom_56 rfl ?_
          refine d1_V (pc := 58) (t := 7) (i := 0) (rest := [aI co]) (cs' := 0) (sl' := 0) mv_X7_213 (K_X7_bringing (hi := hi) (i := hi 58 0 u) (u := u) (by omega) (by omega) (hpw _ hr9.1 hr9.2) (hpu u hA.1 (by omega))) rfl ⟨(Nat.le_of_ble_eq_true rfl), (Nat.le_of_ble_eq_true rfl)⟩ (Nat.le_of_ble_eq_true rfl) dX7_leastFrom_58 (show (0 : Int) ≤ 0 by omega) (show 0 < 1 by omega) ⟨rfl, (Nat.le_of_ble_eq_true rfl)⟩ ⟨rfl, (Nat.le_of_ble_eq_true rfl)⟩ rfl ?_
          refine r_iadd (pc := 61) dX7_leastFrom_61 (by omega) ?_
          refine r_istore_n (pc := 62) (xs' := [some (aR 7 0), some (aI f), some (aI (sv + 1)), some (aI (co + (brM hi (hi 58 0 u) u))), some (aI u), none, none, none]) dX7_leastFrom_62 (Nat.le_of_ble_eq_true rfl) rfl ?_
          have hsv9 : sv + 1 = srvI (hi 58 0) (u + 1) ∧ 0 ≤ sv + 1 ∧ sv + 1 ≤ u + 1 := ⟨by have e := hsv.1; unfold srvI at e ⊢; rw [sI_s hA.1, ← e, if_neg (show ¬ hi 58 0 u = -1 by omega)], by omega, by omega⟩
          have hco9 : co + (brM hi (hi 58 0 u) u) = spdI (brM hi) (hi 58 0) (u + 1) ∧ 0 ≤ co + (brM hi (hi 58 0 u) u) ∧ co + (brM hi (hi 58 0 u) u) ≤ 9999 * (u + 1) := ⟨by have e := hco.1; unfold spdI at e ⊢; rw [sI_s hA.1, ← e, if_neg (show ¬ hi 58 0 u = -1 by omega)], by omega, by omega⟩
          refine r_iinc (pc := 63) (xs' := [some (aR 7 0), some (aI f), some (aI (sv + 1)), some (aI (co + (brM hi (hi 58 0 u) u))), some (aI (u + 1)), none, none, none]) dX7_leastFrom_63 rfl (Nat.le_of_ble_eq_true rfl) (by omega) rfl ?_
          refine r_goto (pc := 66) (tgt := 7) dX7_leastFrom_66 rfl ?_
          exact ih_loopA (u + 1) (sv + 1) (co + (brM hi (hi 58 0 u) u)) (by omega) hsv9 hco9 (by omega)
        · refine r_iconst (pc := 25) (n := 0) dX7_leastFrom_25 (by decide) ?_
          refine r_goto (pc := 26) (tgt := 30) dX7_leastFrom_26 rfl ?_
          refine r_iadd (pc := 30) dX7_leastFrom_30 (by omega) ?_
          refine r_istore_n (pc := 31) (xs' := [some (aR 7 0), some (aI f), some (aI (sv + 0)), some (aI co), some (aI u), none, none, none]) dX7_leastFrom_31 (Nat.le_of_ble_eq_true rfl) rfl ?_
          refine r_iload_n (pc := 32) dX7_leastFrom_32 rfl ?_
          refine r_aload_n (pc := 33) dX7_leastFrom_33 rfl ?_
          refine p_getQ (pc := 34) (jI := 36) (n9 := 1) (r := some (58, 0)) fl_X7_102 rfl dX7_leastFrom_34 rfl rfl (by decide) (by decide) rfl ?_
          refine r_iload (pc := 37) dX7_leastFrom_37 rfl ?_
          refine q_iald (pc := 39) (n9 := 1) (nI := 5) (v := hi 58 0 u) rfl dX7_leastFrom_39 rfl (by decide) (by decide) rfl (by omega) (by omega) (by rfl) ?_
          refine r_iconst (pc := 40) (n := (-1)) dX7_leastFrom_40 (by decide) ?_
          refine r_icmp_ne (pc := 41) (tgt := 48) dX7_leastFrom_41 rfl (fun c41 => absurd (show hi 58 0 u = -1 by omega) c41) (fun c41 => ?_)
          refine r_iconst (pc := 44) (n := 0) dX7_leastFrom_44 (by decide) ?_
          refine r_goto (pc := 45) (tgt := 61) dX7_leastFrom_45 rfl ?_
          refine r_iadd (pc := 61) dX7_leastFrom_61 (by omega) ?_
          refine r_istore_n (pc := 62) (xs' := [some (aR 7 0), some (aI f), some (aI (sv + 0)), some (aI (co + 0)), some (aI u), none, none, none]) dX7_leastFrom_62 (Nat.le_of_ble_eq_true rfl) rfl ?_
          have hsv9 : sv + 0 = srvI (hi 58 0) (u + 1) ∧ 0 ≤ sv + 0 ∧ sv + 0 ≤ u + 1 := ⟨by have e := hsv.1; unfold srvI at e ⊢; rw [sI_s hA.1, ← e, if_pos (show hi 58 0 u = -1 by omega)], by omega, by omega⟩
          have hco9 : co + 0 = spdI (brM hi) (hi 58 0) (u + 1) ∧ 0 ≤ co + 0 ∧ co + 0 ≤ 9999 * (u + 1) := ⟨by have e := hco.1; unfold spdI at e ⊢; rw [sI_s hA.1, ← e, if_pos (show hi 58 0 u = -1 by omega)], by omega, by omega⟩
          refine r_iinc (pc := 63) (xs' := [some (aR 7 0), some (aI f), some (aI (sv + 0)), some (aI (co + 0)), some (aI (u + 1)), none, none, none]) dX7_leastFrom_63 rfl (Nat.le_of_ble_eq_true rfl) (by omega) rfl ?_
          refine r_goto (pc := 66) (tgt := 7) dX7_leastFrom_66 rfl ?_
          exact ih_loopA (u + 1) (sv + 0) (co + 0) (by omega) hsv9 hco9 (by omega)
  exact loopA 6 0 0 0 (by omega) ⟨rfl, by decide, by decide⟩ ⟨rfl, by decide, by decide⟩ (by omega)
