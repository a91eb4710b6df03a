/-! ===== the law: its deeds, walked (printed by wip/p27/tools/g73.py) ===== -/
def I_law (nm : String) (hh : List (Nat × Nat × Nat × Nat)) (L : Nat) (sc : Nat → Int32) : MI := (RL, ⟨RL, nm, "([I)Z"⟩, cL_law, 19, some .boolean, hh, room_1, some (L, sc))
theorem ishr_9 {x : Int} (hx : 0 ≤ x ∧ x ≤ 2147483647) : Int32.ofInt x >>> (Int32.ofInt 9 &&& 31) = Int32.ofInt (x / 512) := by
  have kx : ax_32 x := ⟨by omega, hx.2⟩
  apply Int32.toInt_inj.mp
  have e : (Int32.ofInt x >>> (Int32.ofInt 9 &&& 31)).toInt = (Int32.ofInt x).toInt >>> ((Int32.ofInt 9 &&& 31).toBitVec.smod 32).toNat := BitVec.toInt_sshiftRight ..
  have e9 : ((Int32.ofInt 9 &&& 31).toBitVec.smod 32).toNat = 9 := by decide
  rw [e, ax_to kx, e9, Int.shiftRight_eq_div_pow, ax_to (show ax_32 (x / 512) from ⟨by omega, by omega⟩)]
  rfl
theorem LawI.looked {hi : Hi} {nb nk dy lk : Int} (LI : LawI hi nb nk dy lk) {g g2 : Hi} (eg : g 98 0 0 = hi 98 0 0 + 1) : LawI (mix (gvn hi g) g2) nb nk dy (lk + 1) := by
  obtain ⟨hI, hd, hw, hg⟩ := id LI
  refine ⟨(hI.gv (g := g)).mx, hd, hw, ?_⟩
  show 0 ≤ g 98 0 0 ∧ g 98 0 0 ≤ lk + 1
  omega
theorem law_box {nm : String} {hh : List (Nat × Nat × Nat × Nat)} {L : Nat} {sc : Nat → Int32} {hi : Hi} {nb nk dy lk tn t z dd b p : Int} {cs sl : Nat} {Q : Option Av → Hp → Prop} {X : String → Hp → Prop} (LI : LawI hi nb nk dy lk) (hdy : 0 ≤ dy ∧ dy ≤ 3000) (hz : 0 ≤ z ∧ z ≤ 134217727) (h40 : nb < 40) (hp9 : 0 ≤ p ∧ p < 4)  (hcs : cs + 300 ≤ 600104) (hsl : sl + 3000 ≤ 7301314) (K : ∀ (hi' : Hi) (nb' nk' dy' : Int), LawI hi' nb' nk' dy' lk → 1 ≤ nb' → dy ≤ dy' → dy' ≤ dy + 9 → Run (I_law nm hh L sc) 1226 [some (aR 99 0), some (aR 6 0), some (aR 60 0), some (aI nb'), some (aI nk'), some (aI dy'), some (aI lk), some (aI 1), some (aI tn), some (aI t), none, none, none, none, none, none, none, none, none] [] (hp hi' nb' nk') (cs + 300) (sl + 3000) Q X) : Run (I_law nm hh L sc) 146 [some (aR 99 0), some (aR 6 0), some (aR 60 0), some (aI nb), some (aI nk), some (aI dy), some (aI lk), some (aI 1), some (aI tn), some (aI t), some (aI z), some (aI dd), some (aI b), some (aI p), none, none, none, none, none] [] (hp hi nb nk) cs sl Q X := by
  obtain ⟨hI, hdd, hw, hg⟩ := id LI
  have hN := hI.num
  unfold vNum at hN
  refine r_aload_n (pc := 146) dL_law_146 rfl ?_
  refine r_iconst (pc := 147) (n := 0) dL_law_147 (by decide) ?_
  refine r_iload (pc := 148) dL_law_148 rfl ?_
  refine r_iconst (pc := 150) (n := 3) dL_law_150 (by decide) ?_
  refine r_irem (pc := 151) dL_law_151 (by omega) (by omega) ?_
  refine r_iload (pc := 152) dL_law_152 rfl ?_
  refine r_iconst (pc := 154) (n := 2) dL_law_154 (by decide) ?_
  refine r_ishrX (pc := 155) dL_law_155 (fun s155 t155 u155 => ?_)
  replace u155 := u155 (by omega)
  refine r_iconst (pc := 156) (n := 3) dL_law_156 (by decide) ?_
  refine r_irem (pc := 157) dL_law_157 (by omega) (by omega) ?_
  refine r_iconst (pc := 158) (n := 1) dL_law_158 (by decide) ?_
  refine r_isub (pc := 159) dL_law_159 (by omega) ?_
  refine r_iload (pc := 160) dL_law_160 rfl ?_
  refine r_iload (pc := 162) dL_law_162 rfl ?_
  refine r_iconst (pc := 164) (n := 5) dL_law_164 (by decide) ?_
  refine r_ishrX (pc := 165) dL_law_165 (fun s165 t165 u165 => ?_)
  replace u165 := u165 (by omega)
  refine r_sipush (pc := 166) (n := 200) dL_law_166 rfl (by decide) ?_
  refine r_irem (pc := 169) dL_law_169 (by omega) (by omega) ?_
  refine r_iadd (pc := 170) dL_law_170 (by omega) ?_
  refine r_iconst (pc := 171) (n := 0) dL_law_171 (by decide) ?_
  obtain ⟨h9, d9, l9, p9⟩ := J_box LI h40 (kd := z % 3) (ls := (s155 % 3) - 1) (un := dy + (s165 % 200)) (by omega) (by omega) (by omega)
  have k9 := KL_place l9.1 (b := nb) (d := dy) (by omega) (by omega) (by omega)
  rw [p9] at k9
  refine d1_SX (pc := 172) (rest := []) (cs' := (cs + 58)) (sl' := (sl + 461)) ms_L_81 (by simp [I_L_ask]) d9 rfl ⟨(Nat.le_of_ble_eq_true rfl), (Nat.le_of_ble_eq_true rfl)⟩ (Nat.le_of_ble_eq_true rfl) dL_law_172 ⟨rfl, (by show _ ≤ 600104; omega)⟩ ⟨rfl, (by show _ ≤ 7301314; omega)⟩ rfl ?_
  refine r_iload_n (pc := 175) dL_law_175 rfl ?_
  refine r_icmp_ne (pc := 176) (tgt := 195) dL_law_176 rfl (fun c176 => absurd rfl c176) (fun c176 => ?_)
  refine r_aload_n (pc := 179) dL_law_179 rfl ?_
  refine r_iload_n (pc := 180) dL_law_180 rfl ?_
  refine r_iload (pc := 181) dL_law_181 rfl ?_
  refine d1_V (pc := 183) (t := 6) (i := 0) (rest := []) (cs' := (cs + 60)) (sl' := (sl + 473)) mv_L_66 k9 rfl ⟨(Nat.le_of_ble_eq_true rfl), (Nat.le_of_ble_eq_true rfl)⟩ (Nat.le_of_ble_eq_true rfl) dL_law_183 (show (0 : Int) ≤ 0 by omega) (show 0 < 1 by omega) ⟨rfl, (by show _ ≤ 600104; omega)⟩ ⟨rfl, (by show _ ≤ 7301314; omega)⟩ rfl ?_
  refine r_bipush (pc := 186) (n := 10) dL_law_186 rfl (by decide) ?_
  refine r_icmp_ne (pc := 188) (tgt := 195) dL_law_188 rfl (fun z => absurd z (by decide)) (fun _ => ?_)
  refine r_iconst (pc := 191) (n := 1) dL_law_191 (by decide) ?_
  refine r_goto (pc := 192) (tgt := 196) dL_law_192 rfl ?_
  refine r_istore (pc := 196) (xs' := [some (aR 99 0), some (aR 6 0), some (aR 60 0), some (aI nb), some (aI nk), some (aI dy), some (aI lk), some (aI 1), some (aI tn), some (aI t), some (aI z), some (aI dd), some (aI b), some (aI p), none, none, none, none, none]) dL_law_196 (Nat.le_of_ble_eq_true rfl) rfl ?_
  refine r_iinc (pc := 198) (xs' := [some (aR 99 0), some (aR 6 0), some (aR 60 0), some (aI (nb + 1)), some (aI nk), some (aI dy), some (aI lk), some (aI 1), some (aI tn), some (aI t), some (aI z), some (aI dd), some (aI b), some (aI p), none, none, none, none, none]) dL_law_198 rfl (Nat.le_of_ble_eq_true rfl) (by omega) rfl ?_
  refine r_goto (pc := 201) (tgt := 1226) dL_law_201 rfl ?_
  refine r_drop (xs' := [some (aR 99 0), some (aR 6 0), some (aR 60 0), some (aI (nb + 1)), some (aI nk), some (aI dy), some (aI lk), some (aI 1), some (aI tn), some (aI t), none, some (aI dd), some (aI b), some (aI p), none, none, none, none, none]) 10 rfl ?_
  refine r_drop (xs' := [some (aR 99 0), some (aR 6 0), some (aR 60 0), some (aI (nb + 1)), some (aI nk), some (aI dy), some (aI lk), some (aI 1), some (aI tn), some (aI t), none, none, some (aI b), some (aI p), none, none, none, none, none]) 11 rfl ?_
  refine r_drop (xs' := [some (aR 99 0), some (aR 6 0), some (aR 60 0), some (aI (nb + 1)), some (aI nk), some (aI dy), some (aI lk), some (aI 1), some (aI tn), some (aI t), none, none, none, some (aI p), none, none, none, none, none]) 12 rfl ?_
  refine r_drop (xs' := [some (aR 99 0), some (aR 6 0), some (aR 60 0), some (aI (nb + 1)), some (aI nk), some (aI dy), some (aI lk), some (aI 1), some (aI tn), some (aI t), none, none, none, none, none, none, none, none, none]) 13 rfl ?_
  refine r_wide (cs' := cs + 300) (sl' := sl + 3000) (by omega) (by omega) ?_
  exact K _ _ _ _ l9 (by omega) (by omega) (by omega)

theorem law_report {nm : String} {hh : List (Nat × Nat × Nat × Nat)} {L : Nat} {sc : Nat → Int32} {hi : Hi} {nb nk dy lk tn t z dd b p : Int} {cs sl : Nat} {Q : Option Av → Hp → Prop} {X : String → Hp → Prop} (LI : LawI hi nb nk dy lk) (hdy : 0 ≤ dy ∧ dy ≤ 3000) (hz : 0 ≤ z ∧ z ≤ 134217727) (hb : 0 ≤ b ∧ b < nb) (hp9 : 0 ≤ p ∧ p < 4)  (hcs : cs + 300 ≤ 600104) (hsl : sl + 3000 ≤ 7301314) (K : ∀ (hi' : Hi) (nb' nk' dy' : Int), LawI hi' nb' nk' dy' lk → 1 ≤ nb' → dy ≤ dy' → dy' ≤ dy + 9 → Run (I_law nm hh L sc) 1226 [some (aR 99 0), some (aR 6 0), some (aR 60 0), some (aI nb'), some (aI nk'), some (aI dy'), some (aI lk), some (aI 1), some (aI tn), some (aI t), none, none, none, none, none, none, none, none, none] [] (hp hi' nb' nk') (cs + 300) (sl + 3000) Q X) : Run (I_law nm hh L sc) 211 [some (aR 99 0), some (aR 6 0), some (aR 60 0), some (aI nb), some (aI nk), some (aI dy), some (aI lk), some (aI 1), some (aI tn), some (aI t), some (aI z), some (aI dd), some (aI b), some (aI p), none, none, none, none, none] [] (hp hi nb nk) cs sl Q X := by
  obtain ⟨hI, hdd, hw, hg⟩ := id LI
  have hN := hI.num
  unfold vNum at hN
  refine r_iload (pc := 211) dL_law_211 rfl ?_
  refine r_bipush (pc := 213) (n := 9) dL_law_213 rfl (by decide) ?_
  refine r_ishrX (pc := 215) dL_law_215 (fun s215 t215 u215 => ?_)
  replace u215 := u215 (by omega)
  refine r_iconst (pc := 216) (n := 3) dL_law_216 (by decide) ?_
  refine r_iandX (pc := 217) dL_law_217 (by decide) (fun s217 t217 u217 => ?_)
  refine r_if_ne (pc := 218) (tgt := 234) dL_law_218 rfl (fun c218 => ?_) (fun c218 => ?_)
  · refine r_iload (pc := 234) dL_law_234 rfl ?_
    refine r_istore (pc := 236) (xs' := [some (aR 99 0), some (aR 6 0), some (aR 60 0), some (aI nb), some (aI nk), some (aI dy), some (aI lk), some (aI 1), some (aI tn), some (aI t), some (aI z), some (aI dd), some (aI b), some (aI p), some (aI dy), none, none, none, none]) dL_law_236 (Nat.le_of_ble_eq_true rfl) rfl ?_
    refine r_iload (pc := 238) dL_law_238 rfl ?_
    refine r_bipush (pc := 240) (n := 20) dL_law_240 rfl (by decide) ?_
    refine r_ishrX (pc := 242) dL_law_242 (fun s242 t242 u242 => ?_)
    replace u242 := u242 (by omega)
    refine r_iconst (pc := 243) (n := 3) dL_law_243 (by decide) ?_
    refine r_iandX (pc := 244) dL_law_244 (by decide) (fun s244 t244 u244 => ?_)
    refine r_if_ne (pc := 245) (tgt := 258) dL_law_245 rfl (fun c245 => ?_) (fun c245 => ?_)
    · refine r_iload (pc := 258) dL_law_258 rfl ?_
      refine r_bipush (pc := 260) (n := 21) dL_law_260 rfl (by decide) ?_
      refine r_ishrX (pc := 262) dL_law_262 (fun s262 t262 u262 => ?_)
      replace u262 := u262 (by omega)
      refine r_iconst (pc := 263) (n := 1) dL_law_263 (by decide) ?_
      refine r_iandX (pc := 264) dL_law_264 (by decide) (fun s264 t264 u264 => ?_)
      refine r_istore (pc := 265) (xs' := [some (aR 99 0), some (aR 6 0), some (aR 60 0), some (aI nb), some (aI nk), some (aI dy), some (aI lk), some (aI 1), some (aI tn), some (aI t), some (aI z), some (aI dd), some (aI b), some (aI p), some (aI dy), some (aI s264), none, none, none]) dL_law_265 (Nat.le_of_ble_eq_true rfl) rfl ?_
      refine r_aload_n (pc := 267) dL_law_267 rfl ?_
      refine r_iconst (pc := 268) (n := 2) dL_law_268 (by decide) ?_
      refine r_iload (pc := 269) dL_law_269 rfl ?_
      refine r_iload (pc := 271) dL_law_271 rfl ?_
      refine r_iload (pc := 273) dL_law_273 rfl ?_
      refine r_iload (pc := 275) dL_law_275 rfl ?_
      obtain ⟨told, h9, d9, l9, c9⟩ := J_report LI (b := b) (d := dy) (e := s264) (p := p) hb.1 hb.2 (by omega) (by omega) (by omega)
      refine d1_SX (pc := 277) (rest := []) (cs' := (cs + 58)) (sl' := (sl + 461)) ms_L_81 (by simp [I_L_ask]) d9 rfl ⟨(Nat.le_of_ble_eq_true rfl), (Nat.le_of_ble_eq_true rfl)⟩ (Nat.le_of_ble_eq_true rfl) dL_law_277 ⟨rfl, (by show _ ≤ 600104; omega)⟩ ⟨rfl, (by show _ ≤ 7301314; omega)⟩ rfl ?_
      rcases c9 with rfl | ⟨c1, c2, t2, c3, d8⟩
      · refine r_istore (pc := 280) (xs' := [some (aR 99 0), some (aR 6 0), some (aR 60 0), some (aI nb), some (aI nk), some (aI dy), some (aI lk), some (aI 1), some (aI tn), some (aI t), some (aI z), some (aI dd), some (aI b), some (aI p), some (aI dy), some (aI s264), some (aI (-1013)), none, none]) dL_law_280 (Nat.le_of_ble_eq_true rfl) rfl ?_
        refine r_aload_n (pc := 282) dL_law_282 rfl ?_
        refine r_iload (pc := 283) dL_law_283 rfl ?_
        refine r_iload (pc := 285) dL_law_285 rfl ?_
        refine d1_V (pc := 287) (t := 6) (i := 0) (rest := []) (cs' := (cs + 60)) (sl' := (sl + 473)) mv_L_66 (KL_place l9.1 (b := b) (d := dy) (by omega) (by omega) (by omega)) rfl ⟨(Nat.le_of_ble_eq_true rfl), (Nat.le_of_ble_eq_true rfl)⟩ (Nat.le_of_ble_eq_true rfl) dL_law_287 (show (0 : Int) ≤ 0 by omega) (show 0 < 1 by omega) ⟨rfl, (by show _ ≤ 600104; omega)⟩ ⟨rfl, (by show _ ≤ 7301314; omega)⟩ rfl ?_
        refine r_istore (pc := 290) (xs' := [some (aR 99 0), some (aR 6 0), some (aR 60 0), some (aI nb), some (aI nk), some (aI dy), some (aI lk), some (aI 1), some (aI tn), some (aI t), some (aI z), some (aI dd), some (aI b), some (aI p), some (aI dy), some (aI s264), some (aI (-1013)), some (aI (plcC h9 b dy)), none]) dL_law_290 (Nat.le_of_ble_eq_true rfl) rfl ?_
        refine r_aload_n (pc := 292) dL_law_292 rfl ?_
        refine r_iload (pc := 293) dL_law_293 rfl ?_
        refine r_bipush (pc := 295) (n := 6) dL_law_295 rfl (by decide) ?_
        refine d1_V (pc := 297) (t := 6) (i := 0) (rest := []) (cs' := (cs + 62)) (sl' := (sl + 485)) mv_L_75 (KL_boxIs l9.1 (b := b) (w := 6) (v := h9 4 b 5) (by omega) (by omega) (by omega) is_6) rfl ⟨(Nat.le_of_ble_eq_true rfl), (Nat.le_of_ble_eq_true rfl)⟩ (Nat.le_of_ble_eq_true rfl) dL_law_297 (show (0 : Int) ≤ 0 by omega) (show 0 < 1 by omega) ⟨rfl, (by show _ ≤ 600104; omega)⟩ ⟨rfl, (by show _ ≤ 7301314; omega)⟩ rfl ?_
        refine r_istore (pc := 300) (xs' := [some (aR 99 0), some (aR 6 0), some (aR 60 0), some (aI nb), some (aI nk), some (aI dy), some (aI lk), some (aI 1), some (aI tn), some (aI t), some (aI z), some (aI dd), some (aI b), some (aI p), some (aI dy), some (aI s264), some (aI (-1013)), some (aI (plcC h9 b dy)), some (aI (h9 4 b 5))]) dL_law_300 (Nat.le_of_ble_eq_true rfl) rfl ?_
        refine r_iload (pc := 302) dL_law_302 rfl ?_
        refine r_sipush (pc := 304) (n := (-1013)) dL_law_304 rfl (by decide) ?_
        refine r_icmp_eq (pc := 307) (tgt := 323) dL_law_307 rfl (fun _ => ?_) (fun z => absurd z (by decide))
        refine r_iconst (pc := 323) (n := 1) dL_law_323 (by decide) ?_
        refine r_goto (pc := 324) (tgt := 328) dL_law_324 rfl ?_
        refine r_istore (pc := 328) (xs' := [some (aR 99 0), some (aR 6 0), some (aR 60 0), some (aI nb), some (aI nk), some (aI dy), some (aI lk), some (aI 1), some (aI tn), some (aI t), some (aI z), some (aI dd), some (aI b), some (aI p), some (aI dy), some (aI s264), some (aI (-1013)), some (aI (plcC h9 b dy)), some (aI (h9 4 b 5))]) dL_law_328 (Nat.le_of_ble_eq_true rfl) rfl ?_
        refine r_iload (pc := 330) dL_law_330 rfl ?_
        refine r_if_eq (pc := 332) (tgt := 389) dL_law_332 rfl (fun z => absurd z (by decide)) (fun _ => ?_)
        refine r_iload (pc := 335) dL_law_335 rfl ?_
        refine r_sipush (pc := 337) (n := (-1013)) dL_law_337 rfl (by decide) ?_
        refine r_icmp_eq (pc := 340) (tgt := 385) dL_law_340 rfl (fun _ => ?_) (fun z => absurd z (by decide))
        refine r_iconst (pc := 385) (n := 1) dL_law_385 (by decide) ?_
        refine r_goto (pc := 386) (tgt := 390) dL_law_386 rfl ?_
        refine r_istore (pc := 390) (xs' := [some (aR 99 0), some (aR 6 0), some (aR 60 0), some (aI nb), some (aI nk), some (aI dy), some (aI lk), some (aI 1), some (aI tn), some (aI t), some (aI z), some (aI dd), some (aI b), some (aI p), some (aI dy), some (aI s264), some (aI (-1013)), some (aI (plcC h9 b dy)), some (aI (h9 4 b 5))]) dL_law_390 (Nat.le_of_ble_eq_true rfl) rfl ?_
        refine r_goto (pc := 392) (tgt := 1226) dL_law_392 rfl ?_
        refine r_drop (xs' := [some (aR 99 0), some (aR 6 0), some (aR 60 0), some (aI nb), some (aI nk), some (aI dy), some (aI lk), some (aI 1), some (aI tn), some (aI t), none, some (aI dd), some (aI b), some (aI p), some (aI dy), some (aI s264), some (aI (-1013)), some (aI (plcC h9 b dy)), some (aI (h9 4 b 5))]) 10 rfl ?_
        refine r_drop (xs' := [some (aR 99 0), some (aR 6 0), some (aR 60 0), some (aI nb), some (aI nk), some (aI dy), some (aI lk), some (aI 1), some (aI tn), some (aI t), none, none, some (aI b), some (aI p), some (aI dy), some (aI s264), some (aI (-1013)), some (aI (plcC h9 b dy)), some (aI (h9 4 b 5))]) 11 rfl ?_
        refine r_drop (xs' := [some (aR 99 0), some (aR 6 0), some (aR 60 0), some (aI nb), some (aI nk), some (aI dy), some (aI lk), some (aI 1), some (aI tn), some (aI t), none, none, none, some (aI p), some (aI dy), some (aI s264), some (aI (-1013)), some (aI (plcC h9 b dy)), some (aI (h9 4 b 5))]) 12 rfl ?_
        refine r_drop (xs' := [some (aR 99 0), some (aR 6 0), some (aR 60 0), some (aI nb), some (aI nk), some (aI dy), some (aI lk), some (aI 1), some (aI tn), some (aI t), none, none, none, none, some (aI dy), some (aI s264), some (aI (-1013)), some (aI (plcC h9 b dy)), some (aI (h9 4 b 5))]) 13 rfl ?_
        refine r_drop (xs' := [some (aR 99 0), some (aR 6 0), some (aR 60 0), some (aI nb), some (aI nk), some (aI dy), some (aI lk), some (aI 1), some (aI tn), some (aI t), none, none, none, none, none, some (aI s264), some (aI (-1013)), some (aI (plcC h9 b dy)), some (aI (h9 4 b 5))]) 14 rfl ?_
        refine r_drop (xs' := [some (aR 99 0), some (aR 6 0), some (aR 60 0), some (aI nb), some (aI nk), some (aI dy), some (aI lk), some (aI 1), some (aI tn), some (aI t), none, none, none, none, none, none, some (aI (-1013)), some (aI (plcC h9 b dy)), some (aI (h9 4 b 5))]) 15 rfl ?_
        refine r_drop (xs' := [some (aR 99 0), some (aR 6 0), some (aR 60 0), some (aI nb), some (aI nk), some (aI dy), some (aI lk), some (aI 1), some (aI tn), some (aI t), none, none, none, none, none, none, none, some (aI (plcC h9 b dy)), some (aI (h9 4 b 5))]) 16 rfl ?_
        refine r_drop (xs' := [some (aR 99 0), some (aR 6 0), some (aR 60 0), some (aI nb), some (aI nk), some (aI dy), some (aI lk), some (aI 1), some (aI tn), some (aI t), none, none, none, none, none, none, none, none, some (aI (h9 4 b 5))]) 17 rfl ?_
        refine r_drop (xs' := [some (aR 99 0), some (aR 6 0), some (aR 60 0), some (aI nb), some (aI nk), some (aI dy), some (aI lk), some (aI 1), some (aI tn), some (aI t), none, none, none, none, none, none, none, none, none]) 18 rfl ?_
        refine r_wide (cs' := cs + 300) (sl' := sl + 3000) (by omega) (by omega) ?_
        exact K _ _ _ _ l9 (by omega) (by omega) (by omega)
      · refine r_istore (pc := 280) (xs' := [some (aR 99 0), some (aR 6 0), some (aR 60 0), some (aI nb), some (aI nk), some (aI dy), some (aI lk), some (aI 1), some (aI tn), some (aI t), some (aI z), some (aI dd), some (aI b), some (aI p), some (aI dy), some (aI s264), some (aI told), none, none]) dL_law_280 (Nat.le_of_ble_eq_true rfl) rfl ?_
        refine r_aload_n (pc := 282) dL_law_282 rfl ?_
        refine r_iload (pc := 283) dL_law_283 rfl ?_
        refine r_iload (pc := 285) dL_law_285 rfl ?_
        refine d1_V (pc := 287) (t := 6) (i := 0) (rest := []) (cs' := (cs + 60)) (sl' := (sl + 473)) mv_L_66 (KL_place l9.1 (b := b) (d := dy) (by omega) (by omega) (by omega)) rfl ⟨(Nat.le_of_ble_eq_true rfl), (Nat.le_of_ble_eq_true rfl)⟩ (Nat.le_of_ble_eq_true rfl) dL_law_287 (show (0 : Int) ≤ 0 by omega) (show 0 < 1 by omega) ⟨rfl, (by show _ ≤ 600104; omega)⟩ ⟨rfl, (by show _ ≤ 7301314; omega)⟩ rfl ?_
        refine r_istore (pc := 290) (xs' := [some (aR 99 0), some (aR 6 0), some (aR 60 0), some (aI nb), some (aI nk), some (aI dy), some (aI lk), some (aI 1), some (aI tn), some (aI t), some (aI z), some (aI dd), some (aI b), some (aI p), some (aI dy), some (aI s264), some (aI told), some (aI (plcC h9 b dy)), none]) dL_law_290 (Nat.le_of_ble_eq_true rfl) rfl ?_
        refine r_aload_n (pc := 292) dL_law_292 rfl ?_
        refine r_iload (pc := 293) dL_law_293 rfl ?_
        refine r_bipush (pc := 295) (n := 6) dL_law_295 rfl (by decide) ?_
        refine d1_V (pc := 297) (t := 6) (i := 0) (rest := []) (cs' := (cs + 62)) (sl' := (sl + 485)) mv_L_75 (KL_boxIs l9.1 (b := b) (w := 6) (v := h9 4 b 5) (by omega) (by omega) (by omega) is_6) rfl ⟨(Nat.le_of_ble_eq_true rfl), (Nat.le_of_ble_eq_true rfl)⟩ (Nat.le_of_ble_eq_true rfl) dL_law_297 (show (0 : Int) ≤ 0 by omega) (show 0 < 1 by omega) ⟨rfl, (by show _ ≤ 600104; omega)⟩ ⟨rfl, (by show _ ≤ 7301314; omega)⟩ rfl ?_
        refine r_istore (pc := 300) (xs' := [some (aR 99 0), some (aR 6 0), some (aR 60 0), some (aI nb), some (aI nk), some (aI dy), some (aI lk), some (aI 1), some (aI tn), some (aI t), some (aI z), some (aI dd), some (aI b), some (aI p), some (aI dy), some (aI s264), some (aI told), some (aI (plcC h9 b dy)), some (aI (h9 4 b 5))]) dL_law_300 (Nat.le_of_ble_eq_true rfl) rfl ?_
        refine r_iload (pc := 302) dL_law_302 rfl ?_
        refine r_sipush (pc := 304) (n := (-1013)) dL_law_304 rfl (by decide) ?_
        refine r_icmp_eq (pc := 307) (tgt := 323) dL_law_307 rfl (fun c307 => (by exfalso; omega)) (fun c307 => ?_)
        refine r_iload (pc := 310) dL_law_310 rfl ?_
        refine r_iconst (pc := 312) (n := (-1)) dL_law_312 (by decide) ?_
        refine r_icmp_eq (pc := 313) (tgt := 323) dL_law_313 rfl (fun c313 => ?_) (fun c313 => ?_)
        · refine r_iconst (pc := 323) (n := 1) dL_law_323 (by decide) ?_
          refine r_goto (pc := 324) (tgt := 328) dL_law_324 rfl ?_
          refine r_istore (pc := 328) (xs' := [some (aR 99 0), some (aR 6 0), some (aR 60 0), some (aI nb), some (aI nk), some (aI dy), some (aI lk), some (aI 1), some (aI tn), some (aI t), some (aI z), some (aI dd), some (aI b), some (aI p), some (aI dy), some (aI s264), some (aI told), some (aI (plcC h9 b dy)), some (aI (h9 4 b 5))]) dL_law_328 (Nat.le_of_ble_eq_true rfl) rfl ?_
          refine r_iload (pc := 330) dL_law_330 rfl ?_
          refine r_if_eq (pc := 332) (tgt := 389) dL_law_332 rfl (fun z => absurd z (by decide)) (fun _ => ?_)
          refine r_iload (pc := 335) dL_law_335 rfl ?_
          refine r_sipush (pc := 337) (n := (-1013)) dL_law_337 rfl (by decide) ?_
          refine r_icmp_eq (pc := 340) (tgt := 385) dL_law_340 rfl (fun c340 => (by exfalso; omega)) (fun c340 => ?_)
          refine r_aload_n (pc := 343) dL_law_343 rfl ?_
          refine r_iconst (pc := 344) (n := 2) dL_law_344 (by decide) ?_
          refine r_iload (pc := 345) dL_law_345 rfl ?_
          refine r_iload (pc := 347) dL_law_347 rfl ?_
          refine r_iload (pc := 349) dL_law_349 rfl ?_
          refine r_iload (pc := 351) dL_law_351 rfl ?_
          refine d1_SX (pc := 353) (rest := []) (cs' := (cs + 120)) (sl' := (sl + 946)) ms_L_81 (by simp [I_L_ask]) d8 rfl ⟨(Nat.le_of_ble_eq_true rfl), (Nat.le_of_ble_eq_true rfl)⟩ (Nat.le_of_ble_eq_true rfl) dL_law_353 ⟨rfl, (by show _ ≤ 600104; omega)⟩ ⟨rfl, (by show _ ≤ 7301314; omega)⟩ rfl ?_
          refine r_if_ge (pc := 356) (tgt := 389) dL_law_356 rfl (fun c356 => (by exfalso; omega)) (fun c356 => ?_)
          refine r_aload_n (pc := 359) dL_law_359 rfl ?_
          refine r_iload (pc := 360) dL_law_360 rfl ?_
          refine r_iload (pc := 362) dL_law_362 rfl ?_
          refine d1_V (pc := 364) (t := 6) (i := 0) (rest := []) (cs' := (cs + 122)) (sl' := (sl + 958)) mv_L_66 (KL_place l9.1 (b := b) (d := dy) (by omega) (by omega) (by omega)) rfl ⟨(Nat.le_of_ble_eq_true rfl), (Nat.le_of_ble_eq_true rfl)⟩ (Nat.le_of_ble_eq_true rfl) dL_law_364 (show (0 : Int) ≤ 0 by omega) (show 0 < 1 by omega) ⟨rfl, (by show _ ≤ 600104; omega)⟩ ⟨rfl, (by show _ ≤ 7301314; omega)⟩ rfl ?_
          refine r_iload (pc := 367) dL_law_367 rfl ?_
          refine r_icmp_ne (pc := 369) (tgt := 389) dL_law_369 rfl (fun c369 => absurd rfl c369) (fun c369 => ?_)
          refine r_aload_n (pc := 372) dL_law_372 rfl ?_
          refine r_iload (pc := 373) dL_law_373 rfl ?_
          refine r_bipush (pc := 375) (n := 6) dL_law_375 rfl (by decide) ?_
          refine d1_V (pc := 377) (t := 6) (i := 0) (rest := []) (cs' := (cs + 124)) (sl' := (sl + 970)) mv_L_75 (KL_boxIs l9.1 (b := b) (w := 6) (v := h9 4 b 5) (by omega) (by omega) (by omega) is_6) rfl ⟨(Nat.le_of_ble_eq_true rfl), (Nat.le_of_ble_eq_true rfl)⟩ (Nat.le_of_ble_eq_true rfl) dL_law_377 (show (0 : Int) ≤ 0 by omega) (show 0 < 1 by omega) ⟨rfl, (by show _ ≤ 600104; omega)⟩ ⟨rfl, (by show _ ≤ 7301314; omega)⟩ rfl ?_
          refine r_iload (pc := 380) dL_law_380 rfl ?_
          refine r_icmp_ne (pc := 382) (tgt := 389) dL_law_382 rfl (fun c382 => absurd rfl c382) (fun c382 => ?_)
          refine r_iconst (pc := 385) (n := 1) dL_law_385 (by decide) ?_
          refine r_goto (pc := 386) (tgt := 390) dL_law_386 rfl ?_
          refine r_istore (pc := 390) (xs' := [some (aR 99 0), some (aR 6 0), some (aR 60 0), some (aI nb), some (aI nk), some (aI dy), some (aI lk), some (aI 1), some (aI tn), some (aI t), some (aI z), some (aI dd), some (aI b), some (aI p), some (aI dy), some (aI s264), some (aI told), some (aI (plcC h9 b dy)), some (aI (h9 4 b 5))]) dL_law_390 (Nat.le_of_ble_eq_true rfl) rfl ?_
          refine r_goto (pc := 392) (tgt := 1226) dL_law_392 rfl ?_
          refine r_drop (xs' := [some (aR 99 0), some (aR 6 0), some (aR 60 0), some (aI nb), some (aI nk), some (aI dy), some (aI lk), some (aI 1), some (aI tn), some (aI t), none, some (aI dd), some (aI b), some (aI p), some (aI dy), some (aI s264), some (aI told), some (aI (plcC h9 b dy)), some (aI (h9 4 b 5))]) 10 rfl ?_
          refine r_drop (xs' := [some (aR 99 0), some (aR 6 0), some (aR 60 0), some (aI nb), some (aI nk), some (aI dy), some (aI lk), some (aI 1), some (aI tn), some (aI t), none, none, some (aI b), some (aI p), some (aI dy), some (aI s264), some (aI told), some (aI (plcC h9 b dy)), some (aI (h9 4 b 5))]) 11 rfl ?_
          refine r_drop (xs' := [some (aR 99 0), some (aR 6 0), some (aR 60 0), some (aI nb), some (aI nk), some (aI dy), some (aI lk), some (aI 1), some (aI tn), some (aI t), none, none, none, some (aI p), some (aI dy), some (aI s264), some (aI told), some (aI (plcC h9 b dy)), some (aI (h9 4 b 5))]) 12 rfl ?_
          refine r_drop (xs' := [some (aR 99 0), some (aR 6 0), some (aR 60 0), some (aI nb), some (aI nk), some (aI dy), some (aI lk), some (aI 1), some (aI tn), some (aI t), none, none, none, none, some (aI dy), some (aI s264), some (aI told), some (aI (plcC h9 b dy)), some (aI (h9 4 b 5))]) 13 rfl ?_
          refine r_drop (xs' := [some (aR 99 0), some (aR 6 0), some (aR 60 0), some (aI nb), some (aI nk), some (aI dy), some (aI lk), some (aI 1), some (aI tn), some (aI t), none, none, none, none, none, some (aI s264), some (aI told), some (aI (plcC h9 b dy)), some (aI (h9 4 b 5))]) 14 rfl ?_
          refine r_drop (xs' := [some (aR 99 0), some (aR 6 0), some (aR 60 0), some (aI nb), some (aI nk), some (aI dy), some (aI lk), some (aI 1), some (aI tn), some (aI t), none, none, none, none, none, none, some (aI told), some (aI (plcC h9 b dy)), some (aI (h9 4 b 5))]) 15 rfl ?_
          refine r_drop (xs' := [some (aR 99 0), some (aR 6 0), some (aR 60 0), some (aI nb), some (aI nk), some (aI dy), some (aI lk), some (aI 1), some (aI tn), some (aI t), none, none, none, none, none, none, none, some (aI (plcC h9 b dy)), some (aI (h9 4 b 5))]) 16 rfl ?_
          refine r_drop (xs' := [some (aR 99 0), some (aR 6 0), some (aR 60 0), some (aI nb), some (aI nk), some (aI dy), some (aI lk), some (aI 1), some (aI tn), some (aI t), none, none, none, none, none, none, none, none, some (aI (h9 4 b 5))]) 17 rfl ?_
          refine r_drop (xs' := [some (aR 99 0), some (aR 6 0), some (aR 60 0), some (aI nb), some (aI nk), some (aI dy), some (aI lk), some (aI 1), some (aI tn), some (aI t), none, none, none, none, none, none, none, none, none]) 18 rfl ?_
          refine r_wide (cs' := cs + 300) (sl' := sl + 3000) (by omega) (by omega) ?_
          exact K _ _ _ _ l9 (by omega) (by omega) (by omega)
        · refine r_iload (pc := 316) dL_law_316 rfl ?_
          refine r_iload (pc := 318) dL_law_318 rfl ?_
          refine r_icmp_ne (pc := 320) (tgt := 327) dL_law_320 rfl (fun c320 => (by exfalso; omega)) (fun c320 => ?_)
          refine r_iconst (pc := 323) (n := 1) dL_law_323 (by decide) ?_
          refine r_goto (pc := 324) (tgt := 328) dL_law_324 rfl ?_
          refine r_istore (pc := 328) (xs' := [some (aR 99 0), some (aR 6 0), some (aR 60 0), some (aI nb), some (aI nk), some (aI dy), some (aI lk), some (aI 1), some (aI tn), some (aI t), some (aI z), some (aI dd), some (aI b), some (aI p), some (aI dy), some (aI s264), some (aI told), some (aI (plcC h9 b dy)), some (aI (h9 4 b 5))]) dL_law_328 (Nat.le_of_ble_eq_true rfl) rfl ?_
          refine r_iload (pc := 330) dL_law_330 rfl ?_
          refine r_if_eq (pc := 332) (tgt := 389) dL_law_332 rfl (fun z => absurd z (by decide)) (fun _ => ?_)
          refine r_iload (pc := 335) dL_law_335 rfl ?_
          refine r_sipush (pc := 337) (n := (-1013)) dL_law_337 rfl (by decide) ?_
          refine r_icmp_eq (pc := 340) (tgt := 385) dL_law_340 rfl (fun c340 => (by exfalso; omega)) (fun c340 => ?_)
          refine r_aload_n (pc := 343) dL_law_343 rfl ?_
          refine r_iconst (pc := 344) (n := 2) dL_law_344 (by decide) ?_
          refine r_iload (pc := 345) dL_law_345 rfl ?_
          refine r_iload (pc := 347) dL_law_347 rfl ?_
          refine r_iload (pc := 349) dL_law_349 rfl ?_
          refine r_iload (pc := 351) dL_law_351 rfl ?_
          refine d1_SX (pc := 353) (rest := []) (cs' := (cs + 120)) (sl' := (sl + 946)) ms_L_81 (by simp [I_L_ask]) d8 rfl ⟨(Nat.le_of_ble_eq_true rfl), (Nat.le_of_ble_eq_true rfl)⟩ (Nat.le_of_ble_eq_true rfl) dL_law_353 ⟨rfl, (by show _ ≤ 600104; omega)⟩ ⟨rfl, (by show _ ≤ 7301314; omega)⟩ rfl ?_
          refine r_if_ge (pc := 356) (tgt := 389) dL_law_356 rfl (fun c356 => (by exfalso; omega)) (fun c356 => ?_)
          refine r_aload_n (pc := 359) dL_law_359 rfl ?_
          refine r_iload (pc := 360) dL_law_360 rfl ?_
          refine r_iload (pc := 362) dL_law_362 rfl ?_
          refine d1_V (pc := 364) (t := 6) (i := 0) (rest := []) (cs' := (cs + 122)) (sl' := (sl + 958)) mv_L_66 (KL_place l9.1 (b := b) (d := dy) (by omega) (by omega) (by omega)) rfl ⟨(Nat.le_of_ble_eq_true rfl), (Nat.le_of_ble_eq_true rfl)⟩ (Nat.le_of_ble_eq_true rfl) dL_law_364 (show (0 : Int) ≤ 0 by omega) (show 0 < 1 by omega) ⟨rfl, (by show _ ≤ 600104; omega)⟩ ⟨rfl, (by show _ ≤ 7301314; omega)⟩ rfl ?_
          refine r_iload (pc := 367) dL_law_367 rfl ?_
          refine r_icmp_ne (pc := 369) (tgt := 389) dL_law_369 rfl (fun c369 => absurd rfl c369) (fun c369 => ?_)
          refine r_aload_n (pc := 372) dL_law_372 rfl ?_
          refine r_iload (pc := 373) dL_law_373 rfl ?_
          refine r_bipush (pc := 375) (n := 6) dL_law_375 rfl (by decide) ?_
          refine d1_V (pc := 377) (t := 6) (i := 0) (rest := []) (cs' := (cs + 124)) (sl' := (sl + 970)) mv_L_75 (KL_boxIs l9.1 (b := b) (w := 6) (v := h9 4 b 5) (by omega) (by omega) (by omega) is_6) rfl ⟨(Nat.le_of_ble_eq_true rfl), (Nat.le_of_ble_eq_true rfl)⟩ (Nat.le_of_ble_eq_true rfl) dL_law_377 (show (0 : Int) ≤ 0 by omega) (show 0 < 1 by omega) ⟨rfl, (by show _ ≤ 600104; omega)⟩ ⟨rfl, (by show _ ≤ 7301314; omega)⟩ rfl ?_
          refine r_iload (pc := 380) dL_law_380 rfl ?_
          refine r_icmp_ne (pc := 382) (tgt := 389) dL_law_382 rfl (fun c382 => absurd rfl c382) (fun c382 => ?_)
          refine r_iconst (pc := 385) (n := 1) dL_law_385 (by decide) ?_
          refine r_goto (pc := 386) (tgt := 390) dL_law_386 rfl ?_
          refine r_istore (pc := 390) (xs' := [some (aR 99 0), some (aR 6 0), some (aR 60 0), some (aI nb), some (aI nk), some (aI dy), some (aI lk), some (aI 1), some (aI tn), some (aI t), some (aI z), some (aI dd), some (aI b), some (aI p), some (aI dy), some (aI s264), some (aI told), some (aI (plcC h9 b dy)), some (aI (h9 4 b 5))]) dL_law_390 (Nat.le_of_ble_eq_true rfl) rfl ?_
          refine r_goto (pc := 392) (tgt := 1226) dL_law_392 rfl ?_
          refine r_drop (xs' := [some (aR 99 0), some (aR 6 0), some (aR 60 0), some (aI nb), some (aI nk), some (aI dy), some (aI lk), some (aI 1), some (aI tn), some (aI t), none, some (aI dd), some (aI b), some (aI p), some (aI dy), some (aI s264), some (aI told), some (aI (plcC h9 b dy)), some (aI (h9 4 b 5))]) 10 rfl ?_
          refine r_drop (xs' := [some (aR 99 0), some (aR 6 0), some (aR 60 0), some (aI nb), some (aI nk), some (aI dy), some (aI lk), some (aI 1), some (aI tn), some (aI t), none, none, some (aI b), some (aI p), some (aI dy), some (aI s264), some (aI told), some (aI (plcC h9 b dy)), some (aI (h9 4 b 5))]) 11 rfl ?_
          refine r_drop (xs' := [some (aR 99 0), some (aR 6 0), some (aR 60 0), some (aI nb), some (aI nk), some (aI dy), some (aI lk), some (aI 1), some (aI tn), some (aI t), none, none, none, some (aI p), some (aI dy), some (aI s264), some (aI told), some (aI (plcC h9 b dy)), some (aI (h9 4 b 5))]) 12 rfl ?_
          refine r_drop (xs' := [some (aR 99 0), some (aR 6 0), some (aR 60 0), some (aI nb), some (aI nk), some (aI dy), some (aI lk), some (aI 1), some (aI tn), some (aI t), none, none, none, none, some (aI dy), some (aI s264), some (aI told), some (aI (plcC h9 b dy)), some (aI (h9 4 b 5))]) 13 rfl ?_
          refine r_drop (xs' := [some (aR 99 0), some (aR 6 0), some (aR 60 0), some (aI nb), some (aI nk), some (aI dy), some (aI lk), some (aI 1), some (aI tn), some (aI t), none, none, none, none, none, some (aI s264), some (aI told), some (aI (plcC h9 b dy)), some (aI (h9 4 b 5))]) 14 rfl ?_
          refine r_drop (xs' := [some (aR 99 0), some (aR 6 0), some (aR 60 0), some (aI nb), some (aI nk), some (aI dy), some (aI lk), some (aI 1), some (aI tn), some (aI t), none, none, none, none, none, none, some (aI told), some (aI (plcC h9 b dy)), some (aI (h9 4 b 5))]) 15 rfl ?_
          refine r_drop (xs' := [some (aR 99 0), some (aR 6 0), some (aR 60 0), some (aI nb), some (aI nk), some (aI dy), some (aI lk), some (aI 1), some (aI tn), some (aI t), none, none, none, none, none, none, none, some (aI (plcC h9 b dy)), some (aI (h9 4 b 5))]) 16 rfl ?_
          refine r_drop (xs' := [some (aR 99 0), some (aR 6 0), some (aR 60 0), some (aI nb), some (aI nk), some (aI dy), some (aI lk), some (aI 1), some (aI tn), some (aI t), none, none, none, none, none, none, none, none, some (aI (h9 4 b 5))]) 17 rfl ?_
          refine r_drop (xs' := [some (aR 99 0), some (aR 6 0), some (aR 60 0), some (aI nb), some (aI nk), some (aI dy), some (aI lk), some (aI 1), some (aI tn), some (aI t), none, none, none, none, none, none, none, none, none]) 18 rfl ?_
          refine r_wide (cs' := cs + 300) (sl' := sl + 3000) (by omega) (by omega) ?_
          exact K _ _ _ _ l9 (by omega) (by omega) (by omega)
    · refine r_iload (pc := 248) dL_law_248 rfl ?_
      refine r_bipush (pc := 250) (n := 22) dL_law_250 rfl (by decide) ?_
      refine r_ishrX (pc := 252) dL_law_252 (fun s252 t252 u252 => ?_)
      replace u252 := u252 (by omega)
      refine r_iconst (pc := 253) (n := 4) dL_law_253 (by decide) ?_
      refine r_irem (pc := 254) dL_law_254 (by omega) (by omega) ?_
      refine r_goto (pc := 255) (tgt := 265) dL_law_255 rfl ?_
      refine r_istore (pc := 265) (xs' := [some (aR 99 0), some (aR 6 0), some (aR 60 0), some (aI nb), some (aI nk), some (aI dy), some (aI lk), some (aI 1), some (aI tn), some (aI t), some (aI z), some (aI dd), some (aI b), some (aI p), some (aI dy), some (aI (s252 % 4)), none, none, none]) dL_law_265 (Nat.le_of_ble_eq_true rfl) rfl ?_
      refine r_aload_n (pc := 267) dL_law_267 rfl ?_
      refine r_iconst (pc := 268) (n := 2) dL_law_268 (by decide) ?_
      refine r_iload (pc := 269) dL_law_269 rfl ?_
      refine r_iload (pc := 271) dL_law_271 rfl ?_
      refine r_iload (pc := 273) dL_law_273 rfl ?_
      refine r_iload (pc := 275) dL_law_275 rfl ?_
      obtain ⟨told, h9, d9, l9, c9⟩ := J_report LI (b := b) (d := dy) (e := s252 % 4) (p := p) hb.1 hb.2 (by omega) (by omega) (by omega)
      refine d1_SX (pc := 277) (rest := []) (cs' := (cs + 58)) (sl' := (sl + 461)) ms_L_81 (by simp [I_L_ask]) d9 rfl ⟨(Nat.le_of_ble_eq_true rfl), (Nat.le_of_ble_eq_true rfl)⟩ (Nat.le_of_ble_eq_true rfl) dL_law_277 ⟨rfl, (by show _ ≤ 600104; omega)⟩ ⟨rfl, (by show _ ≤ 7301314; omega)⟩ rfl ?_
      rcases c9 with rfl | ⟨c1, c2, t2, c3, d8⟩
      · refine r_istore (pc := 280) (xs' := [some (aR 99 0), some (aR 6 0), some (aR 60 0), some (aI nb), some (aI nk), some (aI dy), some (aI lk), some (aI 1), some (aI tn), some (aI t), some (aI z), some (aI dd), some (aI b), some (aI p), some (aI dy), some (aI (s252 % 4)), some (aI (-1013)), none, none]) dL_law_280 (Nat.le_of_ble_eq_true rfl) rfl ?_
        refine r_aload_n (pc := 282) dL_law_282 rfl ?_
        refine r_iload (pc := 283) dL_law_283 rfl ?_
        refine r_iload (pc := 285) dL_law_285 rfl ?_
        refine d1_V (pc := 287) (t := 6) (i := 0) (rest := []) (cs' := (cs + 60)) (sl' := (sl + 473)) mv_L_66 (KL_place l9.1 (b := b) (d := dy) (by omega) (by omega) (by omega)) rfl ⟨(Nat.le_of_ble_eq_true rfl), (Nat.le_of_ble_eq_true rfl)⟩ (Nat.le_of_ble_eq_true rfl) dL_law_287 (show (0 : Int) ≤ 0 by omega) (show 0 < 1 by omega) ⟨rfl, (by show _ ≤ 600104; omega)⟩ ⟨rfl, (by show _ ≤ 7301314; omega)⟩ rfl ?_
        refine r_istore (pc := 290) (xs' := [some (aR 99 0), some (aR 6 0), some (aR 60 0), some (aI nb), some (aI nk), some (aI dy), some (aI lk), some (aI 1), some (aI tn), some (aI t), some (aI z), some (aI dd), some (aI b), some (aI p), some (aI dy), some (aI (s252 % 4)), some (aI (-1013)), some (aI (plcC h9 b dy)), none]) dL_law_290 (Nat.le_of_ble_eq_true rfl) rfl ?_
        refine r_aload_n (pc := 292) dL_law_292 rfl ?_
        refine r_iload (pc := 293) dL_law_293 rfl ?_
        refine r_bipush (pc := 295) (n := 6) dL_law_295 rfl (by decide) ?_
        refine d1_V (pc := 297) (t := 6) (i := 0) (rest := []) (cs' := (cs + 62)) (sl' := (sl + 485)) mv_L_75 (KL_boxIs l9.1 (b := b) (w := 6) (v := h9 4 b 5) (by omega) (by omega) (by omega) is_6) rfl ⟨(Nat.le_of_ble_eq_true rfl), (Nat.le_of_ble_eq_true rfl)⟩ (Nat.le_of_ble_eq_true rfl) dL_law_297 (show (0 : Int) ≤ 0 by omega) (show 0 < 1 by omega) ⟨rfl, (by show _ ≤ 600104; omega)⟩ ⟨rfl, (by show _ ≤ 7301314; omega)⟩ rfl ?_
        refine r_istore (pc := 300) (xs' := [some (aR 99 0), some (aR 6 0), some (aR 60 0), some (aI nb), some (aI nk), some (aI dy), some (aI lk), some (aI 1), some (aI tn), some (aI t), some (aI z), some (aI dd), some (aI b), some (aI p), some (aI dy), some (aI (s252 % 4)), some (aI (-1013)), some (aI (plcC h9 b dy)), some (aI (h9 4 b 5))]) dL_law_300 (Nat.le_of_ble_eq_true rfl) rfl ?_
        refine r_iload (pc := 302) dL_law_302 rfl ?_
        refine r_sipush (pc := 304) (n := (-1013)) dL_law_304 rfl (by decide) ?_
        refine r_icmp_eq (pc := 307) (tgt := 323) dL_law_307 rfl (fun _ => ?_) (fun z => absurd z (by decide))
        refine r_iconst (pc := 323) (n := 1) dL_law_323 (by decide) ?_
        refine r_goto (pc := 324) (tgt := 328) dL_law_324 rfl ?_
        refine r_istore (pc := 328) (xs' := [some (aR 99 0), some (aR 6 0), some (aR 60 0), some (aI nb), some (aI nk), some (aI dy), some (aI lk), some (aI 1), some (aI tn), some (aI t), some (aI z), some (aI dd), some (aI b), some (aI p), some (aI dy), some (aI (s252 % 4)), some (aI (-1013)), some (aI (plcC h9 b dy)), some (aI (h9 4 b 5))]) dL_law_328 (Nat.le_of_ble_eq_true rfl) rfl ?_
        refine r_iload (pc := 330) dL_law_330 rfl ?_
        refine r_if_eq (pc := 332) (tgt := 389) dL_law_332 rfl (fun z => absurd z (by decide)) (fun _ => ?_)
        refine r_iload (pc := 335) dL_law_335 rfl ?_
        refine r_sipush (pc := 337) (n := (-1013)) dL_law_337 rfl (by decide) ?_
        refine r_icmp_eq (pc := 340) (tgt := 385) dL_law_340 rfl (fun _ => ?_) (fun z => absurd z (by decide))
        refine r_iconst (pc := 385) (n := 1) dL_law_385 (by decide) ?_
        refine r_goto (pc := 386) (tgt := 390) dL_law_386 rfl ?_
        refine r_istore (pc := 390) (xs' := [some (aR 99 0), some (aR 6 0), some (aR 60 0), some (aI nb), some (aI nk), some (aI dy), some (aI lk), some (aI 1), some (aI tn), some (aI t), some (aI z), some (aI dd), some (aI b), some (aI p), some (aI dy), some (aI (s252 % 4)), some (aI (-1013)), some (aI (plcC h9 b dy)), some (aI (h9 4 b 5))]) dL_law_390 (Nat.le_of_ble_eq_true rfl) rfl ?_
        refine r_goto (pc := 392) (tgt := 1226) dL_law_392 rfl ?_
        refine r_drop (xs' := [some (aR 99 0), some (aR 6 0), some (aR 60 0), some (aI nb), some (aI nk), some (aI dy), some (aI lk), some (aI 1), some (aI tn), some (aI t), none, some (aI dd), some (aI b), some (aI p), some (aI dy), some (aI (s252 % 4)), some (aI (-1013)), some (aI (plcC h9 b dy)), some (aI (h9 4 b 5))]) 10 rfl ?_
        refine r_drop (xs' := [some (aR 99 0), some (aR 6 0), some (aR 60 0), some (aI nb), some (aI nk), some (aI dy), some (aI lk), some (aI 1), some (aI tn), some (aI t), none, none, some (aI b), some (aI p), some (aI dy), some (aI (s252 % 4)), some (aI (-1013)), some (aI (plcC h9 b dy)), some (aI (h9 4 b 5))]) 11 rfl ?_
        refine r_drop (xs' := [some (aR 99 0), some (aR 6 0), some (aR 60 0), some (aI nb), some (aI nk), some (aI dy), some (aI lk), some (aI 1), some (aI tn), some (aI t), none, none, none, some (aI p), some (aI dy), some (aI (s252 % 4)), some (aI (-1013)), some (aI (plcC h9 b dy)), some (aI (h9 4 b 5))]) 12 rfl ?_
        refine r_drop (xs' := [some (aR 99 0), some (aR 6 0), some (aR 60 0), some (aI nb), some (aI nk), some (aI dy), some (aI lk), some (aI 1), some (aI tn), some (aI t), none, none, none, none, some (aI dy), some (aI (s252 % 4)), some (aI (-1013)), some (aI (plcC h9 b dy)), some (aI (h9 4 b 5))]) 13 rfl ?_
        refine r_drop (xs' := [some (aR 99 0), some (aR 6 0), some (aR 60 0), some (aI nb), some (aI nk), some (aI dy), some (aI lk), some (aI 1), some (aI tn), some (aI t), none, none, none, none, none, some (aI (s252 % 4)), some (aI (-1013)), some (aI (plcC h9 b dy)), some (aI (h9 4 b 5))]) 14 rfl ?_
        refine r_drop (xs' := [some (aR 99 0), some (aR 6 0), some (aR 60 0), some (aI nb), some (aI nk), some (aI dy), some (aI lk), some (aI 1), some (aI tn), some (aI t), none, none, none, none, none, none, some (aI (-1013)), some (aI (plcC h9 b dy)), some (aI (h9 4 b 5))]) 15 rfl ?_
        refine r_drop (xs' := [some (aR 99 0), some (aR 6 0), some (aR 60 0), some (aI nb), some (aI nk), some (aI dy), some (aI lk), some (aI 1), some (aI tn), some (aI t), none, none, none, none, none, none, none, some (aI (plcC h9 b dy)), some (aI (h9 4 b 5))]) 16 rfl ?_
        refine r_drop (xs' := [some (aR 99 0), some (aR 6 0), some (aR 60 0), some (aI nb), some (aI nk), some (aI dy), some (aI lk), some (aI 1), some (aI tn), some (aI t), none, none, none, none, none, none, none, none, some (aI (h9 4 b 5))]) 17 rfl ?_
        refine r_drop (xs' := [some (aR 99 0), some (aR 6 0), some (aR 60 0), some (aI nb), some (aI nk), some (aI dy), some (aI lk), some (aI 1), some (aI tn), some (aI t), none, none, none, none, none, none, none, none, none]) 18 rfl ?_
        refine r_wide (cs' := cs + 300) (sl' := sl + 3000) (by omega) (by omega) ?_
        exact K _ _ _ _ l9 (by omega) (by omega) (by omega)
      · refine r_istore (pc := 280) (xs' := [some (aR 99 0), some (aR 6 0), some (aR 60 0), some (aI nb), some (aI nk), some (aI dy), some (aI lk), some (aI 1), some (aI tn), some (aI t), some (aI z), some (aI dd), some (aI b), some (aI p), some (aI dy), some (aI (s252 % 4)), some (aI told), none, none]) dL_law_280 (Nat.le_of_ble_eq_true rfl) rfl ?_
        refine r_aload_n (pc := 282) dL_law_282 rfl ?_
        refine r_iload (pc := 283) dL_law_283 rfl ?_
        refine r_iload (pc := 285) dL_law_285 rfl ?_
        refine d1_V (pc := 287) (t := 6) (i := 0) (rest := []) (cs' := (cs + 60)) (sl' := (sl + 473)) mv_L_66 (KL_place l9.1 (b := b) (d := dy) (by omega) (by omega) (by omega)) rfl ⟨(Nat.le_of_ble_eq_true rfl), (Nat.le_of_ble_eq_true rfl)⟩ (Nat.le_of_ble_eq_true rfl) dL_law_287 (show (0 : Int) ≤ 0 by omega) (show 0 < 1 by omega) ⟨rfl, (by show _ ≤ 600104; omega)⟩ ⟨rfl, (by show _ ≤ 7301314; omega)⟩ rfl ?_
        refine r_istore (pc := 290) (xs' := [some (aR 99 0), some (aR 6 0), some (aR 60 0), some (aI nb), some (aI nk), some (aI dy), some (aI lk), some (aI 1), some (aI tn), some (aI t), some (aI z), some (aI dd), some (aI b), some (aI p), some (aI dy), some (aI (s252 % 4)), some (aI told), some (aI (plcC h9 b dy)), none]) dL_law_290 (Nat.le_of_ble_eq_true rfl) rfl ?_
        refine r_aload_n (pc := 292) dL_law_292 rfl ?_
        refine r_iload (pc := 293) dL_law_293 rfl ?_
        refine r_bipush (pc := 295) (n := 6) dL_law_295 rfl (by decide) ?_
        refine d1_V (pc := 297) (t := 6) (i := 0) (rest := []) (cs' := (cs + 62)) (sl' := (sl + 485)) mv_L_75 (KL_boxIs l9.1 (b := b) (w := 6) (v := h9 4 b 5) (by omega) (by omega) (by omega) is_6) rfl ⟨(Nat.le_of_ble_eq_true rfl), (Nat.le_of_ble_eq_true rfl)⟩ (Nat.le_of_ble_eq_true rfl) dL_law_297 (show (0 : Int) ≤ 0 by omega) (show 0 < 1 by omega) ⟨rfl, (by show _ ≤ 600104; omega)⟩ ⟨rfl, (by show _ ≤ 7301314; omega)⟩ rfl ?_
        refine r_istore (pc := 300) (xs' := [some (aR 99 0), some (aR 6 0), some (aR 60 0), some (aI nb), some (aI nk), some (aI dy), some (aI lk), some (aI 1), some (aI tn), some (aI t), some (aI z), some (aI dd), some (aI b), some (aI p), some (aI dy), some (aI (s252 % 4)), some (aI told), some (aI (plcC h9 b dy)), some (aI (h9 4 b 5))]) dL_law_300 (Nat.le_of_ble_eq_true rfl) rfl ?_
        refine r_iload (pc := 302) dL_law_302 rfl ?_
        refine r_sipush (pc := 304) (n := (-1013)) dL_law_304 rfl (by decide) ?_
        refine r_icmp_eq (pc := 307) (tgt := 323) dL_law_307 rfl (fun c307 => (by exfalso; omega)) (fun c307 => ?_)
        refine r_iload (pc := 310) dL_law_310 rfl ?_
        refine r_iconst (pc := 312) (n := (-1)) dL_law_312 (by decide) ?_
        refine r_icmp_eq (pc := 313) (tgt := 323) dL_law_313 rfl (fun c313 => ?_) (fun c313 => ?_)
        · refine r_iconst (pc := 323) (n := 1) dL_law_323 (by decide) ?_
          refine r_goto (pc := 324) (tgt := 328) dL_law_324 rfl ?_
          refine r_istore (pc := 328) (xs' := [some (aR 99 0), some (aR 6 0), some (aR 60 0), some (aI nb), some (aI nk), some (aI dy), some (aI lk), some (aI 1), some (aI tn), some (aI t), some (aI z), some (aI dd), some (aI b), some (aI p), some (aI dy), some (aI (s252 % 4)), some (aI told), some (aI (plcC h9 b dy)), some (aI (h9 4 b 5))]) dL_law_328 (Nat.le_of_ble_eq_true rfl) rfl ?_
          refine r_iload (pc := 330) dL_law_330 rfl ?_
          refine r_if_eq (pc := 332) (tgt := 389) dL_law_332 rfl (fun z => absurd z (by decide)) (fun _ => ?_)
          refine r_iload (pc := 335) dL_law_335 rfl ?_
          refine r_sipush (pc := 337) (n := (-1013)) dL_law_337 rfl (by decide) ?_
          refine r_icmp_eq (pc := 340) (tgt := 385) dL_law_340 rfl (fun c340 => (by exfalso; omega)) (fun c340 => ?_)
          refine r_aload_n (pc := 343) dL_law_343 rfl ?_
          refine r_iconst (pc := 344) (n := 2) dL_law_344 (by decide) ?_
          refine r_iload (pc := 345) dL_law_345 rfl ?_
          refine r_iload (pc := 347) dL_law_347 rfl ?_
          refine r_iload (pc := 349) dL_law_349 rfl ?_
          refine r_iload (pc := 351) dL_law_351 rfl ?_
          refine d1_SX (pc := 353) (rest := []) (cs' := (cs + 120)) (sl' := (sl + 946)) ms_L_81 (by simp [I_L_ask]) d8 rfl ⟨(Nat.le_of_ble_eq_true rfl), (Nat.le_of_ble_eq_true rfl)⟩ (Nat.le_of_ble_eq_true rfl) dL_law_353 ⟨rfl, (by show _ ≤ 600104; omega)⟩ ⟨rfl, (by show _ ≤ 7301314; omega)⟩ rfl ?_
          refine r_if_ge (pc := 356) (tgt := 389) dL_law_356 rfl (fun c356 => (by exfalso; omega)) (fun c356 => ?_)
          refine r_aload_n (pc := 359) dL_law_359 rfl ?_
          refine r_iload (pc := 360) dL_law_360 rfl ?_
          refine r_iload (pc := 362) dL_law_362 rfl ?_
          refine d1_V (pc := 364) (t := 6) (i := 0) (rest := []) (cs' := (cs + 122)) (sl' := (sl + 958)) mv_L_66 (KL_place l9.1 (b := b) (d := dy) (by omega) (by omega) (by omega)) rfl ⟨(Nat.le_of_ble_eq_true rfl), (Nat.le_of_ble_eq_true rfl)⟩ (Nat.le_of_ble_eq_true rfl) dL_law_364 (show (0 : Int) ≤ 0 by omega) (show 0 < 1 by omega) ⟨rfl, (by show _ ≤ 600104; omega)⟩ ⟨rfl, (by show _ ≤ 7301314; omega)⟩ rfl ?_
          refine r_iload (pc := 367) dL_law_367 rfl ?_
          refine r_icmp_ne (pc := 369) (tgt := 389) dL_law_369 rfl (fun c369 => absurd rfl c369) (fun c369 => ?_)
          refine r_aload_n (pc := 372) dL_law_372 rfl ?_
          refine r_iload (pc := 373) dL_law_373 rfl ?_
          refine r_bipush (pc := 375) (n := 6) dL_law_375 rfl (by decide) ?_
          refine d1_V (pc := 377) (t := 6) (i := 0) (rest := []) (cs' := (cs + 124)) (sl' := (sl + 970)) mv_L_75 (KL_boxIs l9.1 (b := b) (w := 6) (v := h9 4 b 5) (by omega) (by omega) (by omega) is_6) rfl ⟨(Nat.le_of_ble_eq_true rfl), (Nat.le_of_ble_eq_true rfl)⟩ (Nat.le_of_ble_eq_true rfl) dL_law_377 (show (0 : Int) ≤ 0 by omega) (show 0 < 1 by omega) ⟨rfl, (by show _ ≤ 600104; omega)⟩ ⟨rfl, (by show _ ≤ 7301314; omega)⟩ rfl ?_
          refine r_iload (pc := 380) dL_law_380 rfl ?_
          refine r_icmp_ne (pc := 382) (tgt := 389) dL_law_382 rfl (fun c382 => absurd rfl c382) (fun c382 => ?_)
          refine r_iconst (pc := 385) (n := 1) dL_law_385 (by decide) ?_
          refine r_goto (pc := 386) (tgt := 390) dL_law_386 rfl ?_
          refine r_istore (pc := 390) (xs' := [some (aR 99 0), some (aR 6 0), some (aR 60 0), some (aI nb), some (aI nk), some (aI dy), some (aI lk), some (aI 1), some (aI tn), some (aI t), some (aI z), some (aI dd), some (aI b), some (aI p), some (aI dy), some (aI (s252 % 4)), some (aI told), some (aI (plcC h9 b dy)), some (aI (h9 4 b 5))]) dL_law_390 (Nat.le_of_ble_eq_true rfl) rfl ?_
          refine r_goto (pc := 392) (tgt := 1226) dL_law_392 rfl ?_
          refine r_drop (xs' := [some (aR 99 0), some (aR 6 0), some (aR 60 0), some (aI nb), some (aI nk), some (aI dy), some (aI lk), some (aI 1), some (aI tn), some (aI t), none, some (aI dd), some (aI b), some (aI p), some (aI dy), some (aI (s252 % 4)), some (aI told), some (aI (plcC h9 b dy)), some (aI (h9 4 b 5))]) 10 rfl ?_
          refine r_drop (xs' := [some (aR 99 0), some (aR 6 0), some (aR 60 0), some (aI nb), some (aI nk), some (aI dy), some (aI lk), some (aI 1), some (aI tn), some (aI t), none, none, some (aI b), some (aI p), some (aI dy), some (aI (s252 % 4)), some (aI told), some (aI (plcC h9 b dy)), some (aI (h9 4 b 5))]) 11 rfl ?_
          refine r_drop (xs' := [some (aR 99 0), some (aR 6 0), some (aR 60 0), some (aI nb), some (aI nk), some (aI dy), some (aI lk), some (aI 1), some (aI tn), some (aI t), none, none, none, some (aI p), some (aI dy), some (aI (s252 % 4)), some (aI told), some (aI (plcC h9 b dy)), some (aI (h9 4 b 5))]) 12 rfl ?_
          refine r_drop (xs' := [some (aR 99 0), some (aR 6 0), some (aR 60 0), some (aI nb), some (aI nk), some (aI dy), some (aI lk), some (aI 1), some (aI tn), some (aI t), none, none, none, none, some (aI dy), some (aI (s252 % 4)), some (aI told), some (aI (plcC h9 b dy)), some (aI (h9 4 b 5))]) 13 rfl ?_
          refine r_drop (xs' := [some (aR 99 0), some (aR 6 0), some (aR 60 0), some (aI nb), some (aI nk), some (aI dy), some (aI lk), some (aI 1), some (aI tn), some (aI t), none, none, none, none, none, some (aI (s252 % 4)), some (aI told), some (aI (plcC h9 b dy)), some (aI (h9 4 b 5))]) 14 rfl ?_
          refine r_drop (xs' := [some (aR 99 0), some (aR 6 0), some (aR 60 0), some (aI nb), some (aI nk), some (aI dy), some (aI lk), some (aI 1), some (aI tn), some (aI t), none, none, none, none, none, none, some (aI told), some (aI (plcC h9 b dy)), some (aI (h9 4 b 5))]) 15 rfl ?_
          refine r_drop (xs' := [some (aR 99 0), some (aR 6 0), some (aR 60 0), some (aI nb), some (aI nk), some (aI dy), some (aI lk), some (aI 1), some (aI tn), some (aI t), none, none, none, none, none, none, none, some (aI (plcC h9 b dy)), some (aI (h9 4 b 5))]) 16 rfl ?_
          refine r_drop (xs' := [some (aR 99 0), some (aR 6 0), some (aR 60 0), some (aI nb), some (aI nk), some (aI dy), some (aI lk), some (aI 1), some (aI tn), some (aI t), none, none, none, none, none, none, none, none, some (aI (h9 4 b 5))]) 17 rfl ?_
          refine r_drop (xs' := [some (aR 99 0), some (aR 6 0), some (aR 60 0), some (aI nb), some (aI nk), some (aI dy), some (aI lk), some (aI 1), some (aI tn), some (aI t), none, none, none, none, none, none, none, none, none]) 18 rfl ?_
          refine r_wide (cs' := cs + 300) (sl' := sl + 3000) (by omega) (by omega) ?_
          exact K _ _ _ _ l9 (by omega) (by omega) (by omega)
        · refine r_iload (pc := 316) dL_law_316 rfl ?_
          refine r_iload (pc := 318) dL_law_318 rfl ?_
          refine r_icmp_ne (pc := 320) (tgt := 327) dL_law_320 rfl (fun c320 => (by exfalso; omega)) (fun c320 => ?_)
          refine r_iconst (pc := 323) (n := 1) dL_law_323 (by decide) ?_
          refine r_goto (pc := 324) (tgt := 328) dL_law_324 rfl ?_
          refine r_istore (pc := 328) (xs' := [some (aR 99 0), some (aR 6 0), some (aR 60 0), some (aI nb), some (aI nk), some (aI dy), some (aI lk), some (aI 1), some (aI tn), some (aI t), some (aI z), some (aI dd), some (aI b), some (aI p), some (aI dy), some (aI (s252 % 4)), some (aI told), some (aI (plcC h9 b dy)), some (aI (h9 4 b 5))]) dL_law_328 (Nat.le_of_ble_eq_true rfl) rfl ?_
          refine r_iload (pc := 330) dL_law_330 rfl ?_
          refine r_if_eq (pc := 332) (tgt := 389) dL_law_332 rfl (fun z => absurd z (by decide)) (fun _ => ?_)
          refine r_iload (pc := 335) dL_law_335 rfl ?_
          refine r_sipush (pc := 337) (n := (-1013)) dL_law_337 rfl (by decide) ?_
          refine r_icmp_eq (pc := 340) (tgt := 385) dL_law_340 rfl (fun c340 => (by exfalso; omega)) (fun c340 => ?_)
          refine r_aload_n (pc := 343) dL_law_343 rfl ?_
          refine r_iconst (pc := 344) (n := 2) dL_law_344 (by decide) ?_
          refine r_iload (pc := 345) dL_law_345 rfl ?_
          refine r_iload (pc := 347) dL_law_347 rfl ?_
          refine r_iload (pc := 349) dL_law_349 rfl ?_
          refine r_iload (pc := 351) dL_law_351 rfl ?_
          refine d1_SX (pc := 353) (rest := []) (cs' := (cs + 120)) (sl' := (sl + 946)) ms_L_81 (by simp [I_L_ask]) d8 rfl ⟨(Nat.le_of_ble_eq_true rfl), (Nat.le_of_ble_eq_true rfl)⟩ (Nat.le_of_ble_eq_true rfl) dL_law_353 ⟨rfl, (by show _ ≤ 600104; omega)⟩ ⟨rfl, (by show _ ≤ 7301314; omega)⟩ rfl ?_
          refine r_if_ge (pc := 356) (tgt := 389) dL_law_356 rfl (fun c356 => (by exfalso; omega)) (fun c356 => ?_)
          refine r_aload_n (pc := 359) dL_law_359 rfl ?_
          refine r_iload (pc := 360) dL_law_360 rfl ?_
          refine r_iload (pc := 362) dL_law_362 rfl ?_
          refine d1_V (pc := 364) (t := 6) (i := 0) (rest := []) (cs' := (cs + 122)) (sl' := (sl + 958)) mv_L_66 (KL_place l9.1 (b := b) (d := dy) (by omega) (by omega) (by omega)) rfl ⟨(Nat.le_of_ble_eq_true rfl), (Nat.le_of_ble_eq_true rfl)⟩ (Nat.le_of_ble_eq_true rfl) dL_law_364 (show (0 : Int) ≤ 0 by omega) (show 0 < 1 by omega) ⟨rfl, (by show _ ≤ 600104; omega)⟩ ⟨rfl, (by show _ ≤ 7301314; omega)⟩ rfl ?_
          refine r_iload (pc := 367) dL_law_367 rfl ?_
          refine r_icmp_ne (pc := 369) (tgt := 389) dL_law_369 rfl (fun c369 => absurd rfl c369) (fun c369 => ?_)
          refine r_aload_n (pc := 372) dL_law_372 rfl ?_
          refine r_iload (pc := 373) dL_law_373 rfl ?_
          refine r_bipush (pc := 375) (n := 6) dL_law_375 rfl (by decide) ?_
          refine d1_V (pc := 377) (t := 6) (i := 0) (rest := []) (cs' := (cs + 124)) (sl' := (sl + 970)) mv_L_75 (KL_boxIs l9.1 (b := b) (w := 6) (v := h9 4 b 5) (by omega) (by omega) (by omega) is_6) rfl ⟨(Nat.le_of_ble_eq_true rfl), (Nat.le_of_ble_eq_true rfl)⟩ (Nat.le_of_ble_eq_true rfl) dL_law_377 (show (0 : Int) ≤ 0 by omega) (show 0 < 1 by omega) ⟨rfl, (by show _ ≤ 600104; omega)⟩ ⟨rfl, (by show _ ≤ 7301314; omega)⟩ rfl ?_
          refine r_iload (pc := 380) dL_law_380 rfl ?_
          refine r_icmp_ne (pc := 382) (tgt := 389) dL_law_382 rfl (fun c382 => absurd rfl c382) (fun c382 => ?_)
          refine r_iconst (pc := 385) (n := 1) dL_law_385 (by decide) ?_
          refine r_goto (pc := 386) (tgt := 390) dL_law_386 rfl ?_
          refine r_istore (pc := 390) (xs' := [some (aR 99 0), some (aR 6 0), some (aR 60 0), some (aI nb), some (aI nk), some (aI dy), some (aI lk), some (aI 1), some (aI tn), some (aI t), some (aI z), some (aI dd), some (aI b), some (aI p), some (aI dy), some (aI (s252 % 4)), some (aI told), some (aI (plcC h9 b dy)), some (aI (h9 4 b 5))]) dL_law_390 (Nat.le_of_ble_eq_true rfl) rfl ?_
          refine r_goto (pc := 392) (tgt := 1226) dL_law_392 rfl ?_
          refine r_drop (xs' := [some (aR 99 0), some (aR 6 0), some (aR 60 0), some (aI nb), some (aI nk), some (aI dy), some (aI lk), some (aI 1), some (aI tn), some (aI t), none, some (aI dd), some (aI b), some (aI p), some (aI dy), some (aI (s252 % 4)), some (aI told), some (aI (plcC h9 b dy)), some (aI (h9 4 b 5))]) 10 rfl ?_
          refine r_drop (xs' := [some (aR 99 0), some (aR 6 0), some (aR 60 0), some (aI nb), some (aI nk), some (aI dy), some (aI lk), some (aI 1), some (aI tn), some (aI t), none, none, some (aI b), some (aI p), some (aI dy), some (aI (s252 % 4)), some (aI told), some (aI (plcC h9 b dy)), some (aI (h9 4 b 5))]) 11 rfl ?_
          refine r_drop (xs' := [some (aR 99 0), some (aR 6 0), some (aR 60 0), some (aI nb), some (aI nk), some (aI dy), some (aI lk), some (aI 1), some (aI tn), some (aI t), none, none, none, some (aI p), some (aI dy), some (aI (s252 % 4)), some (aI told), some (aI (plcC h9 b dy)), some (aI (h9 4 b 5))]) 12 rfl ?_
          refine r_drop (xs' := [some (aR 99 0), some (aR 6 0), some (aR 60 0), some (aI nb), some (aI nk), some (aI dy), some (aI lk), some (aI 1), some (aI tn), some (aI t), none, none, none, none, some (aI dy), some (aI (s252 % 4)), some (aI told), some (aI (plcC h9 b dy)), some (aI (h9 4 b 5))]) 13 rfl ?_
          refine r_drop (xs' := [some (aR 99 0), some (aR 6 0), some (aR 60 0), some (aI nb), some (aI nk), some (aI dy), some (aI lk), some (aI 1), some (aI tn), some (aI t), none, none, none, none, none, some (aI (s252 % 4)), some (aI told), some (aI (plcC h9 b dy)), some (aI (h9 4 b 5))]) 14 rfl ?_
          refine r_drop (xs' := [some (aR 99 0), some (aR 6 0), some (aR 60 0), some (aI nb), some (aI nk), some (aI dy), some (aI lk), some (aI 1), some (aI tn), some (aI t), none, none, none, none, none, none, some (aI told), some (aI (plcC h9 b dy)), some (aI (h9 4 b 5))]) 15 rfl ?_
          refine r_drop (xs' := [some (aR 99 0), some (aR 6 0), some (aR 60 0), some (aI nb), some (aI nk), some (aI dy), some (aI lk), some (aI 1), some (aI tn), some (aI t), none, none, none, none, none, none, none, some (aI (plcC h9 b dy)), some (aI (h9 4 b 5))]) 16 rfl ?_
          refine r_drop (xs' := [some (aR 99 0), some (aR 6 0), some (aR 60 0), some (aI nb), some (aI nk), some (aI dy), some (aI lk), some (aI 1), some (aI tn), some (aI t), none, none, none, none, none, none, none, none, some (aI (h9 4 b 5))]) 17 rfl ?_
          refine r_drop (xs' := [some (aR 99 0), some (aR 6 0), some (aR 60 0), some (aI nb), some (aI nk), some (aI dy), some (aI lk), some (aI 1), some (aI tn), some (aI t), none, none, none, none, none, none, none, none, none]) 18 rfl ?_
          refine r_wide (cs' := cs + 300) (sl' := sl + 3000) (by omega) (by omega) ?_
          exact K _ _ _ _ l9 (by omega) (by omega) (by omega)
  · refine r_iload (pc := 221) dL_law_221 rfl ?_
    refine r_bipush (pc := 223) (n := 11) dL_law_223 rfl (by decide) ?_
    refine r_ishrX (pc := 225) dL_law_225 (fun s225 t225 u225 => ?_)
    replace u225 := u225 (by omega)
    refine r_iload (pc := 226) dL_law_226 rfl ?_
    refine r_iconst (pc := 228) (n := 1) dL_law_228 (by decide) ?_
    refine r_iadd (pc := 229) dL_law_229 (by omega) ?_
    have m230 := Int.emod_nonneg (s225) (show (dy + 1) ≠ 0 by omega)
    have n230 := Int.emod_lt_of_pos (s225) (show 0 < (dy + 1) by omega)
    refine r_irem (pc := 230) dL_law_230 (by omega) (by omega) ?_
    refine r_goto (pc := 231) (tgt := 236) dL_law_231 rfl ?_
    refine r_istore (pc := 236) (xs' := [some (aR 99 0), some (aR 6 0), some (aR 60 0), some (aI nb), some (aI nk), some (aI dy), some (aI lk), some (aI 1), some (aI tn), some (aI t), some (aI z), some (aI dd), some (aI b), some (aI p), some (aI (s225 % (dy + 1))), none, none, none, none]) dL_law_236 (Nat.le_of_ble_eq_true rfl) rfl ?_
    refine r_iload (pc := 238) dL_law_238 rfl ?_
    refine r_bipush (pc := 240) (n := 20) dL_law_240 rfl (by decide) ?_
    refine r_ishrX (pc := 242) dL_law_242 (fun s242 t242 u242 => ?_)
    replace u242 := u242 (by omega)
    refine r_iconst (pc := 243) (n := 3) dL_law_243 (by decide) ?_
    refine r_iandX (pc := 244) dL_law_244 (by decide) (fun s244 t244 u244 => ?_)
    refine r_if_ne (pc := 245) (tgt := 258) dL_law_245 rfl (fun c245 => ?_) (fun c245 => ?_)
    · refine r_iload (pc := 258) dL_law_258 rfl ?_
      refine r_bipush (pc := 260) (n := 21) dL_law_260 rfl (by decide) ?_
      refine r_ishrX (pc := 262) dL_law_262 (fun s262 t262 u262 => ?_)
      replace u262 := u262 (by omega)
      refine r_iconst (pc := 263) (n := 1) dL_law_263 (by decide) ?_
      refine r_iandX (pc := 264) dL_law_264 (by decide) (fun s264 t264 u264 => ?_)
      refine r_istore (pc := 265) (xs' := [some (aR 99 0), some (aR 6 0), some (aR 60 0), some (aI nb), some (aI nk), some (aI dy), some (aI lk), some (aI 1), some (aI tn), some (aI t), some (aI z), some (aI dd), some (aI b), some (aI p), some (aI (s225 % (dy + 1))), some (aI s264), none, none, none]) dL_law_265 (Nat.le_of_ble_eq_true rfl) rfl ?_
      refine r_aload_n (pc := 267) dL_law_267 rfl ?_
      refine r_iconst (pc := 268) (n := 2) dL_law_268 (by decide) ?_
      refine r_iload (pc := 269) dL_law_269 rfl ?_
      refine r_iload (pc := 271) dL_law_271 rfl ?_
      refine r_iload (pc := 273) dL_law_273 rfl ?_
      refine r_iload (pc := 275) dL_law_275 rfl ?_
      obtain ⟨told, h9, d9, l9, c9⟩ := J_report LI (b := b) (d := s225 % (dy + 1)) (e := s264) (p := p) hb.1 hb.2 (by omega) (by omega) (by omega)
      refine d1_SX (pc := 277) (rest := []) (cs' := (cs + 58)) (sl' := (sl + 461)) ms_L_81 (by simp [I_L_ask]) d9 rfl ⟨(Nat.le_of_ble_eq_true rfl), (Nat.le_of_ble_eq_true rfl)⟩ (Nat.le_of_ble_eq_true rfl) dL_law_277 ⟨rfl, (by show _ ≤ 600104; omega)⟩ ⟨rfl, (by show _ ≤ 7301314; omega)⟩ rfl ?_
      rcases c9 with rfl | ⟨c1, c2, t2, c3, d8⟩
      · refine r_istore (pc := 280) (xs' := [some (aR 99 0), some (aR 6 0), some (aR 60 0), some (aI nb), some (aI nk), some (aI dy), some (aI lk), some (aI 1), some (aI tn), some (aI t), some (aI z), some (aI dd), some (aI b), some (aI p), some (aI (s225 % (dy + 1))), some (aI s264), some (aI (-1013)), none, none]) dL_law_280 (Nat.le_of_ble_eq_true rfl) rfl ?_
        refine r_aload_n (pc := 282) dL_law_282 rfl ?_
        refine r_iload (pc := 283) dL_law_283 rfl ?_
        refine r_iload (pc := 285) dL_law_285 rfl ?_
        refine d1_V (pc := 287) (t := 6) (i := 0) (rest := []) (cs' := (cs + 60)) (sl' := (sl + 473)) mv_L_66 (KL_place l9.1 (b := b) (d := dy) (by omega) (by omega) (by omega)) rfl ⟨(Nat.le_of_ble_eq_true rfl), (Nat.le_of_ble_eq_true rfl)⟩ (Nat.le_of_ble_eq_true rfl) dL_law_287 (show (0 : Int) ≤ 0 by omega) (show 0 < 1 by omega) ⟨rfl, (by show _ ≤ 600104; omega)⟩ ⟨rfl, (by show _ ≤ 7301314; omega)⟩ rfl ?_
        refine r_istore (pc := 290) (xs' := [some (aR 99 0), some (aR 6 0), some (aR 60 0), some (aI nb), some (aI nk), some (aI dy), some (aI lk), some (aI 1), some (aI tn), some (aI t), some (aI z), some (aI dd), some (aI b), some (aI p), some (aI (s225 % (dy + 1))), some (aI s264), some (aI (-1013)), some (aI (plcC h9 b dy)), none]) dL_law_290 (Nat.le_of_ble_eq_true rfl) rfl ?_
        refine r_aload_n (pc := 292) dL_law_292 rfl ?_
        refine r_iload (pc := 293) dL_law_293 rfl ?_
        refine r_bipush (pc := 295) (n := 6) dL_law_295 rfl (by decide) ?_
        refine d1_V (pc := 297) (t := 6) (i := 0) (rest := []) (cs' := (cs + 62)) (sl' := (sl + 485)) mv_L_75 (KL_boxIs l9.1 (b := b) (w := 6) (v := h9 4 b 5) (by omega) (by omega) (by omega) is_6) rfl ⟨(Nat.le_of_ble_eq_true rfl), (Nat.le_of_ble_eq_true rfl)⟩ (Nat.le_of_ble_eq_true rfl) dL_law_297 (show (0 : Int) ≤ 0 by omega) (show 0 < 1 by omega) ⟨rfl, (by show _ ≤ 600104; omega)⟩ ⟨rfl, (by show _ ≤ 7301314; omega)⟩ rfl ?_
        refine r_istore (pc := 300) (xs' := [some (aR 99 0), some (aR 6 0), some (aR 60 0), some (aI nb), some (aI nk), some (aI dy), some (aI lk), some (aI 1), some (aI tn), some (aI t), some (aI z), some (aI dd), some (aI b), some (aI p), some (aI (s225 % (dy + 1))), some (aI s264), some (aI (-1013)), some (aI (plcC h9 b dy)), some (aI (h9 4 b 5))]) dL_law_300 (Nat.le_of_ble_eq_true rfl) rfl ?_
        refine r_iload (pc := 302) dL_law_302 rfl ?_
        refine r_sipush (pc := 304) (n := (-1013)) dL_law_304 rfl (by decide) ?_
        refine r_icmp_eq (pc := 307) (tgt := 323) dL_law_307 rfl (fun _ => ?_) (fun z => absurd z (by decide))
        refine r_iconst (pc := 323) (n := 1) dL_law_323 (by decide) ?_
        refine r_goto (pc := 324) (tgt := 328) dL_law_324 rfl ?_
        refine r_istore (pc := 328) (xs' := [some (aR 99 0), some (aR 6 0), some (aR 60 0), some (aI nb), some (aI nk), some (aI dy), some (aI lk), some (aI 1), some (aI tn), some (aI t), some (aI z), some (aI dd), some (aI b), some (aI p), some (aI (s225 % (dy + 1))), some (aI s264), some (aI (-1013)), some (aI (plcC h9 b dy)), some (aI (h9 4 b 5))]) dL_law_328 (Nat.le_of_ble_eq_true rfl) rfl ?_
        refine r_iload (pc := 330) dL_law_330 rfl ?_
        refine r_if_eq (pc := 332) (tgt := 389) dL_law_332 rfl (fun z => absurd z (by decide)) (fun _ => ?_)
        refine r_iload (pc := 335) dL_law_335 rfl ?_
        refine r_sipush (pc := 337) (n := (-1013)) dL_law_337 rfl (by decide) ?_
        refine r_icmp_eq (pc := 340) (tgt := 385) dL_law_340 rfl (fun _ => ?_) (fun z => absurd z (by decide))
        refine r_iconst (pc := 385) (n := 1) dL_law_385 (by decide) ?_
        refine r_goto (pc := 386) (tgt := 390) dL_law_386 rfl ?_
        refine r_istore (pc := 390) (xs' := [some (aR 99 0), some (aR 6 0), some (aR 60 0), some (aI nb), some (aI nk), some (aI dy), some (aI lk), some (aI 1), some (aI tn), some (aI t), some (aI z), some (aI dd), some (aI b), some (aI p), some (aI (s225 % (dy + 1))), some (aI s264), some (aI (-1013)), some (aI (plcC h9 b dy)), some (aI (h9 4 b 5))]) dL_law_390 (Nat.le_of_ble_eq_true rfl) rfl ?_
        refine r_goto (pc := 392) (tgt := 1226) dL_law_392 rfl ?_
        refine r_drop (xs' := [some (aR 99 0), some (aR 6 0), some (aR 60 0), some (aI nb), some (aI nk), some (aI dy), some (aI lk), some (aI 1), some (aI tn), some (aI t), none, some (aI dd), some (aI b), some (aI p), some (aI (s225 % (dy + 1))), some (aI s264), some (aI (-1013)), some (aI (plcC h9 b dy)), some (aI (h9 4 b 5))]) 10 rfl ?_
        refine r_drop (xs' := [some (aR 99 0), some (aR 6 0), some (aR 60 0), some (aI nb), some (aI nk), some (aI dy), some (aI lk), some (aI 1), some (aI tn), some (aI t), none, none, some (aI b), some (aI p), some (aI (s225 % (dy + 1))), some (aI s264), some (aI (-1013)), some (aI (plcC h9 b dy)), some (aI (h9 4 b 5))]) 11 rfl ?_
        refine r_drop (xs' := [some (aR 99 0), some (aR 6 0), some (aR 60 0), some (aI nb), some (aI nk), some (aI dy), some (aI lk), some (aI 1), some (aI tn), some (aI t), none, none, none, some (aI p), some (aI (s225 % (dy + 1))), some (aI s264), some (aI (-1013)), some (aI (plcC h9 b dy)), some (aI (h9 4 b 5))]) 12 rfl ?_
        refine r_drop (xs' := [some (aR 99 0), some (aR 6 0), some (aR 60 0), some (aI nb), some (aI nk), some (aI dy), some (aI lk), some (aI 1), some (aI tn), some (aI t), none, none, none, none, some (aI (s225 % (dy + 1))), some (aI s264), some (aI (-1013)), some (aI (plcC h9 b dy)), some (aI (h9 4 b 5))]) 13 rfl ?_
        refine r_drop (xs' := [some (aR 99 0), some (aR 6 0), some (aR 60 0), some (aI nb), some (aI nk), some (aI dy), some (aI lk), some (aI 1), some (aI tn), some (aI t), none, none, none, none, none, some (aI s264), some (aI (-1013)), some (aI (plcC h9 b dy)), some (aI (h9 4 b 5))]) 14 rfl ?_
        refine r_drop (xs' := [some (aR 99 0), some (aR 6 0), some (aR 60 0), some (aI nb), some (aI nk), some (aI dy), some (aI lk), some (aI 1), some (aI tn), some (aI t), none, none, none, none, none, none, some (aI (-1013)), some (aI (plcC h9 b dy)), some (aI (h9 4 b 5))]) 15 rfl ?_
        refine r_drop (xs' := [some (aR 99 0), some (aR 6 0), some (aR 60 0), some (aI nb), some (aI nk), some (aI dy), some (aI lk), some (aI 1), some (aI tn), some (aI t), none, none, none, none, none, none, none, some (aI (plcC h9 b dy)), some (aI (h9 4 b 5))]) 16 rfl ?_
        refine r_drop (xs' := [some (aR 99 0), some (aR 6 0), some (aR 60 0), some (aI nb), some (aI nk), some (aI dy), some (aI lk), some (aI 1), some (aI tn), some (aI t), none, none, none, none, none, none, none, none, some (aI (h9 4 b 5))]) 17 rfl ?_
        refine r_drop (xs' := [some (aR 99 0), some (aR 6 0), some (aR 60 0), some (aI nb), some (aI nk), some (aI dy), some (aI lk), some (aI 1), some (aI tn), some (aI t), none, none, none, none, none, none, none, none, none]) 18 rfl ?_
        refine r_wide (cs' := cs + 300) (sl' := sl + 3000) (by omega) (by omega) ?_
        exact K _ _ _ _ l9 (by omega) (by omega) (by omega)
      · refine r_istore (pc := 280) (xs' := [some (aR 99 0), some (aR 6 0), some (aR 60 0), some (aI nb), some (aI nk), some (aI dy), some (aI lk), some (aI 1), some (aI tn), some (aI t), some (aI z), some (aI dd), some (aI b), some (aI p), some (aI (s225 % (dy + 1))), some (aI s264), some (aI told), none, none]) dL_law_280 (Nat.le_of_ble_eq_true rfl) rfl ?_
        refine r_aload_n (pc := 282) dL_law_282 rfl ?_
        refine r_iload (pc := 283) dL_law_283 rfl ?_
        refine r_iload (pc := 285) dL_law_285 rfl ?_
        refine d1_V (pc := 287) (t := 6) (i := 0) (rest := []) (cs' := (cs + 60)) (sl' := (sl + 473)) mv_L_66 (KL_place l9.1 (b := b) (d := dy) (by omega) (by omega) (by omega)) rfl ⟨(Nat.le_of_ble_eq_true rfl), (Nat.le_of_ble_eq_true rfl)⟩ (Nat.le_of_ble_eq_true rfl) dL_law_287 (show (0 : Int) ≤ 0 by omega) (show 0 < 1 by omega) ⟨rfl, (by show _ ≤ 600104; omega)⟩ ⟨rfl, (by show _ ≤ 7301314; omega)⟩ rfl ?_
        refine r_istore (pc := 290) (xs' := [some (aR 99 0), some (aR 6 0), some (aR 60 0), some (aI nb), some (aI nk), some (aI dy), some (aI lk), some (aI 1), some (aI tn), some (aI t), some (aI z), some (aI dd), some (aI b), some (aI p), some (aI (s225 % (dy + 1))), some (aI s264), some (aI told), some (aI (plcC h9 b dy)), none]) dL_law_290 (Nat.le_of_ble_eq_true rfl) rfl ?_
        refine r_aload_n (pc := 292) dL_law_292 rfl ?_
        refine r_iload (pc := 293) dL_law_293 rfl ?_
        refine r_bipush (pc := 295) (n := 6) dL_law_295 rfl (by decide) ?_
        refine d1_V (pc := 297) (t := 6) (i := 0) (rest := []) (cs' := (cs + 62)) (sl' := (sl + 485)) mv_L_75 (KL_boxIs l9.1 (b := b) (w := 6) (v := h9 4 b 5) (by omega) (by omega) (by omega) is_6) rfl ⟨(Nat.le_of_ble_eq_true rfl), (Nat.le_of_ble_eq_true rfl)⟩ (Nat.le_of_ble_eq_true rfl) dL_law_297 (show (0 : Int) ≤ 0 by omega) (show 0 < 1 by omega) ⟨rfl, (by show _ ≤ 600104; omega)⟩ ⟨rfl, (by show _ ≤ 7301314; omega)⟩ rfl ?_
        refine r_istore (pc := 300) (xs' := [some (aR 99 0), some (aR 6 0), some (aR 60 0), some (aI nb), some (aI nk), some (aI dy), some (aI lk), some (aI 1), some (aI tn), some (aI t), some (aI z), some (aI dd), some (aI b), some (aI p), some (aI (s225 % (dy + 1))), some (aI s264), some (aI told), some (aI (plcC h9 b dy)), some (aI (h9 4 b 5))]) dL_law_300 (Nat.le_of_ble_eq_true rfl) rfl ?_
        refine r_iload (pc := 302) dL_law_302 rfl ?_
        refine r_sipush (pc := 304) (n := (-1013)) dL_law_304 rfl (by decide) ?_
        refine r_icmp_eq (pc := 307) (tgt := 323) dL_law_307 rfl (fun c307 => (by exfalso; omega)) (fun c307 => ?_)
        refine r_iload (pc := 310) dL_law_310 rfl ?_
        refine r_iconst (pc := 312) (n := (-1)) dL_law_312 (by decide) ?_
        refine r_icmp_eq (pc := 313) (tgt := 323) dL_law_313 rfl (fun c313 => ?_) (fun c313 => ?_)
        · refine r_iconst (pc := 323) (n := 1) dL_law_323 (by decide) ?_
          refine r_goto (pc := 324) (tgt := 328) dL_law_324 rfl ?_
          refine r_istore (pc := 328) (xs' := [some (aR 99 0), some (aR 6 0), some (aR 60 0), some (aI nb), some (aI nk), some (aI dy), some (aI lk), some (aI 1), some (aI tn), some (aI t), some (aI z), some (aI dd), some (aI b), some (aI p), some (aI (s225 % (dy + 1))), some (aI s264), some (aI told), some (aI (plcC h9 b dy)), some (aI (h9 4 b 5))]) dL_law_328 (Nat.le_of_ble_eq_true rfl) rfl ?_
          refine r_iload (pc := 330) dL_law_330 rfl ?_
          refine r_if_eq (pc := 332) (tgt := 389) dL_law_332 rfl (fun z => absurd z (by decide)) (fun _ => ?_)
          refine r_iload (pc := 335) dL_law_335 rfl ?_
          refine r_sipush (pc := 337) (n := (-1013)) dL_law_337 rfl (by decide) ?_
          refine r_icmp_eq (pc := 340) (tgt := 385) dL_law_340 rfl (fun c340 => (by exfalso; omega)) (fun c340 => ?_)
          refine r_aload_n (pc := 343) dL_law_343 rfl ?_
          refine r_iconst (pc := 344) (n := 2) dL_law_344 (by decide) ?_
          refine r_iload (pc := 345) dL_law_345 rfl ?_
          refine r_iload (pc := 347) dL_law_347 rfl ?_
          refine r_iload (pc := 349) dL_law_349 rfl ?_
          refine r_iload (pc := 351) dL_law_351 rfl ?_
          refine d1_SX (pc := 353) (rest := []) (cs' := (cs + 120)) (sl' := (sl + 946)) ms_L_81 (by simp [I_L_ask]) d8 rfl ⟨(Nat.le_of_ble_eq_true rfl), (Nat.le_of_ble_eq_true rfl)⟩ (Nat.le_of_ble_eq_true rfl) dL_law_353 ⟨rfl, (by show _ ≤ 600104; omega)⟩ ⟨rfl, (by show _ ≤ 7301314; omega)⟩ rfl ?_
          refine r_if_ge (pc := 356) (tgt := 389) dL_law_356 rfl (fun c356 => (by exfalso; omega)) (fun c356 => ?_)
          refine r_aload_n (pc := 359) dL_law_359 rfl ?_
          refine r_iload (pc := 360) dL_law_360 rfl ?_
          refine r_iload (pc := 362) dL_law_362 rfl ?_
          refine d1_V (pc := 364) (t := 6) (i := 0) (rest := []) (cs' := (cs + 122)) (sl' := (sl + 958)) mv_L_66 (KL_place l9.1 (b := b) (d := dy) (by omega) (by omega) (by omega)) rfl ⟨(Nat.le_of_ble_eq_true rfl), (Nat.le_of_ble_eq_true rfl)⟩ (Nat.le_of_ble_eq_true rfl) dL_law_364 (show (0 : Int) ≤ 0 by omega) (show 0 < 1 by omega) ⟨rfl, (by show _ ≤ 600104; omega)⟩ ⟨rfl, (by show _ ≤ 7301314; omega)⟩ rfl ?_
          refine r_iload (pc := 367) dL_law_367 rfl ?_
          refine r_icmp_ne (pc := 369) (tgt := 389) dL_law_369 rfl (fun c369 => absurd rfl c369) (fun c369 => ?_)
          refine r_aload_n (pc := 372) dL_law_372 rfl ?_
          refine r_iload (pc := 373) dL_law_373 rfl ?_
          refine r_bipush (pc := 375) (n := 6) dL_law_375 rfl (by decide) ?_
          refine d1_V (pc := 377) (t := 6) (i := 0) (rest := []) (cs' := (cs + 124)) (sl' := (sl + 970)) mv_L_75 (KL_boxIs l9.1 (b := b) (w := 6) (v := h9 4 b 5) (by omega) (by omega) (by omega) is_6) rfl ⟨(Nat.le_of_ble_eq_true rfl), (Nat.le_of_ble_eq_true rfl)⟩ (Nat.le_of_ble_eq_true rfl) dL_law_377 (show (0 : Int) ≤ 0 by omega) (show 0 < 1 by omega) ⟨rfl, (by show _ ≤ 600104; omega)⟩ ⟨rfl, (by show _ ≤ 7301314; omega)⟩ rfl ?_
          refine r_iload (pc := 380) dL_law_380 rfl ?_
          refine r_icmp_ne (pc := 382) (tgt := 389) dL_law_382 rfl (fun c382 => absurd rfl c382) (fun c382 => ?_)
          refine r_iconst (pc := 385) (n := 1) dL_law_385 (by decide) ?_
          refine r_goto (pc := 386) (tgt := 390) dL_law_386 rfl ?_
          refine r_istore (pc := 390) (xs' := [some (aR 99 0), some (aR 6 0), some (aR 60 0), some (aI nb), some (aI nk), some (aI dy), some (aI lk), some (aI 1), some (aI tn), some (aI t), some (aI z), some (aI dd), some (aI b), some (aI p), some (aI (s225 % (dy + 1))), some (aI s264), some (aI told), some (aI (plcC h9 b dy)), some (aI (h9 4 b 5))]) dL_law_390 (Nat.le_of_ble_eq_true rfl) rfl ?_
          refine r_goto (pc := 392) (tgt := 1226) dL_law_392 rfl ?_
          refine r_drop (xs' := [some (aR 99 0), some (aR 6 0), some (aR 60 0), some (aI nb), some (aI nk), some (aI dy), some (aI lk), some (aI 1), some (aI tn), some (aI t), none, some (aI dd), some (aI b), some (aI p), some (aI (s225 % (dy + 1))), some (aI s264), some (aI told), some (aI (plcC h9 b dy)), some (aI (h9 4 b 5))]) 10 rfl ?_
          refine r_drop (xs' := [some (aR 99 0), some (aR 6 0), some (aR 60 0), some (aI nb), some (aI nk), some (aI dy), some (aI lk), some (aI 1), some (aI tn), some (aI t), none, none, some (aI b), some (aI p), some (aI (s225 % (dy + 1))), some (aI s264), some (aI told), some (aI (plcC h9 b dy)), some (aI (h9 4 b 5))]) 11 rfl ?_
          refine r_drop (xs' := [some (aR 99 0), some (aR 6 0), some (aR 60 0), some (aI nb), some (aI nk), some (aI dy), some (aI lk), some (aI 1), some (aI tn), some (aI t), none, none, none, some (aI p), some (aI (s225 % (dy + 1))), some (aI s264), some (aI told), some (aI (plcC h9 b dy)), some (aI (h9 4 b 5))]) 12 rfl ?_
          refine r_drop (xs' := [some (aR 99 0), some (aR 6 0), some (aR 60 0), some (aI nb), some (aI nk), some (aI dy), some (aI lk), some (aI 1), some (aI tn), some (aI t), none, none, none, none, some (aI (s225 % (dy + 1))), some (aI s264), some (aI told), some (aI (plcC h9 b dy)), some (aI (h9 4 b 5))]) 13 rfl ?_
          refine r_drop (xs' := [some (aR 99 0), some (aR 6 0), some (aR 60 0), some (aI nb), some (aI nk), some (aI dy), some (aI lk), some (aI 1), some (aI tn), some (aI t), none, none, none, none, none, some (aI s264), some (aI told), some (aI (plcC h9 b dy)), some (aI (h9 4 b 5))]) 14 rfl ?_
          refine r_drop (xs' := [some (aR 99 0), some (aR 6 0), some (aR 60 0), some (aI nb), some (aI nk), some (aI dy), some (aI lk), some (aI 1), some (aI tn), some (aI t), none, none, none, none, none, none, some (aI told), some (aI (plcC h9 b dy)), some (aI (h9 4 b 5))]) 15 rfl ?_
          refine r_drop (xs' := [some (aR 99 0), some (aR 6 0), some (aR 60 0), some (aI nb), some (aI nk), some (aI dy), some (aI lk), some (aI 1), some (aI tn), some (aI t), none, none, none, none, none, none, none, some (aI (plcC h9 b dy)), some (aI (h9 4 b 5))]) 16 rfl ?_
          refine r_drop (xs' := [some (aR 99 0), some (aR 6 0), some (aR 60 0), some (aI nb), some (aI nk), some (aI dy), some (aI lk), some (aI 1), some (aI tn), some (aI t), none, none, none, none, none, none, none, none, some (aI (h9 4 b 5))]) 17 rfl ?_
          refine r_drop (xs' := [some (aR 99 0), some (aR 6 0), some (aR 60 0), some (aI nb), some (aI nk), some (aI dy), some (aI lk), some (aI 1), some (aI tn), some (aI t), none, none, none, none, none, none, none, none, none]) 18 rfl ?_
          refine r_wide (cs' := cs + 300) (sl' := sl + 3000) (by omega) (by omega) ?_
          exact K _ _ _ _ l9 (by omega) (by omega) (by omega)
        · refine r_iload (pc := 316) dL_law_316 rfl ?_
          refine r_iload (pc := 318) dL_law_318 rfl ?_
          refine r_icmp_ne (pc := 320) (tgt := 327) dL_law_320 rfl (fun c320 => (by exfalso; omega)) (fun c320 => ?_)
          refine r_iconst (pc := 323) (n := 1) dL_law_323 (by decide) ?_
          refine r_goto (pc := 324) (tgt := 328) dL_law_324 rfl ?_
          refine r_istore (pc := 328) (xs' := [some (aR 99 0), some (aR 6 0), some (aR 60 0), some (aI nb), some (aI nk), some (aI dy), some (aI lk), some (aI 1), some (aI tn), some (aI t), some (aI z), some (aI dd), some (aI b), some (aI p), some (aI (s225 % (dy + 1))), some (aI s264), some (aI told), some (aI (plcC h9 b dy)), some (aI (h9 4 b 5))]) dL_law_328 (Nat.le_of_ble_eq_true rfl) rfl ?_
          refine r_iload (pc := 330) dL_law_330 rfl ?_
          refine r_if_eq (pc := 332) (tgt := 389) dL_law_332 rfl (fun z => absurd z (by decide)) (fun _ => ?_)
          refine r_iload (pc := 335) dL_law_335 rfl ?_
          refine r_sipush (pc := 337) (n := (-1013)) dL_law_337 rfl (by decide) ?_
          refine r_icmp_eq (pc := 340) (tgt := 385) dL_law_340 rfl (fun c340 => (by exfalso; omega)) (fun c340 => ?_)
          refine r_aload_n (pc := 343) dL_law_343 rfl ?_
          refine r_iconst (pc := 344) (n := 2) dL_law_344 (by decide) ?_
          refine r_iload (pc := 345) dL_law_345 rfl ?_
          refine r_iload (pc := 347) dL_law_347 rfl ?_
          refine r_iload (pc := 349) dL_law_349 rfl ?_
          refine r_iload (pc := 351) dL_law_351 rfl ?_
          refine d1_SX (pc := 353) (rest := []) (cs' := (cs + 120)) (sl' := (sl + 946)) ms_L_81 (by simp [I_L_ask]) d8 rfl ⟨(Nat.le_of_ble_eq_true rfl), (Nat.le_of_ble_eq_true rfl)⟩ (Nat.le_of_ble_eq_true rfl) dL_law_353 ⟨rfl, (by show _ ≤ 600104; omega)⟩ ⟨rfl, (by show _ ≤ 7301314; omega)⟩ rfl ?_
          refine r_if_ge (pc := 356) (tgt := 389) dL_law_356 rfl (fun c356 => (by exfalso; omega)) (fun c356 => ?_)
          refine r_aload_n (pc := 359) dL_law_359 rfl ?_
          refine r_iload (pc := 360) dL_law_360 rfl ?_
          refine r_iload (pc := 362) dL_law_362 rfl ?_
          refine d1_V (pc := 364) (t := 6) (i := 0) (rest := []) (cs' := (cs + 122)) (sl' := (sl + 958)) mv_L_66 (KL_place l9.1 (b := b) (d := dy) (by omega) (by omega) (by omega)) rfl ⟨(Nat.le_of_ble_eq_true rfl), (Nat.le_of_ble_eq_true rfl)⟩ (Nat.le_of_ble_eq_true rfl) dL_law_364 (show (0 : Int) ≤ 0 by omega) (show 0 < 1 by omega) ⟨rfl, (by show _ ≤ 600104; omega)⟩ ⟨rfl, (by show _ ≤ 7301314; omega)⟩ rfl ?_
          refine r_iload (pc := 367) dL_law_367 rfl ?_
          refine r_icmp_ne (pc := 369) (tgt := 389) dL_law_369 rfl (fun c369 => absurd rfl c369) (fun c369 => ?_)
          refine r_aload_n (pc := 372) dL_law_372 rfl ?_
          refine r_iload (pc := 373) dL_law_373 rfl ?_
          refine r_bipush (pc := 375) (n := 6) dL_law_375 rfl (by decide) ?_
          refine d1_V (pc := 377) (t := 6) (i := 0) (rest := []) (cs' := (cs + 124)) (sl' := (sl + 970)) mv_L_75 (KL_boxIs l9.1 (b := b) (w := 6) (v := h9 4 b 5) (by omega) (by omega) (by omega) is_6) rfl ⟨(Nat.le_of_ble_eq_true rfl), (Nat.le_of_ble_eq_true rfl)⟩ (Nat.le_of_ble_eq_true rfl) dL_law_377 (show (0 : Int) ≤ 0 by omega) (show 0 < 1 by omega) ⟨rfl, (by show _ ≤ 600104; omega)⟩ ⟨rfl, (by show _ ≤ 7301314; omega)⟩ rfl ?_
          refine r_iload (pc := 380) dL_law_380 rfl ?_
          refine r_icmp_ne (pc := 382) (tgt := 389) dL_law_382 rfl (fun c382 => absurd rfl c382) (fun c382 => ?_)
          refine r_iconst (pc := 385) (n := 1) dL_law_385 (by decide) ?_
          refine r_goto (pc := 386) (tgt := 390) dL_law_386 rfl ?_
          refine r_istore (pc := 390) (xs' := [some (aR 99 0), some (aR 6 0), some (aR 60 0), some (aI nb), some (aI nk), some (aI dy), some (aI lk), some (aI 1), some (aI tn), some (aI t), some (aI z), some (aI dd), some (aI b), some (aI p), some (aI (s225 % (dy + 1))), some (aI s264), some (aI told), some (aI (plcC h9 b dy)), some (aI (h9 4 b 5))]) dL_law_390 (Nat.le_of_ble_eq_true rfl) rfl ?_
          refine r_goto (pc := 392) (tgt := 1226) dL_law_392 rfl ?_
          refine r_drop (xs' := [some (aR 99 0), some (aR 6 0), some (aR 60 0), some (aI nb), some (aI nk), some (aI dy), some (aI lk), some (aI 1), some (aI tn), some (aI t), none, some (aI dd), some (aI b), some (aI p), some (aI (s225 % (dy + 1))), some (aI s264), some (aI told), some (aI (plcC h9 b dy)), some (aI (h9 4 b 5))]) 10 rfl ?_
          refine r_drop (xs' := [some (aR 99 0), some (aR 6 0), some (aR 60 0), some (aI nb), some (aI nk), some (aI dy), some (aI lk), some (aI 1), some (aI tn), some (aI t), none, none, some (aI b), some (aI p), some (aI (s225 % (dy + 1))), some (aI s264), some (aI told), some (aI (plcC h9 b dy)), some (aI (h9 4 b 5))]) 11 rfl ?_
          refine r_drop (xs' := [some (aR 99 0), some (aR 6 0), some (aR 60 0), some (aI nb), some (aI nk), some (aI dy), some (aI lk), some (aI 1), some (aI tn), some (aI t), none, none, none, some (aI p), some (aI (s225 % (dy + 1))), some (aI s264), some (aI told), some (aI (plcC h9 b dy)), some (aI (h9 4 b 5))]) 12 rfl ?_
          refine r_drop (xs' := [some (aR 99 0), some (aR 6 0), some (aR 60 0), some (aI nb), some (aI nk), some (aI dy), some (aI lk), some (aI 1), some (aI tn), some (aI t), none, none, none, none, some (aI (s225 % (dy + 1))), some (aI s264), some (aI told), some (aI (plcC h9 b dy)), some (aI (h9 4 b 5))]) 13 rfl ?_
          refine r_drop (xs' := [some (aR 99 0), some (aR 6 0), some (aR 60 0), some (aI nb), some (aI nk), some (aI dy), some (aI lk), some (aI 1), some (aI tn), some (aI t), none, none, none, none, none, some (aI s264), some (aI told), some (aI (plcC h9 b dy)), some (aI (h9 4 b 5))]) 14 rfl ?_
          refine r_drop (xs' := [some (aR 99 0), some (aR 6 0), some (aR 60 0), some (aI nb), some (aI nk), some (aI dy), some (aI lk), some (aI 1), some (aI tn), some (aI t), none, none, none, none, none, none, some (aI told), some (aI (plcC h9 b dy)), some (aI (h9 4 b 5))]) 15 rfl ?_
          refine r_drop (xs' := [some (aR 99 0), some (aR 6 0), some (aR 60 0), some (aI nb), some (aI nk), some (aI dy), some (aI lk), some (aI 1), some (aI tn), some (aI t), none, none, none, none, none, none, none, some (aI (plcC h9 b dy)), some (aI (h9 4 b 5))]) 16 rfl ?_
          refine r_drop (xs' := [some (aR 99 0), some (aR 6 0), some (aR 60 0), some (aI nb), some (aI nk), some (aI dy), some (aI lk), some (aI 1), some (aI tn), some (aI t), none, none, none, none, none, none, none, none, some (aI (h9 4 b 5))]) 17 rfl ?_
          refine r_drop (xs' := [some (aR 99 0), some (aR 6 0), some (aR 60 0), some (aI nb), some (aI nk), some (aI dy), some (aI lk), some (aI 1), some (aI tn), some (aI t), none, none, none, none, none, none, none, none, none]) 18 rfl ?_
          refine r_wide (cs' := cs + 300) (sl' := sl + 3000) (by omega) (by omega) ?_
          exact K _ _ _ _ l9 (by omega) (by omega) (by omega)
    · refine r_iload (pc := 248) dL_law_248 rfl ?_
      refine r_bipush (pc := 250) (n := 22) dL_law_250 rfl (by decide) ?_
      refine r_ishrX (pc := 252) dL_law_252 (fun s252 t252 u252 => ?_)
      replace u252 := u252 (by omega)
      refine r_iconst (pc := 253) (n := 4) dL_law_253 (by decide) ?_
      refine r_irem (pc := 254) dL_law_254 (by omega) (by omega) ?_
      refine r_goto (pc := 255) (tgt := 265) dL_law_255 rfl ?_
      refine r_istore (pc := 265) (xs' := [some (aR 99 0), some (aR 6 0), some (aR 60 0), some (aI nb), some (aI nk), some (aI dy), some (aI lk), some (aI 1), some (aI tn), some (aI t), some (aI z), some (aI dd), some (aI b), some (aI p), some (aI (s225 % (dy + 1))), some (aI (s252 % 4)), none, none, none]) dL_law_265 (Nat.le_of_ble_eq_true rfl) rfl ?_
      refine r_aload_n (pc := 267) dL_law_267 rfl ?_
      refine r_iconst (pc := 268) (n := 2) dL_law_268 (by decide) ?_
      refine r_iload (pc := 269) dL_law_269 rfl ?_
      refine r_iload (pc := 271) dL_law_271 rfl ?_
      refine r_iload (pc := 273) dL_law_273 rfl ?_
      refine r_iload (pc := 275) dL_law_275 rfl ?_
      obtain ⟨told, h9, d9, l9, c9⟩ := J_report LI (b := b) (d := s225 % (dy + 1)) (e := s252 % 4) (p := p) hb.1 hb.2 (by omega) (by omega) (by omega)
      refine d1_SX (pc := 277) (rest := []) (cs' := (cs + 58)) (sl' := (sl + 461)) ms_L_81 (by simp [I_L_ask]) d9 rfl ⟨(Nat.le_of_ble_eq_true rfl), (Nat.le_of_ble_eq_true rfl)⟩ (Nat.le_of_ble_eq_true rfl) dL_law_277 ⟨rfl, (by show _ ≤ 600104; omega)⟩ ⟨rfl, (by show _ ≤ 7301314; omega)⟩ rfl ?_
      rcases c9 with rfl | ⟨c1, c2, t2, c3, d8⟩
      · refine r_istore (pc := 280) (xs' := [some (aR 99 0), some (aR 6 0), some (aR 60 0), some (aI nb), some (aI nk), some (aI dy), some (aI lk), some (aI 1), some (aI tn), some (aI t), some (aI z), some (aI dd), some (aI b), some (aI p), some (aI (s225 % (dy + 1))), some (aI (s252 % 4)), some (aI (-1013)), none, none]) dL_law_280 (Nat.le_of_ble_eq_true rfl) rfl ?_
        refine r_aload_n (pc := 282) dL_law_282 rfl ?_
        refine r_iload (pc := 283) dL_law_283 rfl ?_
        refine r_iload (pc := 285) dL_law_285 rfl ?_
        refine d1_V (pc := 287) (t := 6) (i := 0) (rest := []) (cs' := (cs + 60)) (sl' := (sl + 473)) mv_L_66 (KL_place l9.1 (b := b) (d := dy) (by omega) (by omega) (by omega)) rfl ⟨(Nat.le_of_ble_eq_true rfl), (Nat.le_of_ble_eq_true rfl)⟩ (Nat.le_of_ble_eq_true rfl) dL_law_287 (show (0 : Int) ≤ 0 by omega) (show 0 < 1 by omega) ⟨rfl, (by show _ ≤ 600104; omega)⟩ ⟨rfl, (by show _ ≤ 7301314; omega)⟩ rfl ?_
        refine r_istore (pc := 290) (xs' := [some (aR 99 0), some (aR 6 0), some (aR 60 0), some (aI nb), some (aI nk), some (aI dy), some (aI lk), some (aI 1), some (aI tn), some (aI t), some (aI z), some (aI dd), some (aI b), some (aI p), some (aI (s225 % (dy + 1))), some (aI (s252 % 4)), some (aI (-1013)), some (aI (plcC h9 b dy)), none]) dL_law_290 (Nat.le_of_ble_eq_true rfl) rfl ?_
        refine r_aload_n (pc := 292) dL_law_292 rfl ?_
        refine r_iload (pc := 293) dL_law_293 rfl ?_
        refine r_bipush (pc := 295) (n := 6) dL_law_295 rfl (by decide) ?_
        refine d1_V (pc := 297) (t := 6) (i := 0) (rest := []) (cs' := (cs + 62)) (sl' := (sl + 485)) mv_L_75 (KL_boxIs l9.1 (b := b) (w := 6) (v := h9 4 b 5) (by omega) (by omega) (by omega) is_6) rfl ⟨(Nat.le_of_ble_eq_true rfl), (Nat.le_of_ble_eq_true rfl)⟩ (Nat.le_of_ble_eq_true rfl) dL_law_297 (show (0 : Int) ≤ 0 by omega) (show 0 < 1 by omega) ⟨rfl, (by show _ ≤ 600104; omega)⟩ ⟨rfl, (by show _ ≤ 7301314; omega)⟩ rfl ?_
        refine r_istore (pc := 300) (xs' := [some (aR 99 0), some (aR 6 0), some (aR 60 0), some (aI nb), some (aI nk), some (aI dy), some (aI lk), some (aI 1), some (aI tn), some (aI t), some (aI z), some (aI dd), some (aI b), some (aI p), some (aI (s225 % (dy + 1))), some (aI (s252 % 4)), some (aI (-1013)), some (aI (plcC h9 b dy)), some (aI (h9 4 b 5))]) dL_law_300 (Nat.le_of_ble_eq_true rfl) rfl ?_
        refine r_iload (pc := 302) dL_law_302 rfl ?_
        refine r_sipush (pc := 304) (n := (-1013)) dL_law_304 rfl (by decide) ?_
        refine r_icmp_eq (pc := 307) (tgt := 323) dL_law_307 rfl (fun _ => ?_) (fun z => absurd z (by decide))
        refine r_iconst (pc := 323) (n := 1) dL_law_323 (by decide) ?_
        refine r_goto (pc := 324) (tgt := 328) dL_law_324 rfl ?_
        refine r_istore (pc := 328) (xs' := [some (aR 99 0), some (aR 6 0), some (aR 60 0), some (aI nb), some (aI nk), some (aI dy), some (aI lk), some (aI 1), some (aI tn), some (aI t), some (aI z), some (aI dd), some (aI b), some (aI p), some (aI (s225 % (dy + 1))), some (aI (s252 % 4)), some (aI (-1013)), some (aI (plcC h9 b dy)), some (aI (h9 4 b 5))]) dL_law_328 (Nat.le_of_ble_eq_true rfl) rfl ?_
        refine r_iload (pc := 330) dL_law_330 rfl ?_
        refine r_if_eq (pc := 332) (tgt := 389) dL_law_332 rfl (fun z => absurd z (by decide)) (fun _ => ?_)
        refine r_iload (pc := 335) dL_law_335 rfl ?_
        refine r_sipush (pc := 337) (n := (-1013)) dL_law_337 rfl (by decide) ?_
        refine r_icmp_eq (pc := 340) (tgt := 385) dL_law_340 rfl (fun _ => ?_) (fun z => absurd z (by decide))
        refine r_iconst (pc := 385) (n := 1) dL_law_385 (by decide) ?_
        refine r_goto (pc := 386) (tgt := 390) dL_law_386 rfl ?_
        refine r_istore (pc := 390) (xs' := [some (aR 99 0), some (aR 6 0), some (aR 60 0), some (aI nb), some (aI nk), some (aI dy), some (aI lk), some (aI 1), some (aI tn), some (aI t), some (aI z), some (aI dd), some (aI b), some (aI p), some (aI (s225 % (dy + 1))), some (aI (s252 % 4)), some (aI (-1013)), some (aI (plcC h9 b dy)), some (aI (h9 4 b 5))]) dL_law_390 (Nat.le_of_ble_eq_true rfl) rfl ?_
        refine r_goto (pc := 392) (tgt := 1226) dL_law_392 rfl ?_
        refine r_drop (xs' := [some (aR 99 0), some (aR 6 0), some (aR 60 0), some (aI nb), some (aI nk), some (aI dy), some (aI lk), some (aI 1), some (aI tn), some (aI t), none, some (aI dd), some (aI b), some (aI p), some (aI (s225 % (dy + 1))), some (aI (s252 % 4)), some (aI (-1013)), some (aI (plcC h9 b dy)), some (aI (h9 4 b 5))]) 10 rfl ?_
        refine r_drop (xs' := [some (aR 99 0), some (aR 6 0), some (aR 60 0), some (aI nb), some (aI nk), some (aI dy), some (aI lk), some (aI 1), some (aI tn), some (aI t), none, none, some (aI b), some (aI p), some (aI (s225 % (dy + 1))), some (aI (s252 % 4)), some (aI (-1013)), some (aI (plcC h9 b dy)), some (aI (h9 4 b 5))]) 11 rfl ?_
        refine r_drop (xs' := [some (aR 99 0), some (aR 6 0), some (aR 60 0), some (aI nb), some (aI nk), some (aI dy), some (aI lk), some (aI 1), some (aI tn), some (aI t), none, none, none, some (aI p), some (aI (s225 % (dy + 1))), some (aI (s252 % 4)), some (aI (-1013)), some (aI (plcC h9 b dy)), some (aI (h9 4 b 5))]) 12 rfl ?_
        refine r_drop (xs' := [some (aR 99 0), some (aR 6 0), some (aR 60 0), some (aI nb), some (aI nk), some (aI dy), some (aI lk), some (aI 1), some (aI tn), some (aI t), none, none, none, none, some (aI (s225 % (dy + 1))), some (aI (s252 % 4)), some (aI (-1013)), some (aI (plcC h9 b dy)), some (aI (h9 4 b 5))]) 13 rfl ?_
        refine r_drop (xs' := [some (aR 99 0), some (aR 6 0), some (aR 60 0), some (aI nb), some (aI nk), some (aI dy), some (aI lk), some (aI 1), some (aI tn), some (aI t), none, none, none, none, none, some (aI (s252 % 4)), some (aI (-1013)), some (aI (plcC h9 b dy)), some (aI (h9 4 b 5))]) 14 rfl ?_
        refine r_drop (xs' := [some (aR 99 0), some (aR 6 0), some (aR 60 0), some (aI nb), some (aI nk), some (aI dy), some (aI lk), some (aI 1), some (aI tn), some (aI t), none, none, none, none, none, none, some (aI (-1013)), some (aI (plcC h9 b dy)), some (aI (h9 4 b 5))]) 15 rfl ?_
        refine r_drop (xs' := [some (aR 99 0), some (aR 6 0), some (aR 60 0), some (aI nb), some (aI nk), some (aI dy), some (aI lk), some (aI 1), some (aI tn), some (aI t), none, none, none, none, none, none, none, some (aI (plcC h9 b dy)), some (aI (h9 4 b 5))]) 16 rfl ?_
        refine r_drop (xs' := [some (aR 99 0), some (aR 6 0), some (aR 60 0), some (aI nb), some (aI nk), some (aI dy), some (aI lk), some (aI 1), some (aI tn), some (aI t), none, none, none, none, none, none, none, none, some (aI (h9 4 b 5))]) 17 rfl ?_
        refine r_drop (xs' := [some (aR 99 0), some (aR 6 0), some (aR 60 0), some (aI nb), some (aI nk), some (aI dy), some (aI lk), some (aI 1), some (aI tn), some (aI t), none, none, none, none, none, none, none, none, none]) 18 rfl ?_
        refine r_wide (cs' := cs + 300) (sl' := sl + 3000) (by omega) (by omega) ?_
        exact K _ _ _ _ l9 (by omega) (by omega) (by omega)
      · refine r_istore (pc := 280) (xs' := [some (aR 99 0), some (aR 6 0), some (aR 60 0), some (aI nb), some (aI nk), some (aI dy), some (aI lk), some (aI 1), some (aI tn), some (aI t), some (aI z), some (aI dd), some (aI b), some (aI p), some (aI (s225 % (dy + 1))), some (aI (s252 % 4)), some (aI told), none, none]) dL_law_280 (Nat.le_of_ble_eq_true rfl) rfl ?_
        refine r_aload_n (pc := 282) dL_law_282 rfl ?_
        refine r_iload (pc := 283) dL_law_283 rfl ?_
        refine r_iload (pc := 285) dL_law_285 rfl ?_
        refine d1_V (pc := 287) (t := 6) (i := 0) (rest := []) (cs' := (cs + 60)) (sl' := (sl + 473)) mv_L_66 (KL_place l9.1 (b := b) (d := dy) (by omega) (by omega) (by omega)) rfl ⟨(Nat.le_of_ble_eq_true rfl), (Nat.le_of_ble_eq_true rfl)⟩ (Nat.le_of_ble_eq_true rfl) dL_law_287 (show (0 : Int) ≤ 0 by omega) (show 0 < 1 by omega) ⟨rfl, (by show _ ≤ 600104; omega)⟩ ⟨rfl, (by show _ ≤ 7301314; omega)⟩ rfl ?_
        refine r_istore (pc := 290) (xs' := [some (aR 99 0), some (aR 6 0), some (aR 60 0), some (aI nb), some (aI nk), some (aI dy), some (aI lk), some (aI 1), some (aI tn), some (aI t), some (aI z), some (aI dd), some (aI b), some (aI p), some (aI (s225 % (dy + 1))), some (aI (s252 % 4)), some (aI told), some (aI (plcC h9 b dy)), none]) dL_law_290 (Nat.le_of_ble_eq_true rfl) rfl ?_
        refine r_aload_n (pc := 292) dL_law_292 rfl ?_
        refine r_iload (pc := 293) dL_law_293 rfl ?_
        refine r_bipush (pc := 295) (n := 6) dL_law_295 rfl (by decide) ?_
        refine d1_V (pc := 297) (t := 6) (i := 0) (rest := []) (cs' := (cs + 62)) (sl' := (sl + 485)) mv_L_75 (KL_boxIs l9.1 (b := b) (w := 6) (v := h9 4 b 5) (by omega) (by omega) (by omega) is_6) rfl ⟨(Nat.le_of_ble_eq_true rfl), (Nat.le_of_ble_eq_true rfl)⟩ (Nat.le_of_ble_eq_true rfl) dL_law_297 (show (0 : Int) ≤ 0 by omega) (show 0 < 1 by omega) ⟨rfl, (by show _ ≤ 600104; omega)⟩ ⟨rfl, (by show _ ≤ 7301314; omega)⟩ rfl ?_
        refine r_istore (pc := 300) (xs' := [some (aR 99 0), some (aR 6 0), some (aR 60 0), some (aI nb), some (aI nk), some (aI dy), some (aI lk), some (aI 1), some (aI tn), some (aI t), some (aI z), some (aI dd), some (aI b), some (aI p), some (aI (s225 % (dy + 1))), some (aI (s252 % 4)), some (aI told), some (aI (plcC h9 b dy)), some (aI (h9 4 b 5))]) dL_law_300 (Nat.le_of_ble_eq_true rfl) rfl ?_
        refine r_iload (pc := 302) dL_law_302 rfl ?_
        refine r_sipush (pc := 304) (n := (-1013)) dL_law_304 rfl (by decide) ?_
        refine r_icmp_eq (pc := 307) (tgt := 323) dL_law_307 rfl (fun c307 => (by exfalso; omega)) (fun c307 => ?_)
        refine r_iload (pc := 310) dL_law_310 rfl ?_
        refine r_iconst (pc := 312) (n := (-1)) dL_law_312 (by decide) ?_
        refine r_icmp_eq (pc := 313) (tgt := 323) dL_law_313 rfl (fun c313 => ?_) (fun c313 => ?_)
        · refine r_iconst (pc := 323) (n := 1) dL_law_323 (by decide) ?_
          refine r_goto (pc := 324) (tgt := 328) dL_law_324 rfl ?_
          refine r_istore (pc := 328) (xs' := [some (aR 99 0), some (aR 6 0), some (aR 60 0), some (aI nb), some (aI nk), some (aI dy), some (aI lk), some (aI 1), some (aI tn), some (aI t), some (aI z), some (aI dd), some (aI b), some (aI p), some (aI (s225 % (dy + 1))), some (aI (s252 % 4)), some (aI told), some (aI (plcC h9 b dy)), some (aI (h9 4 b 5))]) dL_law_328 (Nat.le_of_ble_eq_true rfl) rfl ?_
          refine r_iload (pc := 330) dL_law_330 rfl ?_
          refine r_if_eq (pc := 332) (tgt := 389) dL_law_332 rfl (fun z => absurd z (by decide)) (fun _ => ?_)
          refine r_iload (pc := 335) dL_law_335 rfl ?_
          refine r_sipush (pc := 337) (n := (-1013)) dL_law_337 rfl (by decide) ?_
          refine r_icmp_eq (pc := 340) (tgt := 385) dL_law_340 rfl (fun c340 => (by exfalso; omega)) (fun c340 => ?_)
          refine r_aload_n (pc := 343) dL_law_343 rfl ?_
          refine r_iconst (pc := 344) (n := 2) dL_law_344 (by decide) ?_
          refine r_iload (pc := 345) dL_law_345 rfl ?_
          refine r_iload (pc := 347) dL_law_347 rfl ?_
          refine r_iload (pc := 349) dL_law_349 rfl ?_
          refine r_iload (pc := 351) dL_law_351 rfl ?_
          refine d1_SX (pc := 353) (rest := []) (cs' := (cs + 120)) (sl' := (sl + 946)) ms_L_81 (by simp [I_L_ask]) d8 rfl ⟨(Nat.le_of_ble_eq_true rfl), (Nat.le_of_ble_eq_true rfl)⟩ (Nat.le_of_ble_eq_true rfl) dL_law_353 ⟨rfl, (by show _ ≤ 600104; omega)⟩ ⟨rfl, (by show _ ≤ 7301314; omega)⟩ rfl ?_
          refine r_if_ge (pc := 356) (tgt := 389) dL_law_356 rfl (fun c356 => (by exfalso; omega)) (fun c356 => ?_)
          refine r_aload_n (pc := 359) dL_law_359 rfl ?_
          refine r_iload (pc := 360) dL_law_360 rfl ?_
          refine r_iload (pc := 362) dL_law_362 rfl ?_
          refine d1_V (pc := 364) (t := 6) (i := 0) (rest := []) (cs' := (cs + 122)) (sl' := (sl + 958)) mv_L_66 (KL_place l9.1 (b := b) (d := dy) (by omega) (by omega) (by omega)) rfl ⟨(Nat.le_of_ble_eq_true rfl), (Nat.le_of_ble_eq_true rfl)⟩ (Nat.le_of_ble_eq_true rfl) dL_law_364 (show (0 : Int) ≤ 0 by omega) (show 0 < 1 by omega) ⟨rfl, (by show _ ≤ 600104; omega)⟩ ⟨rfl, (by show _ ≤ 7301314; omega)⟩ rfl ?_
          refine r_iload (pc := 367) dL_law_367 rfl ?_
          refine r_icmp_ne (pc := 369) (tgt := 389) dL_law_369 rfl (fun c369 => absurd rfl c369) (fun c369 => ?_)
          refine r_aload_n (pc := 372) dL_law_372 rfl ?_
          refine r_iload (pc := 373) dL_law_373 rfl ?_
          refine r_bipush (pc := 375) (n := 6) dL_law_375 rfl (by decide) ?_
          refine d1_V (pc := 377) (t := 6) (i := 0) (rest := []) (cs' := (cs + 124)) (sl' := (sl + 970)) mv_L_75 (KL_boxIs l9.1 (b := b) (w := 6) (v := h9 4 b 5) (by omega) (by omega) (by omega) is_6) rfl ⟨(Nat.le_of_ble_eq_true rfl), (Nat.le_of_ble_eq_true rfl)⟩ (Nat.le_of_ble_eq_true rfl) dL_law_377 (show (0 : Int) ≤ 0 by omega) (show 0 < 1 by omega) ⟨rfl, (by show _ ≤ 600104; omega)⟩ ⟨rfl, (by show _ ≤ 7301314; omega)⟩ rfl ?_
          refine r_iload (pc := 380) dL_law_380 rfl ?_
          refine r_icmp_ne (pc := 382) (tgt := 389) dL_law_382 rfl (fun c382 => absurd rfl c382) (fun c382 => ?_)
          refine r_iconst (pc := 385) (n := 1) dL_law_385 (by decide) ?_
          refine r_goto (pc := 386) (tgt := 390) dL_law_386 rfl ?_
          refine r_istore (pc := 390) (xs' := [some (aR 99 0), some (aR 6 0), some (aR 60 0), some (aI nb), some (aI nk), some (aI dy), some (aI lk), some (aI 1), some (aI tn), some (aI t), some (aI z), some (aI dd), some (aI b), some (aI p), some (aI (s225 % (dy + 1))), some (aI (s252 % 4)), some (aI told), some (aI (plcC h9 b dy)), some (aI (h9 4 b 5))]) dL_law_390 (Nat.le_of_ble_eq_true rfl) rfl ?_
          refine r_goto (pc := 392) (tgt := 1226) dL_law_392 rfl ?_
          refine r_drop (xs' := [some (aR 99 0), some (aR 6 0), some (aR 60 0), some (aI nb), some (aI nk), some (aI dy), some (aI lk), some (aI 1), some (aI tn), some (aI t), none, some (aI dd), some (aI b), some (aI p), some (aI (s225 % (dy + 1))), some (aI (s252 % 4)), some (aI told), some (aI (plcC h9 b dy)), some (aI (h9 4 b 5))]) 10 rfl ?_
          refine r_drop (xs' := [some (aR 99 0), some (aR 6 0), some (aR 60 0), some (aI nb), some (aI nk), some (aI dy), some (aI lk), some (aI 1), some (aI tn), some (aI t), none, none, some (aI b), some (aI p), some (aI (s225 % (dy + 1))), some (aI (s252 % 4)), some (aI told), some (aI (plcC h9 b dy)), some (aI (h9 4 b 5))]) 11 rfl ?_
          refine r_drop (xs' := [some (aR 99 0), some (aR 6 0), some (aR 60 0), some (aI nb), some (aI nk), some (aI dy), some (aI lk), some (aI 1), some (aI tn), some (aI t), none, none, none, some (aI p), some (aI (s225 % (dy + 1))), some (aI (s252 % 4)), some (aI told), some (aI (plcC h9 b dy)), some (aI (h9 4 b 5))]) 12 rfl ?_
          refine r_drop (xs' := [some (aR 99 0), some (aR 6 0), some (aR 60 0), some (aI nb), some (aI nk), some (aI dy), some (aI lk), some (aI 1), some (aI tn), some (aI t), none, none, none, none, some (aI (s225 % (dy + 1))), some (aI (s252 % 4)), some (aI told), some (aI (plcC h9 b dy)), some (aI (h9 4 b 5))]) 13 rfl ?_
          refine r_drop (xs' := [some (aR 99 0), some (aR 6 0), some (aR 60 0), some (aI nb), some (aI nk), some (aI dy), some (aI lk), some (aI 1), some (aI tn), some (aI t), none, none, none, none, none, some (aI (s252 % 4)), some (aI told), some (aI (plcC h9 b dy)), some (aI (h9 4 b 5))]) 14 rfl ?_
          refine r_drop (xs' := [some (aR 99 0), some (aR 6 0), some (aR 60 0), some (aI nb), some (aI nk), some (aI dy), some (aI lk), some (aI 1), some (aI tn), some (aI t), none, none, none, none, none, none, some (aI told), some (aI (plcC h9 b dy)), some (aI (h9 4 b 5))]) 15 rfl ?_
          refine r_drop (xs' := [some (aR 99 0), some (aR 6 0), some (aR 60 0), some (aI nb), some (aI nk), some (aI dy), some (aI lk), some (aI 1), some (aI tn), some (aI t), none, none, none, none, none, none, none, some (aI (plcC h9 b dy)), some (aI (h9 4 b 5))]) 16 rfl ?_
          refine r_drop (xs' := [some (aR 99 0), some (aR 6 0), some (aR 60 0), some (aI nb), some (aI nk), some (aI dy), some (aI lk), some (aI 1), some (aI tn), some (aI t), none, none, none, none, none, none, none, none, some (aI (h9 4 b 5))]) 17 rfl ?_
          refine r_drop (xs' := [some (aR 99 0), some (aR 6 0), some (aR 60 0), some (aI nb), some (aI nk), some (aI dy), some (aI lk), some (aI 1), some (aI tn), some (aI t), none, none, none, none, none, none, none, none, none]) 18 rfl ?_
          refine r_wide (cs' := cs + 300) (sl' := sl + 3000) (by omega) (by omega) ?_
          exact K _ _ _ _ l9 (by omega) (by omega) (by omega)
        · refine r_iload (pc := 316) dL_law_316 rfl ?_
          refine r_iload (pc := 318) dL_law_318 rfl ?_
          refine r_icmp_ne (pc := 320) (tgt := 327) dL_law_320 rfl (fun c320 => (by exfalso; omega)) (fun c320 => ?_)
          refine r_iconst (pc := 323) (n := 1) dL_law_323 (by decide) ?_
          refine r_goto (pc := 324) (tgt := 328) dL_law_324 rfl ?_
          refine r_istore (pc := 328) (xs' := [some (aR 99 0), some (aR 6 0), some (aR 60 0), some (aI nb), some (aI nk), some (aI dy), some (aI lk), some (aI 1), some (aI tn), some (aI t), some (aI z), some (aI dd), some (aI b), some (aI p), some (aI (s225 % (dy + 1))), some (aI (s252 % 4)), some (aI told), some (aI (plcC h9 b dy)), some (aI (h9 4 b 5))]) dL_law_328 (Nat.le_of_ble_eq_true rfl) rfl ?_
          refine r_iload (pc := 330) dL_law_330 rfl ?_
          refine r_if_eq (pc := 332) (tgt := 389) dL_law_332 rfl (fun z => absurd z (by decide)) (fun _ => ?_)
          refine r_iload (pc := 335) dL_law_335 rfl ?_
          refine r_sipush (pc := 337) (n := (-1013)) dL_law_337 rfl (by decide) ?_
          refine r_icmp_eq (pc := 340) (tgt := 385) dL_law_340 rfl (fun c340 => (by exfalso; omega)) (fun c340 => ?_)
          refine r_aload_n (pc := 343) dL_law_343 rfl ?_
          refine r_iconst (pc := 344) (n := 2) dL_law_344 (by decide) ?_
          refine r_iload (pc := 345) dL_law_345 rfl ?_
          refine r_iload (pc := 347) dL_law_347 rfl ?_
          refine r_iload (pc := 349) dL_law_349 rfl ?_
          refine r_iload (pc := 351) dL_law_351 rfl ?_
          refine d1_SX (pc := 353) (rest := []) (cs' := (cs + 120)) (sl' := (sl + 946)) ms_L_81 (by simp [I_L_ask]) d8 rfl ⟨(Nat.le_of_ble_eq_true rfl), (Nat.le_of_ble_eq_true rfl)⟩ (Nat.le_of_ble_eq_true rfl) dL_law_353 ⟨rfl, (by show _ ≤ 600104; omega)⟩ ⟨rfl, (by show _ ≤ 7301314; omega)⟩ rfl ?_
          refine r_if_ge (pc := 356) (tgt := 389) dL_law_356 rfl (fun c356 => (by exfalso; omega)) (fun c356 => ?_)
          refine r_aload_n (pc := 359) dL_law_359 rfl ?_
          refine r_iload (pc := 360) dL_law_360 rfl ?_
          refine r_iload (pc := 362) dL_law_362 rfl ?_
          refine d1_V (pc := 364) (t := 6) (i := 0) (rest := []) (cs' := (cs + 122)) (sl' := (sl + 958)) mv_L_66 (KL_place l9.1 (b := b) (d := dy) (by omega) (by omega) (by omega)) rfl ⟨(Nat.le_of_ble_eq_true rfl), (Nat.le_of_ble_eq_true rfl)⟩ (Nat.le_of_ble_eq_true rfl) dL_law_364 (show (0 : Int) ≤ 0 by omega) (show 0 < 1 by omega) ⟨rfl, (by show _ ≤ 600104; omega)⟩ ⟨rfl, (by show _ ≤ 7301314; omega)⟩ rfl ?_
          refine r_iload (pc := 367) dL_law_367 rfl ?_
          refine r_icmp_ne (pc := 369) (tgt := 389) dL_law_369 rfl (fun c369 => absurd rfl c369) (fun c369 => ?_)
          refine r_aload_n (pc := 372) dL_law_372 rfl ?_
          refine r_iload (pc := 373) dL_law_373 rfl ?_
          refine r_bipush (pc := 375) (n := 6) dL_law_375 rfl (by decide) ?_
          refine d1_V (pc := 377) (t := 6) (i := 0) (rest := []) (cs' := (cs + 124)) (sl' := (sl + 970)) mv_L_75 (KL_boxIs l9.1 (b := b) (w := 6) (v := h9 4 b 5) (by omega) (by omega) (by omega) is_6) rfl ⟨(Nat.le_of_ble_eq_true rfl), (Nat.le_of_ble_eq_true rfl)⟩ (Nat.le_of_ble_eq_true rfl) dL_law_377 (show (0 : Int) ≤ 0 by omega) (show 0 < 1 by omega) ⟨rfl, (by show _ ≤ 600104; omega)⟩ ⟨rfl, (by show _ ≤ 7301314; omega)⟩ rfl ?_
          refine r_iload (pc := 380) dL_law_380 rfl ?_
          refine r_icmp_ne (pc := 382) (tgt := 389) dL_law_382 rfl (fun c382 => absurd rfl c382) (fun c382 => ?_)
          refine r_iconst (pc := 385) (n := 1) dL_law_385 (by decide) ?_
          refine r_goto (pc := 386) (tgt := 390) dL_law_386 rfl ?_
          refine r_istore (pc := 390) (xs' := [some (aR 99 0), some (aR 6 0), some (aR 60 0), some (aI nb), some (aI nk), some (aI dy), some (aI lk), some (aI 1), some (aI tn), some (aI t), some (aI z), some (aI dd), some (aI b), some (aI p), some (aI (s225 % (dy + 1))), some (aI (s252 % 4)), some (aI told), some (aI (plcC h9 b dy)), some (aI (h9 4 b 5))]) dL_law_390 (Nat.le_of_ble_eq_true rfl) rfl ?_
          refine r_goto (pc := 392) (tgt := 1226) dL_law_392 rfl ?_
          refine r_drop (xs' := [some (aR 99 0), some (aR 6 0), some (aR 60 0), some (aI nb), some (aI nk), some (aI dy), some (aI lk), some (aI 1), some (aI tn), some (aI t), none, some (aI dd), some (aI b), some (aI p), some (aI (s225 % (dy + 1))), some (aI (s252 % 4)), some (aI told), some (aI (plcC h9 b dy)), some (aI (h9 4 b 5))]) 10 rfl ?_
          refine r_drop (xs' := [some (aR 99 0), some (aR 6 0), some (aR 60 0), some (aI nb), some (aI nk), some (aI dy), some (aI lk), some (aI 1), some (aI tn), some (aI t), none, none, some (aI b), some (aI p), some (aI (s225 % (dy + 1))), some (aI (s252 % 4)), some (aI told), some (aI (plcC h9 b dy)), some (aI (h9 4 b 5))]) 11 rfl ?_
          refine r_drop (xs' := [some (aR 99 0), some (aR 6 0), some (aR 60 0), some (aI nb), some (aI nk), some (aI dy), some (aI lk), some (aI 1), some (aI tn), some (aI t), none, none, none, some (aI p), some (aI (s225 % (dy + 1))), some (aI (s252 % 4)), some (aI told), some (aI (plcC h9 b dy)), some (aI (h9 4 b 5))]) 12 rfl ?_
          refine r_drop (xs' := [some (aR 99 0), some (aR 6 0), some (aR 60 0), some (aI nb), some (aI nk), some (aI dy), some (aI lk), some (aI 1), some (aI tn), some (aI t), none, none, none, none, some (aI (s225 % (dy + 1))), some (aI (s252 % 4)), some (aI told), some (aI (plcC h9 b dy)), some (aI (h9 4 b 5))]) 13 rfl ?_
          refine r_drop (xs' := [some (aR 99 0), some (aR 6 0), some (aR 60 0), some (aI nb), some (aI nk), some (aI dy), some (aI lk), some (aI 1), some (aI tn), some (aI t), none, none, none, none, none, some (aI (s252 % 4)), some (aI told), some (aI (plcC h9 b dy)), some (aI (h9 4 b 5))]) 14 rfl ?_
          refine r_drop (xs' := [some (aR 99 0), some (aR 6 0), some (aR 60 0), some (aI nb), some (aI nk), some (aI dy), some (aI lk), some (aI 1), some (aI tn), some (aI t), none, none, none, none, none, none, some (aI told), some (aI (plcC h9 b dy)), some (aI (h9 4 b 5))]) 15 rfl ?_
          refine r_drop (xs' := [some (aR 99 0), some (aR 6 0), some (aR 60 0), some (aI nb), some (aI nk), some (aI dy), some (aI lk), some (aI 1), some (aI tn), some (aI t), none, none, none, none, none, none, none, some (aI (plcC h9 b dy)), some (aI (h9 4 b 5))]) 16 rfl ?_
          refine r_drop (xs' := [some (aR 99 0), some (aR 6 0), some (aR 60 0), some (aI nb), some (aI nk), some (aI dy), some (aI lk), some (aI 1), some (aI tn), some (aI t), none, none, none, none, none, none, none, none, some (aI (h9 4 b 5))]) 17 rfl ?_
          refine r_drop (xs' := [some (aR 99 0), some (aR 6 0), some (aR 60 0), some (aI nb), some (aI nk), some (aI dy), some (aI lk), some (aI 1), some (aI tn), some (aI t), none, none, none, none, none, none, none, none, none]) 18 rfl ?_
          refine r_wide (cs' := cs + 300) (sl' := sl + 3000) (by omega) (by omega) ?_
          exact K _ _ _ _ l9 (by omega) (by omega) (by omega)

theorem law_wash {nm : String} {hh : List (Nat × Nat × Nat × Nat)} {L : Nat} {sc : Nat → Int32} {hi : Hi} {nb nk dy lk tn t z dd b p : Int} {cs sl : Nat} {Q : Option Av → Hp → Prop} {X : String → Hp → Prop} (LI : LawI hi nb nk dy lk) (hdy : 0 ≤ dy ∧ dy ≤ 3000) (hz : 0 ≤ z ∧ z ≤ 134217727) (hb : 0 ≤ b ∧ b < nb) (hp9 : 0 ≤ p ∧ p < 4)  (hcs : cs + 300 ≤ 600104) (hsl : sl + 3000 ≤ 7301314) (K : ∀ (hi' : Hi) (nb' nk' dy' : Int), LawI hi' nb' nk' dy' lk → 1 ≤ nb' → dy ≤ dy' → dy' ≤ dy + 9 → Run (I_law nm hh L sc) 1226 [some (aR 99 0), some (aR 6 0), some (aR 60 0), some (aI nb'), some (aI nk'), some (aI dy'), some (aI lk), some (aI 1), some (aI tn), some (aI t), none, none, none, none, none, none, none, none, none] [] (hp hi' nb' nk') (cs + 300) (sl + 3000) Q X) : Run (I_law nm hh L sc) 402 [some (aR 99 0), some (aR 6 0), some (aR 60 0), some (aI nb), some (aI nk), some (aI dy), some (aI lk), some (aI 1), some (aI tn), some (aI t), some (aI z), some (aI dd), some (aI b), some (aI p), none, none, none, none, none] [] (hp hi nb nk) cs sl Q X := by
  obtain ⟨hI, hdd, hw, hg⟩ := id LI
  have hN := hI.num
  unfold vNum at hN
  refine r_aload_n (pc := 402) dL_law_402 rfl ?_
  refine r_iconst (pc := 403) (n := 1) dL_law_403 (by decide) ?_
  refine r_iload (pc := 404) dL_law_404 rfl ?_
  refine r_iload (pc := 406) dL_law_406 rfl ?_
  refine r_iload (pc := 408) dL_law_408 rfl ?_
  refine r_bipush (pc := 410) (n := 9) dL_law_410 rfl (by decide) ?_
  refine r_ishrX (pc := 412) dL_law_412 (fun s412 t412 u412 => ?_)
  replace u412 := u412 (by omega)
  refine r_bipush (pc := 413) (n := 100) dL_law_413 rfl (by decide) ?_
  refine r_irem (pc := 415) dL_law_415 (by omega) (by omega) ?_
  refine r_iadd (pc := 416) dL_law_416 (by omega) ?_
  refine r_iconst (pc := 417) (n := 0) dL_law_417 (by decide) ?_
  refine r_iconst (pc := 418) (n := 0) dL_law_418 (by decide) ?_
  obtain ⟨told, h9, d9, l9, c9⟩ := J_wash LI (b := b) (u := dy + (s412 % 100)) hb.1 hb.2 (by omega)
  refine d1_SX (pc := 419) (rest := []) (cs' := (cs + 58)) (sl' := (sl + 461)) ms_L_81 (by simp [I_L_ask]) d9 rfl ⟨(Nat.le_of_ble_eq_true rfl), (Nat.le_of_ble_eq_true rfl)⟩ (Nat.le_of_ble_eq_true rfl) dL_law_419 ⟨rfl, (by show _ ≤ 600104; omega)⟩ ⟨rfl, (by show _ ≤ 7301314; omega)⟩ rfl ?_
  rcases c9 with ⟨c1, rfl⟩ | ⟨c1, c2, c3⟩
  · refine r_istore (pc := 422) (xs' := [some (aR 99 0), some (aR 6 0), some (aR 60 0), some (aI nb), some (aI nk), some (aI dy), some (aI lk), some (aI 1), some (aI tn), some (aI t), some (aI z), some (aI dd), some (aI b), some (aI p), some (aI (-1013)), none, none, none, none]) dL_law_422 (Nat.le_of_ble_eq_true rfl) rfl ?_
    refine r_aload_n (pc := 424) dL_law_424 rfl ?_
    refine r_iload (pc := 425) dL_law_425 rfl ?_
    refine r_iconst (pc := 427) (n := 2) dL_law_427 (by decide) ?_
    refine d1_V (pc := 428) (t := 6) (i := 0) (rest := []) (cs' := (cs + 60)) (sl' := (sl + 473)) mv_L_75 (KL_boxIs l9.1 (b := b) (w := 2) (v := 1) (by omega) (by omega) (by omega) (is_2o c1)) rfl ⟨(Nat.le_of_ble_eq_true rfl), (Nat.le_of_ble_eq_true rfl)⟩ (Nat.le_of_ble_eq_true rfl) dL_law_428 (show (0 : Int) ≤ 0 by omega) (show 0 < 1 by omega) ⟨rfl, (by show _ ≤ 600104; omega)⟩ ⟨rfl, (by show _ ≤ 7301314; omega)⟩ rfl ?_
    refine r_iconst (pc := 431) (n := 1) dL_law_431 (by decide) ?_
    refine r_icmp_ne (pc := 432) (tgt := 451) dL_law_432 rfl (fun z => absurd z (by decide)) (fun _ => ?_)
    refine r_iload (pc := 435) dL_law_435 rfl ?_
    refine r_sipush (pc := 437) (n := (-1013)) dL_law_437 rfl (by decide) ?_
    refine r_icmp_ne (pc := 440) (tgt := 447) dL_law_440 rfl (fun z => absurd z (by decide)) (fun _ => ?_)
    refine r_iconst (pc := 443) (n := 1) dL_law_443 (by decide) ?_
    refine r_goto (pc := 444) (tgt := 477) dL_law_444 rfl ?_
    refine r_istore (pc := 477) (xs' := [some (aR 99 0), some (aR 6 0), some (aR 60 0), some (aI nb), some (aI nk), some (aI dy), some (aI lk), some (aI 1), some (aI tn), some (aI t), some (aI z), some (aI dd), some (aI b), some (aI p), some (aI (-1013)), none, none, none, none]) dL_law_477 (Nat.le_of_ble_eq_true rfl) rfl ?_
    refine r_goto (pc := 479) (tgt := 1226) dL_law_479 rfl ?_
    refine r_drop (xs' := [some (aR 99 0), some (aR 6 0), some (aR 60 0), some (aI nb), some (aI nk), some (aI dy), some (aI lk), some (aI 1), some (aI tn), some (aI t), none, some (aI dd), some (aI b), some (aI p), some (aI (-1013)), none, none, none, none]) 10 rfl ?_
    refine r_drop (xs' := [some (aR 99 0), some (aR 6 0), some (aR 60 0), some (aI nb), some (aI nk), some (aI dy), some (aI lk), some (aI 1), some (aI tn), some (aI t), none, none, some (aI b), some (aI p), some (aI (-1013)), none, none, none, none]) 11 rfl ?_
    refine r_drop (xs' := [some (aR 99 0), some (aR 6 0), some (aR 60 0), some (aI nb), some (aI nk), some (aI dy), some (aI lk), some (aI 1), some (aI tn), some (aI t), none, none, none, some (aI p), some (aI (-1013)), none, none, none, none]) 12 rfl ?_
    refine r_drop (xs' := [some (aR 99 0), some (aR 6 0), some (aR 60 0), some (aI nb), some (aI nk), some (aI dy), some (aI lk), some (aI 1), some (aI tn), some (aI t), none, none, none, none, some (aI (-1013)), none, none, none, none]) 13 rfl ?_
    refine r_drop (xs' := [some (aR 99 0), some (aR 6 0), some (aR 60 0), some (aI nb), some (aI nk), some (aI dy), some (aI lk), some (aI 1), some (aI tn), some (aI t), none, none, none, none, none, none, none, none, none]) 14 rfl ?_
    refine r_wide (cs' := cs + 300) (sl' := sl + 3000) (by omega) (by omega) ?_
    exact K _ _ _ _ l9 (by omega) (by omega) (by omega)
  · refine r_istore (pc := 422) (xs' := [some (aR 99 0), some (aR 6 0), some (aR 60 0), some (aI nb), some (aI nk), some (aI dy), some (aI lk), some (aI 1), some (aI tn), some (aI t), some (aI z), some (aI dd), some (aI b), some (aI p), some (aI told), none, none, none, none]) dL_law_422 (Nat.le_of_ble_eq_true rfl) rfl ?_
    refine r_aload_n (pc := 424) dL_law_424 rfl ?_
    refine r_iload (pc := 425) dL_law_425 rfl ?_
    refine r_iconst (pc := 427) (n := 2) dL_law_427 (by decide) ?_
    refine d1_V (pc := 428) (t := 6) (i := 0) (rest := []) (cs' := (cs + 60)) (sl' := (sl + 473)) mv_L_75 (KL_boxIs l9.1 (b := b) (w := 2) (v := 0) (by omega) (by omega) (by omega) (is_2z c1)) rfl ⟨(Nat.le_of_ble_eq_true rfl), (Nat.le_of_ble_eq_true rfl)⟩ (Nat.le_of_ble_eq_true rfl) dL_law_428 (show (0 : Int) ≤ 0 by omega) (show 0 < 1 by omega) ⟨rfl, (by show _ ≤ 600104; omega)⟩ ⟨rfl, (by show _ ≤ 7301314; omega)⟩ rfl ?_
    refine r_iconst (pc := 431) (n := 1) dL_law_431 (by decide) ?_
    refine r_icmp_ne (pc := 432) (tgt := 451) dL_law_432 rfl (fun _ => ?_) (fun z => absurd z (by decide))
    refine r_iload (pc := 451) dL_law_451 rfl ?_
    refine r_if_eq (pc := 453) (tgt := 462) dL_law_453 rfl (fun c453 => ?_) (fun c453 => ?_)
    · refine r_aload_n (pc := 462) dL_law_462 rfl ?_
      refine r_iload (pc := 463) dL_law_463 rfl ?_
      refine r_iconst (pc := 465) (n := 3) dL_law_465 (by decide) ?_
      refine d1_V (pc := 466) (t := 6) (i := 0) (rest := []) (cs' := (cs + 62)) (sl' := (sl + 485)) mv_L_75 (KL_boxIs l9.1 (b := b) (w := 3) (v := 0) (by omega) (by omega) (by omega) (is_3.trans c3)) rfl ⟨(Nat.le_of_ble_eq_true rfl), (Nat.le_of_ble_eq_true rfl)⟩ (Nat.le_of_ble_eq_true rfl) dL_law_466 (show (0 : Int) ≤ 0 by omega) (show 0 < 1 by omega) ⟨rfl, (by show _ ≤ 600104; omega)⟩ ⟨rfl, (by show _ ≤ 7301314; omega)⟩ rfl ?_
      refine r_if_ne (pc := 469) (tgt := 476) dL_law_469 rfl (fun z => absurd z (by decide)) (fun _ => ?_)
      refine r_iconst (pc := 472) (n := 1) dL_law_472 (by decide) ?_
      refine r_goto (pc := 473) (tgt := 477) dL_law_473 rfl ?_
      refine r_istore (pc := 477) (xs' := [some (aR 99 0), some (aR 6 0), some (aR 60 0), some (aI nb), some (aI nk), some (aI dy), some (aI lk), some (aI 1), some (aI tn), some (aI t), some (aI z), some (aI dd), some (aI b), some (aI p), some (aI told), none, none, none, none]) dL_law_477 (Nat.le_of_ble_eq_true rfl) rfl ?_
      refine r_goto (pc := 479) (tgt := 1226) dL_law_479 rfl ?_
      refine r_drop (xs' := [some (aR 99 0), some (aR 6 0), some (aR 60 0), some (aI nb), some (aI nk), some (aI dy), some (aI lk), some (aI 1), some (aI tn), some (aI t), none, some (aI dd), some (aI b), some (aI p), some (aI told), none, none, none, none]) 10 rfl ?_
      refine r_drop (xs' := [some (aR 99 0), some (aR 6 0), some (aR 60 0), some (aI nb), some (aI nk), some (aI dy), some (aI lk), some (aI 1), some (aI tn), some (aI t), none, none, some (aI b), some (aI p), some (aI told), none, none, none, none]) 11 rfl ?_
      refine r_drop (xs' := [some (aR 99 0), some (aR 6 0), some (aR 60 0), some (aI nb), some (aI nk), some (aI dy), some (aI lk), some (aI 1), some (aI tn), some (aI t), none, none, none, some (aI p), some (aI told), none, none, none, none]) 12 rfl ?_
      refine r_drop (xs' := [some (aR 99 0), some (aR 6 0), some (aR 60 0), some (aI nb), some (aI nk), some (aI dy), some (aI lk), some (aI 1), some (aI tn), some (aI t), none, none, none, none, some (aI told), none, none, none, none]) 13 rfl ?_
      refine r_drop (xs' := [some (aR 99 0), some (aR 6 0), some (aR 60 0), some (aI nb), some (aI nk), some (aI dy), some (aI lk), some (aI 1), some (aI tn), some (aI t), none, none, none, none, none, none, none, none, none]) 14 rfl ?_
      refine r_wide (cs' := cs + 300) (sl' := sl + 3000) (by omega) (by omega) ?_
      exact K _ _ _ _ l9 (by omega) (by omega) (by omega)
    · refine r_iload (pc := 456) dL_law_456 rfl ?_
      refine r_iconst (pc := 458) (n := 1) dL_law_458 (by decide) ?_
      refine r_icmp_ne (pc := 459) (tgt := 476) dL_law_459 rfl (fun c459 => (by exfalso; omega)) (fun c459 => ?_)
      refine r_aload_n (pc := 462) dL_law_462 rfl ?_
      refine r_iload (pc := 463) dL_law_463 rfl ?_
      refine r_iconst (pc := 465) (n := 3) dL_law_465 (by decide) ?_
      refine d1_V (pc := 466) (t := 6) (i := 0) (rest := []) (cs' := (cs + 62)) (sl' := (sl + 485)) mv_L_75 (KL_boxIs l9.1 (b := b) (w := 3) (v := 0) (by omega) (by omega) (by omega) (is_3.trans c3)) rfl ⟨(Nat.le_of_ble_eq_true rfl), (Nat.le_of_ble_eq_true rfl)⟩ (Nat.le_of_ble_eq_true rfl) dL_law_466 (show (0 : Int) ≤ 0 by omega) (show 0 < 1 by omega) ⟨rfl, (by show _ ≤ 600104; omega)⟩ ⟨rfl, (by show _ ≤ 7301314; omega)⟩ rfl ?_
      refine r_if_ne (pc := 469) (tgt := 476) dL_law_469 rfl (fun z => absurd z (by decide)) (fun _ => ?_)
      refine r_iconst (pc := 472) (n := 1) dL_law_472 (by decide) ?_
      refine r_goto (pc := 473) (tgt := 477) dL_law_473 rfl ?_
      refine r_istore (pc := 477) (xs' := [some (aR 99 0), some (aR 6 0), some (aR 60 0), some (aI nb), some (aI nk), some (aI dy), some (aI lk), some (aI 1), some (aI tn), some (aI t), some (aI z), some (aI dd), some (aI b), some (aI p), some (aI told), none, none, none, none]) dL_law_477 (Nat.le_of_ble_eq_true rfl) rfl ?_
      refine r_goto (pc := 479) (tgt := 1226) dL_law_479 rfl ?_
      refine r_drop (xs' := [some (aR 99 0), some (aR 6 0), some (aR 60 0), some (aI nb), some (aI nk), some (aI dy), some (aI lk), some (aI 1), some (aI tn), some (aI t), none, some (aI dd), some (aI b), some (aI p), some (aI told), none, none, none, none]) 10 rfl ?_
      refine r_drop (xs' := [some (aR 99 0), some (aR 6 0), some (aR 60 0), some (aI nb), some (aI nk), some (aI dy), some (aI lk), some (aI 1), some (aI tn), some (aI t), none, none, some (aI b), some (aI p), some (aI told), none, none, none, none]) 11 rfl ?_
      refine r_drop (xs' := [some (aR 99 0), some (aR 6 0), some (aR 60 0), some (aI nb), some (aI nk), some (aI dy), some (aI lk), some (aI 1), some (aI tn), some (aI t), none, none, none, some (aI p), some (aI told), none, none, none, none]) 12 rfl ?_
      refine r_drop (xs' := [some (aR 99 0), some (aR 6 0), some (aR 60 0), some (aI nb), some (aI nk), some (aI dy), some (aI lk), some (aI 1), some (aI tn), some (aI t), none, none, none, none, some (aI told), none, none, none, none]) 13 rfl ?_
      refine r_drop (xs' := [some (aR 99 0), some (aR 6 0), some (aR 60 0), some (aI nb), some (aI nk), some (aI dy), some (aI lk), some (aI 1), some (aI tn), some (aI t), none, none, none, none, none, none, none, none, none]) 14 rfl ?_
      refine r_wide (cs' := cs + 300) (sl' := sl + 3000) (by omega) (by omega) ?_
      exact K _ _ _ _ l9 (by omega) (by omega) (by omega)

theorem law_lease {nm : String} {hh : List (Nat × Nat × Nat × Nat)} {L : Nat} {sc : Nat → Int32} {hi : Hi} {nb nk dy lk tn t z dd b p : Int} {cs sl : Nat} {Q : Option Av → Hp → Prop} {X : String → Hp → Prop} (LI : LawI hi nb nk dy lk) (hdy : 0 ≤ dy ∧ dy ≤ 3000) (hz : 0 ≤ z ∧ z ≤ 134217727) (hb : 0 ≤ b ∧ b < nb) (hp9 : 0 ≤ p ∧ p < 4)  (hcs : cs + 300 ≤ 600104) (hsl : sl + 3000 ≤ 7301314) (K : ∀ (hi' : Hi) (nb' nk' dy' : Int), LawI hi' nb' nk' dy' lk → 1 ≤ nb' → dy ≤ dy' → dy' ≤ dy + 9 → Run (I_law nm hh L sc) 1226 [some (aR 99 0), some (aR 6 0), some (aR 60 0), some (aI nb'), some (aI nk'), some (aI dy'), some (aI lk), some (aI 1), some (aI tn), some (aI t), none, none, none, none, none, none, none, none, none] [] (hp hi' nb' nk') (cs + 300) (sl + 3000) Q X) : Run (I_law nm hh L sc) 489 [some (aR 99 0), some (aR 6 0), some (aR 60 0), some (aI nb), some (aI nk), some (aI dy), some (aI lk), some (aI 1), some (aI tn), some (aI t), some (aI z), some (aI dd), some (aI b), some (aI p), none, none, none, none, none] [] (hp hi nb nk) cs sl Q X := by
  obtain ⟨hI, hdd, hw, hg⟩ := id LI
  have hN := hI.num
  unfold vNum at hN
  refine r_iload (pc := 489) dL_law_489 rfl ?_
  refine r_bipush (pc := 491) (n := 9) dL_law_491 rfl (by decide) ?_
  refine r_ishrX (pc := 493) dL_law_493 (fun s493 t493 u493 => ?_)
  replace u493 := u493 (by omega)
  refine r_iload (pc := 494) dL_law_494 rfl ?_
  refine r_iconst (pc := 496) (n := 5) dL_law_496 (by decide) ?_
  refine r_iadd (pc := 497) dL_law_497 (by omega) ?_
  have m498 := Int.emod_nonneg (s493) (show (dy + 5) ≠ 0 by omega)
  have n498 := Int.emod_lt_of_pos (s493) (show 0 < (dy + 5) by omega)
  refine r_irem (pc := 498) dL_law_498 (by omega) (by omega) ?_
  refine r_istore (pc := 499) (xs' := [some (aR 99 0), some (aR 6 0), some (aR 60 0), some (aI nb), some (aI nk), some (aI dy), some (aI lk), some (aI 1), some (aI tn), some (aI t), some (aI z), some (aI dd), some (aI b), some (aI p), some (aI (s493 % (dy + 5))), none, none, none, none]) dL_law_499 (Nat.le_of_ble_eq_true rfl) rfl ?_
  refine r_aload_n (pc := 501) dL_law_501 rfl ?_
  refine r_iconst (pc := 502) (n := 3) dL_law_502 (by decide) ?_
  refine r_iload (pc := 503) dL_law_503 rfl ?_
  refine r_iload (pc := 505) dL_law_505 rfl ?_
  refine r_iload (pc := 507) dL_law_507 rfl ?_
  refine r_iload (pc := 509) dL_law_509 rfl ?_
  refine r_bipush (pc := 511) (n := 15) dL_law_511 rfl (by decide) ?_
  refine r_ishrX (pc := 513) dL_law_513 (fun s513 t513 u513 => ?_)
  replace u513 := u513 (by omega)
  refine r_bipush (pc := 514) (n := 90) dL_law_514 rfl (by decide) ?_
  refine r_irem (pc := 516) dL_law_516 (by omega) (by omega) ?_
  refine r_iadd (pc := 517) dL_law_517 (by omega) ?_
  refine r_iconst (pc := 518) (n := 0) dL_law_518 (by decide) ?_
  obtain ⟨told, h9, d9, l9, c9⟩ := J_lease LI (b := b) (fr := s493 % (dy + 5)) (to := (s493 % (dy + 5)) + (s513 % 90)) hb.1 hb.2 (by omega)
  refine d1_SX (pc := 519) (rest := []) (cs' := (cs + 58)) (sl' := (sl + 461)) ms_L_81 (by simp [I_L_ask]) d9 rfl ⟨(Nat.le_of_ble_eq_true rfl), (Nat.le_of_ble_eq_true rfl)⟩ (Nat.le_of_ble_eq_true rfl) dL_law_519 ⟨rfl, (by show _ ≤ 600104; omega)⟩ ⟨rfl, (by show _ ≤ 7301314; omega)⟩ rfl ?_
  rcases c9 with rfl | ⟨rfl, c2, c3⟩
  · refine r_istore (pc := 522) (xs' := [some (aR 99 0), some (aR 6 0), some (aR 60 0), some (aI nb), some (aI nk), some (aI dy), some (aI lk), some (aI 1), some (aI tn), some (aI t), some (aI z), some (aI dd), some (aI b), some (aI p), some (aI (s493 % (dy + 5))), some (aI (-1013)), none, none, none]) dL_law_522 (Nat.le_of_ble_eq_true rfl) rfl ?_
    refine r_iload (pc := 524) dL_law_524 rfl ?_
    refine r_sipush (pc := 526) (n := (-1013)) dL_law_526 rfl (by decide) ?_
    refine r_icmp_eq (pc := 529) (tgt := 557) dL_law_529 rfl (fun _ => ?_) (fun z => absurd z (by decide))
    refine r_iconst (pc := 557) (n := 1) dL_law_557 (by decide) ?_
    refine r_goto (pc := 558) (tgt := 562) dL_law_558 rfl ?_
    refine r_istore (pc := 562) (xs' := [some (aR 99 0), some (aR 6 0), some (aR 60 0), some (aI nb), some (aI nk), some (aI dy), some (aI lk), some (aI 1), some (aI tn), some (aI t), some (aI z), some (aI dd), some (aI b), some (aI p), some (aI (s493 % (dy + 5))), some (aI (-1013)), none, none, none]) dL_law_562 (Nat.le_of_ble_eq_true rfl) rfl ?_
    refine r_goto (pc := 564) (tgt := 1226) dL_law_564 rfl ?_
    refine r_drop (xs' := [some (aR 99 0), some (aR 6 0), some (aR 60 0), some (aI nb), some (aI nk), some (aI dy), some (aI lk), some (aI 1), some (aI tn), some (aI t), none, some (aI dd), some (aI b), some (aI p), some (aI (s493 % (dy + 5))), some (aI (-1013)), none, none, none]) 10 rfl ?_
    refine r_drop (xs' := [some (aR 99 0), some (aR 6 0), some (aR 60 0), some (aI nb), some (aI nk), some (aI dy), some (aI lk), some (aI 1), some (aI tn), some (aI t), none, none, some (aI b), some (aI p), some (aI (s493 % (dy + 5))), some (aI (-1013)), none, none, none]) 11 rfl ?_
    refine r_drop (xs' := [some (aR 99 0), some (aR 6 0), some (aR 60 0), some (aI nb), some (aI nk), some (aI dy), some (aI lk), some (aI 1), some (aI tn), some (aI t), none, none, none, some (aI p), some (aI (s493 % (dy + 5))), some (aI (-1013)), none, none, none]) 12 rfl ?_
    refine r_drop (xs' := [some (aR 99 0), some (aR 6 0), some (aR 60 0), some (aI nb), some (aI nk), some (aI dy), some (aI lk), some (aI 1), some (aI tn), some (aI t), none, none, none, none, some (aI (s493 % (dy + 5))), some (aI (-1013)), none, none, none]) 13 rfl ?_
    refine r_drop (xs' := [some (aR 99 0), some (aR 6 0), some (aR 60 0), some (aI nb), some (aI nk), some (aI dy), some (aI lk), some (aI 1), some (aI tn), some (aI t), none, none, none, none, none, some (aI (-1013)), none, none, none]) 14 rfl ?_
    refine r_drop (xs' := [some (aR 99 0), some (aR 6 0), some (aR 60 0), some (aI nb), some (aI nk), some (aI dy), some (aI lk), some (aI 1), some (aI tn), some (aI t), none, none, none, none, none, none, none, none, none]) 15 rfl ?_
    refine r_wide (cs' := cs + 300) (sl' := sl + 3000) (by omega) (by omega) ?_
    exact K _ _ _ _ l9 (by omega) (by omega) (by omega)
  · refine r_istore (pc := 522) (xs' := [some (aR 99 0), some (aR 6 0), some (aR 60 0), some (aI nb), some (aI nk), some (aI dy), some (aI lk), some (aI 1), some (aI tn), some (aI t), some (aI z), some (aI dd), some (aI b), some (aI p), some (aI (s493 % (dy + 5))), some (aI 0), none, none, none]) dL_law_522 (Nat.le_of_ble_eq_true rfl) rfl ?_
    refine r_iload (pc := 524) dL_law_524 rfl ?_
    refine r_sipush (pc := 526) (n := (-1013)) dL_law_526 rfl (by decide) ?_
    refine r_icmp_eq (pc := 529) (tgt := 557) dL_law_529 rfl (fun z => absurd z (by decide)) (fun _ => ?_)
    refine r_iload (pc := 532) dL_law_532 rfl ?_
    refine r_if_ne (pc := 534) (tgt := 561) dL_law_534 rfl (fun z => absurd z (by decide)) (fun _ => ?_)
    refine r_aload_n (pc := 537) dL_law_537 rfl ?_
    refine r_iload (pc := 538) dL_law_538 rfl ?_
    refine r_iconst (pc := 540) (n := 1) dL_law_540 (by decide) ?_
    refine d1_V (pc := 541) (t := 6) (i := 0) (rest := []) (cs' := (cs + 60)) (sl' := (sl + 473)) mv_L_75 (KL_boxIs l9.1 (b := b) (w := 1) (v := h9 1 b 1) (by omega) (by omega) (by omega) is_1) rfl ⟨(Nat.le_of_ble_eq_true rfl), (Nat.le_of_ble_eq_true rfl)⟩ (Nat.le_of_ble_eq_true rfl) dL_law_541 (show (0 : Int) ≤ 0 by omega) (show 0 < 1 by omega) ⟨rfl, (by show _ ≤ 600104; omega)⟩ ⟨rfl, (by show _ ≤ 7301314; omega)⟩ rfl ?_
    refine r_if_lt (pc := 544) (tgt := 561) dL_law_544 rfl (fun c544 => (by exfalso; omega)) (fun c544 => ?_)
    refine r_aload_n (pc := 547) dL_law_547 rfl ?_
    refine r_iload (pc := 548) dL_law_548 rfl ?_
    refine r_iconst (pc := 550) (n := 2) dL_law_550 (by decide) ?_
    refine d1_V (pc := 551) (t := 6) (i := 0) (rest := []) (cs' := (cs + 62)) (sl' := (sl + 485)) mv_L_75 (KL_boxIs l9.1 (b := b) (w := 2) (v := 0) (by omega) (by omega) (by omega) (is_2z c3)) rfl ⟨(Nat.le_of_ble_eq_true rfl), (Nat.le_of_ble_eq_true rfl)⟩ (Nat.le_of_ble_eq_true rfl) dL_law_551 (show (0 : Int) ≤ 0 by omega) (show 0 < 1 by omega) ⟨rfl, (by show _ ≤ 600104; omega)⟩ ⟨rfl, (by show _ ≤ 7301314; omega)⟩ rfl ?_
    refine r_if_ne (pc := 554) (tgt := 561) dL_law_554 rfl (fun z => absurd z (by decide)) (fun _ => ?_)
    refine r_iconst (pc := 557) (n := 1) dL_law_557 (by decide) ?_
    refine r_goto (pc := 558) (tgt := 562) dL_law_558 rfl ?_
    refine r_istore (pc := 562) (xs' := [some (aR 99 0), some (aR 6 0), some (aR 60 0), some (aI nb), some (aI nk), some (aI dy), some (aI lk), some (aI 1), some (aI tn), some (aI t), some (aI z), some (aI dd), some (aI b), some (aI p), some (aI (s493 % (dy + 5))), some (aI 0), none, none, none]) dL_law_562 (Nat.le_of_ble_eq_true rfl) rfl ?_
    refine r_goto (pc := 564) (tgt := 1226) dL_law_564 rfl ?_
    refine r_drop (xs' := [some (aR 99 0), some (aR 6 0), some (aR 60 0), some (aI nb), some (aI nk), some (aI dy), some (aI lk), some (aI 1), some (aI tn), some (aI t), none, some (aI dd), some (aI b), some (aI p), some (aI (s493 % (dy + 5))), some (aI 0), none, none, none]) 10 rfl ?_
    refine r_drop (xs' := [some (aR 99 0), some (aR 6 0), some (aR 60 0), some (aI nb), some (aI nk), some (aI dy), some (aI lk), some (aI 1), some (aI tn), some (aI t), none, none, some (aI b), some (aI p), some (aI (s493 % (dy + 5))), some (aI 0), none, none, none]) 11 rfl ?_
    refine r_drop (xs' := [some (aR 99 0), some (aR 6 0), some (aR 60 0), some (aI nb), some (aI nk), some (aI dy), some (aI lk), some (aI 1), some (aI tn), some (aI t), none, none, none, some (aI p), some (aI (s493 % (dy + 5))), some (aI 0), none, none, none]) 12 rfl ?_
    refine r_drop (xs' := [some (aR 99 0), some (aR 6 0), some (aR 60 0), some (aI nb), some (aI nk), some (aI dy), some (aI lk), some (aI 1), some (aI tn), some (aI t), none, none, none, none, some (aI (s493 % (dy + 5))), some (aI 0), none, none, none]) 13 rfl ?_
    refine r_drop (xs' := [some (aR 99 0), some (aR 6 0), some (aR 60 0), some (aI nb), some (aI nk), some (aI dy), some (aI lk), some (aI 1), some (aI tn), some (aI t), none, none, none, none, none, some (aI 0), none, none, none]) 14 rfl ?_
    refine r_drop (xs' := [some (aR 99 0), some (aR 6 0), some (aR 60 0), some (aI nb), some (aI nk), some (aI dy), some (aI lk), some (aI 1), some (aI tn), some (aI t), none, none, none, none, none, none, none, none, none]) 15 rfl ?_
    refine r_wide (cs' := cs + 300) (sl' := sl + 3000) (by omega) (by omega) ?_
    exact K _ _ _ _ l9 (by omega) (by omega) (by omega)

theorem law_handIn {nm : String} {hh : List (Nat × Nat × Nat × Nat)} {L : Nat} {sc : Nat → Int32} {hi : Hi} {nb nk dy lk tn t z dd b p : Int} {cs sl : Nat} {Q : Option Av → Hp → Prop} {X : String → Hp → Prop} (LI : LawI hi nb nk dy lk) (hdy : 0 ≤ dy ∧ dy ≤ 3000) (hz : 0 ≤ z ∧ z ≤ 134217727) (hb : 0 ≤ b ∧ b < nb) (hp9 : 0 ≤ p ∧ p < 4)  (hcs : cs + 300 ≤ 600104) (hsl : sl + 3000 ≤ 7301314) (K : ∀ (hi' : Hi) (nb' nk' dy' : Int), LawI hi' nb' nk' dy' lk → 1 ≤ nb' → dy ≤ dy' → dy' ≤ dy + 9 → Run (I_law nm hh L sc) 1226 [some (aR 99 0), some (aR 6 0), some (aR 60 0), some (aI nb'), some (aI nk'), some (aI dy'), some (aI lk), some (aI 1), some (aI tn), some (aI t), none, none, none, none, none, none, none, none, none] [] (hp hi' nb' nk') (cs + 300) (sl + 3000) Q X) : Run (I_law nm hh L sc) 574 [some (aR 99 0), some (aR 6 0), some (aR 60 0), some (aI nb), some (aI nk), some (aI dy), some (aI lk), some (aI 1), some (aI tn), some (aI t), some (aI z), some (aI dd), some (aI b), some (aI p), none, none, none, none, none] [] (hp hi nb nk) cs sl Q X := by
  obtain ⟨hI, hdd, hw, hg⟩ := id LI
  have hN := hI.num
  unfold vNum at hN
  obtain ⟨told, h9, d9, l9, c9⟩ := J_handIn LI hb.1 hb.2 (by omega)
  rcases c9 with rfl | ⟨c1, c2, c3, c4, c5, c6, d8⟩
  · refine r_aload_n (pc := 574) dL_law_574 rfl ?_
    refine r_iload (pc := 575) dL_law_575 rfl ?_
    refine r_iload (pc := 577) dL_law_577 rfl ?_
    refine d1_V (pc := 579) (t := 6) (i := 0) (rest := []) (cs' := (cs + 2)) (sl' := (sl + 12)) mv_L_66 (KL_place hI (b := b) (d := dy) (by omega) (by omega) (by omega)) rfl ⟨(Nat.le_of_ble_eq_true rfl), (Nat.le_of_ble_eq_true rfl)⟩ (Nat.le_of_ble_eq_true rfl) dL_law_579 (show (0 : Int) ≤ 0 by omega) (show 0 < 1 by omega) ⟨rfl, (by show _ ≤ 600104; omega)⟩ ⟨rfl, (by show _ ≤ 7301314; omega)⟩ rfl ?_
    refine r_istore (pc := 582) (xs' := [some (aR 99 0), some (aR 6 0), some (aR 60 0), some (aI nb), some (aI nk), some (aI dy), some (aI lk), some (aI 1), some (aI tn), some (aI t), some (aI z), some (aI dd), some (aI b), some (aI p), some (aI (plcC hi b dy)), none, none, none, none]) dL_law_582 (Nat.le_of_ble_eq_true rfl) rfl ?_
    refine r_aload_n (pc := 584) dL_law_584 rfl ?_
    refine r_iload (pc := 585) dL_law_585 rfl ?_
    refine r_bipush (pc := 587) (n := 7) dL_law_587 rfl (by decide) ?_
    refine d1_V (pc := 589) (t := 6) (i := 0) (rest := []) (cs' := (cs + 4)) (sl' := (sl + 24)) mv_L_75 (KL_boxIs hI (b := b) (w := 7) (v := bI (holC hi b (hi 6 0 8))) (by omega) (by omega) (by omega) is_7) rfl ⟨(Nat.le_of_ble_eq_true rfl), (Nat.le_of_ble_eq_true rfl)⟩ (Nat.le_of_ble_eq_true rfl) dL_law_589 (show (0 : Int) ≤ 0 by omega) (show 0 < 1 by omega) ⟨rfl, (by show _ ≤ 600104; omega)⟩ ⟨rfl, (by show _ ≤ 7301314; omega)⟩ rfl ?_
    refine r_iconst (pc := 592) (n := 1) dL_law_592 (by decide) ?_
    refine r_icmp_ne (pc := 593) (tgt := 600) dL_law_593 rfl (fun c593 => ?_) (fun c593 => ?_)
    · refine r_iconst (pc := 600) (n := 0) dL_law_600 (by decide) ?_
      refine r_istore (pc := 601) (xs' := [some (aR 99 0), some (aR 6 0), some (aR 60 0), some (aI nb), some (aI nk), some (aI dy), some (aI lk), some (aI 1), some (aI tn), some (aI t), some (aI z), some (aI dd), some (aI b), some (aI p), some (aI (plcC hi b dy)), some (aI 0), none, none, none]) dL_law_601 (Nat.le_of_ble_eq_true rfl) rfl ?_
      refine r_aload_n (pc := 603) dL_law_603 rfl ?_
      refine r_iconst (pc := 604) (n := 4) dL_law_604 (by decide) ?_
      refine r_iload (pc := 605) dL_law_605 rfl ?_
      refine r_iconst (pc := 607) (n := 0) dL_law_607 (by decide) ?_
      refine r_iconst (pc := 608) (n := 0) dL_law_608 (by decide) ?_
      refine r_iconst (pc := 609) (n := 0) dL_law_609 (by decide) ?_
      refine d1_SX (pc := 610) (rest := []) (cs' := (cs + 62)) (sl' := (sl + 485)) ms_L_81 (by simp [I_L_ask]) d9 rfl ⟨(Nat.le_of_ble_eq_true rfl), (Nat.le_of_ble_eq_true rfl)⟩ (Nat.le_of_ble_eq_true rfl) dL_law_610 ⟨rfl, (by show _ ≤ 600104; omega)⟩ ⟨rfl, (by show _ ≤ 7301314; omega)⟩ rfl ?_
      refine r_istore (pc := 613) (xs' := [some (aR 99 0), some (aR 6 0), some (aR 60 0), some (aI nb), some (aI nk), some (aI dy), some (aI lk), some (aI 1), some (aI tn), some (aI t), some (aI z), some (aI dd), some (aI b), some (aI p), some (aI (plcC hi b dy)), some (aI 0), some (aI (-1013)), none, none]) dL_law_613 (Nat.le_of_ble_eq_true rfl) rfl ?_
      refine r_iload (pc := 615) dL_law_615 rfl ?_
      refine r_sipush (pc := 617) (n := (-1013)) dL_law_617 rfl (by decide) ?_
      refine r_icmp_eq (pc := 620) (tgt := 707) dL_law_620 rfl (fun _ => ?_) (fun z => absurd z (by decide))
      refine r_iconst (pc := 707) (n := 1) dL_law_707 (by decide) ?_
      refine r_goto (pc := 708) (tgt := 712) dL_law_708 rfl ?_
      refine r_istore (pc := 712) (xs' := [some (aR 99 0), some (aR 6 0), some (aR 60 0), some (aI nb), some (aI nk), some (aI dy), some (aI lk), some (aI 1), some (aI tn), some (aI t), some (aI z), some (aI dd), some (aI b), some (aI p), some (aI (plcC hi b dy)), some (aI 0), some (aI (-1013)), none, none]) dL_law_712 (Nat.le_of_ble_eq_true rfl) rfl ?_
      refine r_goto (pc := 714) (tgt := 1226) dL_law_714 rfl ?_
      refine r_drop (xs' := [some (aR 99 0), some (aR 6 0), some (aR 60 0), some (aI nb), some (aI nk), some (aI dy), some (aI lk), some (aI 1), some (aI tn), some (aI t), none, some (aI dd), some (aI b), some (aI p), some (aI (plcC hi b dy)), some (aI 0), some (aI (-1013)), none, none]) 10 rfl ?_
      refine r_drop (xs' := [some (aR 99 0), some (aR 6 0), some (aR 60 0), some (aI nb), some (aI nk), some (aI dy), some (aI lk), some (aI 1), some (aI tn), some (aI t), none, none, some (aI b), some (aI p), some (aI (plcC hi b dy)), some (aI 0), some (aI (-1013)), none, none]) 11 rfl ?_
      refine r_drop (xs' := [some (aR 99 0), some (aR 6 0), some (aR 60 0), some (aI nb), some (aI nk), some (aI dy), some (aI lk), some (aI 1), some (aI tn), some (aI t), none, none, none, some (aI p), some (aI (plcC hi b dy)), some (aI 0), some (aI (-1013)), none, none]) 12 rfl ?_
      refine r_drop (xs' := [some (aR 99 0), some (aR 6 0), some (aR 60 0), some (aI nb), some (aI nk), some (aI dy), some (aI lk), some (aI 1), some (aI tn), some (aI t), none, none, none, none, some (aI (plcC hi b dy)), some (aI 0), some (aI (-1013)), none, none]) 13 rfl ?_
      refine r_drop (xs' := [some (aR 99 0), some (aR 6 0), some (aR 60 0), some (aI nb), some (aI nk), some (aI dy), some (aI lk), some (aI 1), some (aI tn), some (aI t), none, none, none, none, none, some (aI 0), some (aI (-1013)), none, none]) 14 rfl ?_
      refine r_drop (xs' := [some (aR 99 0), some (aR 6 0), some (aR 60 0), some (aI nb), some (aI nk), some (aI dy), some (aI lk), some (aI 1), some (aI tn), some (aI t), none, none, none, none, none, none, some (aI (-1013)), none, none]) 15 rfl ?_
      refine r_drop (xs' := [some (aR 99 0), some (aR 6 0), some (aR 60 0), some (aI nb), some (aI nk), some (aI dy), some (aI lk), some (aI 1), some (aI tn), some (aI t), none, none, none, none, none, none, none, none, none]) 16 rfl ?_
      refine r_wide (cs' := cs + 300) (sl' := sl + 3000) (by omega) (by omega) ?_
      exact K _ _ _ _ l9 (by omega) (by omega) (by omega)
    · refine r_iconst (pc := 596) (n := 1) dL_law_596 (by decide) ?_
      refine r_goto (pc := 597) (tgt := 601) dL_law_597 rfl ?_
      refine r_istore (pc := 601) (xs' := [some (aR 99 0), some (aR 6 0), some (aR 60 0), some (aI nb), some (aI nk), some (aI dy), some (aI lk), some (aI 1), some (aI tn), some (aI t), some (aI z), some (aI dd), some (aI b), some (aI p), some (aI (plcC hi b dy)), some (aI 1), none, none, none]) dL_law_601 (Nat.le_of_ble_eq_true rfl) rfl ?_
      refine r_aload_n (pc := 603) dL_law_603 rfl ?_
      refine r_iconst (pc := 604) (n := 4) dL_law_604 (by decide) ?_
      refine r_iload (pc := 605) dL_law_605 rfl ?_
      refine r_iconst (pc := 607) (n := 0) dL_law_607 (by decide) ?_
      refine r_iconst (pc := 608) (n := 0) dL_law_608 (by decide) ?_
      refine r_iconst (pc := 609) (n := 0) dL_law_609 (by decide) ?_
      refine d1_SX (pc := 610) (rest := []) (cs' := (cs + 62)) (sl' := (sl + 485)) ms_L_81 (by simp [I_L_ask]) d9 rfl ⟨(Nat.le_of_ble_eq_true rfl), (Nat.le_of_ble_eq_true rfl)⟩ (Nat.le_of_ble_eq_true rfl) dL_law_610 ⟨rfl, (by show _ ≤ 600104; omega)⟩ ⟨rfl, (by show _ ≤ 7301314; omega)⟩ rfl ?_
      refine r_istore (pc := 613) (xs' := [some (aR 99 0), some (aR 6 0), some (aR 60 0), some (aI nb), some (aI nk), some (aI dy), some (aI lk), some (aI 1), some (aI tn), some (aI t), some (aI z), some (aI dd), some (aI b), some (aI p), some (aI (plcC hi b dy)), some (aI 1), some (aI (-1013)), none, none]) dL_law_613 (Nat.le_of_ble_eq_true rfl) rfl ?_
      refine r_iload (pc := 615) dL_law_615 rfl ?_
      refine r_sipush (pc := 617) (n := (-1013)) dL_law_617 rfl (by decide) ?_
      refine r_icmp_eq (pc := 620) (tgt := 707) dL_law_620 rfl (fun _ => ?_) (fun z => absurd z (by decide))
      refine r_iconst (pc := 707) (n := 1) dL_law_707 (by decide) ?_
      refine r_goto (pc := 708) (tgt := 712) dL_law_708 rfl ?_
      refine r_istore (pc := 712) (xs' := [some (aR 99 0), some (aR 6 0), some (aR 60 0), some (aI nb), some (aI nk), some (aI dy), some (aI lk), some (aI 1), some (aI tn), some (aI t), some (aI z), some (aI dd), some (aI b), some (aI p), some (aI (plcC hi b dy)), some (aI 1), some (aI (-1013)), none, none]) dL_law_712 (Nat.le_of_ble_eq_true rfl) rfl ?_
      refine r_goto (pc := 714) (tgt := 1226) dL_law_714 rfl ?_
      refine r_drop (xs' := [some (aR 99 0), some (aR 6 0), some (aR 60 0), some (aI nb), some (aI nk), some (aI dy), some (aI lk), some (aI 1), some (aI tn), some (aI t), none, some (aI dd), some (aI b), some (aI p), some (aI (plcC hi b dy)), some (aI 1), some (aI (-1013)), none, none]) 10 rfl ?_
      refine r_drop (xs' := [some (aR 99 0), some (aR 6 0), some (aR 60 0), some (aI nb), some (aI nk), some (aI dy), some (aI lk), some (aI 1), some (aI tn), some (aI t), none, none, some (aI b), some (aI p), some (aI (plcC hi b dy)), some (aI 1), some (aI (-1013)), none, none]) 11 rfl ?_
      refine r_drop (xs' := [some (aR 99 0), some (aR 6 0), some (aR 60 0), some (aI nb), some (aI nk), some (aI dy), some (aI lk), some (aI 1), some (aI tn), some (aI t), none, none, none, some (aI p), some (aI (plcC hi b dy)), some (aI 1), some (aI (-1013)), none, none]) 12 rfl ?_
      refine r_drop (xs' := [some (aR 99 0), some (aR 6 0), some (aR 60 0), some (aI nb), some (aI nk), some (aI dy), some (aI lk), some (aI 1), some (aI tn), some (aI t), none, none, none, none, some (aI (plcC hi b dy)), some (aI 1), some (aI (-1013)), none, none]) 13 rfl ?_
      refine r_drop (xs' := [some (aR 99 0), some (aR 6 0), some (aR 60 0), some (aI nb), some (aI nk), some (aI dy), some (aI lk), some (aI 1), some (aI tn), some (aI t), none, none, none, none, none, some (aI 1), some (aI (-1013)), none, none]) 14 rfl ?_
      refine r_drop (xs' := [some (aR 99 0), some (aR 6 0), some (aR 60 0), some (aI nb), some (aI nk), some (aI dy), some (aI lk), some (aI 1), some (aI tn), some (aI t), none, none, none, none, none, none, some (aI (-1013)), none, none]) 15 rfl ?_
      refine r_drop (xs' := [some (aR 99 0), some (aR 6 0), some (aR 60 0), some (aI nb), some (aI nk), some (aI dy), some (aI lk), some (aI 1), some (aI tn), some (aI t), none, none, none, none, none, none, none, none, none]) 16 rfl ?_
      refine r_wide (cs' := cs + 300) (sl' := sl + 3000) (by omega) (by omega) ?_
      exact K _ _ _ _ l9 (by omega) (by omega) (by omega)
  · refine r_aload_n (pc := 574) dL_law_574 rfl ?_
    refine r_iload (pc := 575) dL_law_575 rfl ?_
    refine r_iload (pc := 577) dL_law_577 rfl ?_
    refine d1_V (pc := 579) (t := 6) (i := 0) (rest := []) (cs' := (cs + 2)) (sl' := (sl + 12)) mv_L_66 (KL_place hI (b := b) (d := dy) (by omega) (by omega) (by omega)) rfl ⟨(Nat.le_of_ble_eq_true rfl), (Nat.le_of_ble_eq_true rfl)⟩ (Nat.le_of_ble_eq_true rfl) dL_law_579 (show (0 : Int) ≤ 0 by omega) (show 0 < 1 by omega) ⟨rfl, (by show _ ≤ 600104; omega)⟩ ⟨rfl, (by show _ ≤ 7301314; omega)⟩ rfl ?_
    refine r_istore (pc := 582) (xs' := [some (aR 99 0), some (aR 6 0), some (aR 60 0), some (aI nb), some (aI nk), some (aI dy), some (aI lk), some (aI 1), some (aI tn), some (aI t), some (aI z), some (aI dd), some (aI b), some (aI p), some (aI (plcC hi b dy)), none, none, none, none]) dL_law_582 (Nat.le_of_ble_eq_true rfl) rfl ?_
    refine r_aload_n (pc := 584) dL_law_584 rfl ?_
    refine r_iload (pc := 585) dL_law_585 rfl ?_
    refine r_bipush (pc := 587) (n := 7) dL_law_587 rfl (by decide) ?_
    refine d1_V (pc := 589) (t := 6) (i := 0) (rest := []) (cs' := (cs + 4)) (sl' := (sl + 24)) mv_L_75 (KL_boxIs hI (b := b) (w := 7) (v := 1) (by omega) (by omega) (by omega) (is_7.trans c2)) rfl ⟨(Nat.le_of_ble_eq_true rfl), (Nat.le_of_ble_eq_true rfl)⟩ (Nat.le_of_ble_eq_true rfl) dL_law_589 (show (0 : Int) ≤ 0 by omega) (show 0 < 1 by omega) ⟨rfl, (by show _ ≤ 600104; omega)⟩ ⟨rfl, (by show _ ≤ 7301314; omega)⟩ rfl ?_
    refine r_iconst (pc := 592) (n := 1) dL_law_592 (by decide) ?_
    refine r_icmp_ne (pc := 593) (tgt := 600) dL_law_593 rfl (fun z => absurd z (by decide)) (fun _ => ?_)
    refine r_iconst (pc := 596) (n := 1) dL_law_596 (by decide) ?_
    refine r_goto (pc := 597) (tgt := 601) dL_law_597 rfl ?_
    refine r_istore (pc := 601) (xs' := [some (aR 99 0), some (aR 6 0), some (aR 60 0), some (aI nb), some (aI nk), some (aI dy), some (aI lk), some (aI 1), some (aI tn), some (aI t), some (aI z), some (aI dd), some (aI b), some (aI p), some (aI (plcC hi b dy)), some (aI 1), none, none, none]) dL_law_601 (Nat.le_of_ble_eq_true rfl) rfl ?_
    refine r_aload_n (pc := 603) dL_law_603 rfl ?_
    refine r_iconst (pc := 604) (n := 4) dL_law_604 (by decide) ?_
    refine r_iload (pc := 605) dL_law_605 rfl ?_
    refine r_iconst (pc := 607) (n := 0) dL_law_607 (by decide) ?_
    refine r_iconst (pc := 608) (n := 0) dL_law_608 (by decide) ?_
    refine r_iconst (pc := 609) (n := 0) dL_law_609 (by decide) ?_
    refine d1_SX (pc := 610) (rest := []) (cs' := (cs + 62)) (sl' := (sl + 485)) ms_L_81 (by simp [I_L_ask]) d9 rfl ⟨(Nat.le_of_ble_eq_true rfl), (Nat.le_of_ble_eq_true rfl)⟩ (Nat.le_of_ble_eq_true rfl) dL_law_610 ⟨rfl, (by show _ ≤ 600104; omega)⟩ ⟨rfl, (by show _ ≤ 7301314; omega)⟩ rfl ?_
    refine r_istore (pc := 613) (xs' := [some (aR 99 0), some (aR 6 0), some (aR 60 0), some (aI nb), some (aI nk), some (aI dy), some (aI lk), some (aI 1), some (aI tn), some (aI t), some (aI z), some (aI dd), some (aI b), some (aI p), some (aI (plcC hi b dy)), some (aI 1), some (aI told), none, none]) dL_law_613 (Nat.le_of_ble_eq_true rfl) rfl ?_
    refine r_iload (pc := 615) dL_law_615 rfl ?_
    refine r_sipush (pc := 617) (n := (-1013)) dL_law_617 rfl (by decide) ?_
    refine r_icmp_eq (pc := 620) (tgt := 707) dL_law_620 rfl (fun c620 => (by exfalso; omega)) (fun c620 => ?_)
    refine r_iload (pc := 623) dL_law_623 rfl ?_
    refine r_if_lt (pc := 625) (tgt := 711) dL_law_625 rfl (fun c625 => (by exfalso; omega)) (fun c625 => ?_)
    refine r_iload (pc := 628) dL_law_628 rfl ?_
    refine r_bipush (pc := 630) (n := 9) dL_law_630 rfl (by decide) ?_
    refine r_icmp_ge (pc := 632) (tgt := 711) dL_law_632 rfl (fun c632 => (by exfalso; omega)) (fun c632 => ?_)
    refine r_iload (pc := 635) dL_law_635 rfl ?_
    refine r_if_eq (pc := 637) (tgt := 711) dL_law_637 rfl (fun z => absurd z (by decide)) (fun _ => ?_)
    refine r_iload (pc := 640) dL_law_640 rfl ?_
    refine r_bipush (pc := 642) (n := 6) dL_law_642 rfl (by decide) ?_
    refine r_icmp_ge (pc := 644) (tgt := 711) dL_law_644 rfl (fun c644 => (by exfalso; omega)) (fun c644 => ?_)
    refine r_aload_n (pc := 647) dL_law_647 rfl ?_
    refine r_iload (pc := 648) dL_law_648 rfl ?_
    refine r_iconst (pc := 650) (n := 2) dL_law_650 (by decide) ?_
    refine d1_V (pc := 651) (t := 6) (i := 0) (rest := []) (cs' := (cs + 64)) (sl' := (sl + 497)) mv_L_75 (KL_boxIs l9.1 (b := b) (w := 2) (v := 1) (by omega) (by omega) (by omega) (is_2o c4)) rfl ⟨(Nat.le_of_ble_eq_true rfl), (Nat.le_of_ble_eq_true rfl)⟩ (Nat.le_of_ble_eq_true rfl) dL_law_651 (show (0 : Int) ≤ 0 by omega) (show 0 < 1 by omega) ⟨rfl, (by show _ ≤ 600104; omega)⟩ ⟨rfl, (by show _ ≤ 7301314; omega)⟩ rfl ?_
    refine r_iconst (pc := 654) (n := 1) dL_law_654 (by decide) ?_
    refine r_icmp_ne (pc := 655) (tgt := 711) dL_law_655 rfl (fun z => absurd z (by decide)) (fun _ => ?_)
    refine r_aload_n (pc := 658) dL_law_658 rfl ?_
    refine r_iload (pc := 659) dL_law_659 rfl ?_
    refine r_sipush (pc := 661) (n := 9999) dL_law_661 rfl (by decide) ?_
    refine d1_V (pc := 664) (t := 6) (i := 0) (rest := []) (cs' := (cs + 66)) (sl' := (sl + 509)) mv_L_66 (KL_place l9.1 (b := b) (d := 9999) (by omega) (by omega) (by omega)) rfl ⟨(Nat.le_of_ble_eq_true rfl), (Nat.le_of_ble_eq_true rfl)⟩ (Nat.le_of_ble_eq_true rfl) dL_law_664 (show (0 : Int) ≤ 0 by omega) (show 0 < 1 by omega) ⟨rfl, (by show _ ≤ 600104; omega)⟩ ⟨rfl, (by show _ ≤ 7301314; omega)⟩ rfl ?_
    refine r_aload_n (pc := 667) dL_law_667 rfl ?_
    refine r_iload (pc := 668) dL_law_668 rfl ?_
    refine r_iload (pc := 670) dL_law_670 rfl ?_
    refine d1_V (pc := 672) (t := 6) (i := 0) (rest := [aI (plcC h9 b 9999)]) (cs' := (cs + 68)) (sl' := (sl + 521)) mv_L_66 (KL_place l9.1 (b := b) (d := dy) (by omega) (by omega) (by omega)) rfl ⟨(Nat.le_of_ble_eq_true rfl), (Nat.le_of_ble_eq_true rfl)⟩ (Nat.le_of_ble_eq_true rfl) dL_law_672 (show (0 : Int) ≤ 0 by omega) (show 0 < 1 by omega) ⟨rfl, (by show _ ≤ 600104; omega)⟩ ⟨rfl, (by show _ ≤ 7301314; omega)⟩ rfl ?_
    refine r_icmp_ne (pc := 675) (tgt := 711) dL_law_675 rfl (fun c675 => absurd c5 c675) (fun c675 => ?_)
    refine r_aload_n (pc := 678) dL_law_678 rfl ?_
    refine r_iload (pc := 679) dL_law_679 rfl ?_
    refine r_sipush (pc := 681) (n := 9999) dL_law_681 rfl (by decide) ?_
    refine d1_V (pc := 684) (t := 6) (i := 0) (rest := []) (cs' := (cs + 70)) (sl' := (sl + 533)) mv_L_90 (KL_payer l9.1 (b := b) (d := 9999) (by omega) (by omega) (by omega)) rfl ⟨(Nat.le_of_ble_eq_true rfl), (Nat.le_of_ble_eq_true rfl)⟩ (Nat.le_of_ble_eq_true rfl) dL_law_684 (show (0 : Int) ≤ 0 by omega) (show 0 < 1 by omega) ⟨rfl, (by show _ ≤ 600104; omega)⟩ ⟨rfl, (by show _ ≤ 7301314; omega)⟩ rfl ?_
    refine r_iconst (pc := 687) (n := 1) dL_law_687 (by decide) ?_
    refine r_icmp_ne (pc := 688) (tgt := 711) dL_law_688 rfl (fun c688 => absurd c6 c688) (fun c688 => ?_)
    refine r_aload_n (pc := 691) dL_law_691 rfl ?_
    refine r_iconst (pc := 692) (n := 4) dL_law_692 (by decide) ?_
    refine r_iload (pc := 693) dL_law_693 rfl ?_
    refine r_iconst (pc := 695) (n := 0) dL_law_695 (by decide) ?_
    refine r_iconst (pc := 696) (n := 0) dL_law_696 (by decide) ?_
    refine r_iconst (pc := 697) (n := 0) dL_law_697 (by decide) ?_
    refine d1_SX (pc := 698) (rest := []) (cs' := (cs + 128)) (sl' := (sl + 994)) ms_L_81 (by simp [I_L_ask]) d8 rfl ⟨(Nat.le_of_ble_eq_true rfl), (Nat.le_of_ble_eq_true rfl)⟩ (Nat.le_of_ble_eq_true rfl) dL_law_698 ⟨rfl, (by show _ ≤ 600104; omega)⟩ ⟨rfl, (by show _ ≤ 7301314; omega)⟩ rfl ?_
    refine r_sipush (pc := 701) (n := (-1013)) dL_law_701 rfl (by decide) ?_
    refine r_icmp_ne (pc := 704) (tgt := 711) dL_law_704 rfl (fun z => absurd z (by decide)) (fun _ => ?_)
    refine r_iconst (pc := 707) (n := 1) dL_law_707 (by decide) ?_
    refine r_goto (pc := 708) (tgt := 712) dL_law_708 rfl ?_
    refine r_istore (pc := 712) (xs' := [some (aR 99 0), some (aR 6 0), some (aR 60 0), some (aI nb), some (aI nk), some (aI dy), some (aI lk), some (aI 1), some (aI tn), some (aI t), some (aI z), some (aI dd), some (aI b), some (aI p), some (aI (plcC hi b dy)), some (aI 1), some (aI told), none, none]) dL_law_712 (Nat.le_of_ble_eq_true rfl) rfl ?_
    refine r_goto (pc := 714) (tgt := 1226) dL_law_714 rfl ?_
    refine r_drop (xs' := [some (aR 99 0), some (aR 6 0), some (aR 60 0), some (aI nb), some (aI nk), some (aI dy), some (aI lk), some (aI 1), some (aI tn), some (aI t), none, some (aI dd), some (aI b), some (aI p), some (aI (plcC hi b dy)), some (aI 1), some (aI told), none, none]) 10 rfl ?_
    refine r_drop (xs' := [some (aR 99 0), some (aR 6 0), some (aR 60 0), some (aI nb), some (aI nk), some (aI dy), some (aI lk), some (aI 1), some (aI tn), some (aI t), none, none, some (aI b), some (aI p), some (aI (plcC hi b dy)), some (aI 1), some (aI told), none, none]) 11 rfl ?_
    refine r_drop (xs' := [some (aR 99 0), some (aR 6 0), some (aR 60 0), some (aI nb), some (aI nk), some (aI dy), some (aI lk), some (aI 1), some (aI tn), some (aI t), none, none, none, some (aI p), some (aI (plcC hi b dy)), some (aI 1), some (aI told), none, none]) 12 rfl ?_
    refine r_drop (xs' := [some (aR 99 0), some (aR 6 0), some (aR 60 0), some (aI nb), some (aI nk), some (aI dy), some (aI lk), some (aI 1), some (aI tn), some (aI t), none, none, none, none, some (aI (plcC hi b dy)), some (aI 1), some (aI told), none, none]) 13 rfl ?_
    refine r_drop (xs' := [some (aR 99 0), some (aR 6 0), some (aR 60 0), some (aI nb), some (aI nk), some (aI dy), some (aI lk), some (aI 1), some (aI tn), some (aI t), none, none, none, none, none, some (aI 1), some (aI told), none, none]) 14 rfl ?_
    refine r_drop (xs' := [some (aR 99 0), some (aR 6 0), some (aR 60 0), some (aI nb), some (aI nk), some (aI dy), some (aI lk), some (aI 1), some (aI tn), some (aI t), none, none, none, none, none, none, some (aI told), none, none]) 15 rfl ?_
    refine r_drop (xs' := [some (aR 99 0), some (aR 6 0), some (aR 60 0), some (aI nb), some (aI nk), some (aI dy), some (aI lk), some (aI 1), some (aI tn), some (aI t), none, none, none, none, none, none, none, none, none]) 16 rfl ?_
    refine r_wide (cs' := cs + 300) (sl' := sl + 3000) (by omega) (by omega) ?_
    exact K _ _ _ _ l9 (by omega) (by omega) (by omega)

theorem law_damage {nm : String} {hh : List (Nat × Nat × Nat × Nat)} {L : Nat} {sc : Nat → Int32} {hi : Hi} {nb nk dy lk tn t z dd b p : Int} {cs sl : Nat} {Q : Option Av → Hp → Prop} {X : String → Hp → Prop} (LI : LawI hi nb nk dy lk) (hdy : 0 ≤ dy ∧ dy ≤ 3000) (hz : 0 ≤ z ∧ z ≤ 134217727) (hb : 0 ≤ b ∧ b < nb) (hp9 : 0 ≤ p ∧ p < 4)  (hcs : cs + 300 ≤ 600104) (hsl : sl + 3000 ≤ 7301314) (K : ∀ (hi' : Hi) (nb' nk' dy' : Int), LawI hi' nb' nk' dy' lk → 1 ≤ nb' → dy ≤ dy' → dy' ≤ dy + 9 → Run (I_law nm hh L sc) 1226 [some (aR 99 0), some (aR 6 0), some (aR 60 0), some (aI nb'), some (aI nk'), some (aI dy'), some (aI lk), some (aI 1), some (aI tn), some (aI t), none, none, none, none, none, none, none, none, none] [] (hp hi' nb' nk') (cs + 300) (sl + 3000) Q X) : Run (I_law nm hh L sc) 724 [some (aR 99 0), some (aR 6 0), some (aR 60 0), some (aI nb), some (aI nk), some (aI dy), some (aI lk), some (aI 1), some (aI tn), some (aI t), some (aI z), some (aI dd), some (aI b), some (aI p), none, none, none, none, none] [] (hp hi nb nk) cs sl Q X := by
  obtain ⟨hI, hdd, hw, hg⟩ := id LI
  have hN := hI.num
  unfold vNum at hN
  refine r_aload_n (pc := 724) dL_law_724 rfl ?_
  refine r_iconst (pc := 725) (n := 5) dL_law_725 (by decide) ?_
  refine r_iload (pc := 726) dL_law_726 rfl ?_
  refine r_iload (pc := 728) dL_law_728 rfl ?_
  refine r_bipush (pc := 730) (n := 9) dL_law_730 rfl (by decide) ?_
  refine r_ishrX (pc := 732) dL_law_732 (fun s732 t732 u732 => ?_)
  replace u732 := u732 (by omega)
  refine r_iconst (pc := 733) (n := 5) dL_law_733 (by decide) ?_
  refine r_irem (pc := 734) dL_law_734 (by omega) (by omega) ?_
  refine r_iconst (pc := 735) (n := 1) dL_law_735 (by decide) ?_
  refine r_iload (pc := 736) dL_law_736 rfl ?_
  refine r_bipush (pc := 738) (n := 12) dL_law_738 rfl (by decide) ?_
  refine r_ishrX (pc := 740) dL_law_740 (fun s740 t740 u740 => ?_)
  replace u740 := u740 (by omega)
  refine r_bipush (pc := 741) (n := 6) dL_law_741 rfl (by decide) ?_
  refine r_irem (pc := 743) dL_law_743 (by omega) (by omega) ?_
  refine r_iadd (pc := 744) dL_law_744 (by omega) ?_
  refine r_iconst (pc := 745) (n := 0) dL_law_745 (by decide) ?_
  obtain ⟨told, h9, d9, l9, c9⟩ := J_damage LI (b := b) (co := s732 % 5) (si := 1 + (s740 % 6)) hb.1 hb.2 (by omega) (by omega)
  refine d1_SX (pc := 746) (rest := []) (cs' := (cs + 58)) (sl' := (sl + 461)) ms_L_81 (by simp [I_L_ask]) d9 rfl ⟨(Nat.le_of_ble_eq_true rfl), (Nat.le_of_ble_eq_true rfl)⟩ (Nat.le_of_ble_eq_true rfl) dL_law_746 ⟨rfl, (by show _ ≤ 600104; omega)⟩ ⟨rfl, (by show _ ≤ 7301314; omega)⟩ rfl ?_
  rcases c9 with rfl | ⟨c1, c2⟩
  · refine r_istore (pc := 749) (xs' := [some (aR 99 0), some (aR 6 0), some (aR 60 0), some (aI nb), some (aI nk), some (aI dy), some (aI lk), some (aI 1), some (aI tn), some (aI t), some (aI z), some (aI dd), some (aI b), some (aI p), some (aI (-1013)), none, none, none, none]) dL_law_749 (Nat.le_of_ble_eq_true rfl) rfl ?_
    refine r_iload (pc := 751) dL_law_751 rfl ?_
    refine r_sipush (pc := 753) (n := (-1013)) dL_law_753 rfl (by decide) ?_
    refine r_icmp_eq (pc := 756) (tgt := 776) dL_law_756 rfl (fun _ => ?_) (fun z => absurd z (by decide))
    refine r_iconst (pc := 776) (n := 1) dL_law_776 (by decide) ?_
    refine r_goto (pc := 777) (tgt := 781) dL_law_777 rfl ?_
    refine r_istore (pc := 781) (xs' := [some (aR 99 0), some (aR 6 0), some (aR 60 0), some (aI nb), some (aI nk), some (aI dy), some (aI lk), some (aI 1), some (aI tn), some (aI t), some (aI z), some (aI dd), some (aI b), some (aI p), some (aI (-1013)), none, none, none, none]) dL_law_781 (Nat.le_of_ble_eq_true rfl) rfl ?_
    refine r_goto (pc := 783) (tgt := 1226) dL_law_783 rfl ?_
    refine r_drop (xs' := [some (aR 99 0), some (aR 6 0), some (aR 60 0), some (aI nb), some (aI nk), some (aI dy), some (aI lk), some (aI 1), some (aI tn), some (aI t), none, some (aI dd), some (aI b), some (aI p), some (aI (-1013)), none, none, none, none]) 10 rfl ?_
    refine r_drop (xs' := [some (aR 99 0), some (aR 6 0), some (aR 60 0), some (aI nb), some (aI nk), some (aI dy), some (aI lk), some (aI 1), some (aI tn), some (aI t), none, none, some (aI b), some (aI p), some (aI (-1013)), none, none, none, none]) 11 rfl ?_
    refine r_drop (xs' := [some (aR 99 0), some (aR 6 0), some (aR 60 0), some (aI nb), some (aI nk), some (aI dy), some (aI lk), some (aI 1), some (aI tn), some (aI t), none, none, none, some (aI p), some (aI (-1013)), none, none, none, none]) 12 rfl ?_
    refine r_drop (xs' := [some (aR 99 0), some (aR 6 0), some (aR 60 0), some (aI nb), some (aI nk), some (aI dy), some (aI lk), some (aI 1), some (aI tn), some (aI t), none, none, none, none, some (aI (-1013)), none, none, none, none]) 13 rfl ?_
    refine r_drop (xs' := [some (aR 99 0), some (aR 6 0), some (aR 60 0), some (aI nb), some (aI nk), some (aI dy), some (aI lk), some (aI 1), some (aI tn), some (aI t), none, none, none, none, none, none, none, none, none]) 14 rfl ?_
    refine r_wide (cs' := cs + 300) (sl' := sl + 3000) (by omega) (by omega) ?_
    exact K _ _ _ _ l9 (by omega) (by omega) (by omega)
  · refine r_istore (pc := 749) (xs' := [some (aR 99 0), some (aR 6 0), some (aR 60 0), some (aI nb), some (aI nk), some (aI dy), some (aI lk), some (aI 1), some (aI tn), some (aI t), some (aI z), some (aI dd), some (aI b), some (aI p), some (aI told), none, none, none, none]) dL_law_749 (Nat.le_of_ble_eq_true rfl) rfl ?_
    refine r_iload (pc := 751) dL_law_751 rfl ?_
    refine r_sipush (pc := 753) (n := (-1013)) dL_law_753 rfl (by decide) ?_
    refine r_icmp_eq (pc := 756) (tgt := 776) dL_law_756 rfl (fun c756 => (by exfalso; omega)) (fun c756 => ?_)
    refine r_iload (pc := 759) dL_law_759 rfl ?_
    refine r_if_lt (pc := 761) (tgt := 780) dL_law_761 rfl (fun c761 => (by exfalso; omega)) (fun c761 => ?_)
    refine r_iload (pc := 764) dL_law_764 rfl ?_
    refine r_aload_n (pc := 766) dL_law_766 rfl ?_
    refine r_iload (pc := 767) dL_law_767 rfl ?_
    refine r_iconst (pc := 769) (n := 5) dL_law_769 (by decide) ?_
    refine d1_V (pc := 770) (t := 6) (i := 0) (rest := [aI told]) (cs' := (cs + 60)) (sl' := (sl + 473)) mv_L_75 (KL_boxIs l9.1 (b := b) (w := 5) (v := menC h9 b) (by omega) (by omega) (by omega) is_5) rfl ⟨(Nat.le_of_ble_eq_true rfl), (Nat.le_of_ble_eq_true rfl)⟩ (Nat.le_of_ble_eq_true rfl) dL_law_770 (show (0 : Int) ≤ 0 by omega) (show 0 < 1 by omega) ⟨rfl, (by show _ ≤ 600104; omega)⟩ ⟨rfl, (by show _ ≤ 7301314; omega)⟩ rfl ?_
    refine r_icmp_ne (pc := 773) (tgt := 780) dL_law_773 rfl (fun c773 => absurd c2 c773) (fun c773 => ?_)
    refine r_iconst (pc := 776) (n := 1) dL_law_776 (by decide) ?_
    refine r_goto (pc := 777) (tgt := 781) dL_law_777 rfl ?_
    refine r_istore (pc := 781) (xs' := [some (aR 99 0), some (aR 6 0), some (aR 60 0), some (aI nb), some (aI nk), some (aI dy), some (aI lk), some (aI 1), some (aI tn), some (aI t), some (aI z), some (aI dd), some (aI b), some (aI p), some (aI told), none, none, none, none]) dL_law_781 (Nat.le_of_ble_eq_true rfl) rfl ?_
    refine r_goto (pc := 783) (tgt := 1226) dL_law_783 rfl ?_
    refine r_drop (xs' := [some (aR 99 0), some (aR 6 0), some (aR 60 0), some (aI nb), some (aI nk), some (aI dy), some (aI lk), some (aI 1), some (aI tn), some (aI t), none, some (aI dd), some (aI b), some (aI p), some (aI told), none, none, none, none]) 10 rfl ?_
    refine r_drop (xs' := [some (aR 99 0), some (aR 6 0), some (aR 60 0), some (aI nb), some (aI nk), some (aI dy), some (aI lk), some (aI 1), some (aI tn), some (aI t), none, none, some (aI b), some (aI p), some (aI told), none, none, none, none]) 11 rfl ?_
    refine r_drop (xs' := [some (aR 99 0), some (aR 6 0), some (aR 60 0), some (aI nb), some (aI nk), some (aI dy), some (aI lk), some (aI 1), some (aI tn), some (aI t), none, none, none, some (aI p), some (aI told), none, none, none, none]) 12 rfl ?_
    refine r_drop (xs' := [some (aR 99 0), some (aR 6 0), some (aR 60 0), some (aI nb), some (aI nk), some (aI dy), some (aI lk), some (aI 1), some (aI tn), some (aI t), none, none, none, none, some (aI told), none, none, none, none]) 13 rfl ?_
    refine r_drop (xs' := [some (aR 99 0), some (aR 6 0), some (aR 60 0), some (aI nb), some (aI nk), some (aI dy), some (aI lk), some (aI 1), some (aI tn), some (aI t), none, none, none, none, none, none, none, none, none]) 14 rfl ?_
    refine r_wide (cs' := cs + 300) (sl' := sl + 3000) (by omega) (by omega) ?_
    exact K _ _ _ _ l9 (by omega) (by omega) (by omega)

theorem law_mend {nm : String} {hh : List (Nat × Nat × Nat × Nat)} {L : Nat} {sc : Nat → Int32} {hi : Hi} {nb nk dy lk tn t z dd b p : Int} {cs sl : Nat} {Q : Option Av → Hp → Prop} {X : String → Hp → Prop} (LI : LawI hi nb nk dy lk) (hdy : 0 ≤ dy ∧ dy ≤ 3000) (hz : 0 ≤ z ∧ z ≤ 134217727) (hb : 0 ≤ b ∧ b < nb) (hp9 : 0 ≤ p ∧ p < 4)  (hcs : cs + 300 ≤ 600104) (hsl : sl + 3000 ≤ 7301314) (K : ∀ (hi' : Hi) (nb' nk' dy' : Int), LawI hi' nb' nk' dy' lk → 1 ≤ nb' → dy ≤ dy' → dy' ≤ dy + 9 → Run (I_law nm hh L sc) 1226 [some (aR 99 0), some (aR 6 0), some (aR 60 0), some (aI nb'), some (aI nk'), some (aI dy'), some (aI lk), some (aI 1), some (aI tn), some (aI t), none, none, none, none, none, none, none, none, none] [] (hp hi' nb' nk') (cs + 300) (sl + 3000) Q X) : Run (I_law nm hh L sc) 793 [some (aR 99 0), some (aR 6 0), some (aR 60 0), some (aI nb), some (aI nk), some (aI dy), some (aI lk), some (aI 1), some (aI tn), some (aI t), some (aI z), some (aI dd), some (aI b), some (aI p), none, none, none, none, none] [] (hp hi nb nk) cs sl Q X := by
  obtain ⟨hI, hdd, hw, hg⟩ := id LI
  have hN := hI.num
  unfold vNum at hN
  refine r_aload_n (pc := 793) dL_law_793 rfl ?_
  refine r_iload (pc := 794) dL_law_794 rfl ?_
  refine r_iconst (pc := 796) (n := 5) dL_law_796 (by decide) ?_
  refine d1_V (pc := 797) (t := 6) (i := 0) (rest := []) (cs' := (cs + 2)) (sl' := (sl + 12)) mv_L_75 (KL_boxIs hI (b := b) (w := 5) (v := menC hi b) (by omega) (by omega) (by omega) is_5) rfl ⟨(Nat.le_of_ble_eq_true rfl), (Nat.le_of_ble_eq_true rfl)⟩ (Nat.le_of_ble_eq_true rfl) dL_law_797 (show (0 : Int) ≤ 0 by omega) (show 0 < 1 by omega) ⟨rfl, (by show _ ≤ 600104; omega)⟩ ⟨rfl, (by show _ ≤ 7301314; omega)⟩ rfl ?_
  refine r_istore (pc := 800) (xs' := [some (aR 99 0), some (aR 6 0), some (aR 60 0), some (aI nb), some (aI nk), some (aI dy), some (aI lk), some (aI 1), some (aI tn), some (aI t), some (aI z), some (aI dd), some (aI b), some (aI p), some (aI (menC hi b)), none, none, none, none]) dL_law_800 (Nat.le_of_ble_eq_true rfl) rfl ?_
  refine r_aload_n (pc := 802) dL_law_802 rfl ?_
  refine r_bipush (pc := 803) (n := 6) dL_law_803 rfl (by decide) ?_
  refine r_iload (pc := 805) dL_law_805 rfl ?_
  refine r_iconst (pc := 807) (n := 0) dL_law_807 (by decide) ?_
  refine r_iconst (pc := 808) (n := 0) dL_law_808 (by decide) ?_
  refine r_iconst (pc := 809) (n := 0) dL_law_809 (by decide) ?_
  obtain ⟨told, h9, d9, l9, c9⟩ := J_mend LI (b := b) hb.1 hb.2
  refine d1_SX (pc := 810) (rest := []) (cs' := (cs + 60)) (sl' := (sl + 473)) ms_L_81 (by simp [I_L_ask]) d9 rfl ⟨(Nat.le_of_ble_eq_true rfl), (Nat.le_of_ble_eq_true rfl)⟩ (Nat.le_of_ble_eq_true rfl) dL_law_810 ⟨rfl, (by show _ ≤ 600104; omega)⟩ ⟨rfl, (by show _ ≤ 7301314; omega)⟩ rfl ?_
  rcases c9 with ⟨rfl, c2⟩ | ⟨rfl, c2, c3⟩
  · refine r_istore (pc := 813) (xs' := [some (aR 99 0), some (aR 6 0), some (aR 60 0), some (aI nb), some (aI nk), some (aI dy), some (aI lk), some (aI 1), some (aI tn), some (aI t), some (aI z), some (aI dd), some (aI b), some (aI p), some (aI (menC hi b)), some (aI (-1013)), none, none, none]) dL_law_813 (Nat.le_of_ble_eq_true rfl) rfl ?_
    refine r_iload (pc := 815) dL_law_815 rfl ?_
    refine r_sipush (pc := 817) (n := (-1013)) dL_law_817 rfl (by decide) ?_
    refine r_icmp_ne (pc := 820) (tgt := 843) dL_law_820 rfl (fun z => absurd z (by decide)) (fun _ => ?_)
    refine r_aload_n (pc := 823) dL_law_823 rfl ?_
    refine r_iload (pc := 824) dL_law_824 rfl ?_
    refine r_iconst (pc := 826) (n := 5) dL_law_826 (by decide) ?_
    refine d1_V (pc := 827) (t := 6) (i := 0) (rest := []) (cs' := (cs + 62)) (sl' := (sl + 485)) mv_L_75 (KL_boxIs l9.1 (b := b) (w := 5) (v := menC h9 b) (by omega) (by omega) (by omega) is_5) rfl ⟨(Nat.le_of_ble_eq_true rfl), (Nat.le_of_ble_eq_true rfl)⟩ (Nat.le_of_ble_eq_true rfl) dL_law_827 (show (0 : Int) ≤ 0 by omega) (show 0 < 1 by omega) ⟨rfl, (by show _ ≤ 600104; omega)⟩ ⟨rfl, (by show _ ≤ 7301314; omega)⟩ rfl ?_
    refine r_iload (pc := 830) dL_law_830 rfl ?_
    refine r_icmp_ne (pc := 832) (tgt := 839) dL_law_832 rfl (fun c832 => absurd c2 c832) (fun c832 => ?_)
    refine r_iconst (pc := 835) (n := 1) dL_law_835 (by decide) ?_
    refine r_goto (pc := 836) (tgt := 870) dL_law_836 rfl ?_
    refine r_istore (pc := 870) (xs' := [some (aR 99 0), some (aR 6 0), some (aR 60 0), some (aI nb), some (aI nk), some (aI dy), some (aI lk), some (aI 1), some (aI tn), some (aI t), some (aI z), some (aI dd), some (aI b), some (aI p), some (aI (menC hi b)), some (aI (-1013)), none, none, none]) dL_law_870 (Nat.le_of_ble_eq_true rfl) rfl ?_
    refine r_goto (pc := 872) (tgt := 1226) dL_law_872 rfl ?_
    refine r_drop (xs' := [some (aR 99 0), some (aR 6 0), some (aR 60 0), some (aI nb), some (aI nk), some (aI dy), some (aI lk), some (aI 1), some (aI tn), some (aI t), none, some (aI dd), some (aI b), some (aI p), some (aI (menC hi b)), some (aI (-1013)), none, none, none]) 10 rfl ?_
    refine r_drop (xs' := [some (aR 99 0), some (aR 6 0), some (aR 60 0), some (aI nb), some (aI nk), some (aI dy), some (aI lk), some (aI 1), some (aI tn), some (aI t), none, none, some (aI b), some (aI p), some (aI (menC hi b)), some (aI (-1013)), none, none, none]) 11 rfl ?_
    refine r_drop (xs' := [some (aR 99 0), some (aR 6 0), some (aR 60 0), some (aI nb), some (aI nk), some (aI dy), some (aI lk), some (aI 1), some (aI tn), some (aI t), none, none, none, some (aI p), some (aI (menC hi b)), some (aI (-1013)), none, none, none]) 12 rfl ?_
    refine r_drop (xs' := [some (aR 99 0), some (aR 6 0), some (aR 60 0), some (aI nb), some (aI nk), some (aI dy), some (aI lk), some (aI 1), some (aI tn), some (aI t), none, none, none, none, some (aI (menC hi b)), some (aI (-1013)), none, none, none]) 13 rfl ?_
    refine r_drop (xs' := [some (aR 99 0), some (aR 6 0), some (aR 60 0), some (aI nb), some (aI nk), some (aI dy), some (aI lk), some (aI 1), some (aI tn), some (aI t), none, none, none, none, none, some (aI (-1013)), none, none, none]) 14 rfl ?_
    refine r_drop (xs' := [some (aR 99 0), some (aR 6 0), some (aR 60 0), some (aI nb), some (aI nk), some (aI dy), some (aI lk), some (aI 1), some (aI tn), some (aI t), none, none, none, none, none, none, none, none, none]) 15 rfl ?_
    refine r_wide (cs' := cs + 300) (sl' := sl + 3000) (by omega) (by omega) ?_
    exact K _ _ _ _ l9 (by omega) (by omega) (by omega)
  · refine r_istore (pc := 813) (xs' := [some (aR 99 0), some (aR 6 0), some (aR 60 0), some (aI nb), some (aI nk), some (aI dy), some (aI lk), some (aI 1), some (aI tn), some (aI t), some (aI z), some (aI dd), some (aI b), some (aI p), some (aI (menC hi b)), some (aI (menC hi b)), none, none, none]) dL_law_813 (Nat.le_of_ble_eq_true rfl) rfl ?_
    refine r_iload (pc := 815) dL_law_815 rfl ?_
    refine r_sipush (pc := 817) (n := (-1013)) dL_law_817 rfl (by decide) ?_
    refine r_icmp_ne (pc := 820) (tgt := 843) dL_law_820 rfl (fun c820 => ?_) (fun c820 => (by exfalso; omega))
    refine r_iload (pc := 843) dL_law_843 rfl ?_
    refine r_iload (pc := 845) dL_law_845 rfl ?_
    refine r_icmp_ne (pc := 847) (tgt := 869) dL_law_847 rfl (fun c847 => absurd rfl c847) (fun c847 => ?_)
    refine r_iload (pc := 850) dL_law_850 rfl ?_
    refine r_if_le (pc := 852) (tgt := 869) dL_law_852 rfl (fun c852 => (by exfalso; omega)) (fun c852 => ?_)
    refine r_aload_n (pc := 855) dL_law_855 rfl ?_
    refine r_iload (pc := 856) dL_law_856 rfl ?_
    refine r_iconst (pc := 858) (n := 5) dL_law_858 (by decide) ?_
    refine d1_V (pc := 859) (t := 6) (i := 0) (rest := []) (cs' := (cs + 62)) (sl' := (sl + 485)) mv_L_75 (KL_boxIs l9.1 (b := b) (w := 5) (v := 0) (by omega) (by omega) (by omega) (is_5.trans c3)) rfl ⟨(Nat.le_of_ble_eq_true rfl), (Nat.le_of_ble_eq_true rfl)⟩ (Nat.le_of_ble_eq_true rfl) dL_law_859 (show (0 : Int) ≤ 0 by omega) (show 0 < 1 by omega) ⟨rfl, (by show _ ≤ 600104; omega)⟩ ⟨rfl, (by show _ ≤ 7301314; omega)⟩ rfl ?_
    refine r_if_ne (pc := 862) (tgt := 869) dL_law_862 rfl (fun z => absurd z (by decide)) (fun _ => ?_)
    refine r_iconst (pc := 865) (n := 1) dL_law_865 (by decide) ?_
    refine r_goto (pc := 866) (tgt := 870) dL_law_866 rfl ?_
    refine r_istore (pc := 870) (xs' := [some (aR 99 0), some (aR 6 0), some (aR 60 0), some (aI nb), some (aI nk), some (aI dy), some (aI lk), some (aI 1), some (aI tn), some (aI t), some (aI z), some (aI dd), some (aI b), some (aI p), some (aI (menC hi b)), some (aI (menC hi b)), none, none, none]) dL_law_870 (Nat.le_of_ble_eq_true rfl) rfl ?_
    refine r_goto (pc := 872) (tgt := 1226) dL_law_872 rfl ?_
    refine r_drop (xs' := [some (aR 99 0), some (aR 6 0), some (aR 60 0), some (aI nb), some (aI nk), some (aI dy), some (aI lk), some (aI 1), some (aI tn), some (aI t), none, some (aI dd), some (aI b), some (aI p), some (aI (menC hi b)), some (aI (menC hi b)), none, none, none]) 10 rfl ?_
    refine r_drop (xs' := [some (aR 99 0), some (aR 6 0), some (aR 60 0), some (aI nb), some (aI nk), some (aI dy), some (aI lk), some (aI 1), some (aI tn), some (aI t), none, none, some (aI b), some (aI p), some (aI (menC hi b)), some (aI (menC hi b)), none, none, none]) 11 rfl ?_
    refine r_drop (xs' := [some (aR 99 0), some (aR 6 0), some (aR 60 0), some (aI nb), some (aI nk), some (aI dy), some (aI lk), some (aI 1), some (aI tn), some (aI t), none, none, none, some (aI p), some (aI (menC hi b)), some (aI (menC hi b)), none, none, none]) 12 rfl ?_
    refine r_drop (xs' := [some (aR 99 0), some (aR 6 0), some (aR 60 0), some (aI nb), some (aI nk), some (aI dy), some (aI lk), some (aI 1), some (aI tn), some (aI t), none, none, none, none, some (aI (menC hi b)), some (aI (menC hi b)), none, none, none]) 13 rfl ?_
    refine r_drop (xs' := [some (aR 99 0), some (aR 6 0), some (aR 60 0), some (aI nb), some (aI nk), some (aI dy), some (aI lk), some (aI 1), some (aI tn), some (aI t), none, none, none, none, none, some (aI (menC hi b)), none, none, none]) 14 rfl ?_
    refine r_drop (xs' := [some (aR 99 0), some (aR 6 0), some (aR 60 0), some (aI nb), some (aI nk), some (aI dy), some (aI lk), some (aI 1), some (aI tn), some (aI t), none, none, none, none, none, none, none, none, none]) 15 rfl ?_
    refine r_wide (cs' := cs + 300) (sl' := sl + 3000) (by omega) (by omega) ?_
    exact K _ _ _ _ l9 (by omega) (by omega) (by omega)

theorem law_book {nm : String} {hh : List (Nat × Nat × Nat × Nat)} {L : Nat} {sc : Nat → Int32} {hi : Hi} {nb nk dy lk tn t z dd b p : Int} {cs sl : Nat} {Q : Option Av → Hp → Prop} {X : String → Hp → Prop} (LI : LawI hi nb nk dy lk) (hdy : 0 ≤ dy ∧ dy ≤ 3000) (hz : 0 ≤ z ∧ z ≤ 134217727) (hb : 0 ≤ b ∧ b < nb) (hp9 : 0 ≤ p ∧ p < 4) (h20 : nk < 20) (hcs : cs + 300 ≤ 600104) (hsl : sl + 3000 ≤ 7301314) (K : ∀ (hi' : Hi) (nb' nk' dy' : Int), LawI hi' nb' nk' dy' lk → 1 ≤ nb' → dy ≤ dy' → dy' ≤ dy + 9 → Run (I_law nm hh L sc) 1226 [some (aR 99 0), some (aR 6 0), some (aR 60 0), some (aI nb'), some (aI nk'), some (aI dy'), some (aI lk), some (aI 1), some (aI tn), some (aI t), none, none, none, none, none, none, none, none, none] [] (hp hi' nb' nk') (cs + 300) (sl + 3000) Q X) : Run (I_law nm hh L sc) 889 [some (aR 99 0), some (aR 6 0), some (aR 60 0), some (aI nb), some (aI nk), some (aI dy), some (aI lk), some (aI 1), some (aI tn), some (aI t), some (aI z), some (aI dd), some (aI b), some (aI p), none, none, none, none, none] [] (hp hi nb nk) cs sl Q X := by
  obtain ⟨hI, hdd, hw, hg⟩ := id LI
  have hN := hI.num
  unfold vNum at hN
  refine r_aload_n (pc := 889) dL_law_889 rfl ?_
  refine r_iload (pc := 890) dL_law_890 rfl ?_
  refine r_iconst (pc := 892) (n := 1) dL_law_892 (by decide) ?_
  refine r_iload (pc := 893) dL_law_893 rfl ?_
  refine r_bipush (pc := 895) (n := 9) dL_law_895 rfl (by decide) ?_
  refine r_ishrX (pc := 897) dL_law_897 (fun s897 t897 u897 => ?_)
  replace u897 := u897 (by omega)
  refine r_iconst (pc := 898) (n := 4) dL_law_898 (by decide) ?_
  refine r_irem (pc := 899) dL_law_899 (by omega) (by omega) ?_
  refine r_iadd (pc := 900) dL_law_900 (by omega) ?_
  refine p_iast (pc := 901) (n9 := 1) (nI := 20) rfl dL_law_901 rfl (by decide) (by decide) rfl (by omega) (by omega) ?_
  refine r_aload_n (pc := 902) dL_law_902 rfl ?_
  refine r_bipush (pc := 903) (n := 7) dL_law_903 rfl (by decide) ?_
  refine r_iload (pc := 905) dL_law_905 rfl ?_
  refine r_iload (pc := 907) dL_law_907 rfl ?_
  refine r_iconst (pc := 909) (n := 3) dL_law_909 (by decide) ?_
  refine r_irem (pc := 910) dL_law_910 (by omega) (by omega) ?_
  refine r_aload_n (pc := 911) dL_law_911 rfl ?_
  refine r_iload (pc := 912) dL_law_912 rfl ?_
  refine q_iald (pc := 914) (n9 := 1) (nI := 20) (v := 1 + (s897 % 4)) rfl dL_law_914 rfl (by decide) (by decide) rfl (by omega) (by omega) (by simp [up1]) ?_
  refine r_iconst (pc := 915) (n := 0) dL_law_915 (by decide) ?_
  obtain ⟨h9, d9, l9⟩ := J_book LI h20 (po := p) (kd := z % 3) (wa := 1 + (s897 % 4)) (by omega) (by omega) (by omega)
  refine d1_SX (pc := 916) (rest := []) (cs' := (cs + 58)) (sl' := (sl + 461)) ms_L_81 (by simp [I_L_ask]) d9 rfl ⟨(Nat.le_of_ble_eq_true rfl), (Nat.le_of_ble_eq_true rfl)⟩ (Nat.le_of_ble_eq_true rfl) dL_law_916 ⟨rfl, (by show _ ≤ 600104; omega)⟩ ⟨rfl, (by show _ ≤ 7301314; omega)⟩ rfl ?_
  refine r_iload (pc := 919) dL_law_919 rfl ?_
  refine r_icmp_ne (pc := 921) (tgt := 928) dL_law_921 rfl (fun c921 => absurd rfl c921) (fun c921 => ?_)
  refine r_iconst (pc := 924) (n := 1) dL_law_924 (by decide) ?_
  refine r_goto (pc := 925) (tgt := 929) dL_law_925 rfl ?_
  refine r_istore (pc := 929) (xs' := [some (aR 99 0), some (aR 6 0), some (aR 60 0), some (aI nb), some (aI nk), some (aI dy), some (aI lk), some (aI 1), some (aI tn), some (aI t), some (aI z), some (aI dd), some (aI b), some (aI p), none, none, none, none, none]) dL_law_929 (Nat.le_of_ble_eq_true rfl) rfl ?_
  refine r_iinc (pc := 931) (xs' := [some (aR 99 0), some (aR 6 0), some (aR 60 0), some (aI nb), some (aI (nk + 1)), some (aI dy), some (aI lk), some (aI 1), some (aI tn), some (aI t), some (aI z), some (aI dd), some (aI b), some (aI p), none, none, none, none, none]) dL_law_931 rfl (Nat.le_of_ble_eq_true rfl) (by omega) rfl ?_
  refine r_goto (pc := 934) (tgt := 1226) dL_law_934 rfl ?_
  refine r_drop (xs' := [some (aR 99 0), some (aR 6 0), some (aR 60 0), some (aI nb), some (aI (nk + 1)), some (aI dy), some (aI lk), some (aI 1), some (aI tn), some (aI t), none, some (aI dd), some (aI b), some (aI p), none, none, none, none, none]) 10 rfl ?_
  refine r_drop (xs' := [some (aR 99 0), some (aR 6 0), some (aR 60 0), some (aI nb), some (aI (nk + 1)), some (aI dy), some (aI lk), some (aI 1), some (aI tn), some (aI t), none, none, some (aI b), some (aI p), none, none, none, none, none]) 11 rfl ?_
  refine r_drop (xs' := [some (aR 99 0), some (aR 6 0), some (aR 60 0), some (aI nb), some (aI (nk + 1)), some (aI dy), some (aI lk), some (aI 1), some (aI tn), some (aI t), none, none, none, some (aI p), none, none, none, none, none]) 12 rfl ?_
  refine r_drop (xs' := [some (aR 99 0), some (aR 6 0), some (aR 60 0), some (aI nb), some (aI (nk + 1)), some (aI dy), some (aI lk), some (aI 1), some (aI tn), some (aI t), none, none, none, none, none, none, none, none, none]) 13 rfl ?_
  refine r_wide (cs' := cs + 300) (sl' := sl + 3000) (by omega) (by omega) ?_
  exact K _ _ _ _ l9 (by omega) (by omega) (by omega)

theorem law_serve {nm : String} {hh : List (Nat × Nat × Nat × Nat)} {L : Nat} {sc : Nat → Int32} {hi : Hi} {nb nk dy lk tn t z dd b p : Int} {cs sl : Nat} {Q : Option Av → Hp → Prop} {X : String → Hp → Prop} (LI : LawI hi nb nk dy lk) (hdy : 0 ≤ dy ∧ dy ≤ 3000) (hz : 0 ≤ z ∧ z ≤ 134217727) (hb : 0 ≤ b ∧ b < nb) (hp9 : 0 ≤ p ∧ p < 4)  (hcs : cs + 300 ≤ 600104) (hsl : sl + 3000 ≤ 7301314) (K : ∀ (hi' : Hi) (nb' nk' dy' : Int), LawI hi' nb' nk' dy' lk → 1 ≤ nb' → dy ≤ dy' → dy' ≤ dy + 9 → Run (I_law nm hh L sc) 1226 [some (aR 99 0), some (aR 6 0), some (aR 60 0), some (aI nb'), some (aI nk'), some (aI dy'), some (aI lk), some (aI 1), some (aI tn), some (aI t), none, none, none, none, none, none, none, none, none] [] (hp hi' nb' nk') (cs + 300) (sl + 3000) Q X) : Run (I_law nm hh L sc) 944 [some (aR 99 0), some (aR 6 0), some (aR 60 0), some (aI nb), some (aI nk), some (aI dy), some (aI lk), some (aI 1), some (aI tn), some (aI t), some (aI z), some (aI dd), some (aI b), some (aI p), none, none, none, none, none] [] (hp hi nb nk) cs sl Q X := by
  obtain ⟨hI, hdd, hw, hg⟩ := id LI
  have hN := hI.num
  unfold vNum at hN
  refine r_iconst (pc := 944) (n := 0) dL_law_944 (by decide) ?_
  refine r_istore (pc := 945) (xs' := [some (aR 99 0), some (aR 6 0), some (aR 60 0), some (aI nb), some (aI nk), some (aI dy), some (aI lk), some (aI 1), some (aI tn), some (aI t), some (aI z), some (aI dd), some (aI b), some (aI p), some (aI 0), none, none, none, none]) dL_law_945 (Nat.le_of_ble_eq_true rfl) rfl ?_
  refine r_iconst (pc := 947) (n := 0) dL_law_947 (by decide) ?_
  refine r_istore (pc := 948) (xs' := [some (aR 99 0), some (aR 6 0), some (aR 60 0), some (aI nb), some (aI nk), some (aI dy), some (aI lk), some (aI 1), some (aI tn), some (aI t), some (aI z), some (aI dd), some (aI b), some (aI p), some (aI 0), some (aI 0), none, none, none]) dL_law_948 (Nat.le_of_ble_eq_true rfl) rfl ?_
  have loopa : ∀ (n9 : Nat) (k x : Int) (c_loopa s_loopa : Nat), (0 ≤ k ∧ k ≤ nk) → (x = sI (fun k => lacC hi k) k) → (0 ≤ x ∧ x ≤ 9 * k) → nk - k + 1 < (n9 : Int) → ((c_loopa : Nat) : Int) + 1 * (nk - k + 1) ≤ cs + 30 → ((s_loopa : Nat) : Int) + 6 * (nk - k + 1) ≤ sl + 200 → Run (I_law nm hh L sc) 950 [some (aR 99 0), some (aR 6 0), some (aR 60 0), some (aI nb), some (aI nk), some (aI dy), some (aI lk), some (aI 1), some (aI tn), some (aI t), some (aI z), some (aI dd), some (aI b), some (aI p), some (aI x), some (aI k), none, none, none] [] (hp hi nb nk) c_loopa s_loopa Q X := by
    intro n9
    induction n9 with
    | zero => intro k x c_loopa s_loopa h0 h1 h2 hf9 hc9 hs9; exfalso; omega
    | succ n9 ih_loopa =>
      intro k x c_loopa s_loopa h0 h1 h2 hf9 hc9 hs9
      have w9 := fun q0 q1 => lacC_r hI (k := k) q0 q1
      have w8 := fun q : k < nk => w9 h0.1 q
      refine r_iload (pc := 950) dL_law_950 rfl ?_
      refine r_iload (pc := 952) dL_law_952 rfl ?_
      refine r_icmp_ge (pc := 954) (tgt := 974) dL_law_954 rfl (fun c954 => ?_) (fun c954 => ?_)
      · refine r_aload_n (pc := 974) dL_law_974 rfl ?_
        refine r_callV (pc := 975) (t := 6) (i := 0) (rest := []) (cs' := c_loopa) (sl' := s_loopa) mv_L_93 (J_serve LI) rfl ⟨(Nat.le_of_ble_eq_true rfl), (Nat.le_of_ble_eq_true rfl)⟩ (Nat.le_of_ble_eq_true rfl) dL_law_975 (show (0 : Int) ≤ 0 by omega) (show 0 < 1 by omega) ⟨rfl, (by show _ ≤ 600104; omega)⟩ ⟨rfl, (by show _ ≤ 7301314; omega)⟩ rfl (fun r9 h9 hq9 => ?_) (fun E9 h9 hx9 => hx9.elim)
        obtain ⟨v9, h9, rfl, rfl, l9, c9, S2⟩ := hq9
        show Run _ 978 _ [aI v9] (hp h9 nb nk) _ _ _ _
        have q9 := sI_r (f := fun k => lacC hi k) (n := nk) (a := 0) (b := 9) (fun k k0 k1 => lacC_r hI k0 k1) (by omega)
        have r9 := sI_r (f := fun k => lacC h9 k) (n := nk) (a := 0) (b := 9) (fun k k0 k1 => lacC_r l9.1 k0 k1) (by omega)
        refine r_istore (pc := 978) (xs' := [some (aR 99 0), some (aR 6 0), some (aR 60 0), some (aI nb), some (aI nk), some (aI dy), some (aI lk), some (aI 1), some (aI tn), some (aI t), some (aI z), some (aI dd), some (aI b), some (aI p), some (aI x), some (aI v9), none, none, none]) dL_law_978 (Nat.le_of_ble_eq_true rfl) rfl ?_
        refine r_iconst (pc := 980) (n := 0) dL_law_980 (by decide) ?_
        refine r_istore (pc := 981) (xs' := [some (aR 99 0), some (aR 6 0), some (aR 60 0), some (aI nb), some (aI nk), some (aI dy), some (aI lk), some (aI 1), some (aI tn), some (aI t), some (aI z), some (aI dd), some (aI b), some (aI p), some (aI x), some (aI v9), some (aI 0), none, none]) dL_law_981 (Nat.le_of_ble_eq_true rfl) rfl ?_
        have loopb : ∀ (n9 : Nat) (j y : Int) (c_loopb s_loopb : Nat), (0 ≤ j ∧ j ≤ nk) → (y = sI (fun k => lacC hi k) nk - sI (fun k => lacC h9 k) j) → (-200 ≤ y ∧ y ≤ 200) → nk - j + 1 < (n9 : Int) → ((c_loopb : Nat) : Int) + 1 * (nk - j + 1) ≤ cs + 80 → ((s_loopb : Nat) : Int) + 6 * (nk - j + 1) ≤ sl + 500 → Run (I_law nm hh L sc) 983 [some (aR 99 0), some (aR 6 0), some (aR 60 0), some (aI nb), some (aI nk), some (aI dy), some (aI lk), some (aI 1), some (aI tn), some (aI t), some (aI z), some (aI dd), some (aI b), some (aI p), some (aI y), some (aI v9), some (aI j), none, none] [] (hp h9 nb nk) c_loopb s_loopb Q X := by
          intro n9
          induction n9 with
          | zero => intro j y c_loopb s_loopb k0 k1 k2 hf9 hc9 hs9; exfalso; omega
          | succ n9 ih_loopb =>
            intro j y c_loopb s_loopb k0 k1 k2 hf9 hc9 hs9
            have w9 := fun q0 q1 => lacC_r l9.1 (k := j) q0 q1
            have w8 := fun q : j < nk => w9 k0.1 q
            refine r_iload (pc := 983) dL_law_983 rfl ?_
            refine r_iload (pc := 985) dL_law_985 rfl ?_
            refine r_icmp_ge (pc := 987) (tgt := 1007) dL_law_987 rfl (fun c987 => ?_) (fun c987 => ?_)
            · refine r_iload (pc := 1007) dL_law_1007 rfl ?_
              refine r_iload (pc := 1009) dL_law_1009 rfl ?_
              refine r_icmp_ne (pc := 1011) (tgt := 1025) dL_law_1011 rfl (fun c1011 => absurd (by rw [k1, c9, show j = nk by omega]) c1011) (fun c1011 => ?_)
              refine r_aload_n (pc := 1014) dL_law_1014 rfl ?_
              refine r_callV (pc := 1015) (t := 6) (i := 0) (rest := []) (cs' := c_loopb) (sl' := s_loopb) mv_L_93 S2 rfl ⟨(Nat.le_of_ble_eq_true rfl), (Nat.le_of_ble_eq_true rfl)⟩ (Nat.le_of_ble_eq_true rfl) dL_law_1015 (show (0 : Int) ≤ 0 by omega) (show 0 < 1 by omega) ⟨rfl, (by show _ ≤ 600104; omega)⟩ ⟨rfl, (by show _ ≤ 7301314; omega)⟩ rfl (fun r9 h9 hq9 => ?_) (fun E9 h9 hx9 => hx9.elim)
              obtain ⟨v8, h8, rfl, rfl, l8, rfl⟩ := hq9
              show Run _ 1018 _ [aI 0] (hp h8 nb nk) _ _ _ _
              refine r_if_ne (pc := 1018) (tgt := 1025) dL_law_1018 rfl (fun z => absurd z (by decide)) (fun _ => ?_)
              refine r_iconst (pc := 1021) (n := 1) dL_law_1021 (by decide) ?_
              refine r_goto (pc := 1022) (tgt := 1026) dL_law_1022 rfl ?_
              refine r_istore (pc := 1026) (xs' := [some (aR 99 0), some (aR 6 0), some (aR 60 0), some (aI nb), some (aI nk), some (aI dy), some (aI lk), some (aI 1), some (aI tn), some (aI t), some (aI z), some (aI dd), some (aI b), some (aI p), some (aI y), some (aI v9), some (aI j), none, none]) dL_law_1026 (Nat.le_of_ble_eq_true rfl) rfl ?_
              refine r_goto (pc := 1028) (tgt := 1226) dL_law_1028 rfl ?_
              refine r_drop (xs' := [some (aR 99 0), some (aR 6 0), some (aR 60 0), some (aI nb), some (aI nk), some (aI dy), some (aI lk), some (aI 1), some (aI tn), some (aI t), none, some (aI dd), some (aI b), some (aI p), some (aI y), some (aI v9), some (aI j), none, none]) 10 rfl ?_
              refine r_drop (xs' := [some (aR 99 0), some (aR 6 0), some (aR 60 0), some (aI nb), some (aI nk), some (aI dy), some (aI lk), some (aI 1), some (aI tn), some (aI t), none, none, some (aI b), some (aI p), some (aI y), some (aI v9), some (aI j), none, none]) 11 rfl ?_
              refine r_drop (xs' := [some (aR 99 0), some (aR 6 0), some (aR 60 0), some (aI nb), some (aI nk), some (aI dy), some (aI lk), some (aI 1), some (aI tn), some (aI t), none, none, none, some (aI p), some (aI y), some (aI v9), some (aI j), none, none]) 12 rfl ?_
              refine r_drop (xs' := [some (aR 99 0), some (aR 6 0), some (aR 60 0), some (aI nb), some (aI nk), some (aI dy), some (aI lk), some (aI 1), some (aI tn), some (aI t), none, none, none, none, some (aI y), some (aI v9), some (aI j), none, none]) 13 rfl ?_
              refine r_drop (xs' := [some (aR 99 0), some (aR 6 0), some (aR 60 0), some (aI nb), some (aI nk), some (aI dy), some (aI lk), some (aI 1), some (aI tn), some (aI t), none, none, none, none, none, some (aI v9), some (aI j), none, none]) 14 rfl ?_
              refine r_drop (xs' := [some (aR 99 0), some (aR 6 0), some (aR 60 0), some (aI nb), some (aI nk), some (aI dy), some (aI lk), some (aI 1), some (aI tn), some (aI t), none, none, none, none, none, none, some (aI j), none, none]) 15 rfl ?_
              refine r_drop (xs' := [some (aR 99 0), some (aR 6 0), some (aR 60 0), some (aI nb), some (aI nk), some (aI dy), some (aI lk), some (aI 1), some (aI tn), some (aI t), none, none, none, none, none, none, none, none, none]) 16 rfl ?_
              refine r_wide (cs' := cs + 300) (sl' := sl + 3000) (by omega) (by omega) ?_
              exact K _ _ _ _ l8 (by omega) (by omega) (by omega)
            · refine r_iload (pc := 990) dL_law_990 rfl ?_
              refine r_aload_n (pc := 992) dL_law_992 rfl ?_
              refine r_iload (pc := 993) dL_law_993 rfl ?_
              refine d1_V (pc := 995) (t := 6) (i := 0) (rest := [aI y]) (cs' := (c_loopb + 1)) (sl' := (s_loopb + 6)) mv_L_78 (KL_lacks l9.1 (k := j) (by omega) (by omega)) rfl ⟨(Nat.le_of_ble_eq_true rfl), (Nat.le_of_ble_eq_true rfl)⟩ (Nat.le_of_ble_eq_true rfl) dL_law_995 (show (0 : Int) ≤ 0 by omega) (show 0 < 1 by omega) ⟨rfl, (by show _ ≤ 600104; omega)⟩ ⟨rfl, (by show _ ≤ 7301314; omega)⟩ rfl ?_
              refine r_isub (pc := 998) dL_law_998 (by have := w8 (by omega); omega) ?_
              refine r_istore (pc := 999) (xs' := [some (aR 99 0), some (aR 6 0), some (aR 60 0), some (aI nb), some (aI nk), some (aI dy), some (aI lk), some (aI 1), some (aI tn), some (aI t), some (aI z), some (aI dd), some (aI b), some (aI p), some (aI (y - (lacC h9 j))), some (aI v9), some (aI j), none, none]) dL_law_999 (Nat.le_of_ble_eq_true rfl) rfl ?_
              refine r_iinc (pc := 1001) (xs' := [some (aR 99 0), some (aR 6 0), some (aR 60 0), some (aI nb), some (aI nk), some (aI dy), some (aI lk), some (aI 1), some (aI tn), some (aI t), some (aI z), some (aI dd), some (aI b), some (aI p), some (aI (y - (lacC h9 j))), some (aI v9), some (aI (j + 1)), none, none]) dL_law_1001 rfl (Nat.le_of_ble_eq_true rfl) (by omega) rfl ?_
              refine r_goto (pc := 1004) (tgt := 983) dL_law_1004 rfl ?_
              exact ih_loopb (j + 1) (y - (lacC h9 j)) (c_loopb + 1) (s_loopb + 6) (by omega) (by rw [sI_s k0.1, k1]; omega) (by have e9 := sI_r (f := fun k => lacC h9 k) (n := j + 1) (a := 0) (b := 9) (fun k q0 q1 => lacC_r l9.1 q0 (by omega)) (by omega); rw [sI_s k0.1] at e9; omega) (by omega) (by omega) (by omega)
        exact loopb 30 0 x c_loopa s_loopa (by omega) (by rw [h1, show k = nk by omega]; show sI (fun k => lacC hi k) nk = sI (fun k => lacC hi k) nk - 0; omega) (by omega) (by omega) (by omega) (by omega)
      · refine r_iload (pc := 957) dL_law_957 rfl ?_
        refine r_aload_n (pc := 959) dL_law_959 rfl ?_
        refine r_iload (pc := 960) dL_law_960 rfl ?_
        refine d1_V (pc := 962) (t := 6) (i := 0) (rest := [aI x]) (cs' := (c_loopa + 1)) (sl' := (s_loopa + 6)) mv_L_78 (KL_lacks hI (k := k) (by omega) (by omega)) rfl ⟨(Nat.le_of_ble_eq_true rfl), (Nat.le_of_ble_eq_true rfl)⟩ (Nat.le_of_ble_eq_true rfl) dL_law_962 (show (0 : Int) ≤ 0 by omega) (show 0 < 1 by omega) ⟨rfl, (by show _ ≤ 600104; omega)⟩ ⟨rfl, (by show _ ≤ 7301314; omega)⟩ rfl ?_
        refine r_iadd (pc := 965) dL_law_965 (by have := w8 (by omega); omega) ?_
        refine r_istore (pc := 966) (xs' := [some (aR 99 0), some (aR 6 0), some (aR 60 0), some (aI nb), some (aI nk), some (aI dy), some (aI lk), some (aI 1), some (aI tn), some (aI t), some (aI z), some (aI dd), some (aI b), some (aI p), some (aI (x + (lacC hi k))), some (aI k), none, none, none]) dL_law_966 (Nat.le_of_ble_eq_true rfl) rfl ?_
        refine r_iinc (pc := 968) (xs' := [some (aR 99 0), some (aR 6 0), some (aR 60 0), some (aI nb), some (aI nk), some (aI dy), some (aI lk), some (aI 1), some (aI tn), some (aI t), some (aI z), some (aI dd), some (aI b), some (aI p), some (aI (x + (lacC hi k))), some (aI (k + 1)), none, none, none]) dL_law_968 rfl (Nat.le_of_ble_eq_true rfl) (by omega) rfl ?_
        refine r_goto (pc := 971) (tgt := 950) dL_law_971 rfl ?_
        exact ih_loopa (k + 1) (x + (lacC hi k)) (c_loopa + 1) (s_loopa + 6) (by omega) (by rw [sI_s h0.1, ← h1]) (by have := w8 (by omega); omega) (by omega) (by omega) (by omega)
  exact loopa 30 0 0 cs sl (by omega) rfl (by omega) (by omega) (by omega) (by omega)

theorem law_end {nm : String} {hh : List (Nat × Nat × Nat × Nat)} {L : Nat} {sc : Nat → Int32} {hi : Hi} {nb nk dy lk tn t z dd b p : Int} {cs sl : Nat} {Q : Option Av → Hp → Prop} {X : String → Hp → Prop} (LI : LawI hi nb nk dy lk) (hdy : 0 ≤ dy ∧ dy ≤ 3000) (hz : 0 ≤ z ∧ z ≤ 134217727) (hb : 0 ≤ b ∧ b < nb) (hp9 : 0 ≤ p ∧ p < 4) (hnk : 0 < nk) (hcs : cs + 300 ≤ 600104) (hsl : sl + 3000 ≤ 7301314) (K : ∀ (hi' : Hi) (nb' nk' dy' : Int), LawI hi' nb' nk' dy' lk → 1 ≤ nb' → dy ≤ dy' → dy' ≤ dy + 9 → Run (I_law nm hh L sc) 1226 [some (aR 99 0), some (aR 6 0), some (aR 60 0), some (aI nb'), some (aI nk'), some (aI dy'), some (aI lk), some (aI 1), some (aI tn), some (aI t), none, none, none, none, none, none, none, none, none] [] (hp hi' nb' nk') (cs + 300) (sl + 3000) Q X) : Run (I_law nm hh L sc) 1043 [some (aR 99 0), some (aR 6 0), some (aR 60 0), some (aI nb), some (aI nk), some (aI dy), some (aI lk), some (aI 1), some (aI tn), some (aI t), some (aI z), some (aI dd), some (aI b), some (aI p), none, none, none, none, none] [] (hp hi nb nk) cs sl Q X := by
  obtain ⟨hI, hdd, hw, hg⟩ := id LI
  have hN := hI.num
  unfold vNum at hN
  refine r_iload (pc := 1043) dL_law_1043 rfl ?_
  refine r_bipush (pc := 1045) (n := 9) dL_law_1045 rfl (by decide) ?_
  refine r_ishrX (pc := 1047) dL_law_1047 (fun s1047 t1047 u1047 => ?_)
  replace u1047 := u1047 (by omega)
  refine r_iload (pc := 1048) dL_law_1048 rfl ?_
  have m1050 := Int.emod_nonneg (s1047) (show nk ≠ 0 by omega)
  have n1050 := Int.emod_lt_of_pos (s1047) (show 0 < nk by omega)
  refine r_irem (pc := 1050) dL_law_1050 (by omega) (by omega) ?_
  generalize s1047 % nk = k at *
  have w9 := wan_lac hI hw (k := k) (by omega) (by omega)
  have x9 := lacC_r hI (k := k) (by omega) (by omega)
  refine r_istore (pc := 1051) (xs' := [some (aR 99 0), some (aR 6 0), some (aR 60 0), some (aI nb), some (aI nk), some (aI dy), some (aI lk), some (aI 1), some (aI tn), some (aI t), some (aI z), some (aI dd), some (aI b), some (aI p), some (aI k), none, none, none, none]) dL_law_1051 (Nat.le_of_ble_eq_true rfl) rfl ?_
  refine r_aload_n (pc := 1053) dL_law_1053 rfl ?_
  refine r_iload (pc := 1054) dL_law_1054 rfl ?_
  refine q_iald (pc := 1056) (n9 := 1) (nI := 20) (v := hi 60 0 k) rfl dL_law_1056 rfl (by decide) (by decide) rfl (by omega) (by omega) rfl ?_
  refine r_aload_n (pc := 1057) dL_law_1057 rfl ?_
  refine r_iload (pc := 1058) dL_law_1058 rfl ?_
  refine d1_V (pc := 1060) (t := 6) (i := 0) (rest := [aI (hi 60 0 k)]) (cs' := (cs + 1)) (sl' := (sl + 6)) mv_L_78 (KL_lacks hI (k := k) (by omega) (by omega)) rfl ⟨(Nat.le_of_ble_eq_true rfl), (Nat.le_of_ble_eq_true rfl)⟩ (Nat.le_of_ble_eq_true rfl) dL_law_1060 (show (0 : Int) ≤ 0 by omega) (show 0 < 1 by omega) ⟨rfl, (by show _ ≤ 600104; omega)⟩ ⟨rfl, (by show _ ≤ 7301314; omega)⟩ rfl ?_
  refine r_isub (pc := 1063) dL_law_1063 (by omega) ?_
  refine r_istore (pc := 1064) (xs' := [some (aR 99 0), some (aR 6 0), some (aR 60 0), some (aI nb), some (aI nk), some (aI dy), some (aI lk), some (aI 1), some (aI tn), some (aI t), some (aI z), some (aI dd), some (aI b), some (aI p), some (aI k), some (aI ((hi 60 0 k) - (lacC hi k))), none, none, none]) dL_law_1064 (Nat.le_of_ble_eq_true rfl) rfl ?_
  refine r_aload_n (pc := 1066) dL_law_1066 rfl ?_
  refine r_bipush (pc := 1067) (n := 8) dL_law_1067 rfl (by decide) ?_
  refine r_iload (pc := 1069) dL_law_1069 rfl ?_
  refine r_iconst (pc := 1071) (n := 0) dL_law_1071 (by decide) ?_
  refine r_iconst (pc := 1072) (n := 0) dL_law_1072 (by decide) ?_
  refine r_iconst (pc := 1073) (n := 0) dL_law_1073 (by decide) ?_
  obtain ⟨told, h9, d9, e9, l9, c9⟩ := J_end LI (k := k) (by omega) (by omega)
  refine d1_SX (pc := 1074) (rest := []) (cs' := (cs + 59)) (sl' := (sl + 467)) ms_L_81 (by simp [I_L_ask]) d9 rfl ⟨(Nat.le_of_ble_eq_true rfl), (Nat.le_of_ble_eq_true rfl)⟩ (Nat.le_of_ble_eq_true rfl) dL_law_1074 ⟨rfl, (by show _ ≤ 600104; omega)⟩ ⟨rfl, (by show _ ≤ 7301314; omega)⟩ rfl ?_
  rcases c9 with ⟨c1, rfl⟩ | ⟨c1, rfl⟩
  · refine r_istore (pc := 1077) (xs' := [some (aR 99 0), some (aR 6 0), some (aR 60 0), some (aI nb), some (aI nk), some (aI dy), some (aI lk), some (aI 1), some (aI tn), some (aI t), some (aI z), some (aI dd), some (aI b), some (aI p), some (aI k), some (aI ((hi 60 0 k) - (lacC hi k))), some (aI (-1013)), none, none]) dL_law_1077 (Nat.le_of_ble_eq_true rfl) rfl ?_
    refine r_iload (pc := 1079) dL_law_1079 rfl ?_
    refine r_aload_n (pc := 1081) dL_law_1081 rfl ?_
    refine r_iload (pc := 1082) dL_law_1082 rfl ?_
    refine q_iald (pc := 1084) (n9 := 1) (nI := 20) (v := h9 60 0 k) rfl dL_law_1084 rfl (by decide) (by decide) rfl (by omega) (by omega) rfl ?_
    refine r_if_ne (pc := 1085) (tgt := 1094) dL_law_1085 rfl (fun c1085 => (by exfalso; omega)) (fun c1085 => ?_)
    refine r_sipush (pc := 1088) (n := (-1013)) dL_law_1088 rfl (by decide) ?_
    refine r_goto (pc := 1091) (tgt := 1096) dL_law_1091 rfl ?_
    refine r_icmp_ne (pc := 1096) (tgt := 1103) dL_law_1096 rfl (fun z => absurd z (by decide)) (fun _ => ?_)
    refine r_iconst (pc := 1099) (n := 1) dL_law_1099 (by decide) ?_
    refine r_goto (pc := 1100) (tgt := 1104) dL_law_1100 rfl ?_
    refine r_istore (pc := 1104) (xs' := [some (aR 99 0), some (aR 6 0), some (aR 60 0), some (aI nb), some (aI nk), some (aI dy), some (aI lk), some (aI 1), some (aI tn), some (aI t), some (aI z), some (aI dd), some (aI b), some (aI p), some (aI k), some (aI ((hi 60 0 k) - (lacC hi k))), some (aI (-1013)), none, none]) dL_law_1104 (Nat.le_of_ble_eq_true rfl) rfl ?_
    refine r_aload_n (pc := 1106) dL_law_1106 rfl ?_
    refine r_iload (pc := 1107) dL_law_1107 rfl ?_
    refine r_iconst (pc := 1109) (n := 0) dL_law_1109 (by decide) ?_
    refine p_iast (pc := 1110) (n9 := 1) (nI := 20) rfl dL_law_1110 rfl (by decide) (by decide) rfl (by omega) (by omega) ?_
    refine r_goto (pc := 1111) (tgt := 1226) dL_law_1111 rfl ?_
    refine r_drop (xs' := [some (aR 99 0), some (aR 6 0), some (aR 60 0), some (aI nb), some (aI nk), some (aI dy), some (aI lk), some (aI 1), some (aI tn), some (aI t), none, some (aI dd), some (aI b), some (aI p), some (aI k), some (aI ((hi 60 0 k) - (lacC hi k))), some (aI (-1013)), none, none]) 10 rfl ?_
    refine r_drop (xs' := [some (aR 99 0), some (aR 6 0), some (aR 60 0), some (aI nb), some (aI nk), some (aI dy), some (aI lk), some (aI 1), some (aI tn), some (aI t), none, none, some (aI b), some (aI p), some (aI k), some (aI ((hi 60 0 k) - (lacC hi k))), some (aI (-1013)), none, none]) 11 rfl ?_
    refine r_drop (xs' := [some (aR 99 0), some (aR 6 0), some (aR 60 0), some (aI nb), some (aI nk), some (aI dy), some (aI lk), some (aI 1), some (aI tn), some (aI t), none, none, none, some (aI p), some (aI k), some (aI ((hi 60 0 k) - (lacC hi k))), some (aI (-1013)), none, none]) 12 rfl ?_
    refine r_drop (xs' := [some (aR 99 0), some (aR 6 0), some (aR 60 0), some (aI nb), some (aI nk), some (aI dy), some (aI lk), some (aI 1), some (aI tn), some (aI t), none, none, none, none, some (aI k), some (aI ((hi 60 0 k) - (lacC hi k))), some (aI (-1013)), none, none]) 13 rfl ?_
    refine r_drop (xs' := [some (aR 99 0), some (aR 6 0), some (aR 60 0), some (aI nb), some (aI nk), some (aI dy), some (aI lk), some (aI 1), some (aI tn), some (aI t), none, none, none, none, none, some (aI ((hi 60 0 k) - (lacC hi k))), some (aI (-1013)), none, none]) 14 rfl ?_
    refine r_drop (xs' := [some (aR 99 0), some (aR 6 0), some (aR 60 0), some (aI nb), some (aI nk), some (aI dy), some (aI lk), some (aI 1), some (aI tn), some (aI t), none, none, none, none, none, none, some (aI (-1013)), none, none]) 15 rfl ?_
    refine r_drop (xs' := [some (aR 99 0), some (aR 6 0), some (aR 60 0), some (aI nb), some (aI nk), some (aI dy), some (aI lk), some (aI 1), some (aI tn), some (aI t), none, none, none, none, none, none, none, none, none]) 16 rfl ?_
    refine r_wide (cs' := cs + 300) (sl' := sl + 3000) (by omega) (by omega) ?_
    exact K _ _ _ _ l9 (by omega) (by omega) (by omega)
  · refine r_istore (pc := 1077) (xs' := [some (aR 99 0), some (aR 6 0), some (aR 60 0), some (aI nb), some (aI nk), some (aI dy), some (aI lk), some (aI 1), some (aI tn), some (aI t), some (aI z), some (aI dd), some (aI b), some (aI p), some (aI k), some (aI ((hi 60 0 k) - (lacC hi k))), some (aI (hi 60 0 k - lacC hi k)), none, none]) dL_law_1077 (Nat.le_of_ble_eq_true rfl) rfl ?_
    refine r_iload (pc := 1079) dL_law_1079 rfl ?_
    refine r_aload_n (pc := 1081) dL_law_1081 rfl ?_
    refine r_iload (pc := 1082) dL_law_1082 rfl ?_
    refine q_iald (pc := 1084) (n9 := 1) (nI := 20) (v := h9 60 0 k) rfl dL_law_1084 rfl (by decide) (by decide) rfl (by omega) (by omega) rfl ?_
    refine r_if_ne (pc := 1085) (tgt := 1094) dL_law_1085 rfl (fun c1085 => ?_) (fun c1085 => (by exfalso; omega))
    refine r_iload (pc := 1094) dL_law_1094 rfl ?_
    refine r_icmp_ne (pc := 1096) (tgt := 1103) dL_law_1096 rfl (fun c1096 => absurd rfl c1096) (fun c1096 => ?_)
    refine r_iconst (pc := 1099) (n := 1) dL_law_1099 (by decide) ?_
    refine r_goto (pc := 1100) (tgt := 1104) dL_law_1100 rfl ?_
    refine r_istore (pc := 1104) (xs' := [some (aR 99 0), some (aR 6 0), some (aR 60 0), some (aI nb), some (aI nk), some (aI dy), some (aI lk), some (aI 1), some (aI tn), some (aI t), some (aI z), some (aI dd), some (aI b), some (aI p), some (aI k), some (aI ((hi 60 0 k) - (lacC hi k))), some (aI (hi 60 0 k - lacC hi k)), none, none]) dL_law_1104 (Nat.le_of_ble_eq_true rfl) rfl ?_
    refine r_aload_n (pc := 1106) dL_law_1106 rfl ?_
    refine r_iload (pc := 1107) dL_law_1107 rfl ?_
    refine r_iconst (pc := 1109) (n := 0) dL_law_1109 (by decide) ?_
    refine p_iast (pc := 1110) (n9 := 1) (nI := 20) rfl dL_law_1110 rfl (by decide) (by decide) rfl (by omega) (by omega) ?_
    refine r_goto (pc := 1111) (tgt := 1226) dL_law_1111 rfl ?_
    refine r_drop (xs' := [some (aR 99 0), some (aR 6 0), some (aR 60 0), some (aI nb), some (aI nk), some (aI dy), some (aI lk), some (aI 1), some (aI tn), some (aI t), none, some (aI dd), some (aI b), some (aI p), some (aI k), some (aI ((hi 60 0 k) - (lacC hi k))), some (aI (hi 60 0 k - lacC hi k)), none, none]) 10 rfl ?_
    refine r_drop (xs' := [some (aR 99 0), some (aR 6 0), some (aR 60 0), some (aI nb), some (aI nk), some (aI dy), some (aI lk), some (aI 1), some (aI tn), some (aI t), none, none, some (aI b), some (aI p), some (aI k), some (aI ((hi 60 0 k) - (lacC hi k))), some (aI (hi 60 0 k - lacC hi k)), none, none]) 11 rfl ?_
    refine r_drop (xs' := [some (aR 99 0), some (aR 6 0), some (aR 60 0), some (aI nb), some (aI nk), some (aI dy), some (aI lk), some (aI 1), some (aI tn), some (aI t), none, none, none, some (aI p), some (aI k), some (aI ((hi 60 0 k) - (lacC hi k))), some (aI (hi 60 0 k - lacC hi k)), none, none]) 12 rfl ?_
    refine r_drop (xs' := [some (aR 99 0), some (aR 6 0), some (aR 60 0), some (aI nb), some (aI nk), some (aI dy), some (aI lk), some (aI 1), some (aI tn), some (aI t), none, none, none, none, some (aI k), some (aI ((hi 60 0 k) - (lacC hi k))), some (aI (hi 60 0 k - lacC hi k)), none, none]) 13 rfl ?_
    refine r_drop (xs' := [some (aR 99 0), some (aR 6 0), some (aR 60 0), some (aI nb), some (aI nk), some (aI dy), some (aI lk), some (aI 1), some (aI tn), some (aI t), none, none, none, none, none, some (aI ((hi 60 0 k) - (lacC hi k))), some (aI (hi 60 0 k - lacC hi k)), none, none]) 14 rfl ?_
    refine r_drop (xs' := [some (aR 99 0), some (aR 6 0), some (aR 60 0), some (aI nb), some (aI nk), some (aI dy), some (aI lk), some (aI 1), some (aI tn), some (aI t), none, none, none, none, none, none, some (aI (hi 60 0 k - lacC hi k)), none, none]) 15 rfl ?_
    refine r_drop (xs' := [some (aR 99 0), some (aR 6 0), some (aR 60 0), some (aI nb), some (aI nk), some (aI dy), some (aI lk), some (aI 1), some (aI tn), some (aI t), none, none, none, none, none, none, none, none, none]) 16 rfl ?_
    refine r_wide (cs' := cs + 300) (sl' := sl + 3000) (by omega) (by omega) ?_
    exact K _ _ _ _ l9 (by omega) (by omega) (by omega)

theorem law_pass {nm : String} {hh : List (Nat × Nat × Nat × Nat)} {L : Nat} {sc : Nat → Int32} {hi : Hi} {nb nk dy lk tn t z dd b p : Int} {cs sl : Nat} {Q : Option Av → Hp → Prop} {X : String → Hp → Prop} (LI : LawI hi nb nk dy lk) (hdy : 0 ≤ dy ∧ dy ≤ 3000) (hz : 0 ≤ z ∧ z ≤ 134217727) (hb : 0 ≤ b ∧ b < nb) (hp9 : 0 ≤ p ∧ p < 4)  (hcs : cs + 300 ≤ 600104) (hsl : sl + 3000 ≤ 7301314) (K : ∀ (hi' : Hi) (nb' nk' dy' : Int), LawI hi' nb' nk' dy' lk → 1 ≤ nb' → dy ≤ dy' → dy' ≤ dy + 9 → Run (I_law nm hh L sc) 1226 [some (aR 99 0), some (aR 6 0), some (aR 60 0), some (aI nb'), some (aI nk'), some (aI dy'), some (aI lk), some (aI 1), some (aI tn), some (aI t), none, none, none, none, none, none, none, none, none] [] (hp hi' nb' nk') (cs + 300) (sl + 3000) Q X) : Run (I_law nm hh L sc) 1121 [some (aR 99 0), some (aR 6 0), some (aR 60 0), some (aI nb), some (aI nk), some (aI dy), some (aI lk), some (aI 1), some (aI tn), some (aI t), some (aI z), some (aI dd), some (aI b), some (aI p), none, none, none, none, none] [] (hp hi nb nk) cs sl Q X := by
  obtain ⟨hI, hdd, hw, hg⟩ := id LI
  have hN := hI.num
  unfold vNum at hN
  refine r_iload (pc := 1121) dL_law_1121 rfl ?_
  refine r_iconst (pc := 1123) (n := 1) dL_law_1123 (by decide) ?_
  refine r_iload (pc := 1124) dL_law_1124 rfl ?_
  refine r_bipush (pc := 1126) (n := 9) dL_law_1126 rfl (by decide) ?_
  refine r_ishr (pc := 1128) (z := z / 512) dL_law_1128 (ishr_9 (by omega)) (by omega) ?_
  refine r_bipush (pc := 1129) (n := 9) dL_law_1129 rfl (by decide) ?_
  refine r_irem (pc := 1131) dL_law_1131 (by omega) (by omega) ?_
  refine r_iadd (pc := 1132) dL_law_1132 (by omega) ?_
  refine r_iadd (pc := 1133) dL_law_1133 (by omega) ?_
  refine r_istore (pc := 1134) (xs' := [some (aR 99 0), some (aR 6 0), some (aR 60 0), some (aI nb), some (aI nk), some (aI (dy + (1 + ((z / 512) % 9)))), some (aI lk), some (aI 1), some (aI tn), some (aI t), some (aI z), some (aI dd), some (aI b), some (aI p), none, none, none, none, none]) dL_law_1134 (Nat.le_of_ble_eq_true rfl) rfl ?_
  refine r_aload_n (pc := 1136) dL_law_1136 rfl ?_
  refine r_iconst (pc := 1137) (n := 1) dL_law_1137 (by decide) ?_
  refine r_iload (pc := 1138) dL_law_1138 rfl ?_
  refine r_bipush (pc := 1140) (n := 9) dL_law_1140 rfl (by decide) ?_
  refine r_ishr (pc := 1142) (z := z / 512) dL_law_1142 (ishr_9 (by omega)) (by omega) ?_
  refine r_bipush (pc := 1143) (n := 9) dL_law_1143 rfl (by decide) ?_
  refine r_irem (pc := 1145) dL_law_1145 (by omega) (by omega) ?_
  refine r_iadd (pc := 1146) dL_law_1146 (by omega) ?_
  obtain ⟨h9, d9, l9⟩ := J_pass LI (d := 1 + z / 512 % 9) (by omega) (by omega)
  refine d1_V (pc := 1147) (t := 6) (i := 0) (rest := []) (cs' := (cs + 2)) (sl' := (sl + 12)) mv_L_97 d9 rfl ⟨(Nat.le_of_ble_eq_true rfl), (Nat.le_of_ble_eq_true rfl)⟩ (Nat.le_of_ble_eq_true rfl) dL_law_1147 (show (0 : Int) ≤ 0 by omega) (show 0 < 1 by omega) ⟨rfl, (by show _ ≤ 600104; omega)⟩ ⟨rfl, (by show _ ≤ 7301314; omega)⟩ rfl ?_
  refine r_iload (pc := 1150) dL_law_1150 rfl ?_
  refine r_icmp_ne (pc := 1152) (tgt := 1159) dL_law_1152 rfl (fun c1152 => absurd rfl c1152) (fun c1152 => ?_)
  refine r_iconst (pc := 1155) (n := 1) dL_law_1155 (by decide) ?_
  refine r_goto (pc := 1156) (tgt := 1160) dL_law_1156 rfl ?_
  refine r_istore (pc := 1160) (xs' := [some (aR 99 0), some (aR 6 0), some (aR 60 0), some (aI nb), some (aI nk), some (aI (dy + (1 + ((z / 512) % 9)))), some (aI lk), some (aI 1), some (aI tn), some (aI t), some (aI z), some (aI dd), some (aI b), some (aI p), none, none, none, none, none]) dL_law_1160 (Nat.le_of_ble_eq_true rfl) rfl ?_
  refine r_goto (pc := 1162) (tgt := 1226) dL_law_1162 rfl ?_
  refine r_drop (xs' := [some (aR 99 0), some (aR 6 0), some (aR 60 0), some (aI nb), some (aI nk), some (aI (dy + (1 + ((z / 512) % 9)))), some (aI lk), some (aI 1), some (aI tn), some (aI t), none, some (aI dd), some (aI b), some (aI p), none, none, none, none, none]) 10 rfl ?_
  refine r_drop (xs' := [some (aR 99 0), some (aR 6 0), some (aR 60 0), some (aI nb), some (aI nk), some (aI (dy + (1 + ((z / 512) % 9)))), some (aI lk), some (aI 1), some (aI tn), some (aI t), none, none, some (aI b), some (aI p), none, none, none, none, none]) 11 rfl ?_
  refine r_drop (xs' := [some (aR 99 0), some (aR 6 0), some (aR 60 0), some (aI nb), some (aI nk), some (aI (dy + (1 + ((z / 512) % 9)))), some (aI lk), some (aI 1), some (aI tn), some (aI t), none, none, none, some (aI p), none, none, none, none, none]) 12 rfl ?_
  refine r_drop (xs' := [some (aR 99 0), some (aR 6 0), some (aR 60 0), some (aI nb), some (aI nk), some (aI (dy + (1 + ((z / 512) % 9)))), some (aI lk), some (aI 1), some (aI tn), some (aI t), none, none, none, none, none, none, none, none, none]) 13 rfl ?_
  refine r_wide (cs' := cs + 300) (sl' := sl + 3000) (by omega) (by omega) ?_
  exact K _ _ _ _ l9 (by omega) (by omega) (by omega)

