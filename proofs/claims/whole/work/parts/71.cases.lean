/-! ===== the law: its cases (walks printed by wip/whole/tools/g71.py) ===== -/
def I_law (nm : String) (hh : List (Nat × Nat × Nat × Nat)) (L : Nat) (sc : Nat → Int32) : MI := (RL, ⟨RL, nm, "([I)Z"⟩, cL_law, 7, some .boolean, hh, room_1, some (L, sc))
theorem r_wide {I : MI} {pc : Nat} {xs : List (Option Av)} {st : List Av} {h : Hp} {cs sl cs' sl' : Nat} {Q : Option Av → Hp → Prop} {X : String → Hp → Prop} (h1 : cs ≤ cs') (h2 : sl ≤ sl') (k : Run I pc xs st h cs' sl' Q X) : Run I pc xs st h cs sl Q X := by
  intro l p e s m args below meth c D cA z0 n0 ad0 ad H locs ls B
  exact W.widen h1 h2 (k l p e s m args below meth c D cA z0 n0 ad0 ad H locs ls B)
theorem cmp_eq {x y : Int} (h : x = y) : ax_cmp x y = 0 := by
  subst h
  unfold ax_cmp
  rw [if_neg (Int.lt_irrefl _), if_pos rfl]
theorem K_X7_thrown {hi : Hi} {nb nk : Int} : Det I_X7_thrown [aR 7 0] (hp hi nb nk) (some (aI (hi 7 0 0))) (hp hi nb nk) := by
  refine st_d (xs := [some (aR 7 0)]) pn_X7 rfl rfl (Nat.le_of_ble_eq_true rfl) rfl rfl (fun Q X hQ => ?_)
  refine r_aload_n (pc := 0) dX7_thrown_0 rfl ?_
  refine q_getI (pc := 1) (jI := 0) (n9 := 1) (v := hi 7 0 0) fl_X7_108 rfl dX7_thrown_1 rfl rfl (by decide) (by decide) rfl ?_
  refine r_iret (pc := 4) dX7_thrown_4 (Or.inl rfl) (Nat.le_of_ble_eq_true rfl) (Nat.le_of_ble_eq_true rfl) ?_
  exact hQ

theorem law_cost {nm : String} {hh : List (Nat × Nat × Nat × Nat)} {L : Nat} {sc : Nat → Int32} {hi : Hi} {nb nk i : Int} {cs sl : Nat} {Q : Option Av → Hp → Prop} {X : String → Hp → Prop} (hI : Inv hi nb nk) (h0 : 0 ≤ i) (h1 : i + 5 ≤ (L : Int)) (hL : L ≤ 2560) (hcs : cs + 40 ≤ 601024) (hsl : sl + 400 ≤ 7293034) (K : ∀ (hi' : Hi) (nb' nk' : Int), Inv hi' nb' nk' → Run (I_law nm hh L sc) 1748 [some (aR 99 0), some (aR 6 0), some (aR 7 0), some (aR 60 0), some (aI i), none, none] [] (hp hi' nb' nk') (cs + 40) (sl + 400) Q X) : Run (I_law nm hh L sc) 148 [some (aR 99 0), some (aR 6 0), some (aR 7 0), some (aR 60 0), some (aI i), none, none] [] (hp hi nb nk) cs sl Q X := by
  obtain ⟨cd, b, hi1, hi2, nb1, nk1, d1, d2, e1, e2, hI2⟩ := J_cost hI (a := (sc (i + 1).toNat).toInt) (b := (sc (i + 2).toNat).toInt) (c := (sc (i + 3).toNat).toInt)
  refine r_aload_n (pc := 148) dL_law_148 rfl ?_
  refine r_aload_n (pc := 149) dL_law_149 rfl ?_
  refine r_iload (pc := 150) dL_law_150 rfl ?_
  refine r_iconst (pc := 152) (n := 1) dL_law_152 (by decide) ?_
  refine r_iadd (pc := 153) dL_law_153 (by omega) ?_
  refine r_sld (pc := 154) (L := L) (sc := sc) rfl dL_law_154 (by omega) (by omega) ?_
  refine r_aload_n (pc := 155) dL_law_155 rfl ?_
  refine r_iload (pc := 156) dL_law_156 rfl ?_
  refine r_iconst (pc := 158) (n := 2) dL_law_158 (by decide) ?_
  refine r_iadd (pc := 159) dL_law_159 (by omega) ?_
  refine r_sld (pc := 160) (L := L) (sc := sc) rfl dL_law_160 (by omega) (by omega) ?_
  refine r_aload_n (pc := 161) dL_law_161 rfl ?_
  refine r_iload (pc := 162) dL_law_162 rfl ?_
  refine r_iconst (pc := 164) (n := 3) dL_law_164 (by decide) ?_
  refine r_iadd (pc := 165) dL_law_165 (by omega) ?_
  refine r_sld (pc := 166) (L := L) (sc := sc) rfl dL_law_166 (by omega) (by omega) ?_
  refine r_aload_n (pc := 167) dL_law_167 rfl ?_
  refine d1_SX (pc := 168) (rest := []) (cs' := (cs + 4)) (sl' := (sl + 24)) ms_L_94 (by simp [I_L_cost]) d1 rfl ⟨(Nat.le_of_ble_eq_true rfl), (Nat.le_of_ble_eq_true rfl)⟩ (Nat.le_of_ble_eq_true rfl) dL_law_168 ⟨rfl, (by show _ ≤ 601024; omega)⟩ ⟨rfl, (by show _ ≤ 7293034; omega)⟩ rfl ?_
  refine r_istore (pc := 171) (xs' := [some (aR 99 0), some (aR 6 0), some (aR 7 0), some (aR 60 0), some (aI i), some (aI cd), none]) dL_law_171 (Nat.le_of_ble_eq_true rfl) rfl ?_
  refine r_aload_n (pc := 173) dL_law_173 rfl ?_
  refine r_aload_n (pc := 174) dL_law_174 rfl ?_
  refine r_iload (pc := 175) dL_law_175 rfl ?_
  refine r_iconst (pc := 177) (n := 1) dL_law_177 (by decide) ?_
  refine r_iadd (pc := 178) dL_law_178 (by omega) ?_
  refine r_sld (pc := 179) (L := L) (sc := sc) rfl dL_law_179 (by omega) (by omega) ?_
  refine r_aload_n (pc := 180) dL_law_180 rfl ?_
  refine r_iload (pc := 181) dL_law_181 rfl ?_
  refine r_iconst (pc := 183) (n := 2) dL_law_183 (by decide) ?_
  refine r_iadd (pc := 184) dL_law_184 (by omega) ?_
  refine r_sld (pc := 185) (L := L) (sc := sc) rfl dL_law_185 (by omega) (by omega) ?_
  refine r_aload_n (pc := 186) dL_law_186 rfl ?_
  refine r_iload (pc := 187) dL_law_187 rfl ?_
  refine r_iconst (pc := 189) (n := 3) dL_law_189 (by decide) ?_
  refine r_iadd (pc := 190) dL_law_190 (by omega) ?_
  refine r_sld (pc := 191) (L := L) (sc := sc) rfl dL_law_191 (by omega) (by omega) ?_
  refine d1_V (pc := 192) (t := 7) (i := 0) (rest := []) (cs' := (cs + 4)) (sl' := (sl + 24)) mv_L_99 d2 rfl ⟨(Nat.le_of_ble_eq_true rfl), (Nat.le_of_ble_eq_true rfl)⟩ (Nat.le_of_ble_eq_true rfl) dL_law_192 (show (0 : Int) ≤ 0 by omega) (show 0 < 1 by omega) ⟨rfl, (by show _ ≤ 601024; omega)⟩ ⟨rfl, (by show _ ≤ 7293034; omega)⟩ rfl ?_
  refine r_istore (pc := 195) (xs' := [some (aR 99 0), some (aR 6 0), some (aR 7 0), some (aR 60 0), some (aI i), some (aI cd), some (aI b)]) dL_law_195 (Nat.le_of_ble_eq_true rfl) rfl ?_
  refine r_aload_n (pc := 197) dL_law_197 rfl ?_
  refine d1_V (pc := 198) (t := 7) (i := 0) (rest := []) (cs' := (cs + 4)) (sl' := (sl + 24)) mv_L_100 (show Det I_X7_thrown [aR 7 0] (hp hi2 nb1 nk1) (some (aI cd)) (hp hi2 nb1 nk1) from by rw [← e1]; exact K_X7_thrown) rfl ⟨(Nat.le_of_ble_eq_true rfl), (Nat.le_of_ble_eq_true rfl)⟩ (Nat.le_of_ble_eq_true rfl) dL_law_198 (show (0 : Int) ≤ 0 by omega) (show 0 < 1 by omega) ⟨rfl, (by show _ ≤ 601024; omega)⟩ ⟨rfl, (by show _ ≤ 7293034; omega)⟩ rfl ?_
  refine r_iload (pc := 201) dL_law_201 rfl ?_
  refine r_icmp_eq (pc := 203) (tgt := 208) dL_law_203 rfl (fun c203 => ?_) (fun c203 => absurd rfl c203)
  refine r_iload (pc := 208) dL_law_208 rfl ?_
  refine r_if_ne (pc := 210) (tgt := 225) dL_law_210 rfl (fun c210 => ?_) (fun c210 => ?_)
  · refine r_goto (pc := 225) (tgt := 1748) dL_law_225 rfl ?_
    refine r_drop (xs' := [some (aR 99 0), some (aR 6 0), some (aR 7 0), some (aR 60 0), some (aI i), none, some (aI b)]) 5 rfl ?_
    refine r_drop (xs' := [some (aR 99 0), some (aR 6 0), some (aR 7 0), some (aR 60 0), some (aI i), none, none]) 6 rfl ?_
    refine r_wide (cs' := cs + 40) (sl' := sl + 400) (by omega) (by omega) ?_
    exact K _ _ _ hI2
  · refine r_aload_n (pc := 213) dL_law_213 rfl ?_
    refine r_iconst (pc := 214) (n := 0) dL_law_214 (by decide) ?_
    refine q_lald (pc := 215) (n9 := 1) (nI := 1) (v := hi2 60 0 0) rfl dL_law_215 rfl (by decide) (by decide) rfl (by omega) (by omega) rfl ?_
    refine r_iload (pc := 216) dL_law_216 rfl ?_
    refine r_i2l (pc := 218) dL_law_218 ?_
    refine r_lcmp (pc := 219) dL_law_219 ?_
    refine r_if_eq (pc := 220) (tgt := 225) dL_law_220 rfl (fun c220 => ?_) (fun c220 => absurd (cmp_eq (e2 c210)) c220)
    refine r_goto (pc := 225) (tgt := 1748) dL_law_225 rfl ?_
    refine r_drop (xs' := [some (aR 99 0), some (aR 6 0), some (aR 7 0), some (aR 60 0), some (aI i), none, some (aI b)]) 5 rfl ?_
    refine r_drop (xs' := [some (aR 99 0), some (aR 6 0), some (aR 7 0), some (aR 60 0), some (aI i), none, none]) 6 rfl ?_
    refine r_wide (cs' := cs + 40) (sl' := sl + 400) (by omega) (by omega) ?_
    exact K _ _ _ hI2

theorem law_box {nm : String} {hh : List (Nat × Nat × Nat × Nat)} {L : Nat} {sc : Nat → Int32} {hi : Hi} {nb nk i : Int} {cs sl : Nat} {Q : Option Av → Hp → Prop} {X : String → Hp → Prop} (hI : Inv hi nb nk) (h0 : 0 ≤ i) (h1 : i + 5 ≤ (L : Int)) (hL : L ≤ 2560) (hcs : cs + 40 ≤ 601024) (hsl : sl + 400 ≤ 7293034) (K : ∀ (hi' : Hi) (nb' nk' : Int), Inv hi' nb' nk' → Run (I_law nm hh L sc) 1748 [some (aR 99 0), some (aR 6 0), some (aR 7 0), some (aR 60 0), some (aI i), none, none] [] (hp hi' nb' nk') (cs + 40) (sl + 400) Q X) : Run (I_law nm hh L sc) 228 [some (aR 99 0), some (aR 6 0), some (aR 7 0), some (aR 60 0), some (aI i), none, none] [] (hp hi nb nk) cs sl Q X := by
  obtain ⟨cd, b, hi1, hi2, nb1, nk1, d1, d2, e1, e2, hI2⟩ := J_box hI (kd := (sc (i + 1).toNat).toInt) (ls := (sc (i + 2).toNat).toInt) (un := (sc (i + 3).toNat).toInt)
  refine r_aload_n (pc := 228) dL_law_228 rfl ?_
  refine r_aload_n (pc := 229) dL_law_229 rfl ?_
  refine r_iload (pc := 230) dL_law_230 rfl ?_
  refine r_iconst (pc := 232) (n := 1) dL_law_232 (by decide) ?_
  refine r_iadd (pc := 233) dL_law_233 (by omega) ?_
  refine r_sld (pc := 234) (L := L) (sc := sc) rfl dL_law_234 (by omega) (by omega) ?_
  refine r_aload_n (pc := 235) dL_law_235 rfl ?_
  refine r_iload (pc := 236) dL_law_236 rfl ?_
  refine r_iconst (pc := 238) (n := 2) dL_law_238 (by decide) ?_
  refine r_iadd (pc := 239) dL_law_239 (by omega) ?_
  refine r_sld (pc := 240) (L := L) (sc := sc) rfl dL_law_240 (by omega) (by omega) ?_
  refine r_aload_n (pc := 241) dL_law_241 rfl ?_
  refine r_iload (pc := 242) dL_law_242 rfl ?_
  refine r_iconst (pc := 244) (n := 3) dL_law_244 (by decide) ?_
  refine r_iadd (pc := 245) dL_law_245 (by omega) ?_
  refine r_sld (pc := 246) (L := L) (sc := sc) rfl dL_law_246 (by omega) (by omega) ?_
  refine r_aload_n (pc := 247) dL_law_247 rfl ?_
  refine d1_SX (pc := 248) (rest := []) (cs' := (cs + 16)) (sl' := (sl + 210)) ms_L_104 (by simp [I_L_box]) d1 rfl ⟨(Nat.le_of_ble_eq_true rfl), (Nat.le_of_ble_eq_true rfl)⟩ (Nat.le_of_ble_eq_true rfl) dL_law_248 ⟨rfl, (by show _ ≤ 601024; omega)⟩ ⟨rfl, (by show _ ≤ 7293034; omega)⟩ rfl ?_
  refine r_istore (pc := 251) (xs' := [some (aR 99 0), some (aR 6 0), some (aR 7 0), some (aR 60 0), some (aI i), some (aI cd), none]) dL_law_251 (Nat.le_of_ble_eq_true rfl) rfl ?_
  refine r_aload_n (pc := 253) dL_law_253 rfl ?_
  refine r_aload_n (pc := 254) dL_law_254 rfl ?_
  refine r_iload (pc := 255) dL_law_255 rfl ?_
  refine r_iconst (pc := 257) (n := 1) dL_law_257 (by decide) ?_
  refine r_iadd (pc := 258) dL_law_258 (by omega) ?_
  refine r_sld (pc := 259) (L := L) (sc := sc) rfl dL_law_259 (by omega) (by omega) ?_
  refine r_aload_n (pc := 260) dL_law_260 rfl ?_
  refine r_iload (pc := 261) dL_law_261 rfl ?_
  refine r_iconst (pc := 263) (n := 2) dL_law_263 (by decide) ?_
  refine r_iadd (pc := 264) dL_law_264 (by omega) ?_
  refine r_sld (pc := 265) (L := L) (sc := sc) rfl dL_law_265 (by omega) (by omega) ?_
  refine r_aload_n (pc := 266) dL_law_266 rfl ?_
  refine r_iload (pc := 267) dL_law_267 rfl ?_
  refine r_iconst (pc := 269) (n := 3) dL_law_269 (by decide) ?_
  refine r_iadd (pc := 270) dL_law_270 (by omega) ?_
  refine r_sld (pc := 271) (L := L) (sc := sc) rfl dL_law_271 (by omega) (by omega) ?_
  refine d1_V (pc := 272) (t := 7) (i := 0) (rest := []) (cs' := (cs + 16)) (sl' := (sl + 210)) mv_L_106 d2 rfl ⟨(Nat.le_of_ble_eq_true rfl), (Nat.le_of_ble_eq_true rfl)⟩ (Nat.le_of_ble_eq_true rfl) dL_law_272 (show (0 : Int) ≤ 0 by omega) (show 0 < 1 by omega) ⟨rfl, (by show _ ≤ 601024; omega)⟩ ⟨rfl, (by show _ ≤ 7293034; omega)⟩ rfl ?_
  refine r_istore (pc := 275) (xs' := [some (aR 99 0), some (aR 6 0), some (aR 7 0), some (aR 60 0), some (aI i), some (aI cd), some (aI b)]) dL_law_275 (Nat.le_of_ble_eq_true rfl) rfl ?_
  refine r_aload_n (pc := 277) dL_law_277 rfl ?_
  refine d1_V (pc := 278) (t := 7) (i := 0) (rest := []) (cs' := (cs + 16)) (sl' := (sl + 210)) mv_L_100 (show Det I_X7_thrown [aR 7 0] (hp hi2 nb1 nk1) (some (aI cd)) (hp hi2 nb1 nk1) from by rw [← e1]; exact K_X7_thrown) rfl ⟨(Nat.le_of_ble_eq_true rfl), (Nat.le_of_ble_eq_true rfl)⟩ (Nat.le_of_ble_eq_true rfl) dL_law_278 (show (0 : Int) ≤ 0 by omega) (show 0 < 1 by omega) ⟨rfl, (by show _ ≤ 601024; omega)⟩ ⟨rfl, (by show _ ≤ 7293034; omega)⟩ rfl ?_
  refine r_iload (pc := 281) dL_law_281 rfl ?_
  refine r_icmp_eq (pc := 283) (tgt := 288) dL_law_283 rfl (fun c283 => ?_) (fun c283 => absurd rfl c283)
  refine r_iload (pc := 288) dL_law_288 rfl ?_
  refine r_if_ne (pc := 290) (tgt := 305) dL_law_290 rfl (fun c290 => ?_) (fun c290 => ?_)
  · refine r_goto (pc := 305) (tgt := 1748) dL_law_305 rfl ?_
    refine r_drop (xs' := [some (aR 99 0), some (aR 6 0), some (aR 7 0), some (aR 60 0), some (aI i), none, some (aI b)]) 5 rfl ?_
    refine r_drop (xs' := [some (aR 99 0), some (aR 6 0), some (aR 7 0), some (aR 60 0), some (aI i), none, none]) 6 rfl ?_
    refine r_wide (cs' := cs + 40) (sl' := sl + 400) (by omega) (by omega) ?_
    exact K _ _ _ hI2
  · refine r_aload_n (pc := 293) dL_law_293 rfl ?_
    refine r_iconst (pc := 294) (n := 0) dL_law_294 (by decide) ?_
    refine q_lald (pc := 295) (n9 := 1) (nI := 1) (v := hi2 60 0 0) rfl dL_law_295 rfl (by decide) (by decide) rfl (by omega) (by omega) rfl ?_
    refine r_iload (pc := 296) dL_law_296 rfl ?_
    refine r_i2l (pc := 298) dL_law_298 ?_
    refine r_lcmp (pc := 299) dL_law_299 ?_
    refine r_if_eq (pc := 300) (tgt := 305) dL_law_300 rfl (fun c300 => ?_) (fun c300 => absurd (cmp_eq (e2 c290)) c300)
    refine r_goto (pc := 305) (tgt := 1748) dL_law_305 rfl ?_
    refine r_drop (xs' := [some (aR 99 0), some (aR 6 0), some (aR 7 0), some (aR 60 0), some (aI i), none, some (aI b)]) 5 rfl ?_
    refine r_drop (xs' := [some (aR 99 0), some (aR 6 0), some (aR 7 0), some (aR 60 0), some (aI i), none, none]) 6 rfl ?_
    refine r_wide (cs' := cs + 40) (sl' := sl + 400) (by omega) (by omega) ?_
    exact K _ _ _ hI2

theorem law_wash {nm : String} {hh : List (Nat × Nat × Nat × Nat)} {L : Nat} {sc : Nat → Int32} {hi : Hi} {nb nk i : Int} {cs sl : Nat} {Q : Option Av → Hp → Prop} {X : String → Hp → Prop} (hI : Inv hi nb nk) (h0 : 0 ≤ i) (h1 : i + 5 ≤ (L : Int)) (hL : L ≤ 2560) (hcs : cs + 40 ≤ 601024) (hsl : sl + 400 ≤ 7293034) (K : ∀ (hi' : Hi) (nb' nk' : Int), Inv hi' nb' nk' → Run (I_law nm hh L sc) 1748 [some (aR 99 0), some (aR 6 0), some (aR 7 0), some (aR 60 0), some (aI i), none, none] [] (hp hi' nb' nk') (cs + 40) (sl + 400) Q X) : Run (I_law nm hh L sc) 308 [some (aR 99 0), some (aR 6 0), some (aR 7 0), some (aR 60 0), some (aI i), none, none] [] (hp hi nb nk) cs sl Q X := by
  obtain ⟨cd, b, hi1, hi2, nb1, nk1, d1, d2, e1, e2, hI2, e4⟩ := J_wash hI (b := (sc (i + 1).toNat).toInt) (u := (sc (i + 2).toNat).toInt)
  refine r_aload_n (pc := 308) dL_law_308 rfl ?_
  refine r_aload_n (pc := 309) dL_law_309 rfl ?_
  refine r_iload (pc := 310) dL_law_310 rfl ?_
  refine r_iconst (pc := 312) (n := 1) dL_law_312 (by decide) ?_
  refine r_iadd (pc := 313) dL_law_313 (by omega) ?_
  refine r_sld (pc := 314) (L := L) (sc := sc) rfl dL_law_314 (by omega) (by omega) ?_
  refine r_aload_n (pc := 315) dL_law_315 rfl ?_
  refine r_iload (pc := 316) dL_law_316 rfl ?_
  refine r_iconst (pc := 318) (n := 2) dL_law_318 (by decide) ?_
  refine r_iadd (pc := 319) dL_law_319 (by omega) ?_
  refine r_sld (pc := 320) (L := L) (sc := sc) rfl dL_law_320 (by omega) (by omega) ?_
  refine r_aload_n (pc := 321) dL_law_321 rfl ?_
  refine d1_SX (pc := 322) (rest := []) (cs' := (cs + 3)) (sl' := (sl + 18)) ms_L_107 (by simp [I_L_wash]) d1 rfl ⟨(Nat.le_of_ble_eq_true rfl), (Nat.le_of_ble_eq_true rfl)⟩ (Nat.le_of_ble_eq_true rfl) dL_law_322 ⟨rfl, (by show _ ≤ 601024; omega)⟩ ⟨rfl, (by show _ ≤ 7293034; omega)⟩ rfl ?_
  refine r_istore (pc := 325) (xs' := [some (aR 99 0), some (aR 6 0), some (aR 7 0), some (aR 60 0), some (aI i), some (aI cd), none]) dL_law_325 (Nat.le_of_ble_eq_true rfl) rfl ?_
  refine r_aload_n (pc := 327) dL_law_327 rfl ?_
  refine r_aload_n (pc := 328) dL_law_328 rfl ?_
  refine r_iload (pc := 329) dL_law_329 rfl ?_
  refine r_iconst (pc := 331) (n := 1) dL_law_331 (by decide) ?_
  refine r_iadd (pc := 332) dL_law_332 (by omega) ?_
  refine r_sld (pc := 333) (L := L) (sc := sc) rfl dL_law_333 (by omega) (by omega) ?_
  refine r_aload_n (pc := 334) dL_law_334 rfl ?_
  refine r_iload (pc := 335) dL_law_335 rfl ?_
  refine r_iconst (pc := 337) (n := 2) dL_law_337 (by decide) ?_
  refine r_iadd (pc := 338) dL_law_338 (by omega) ?_
  refine r_sld (pc := 339) (L := L) (sc := sc) rfl dL_law_339 (by omega) (by omega) ?_
  refine d1_V (pc := 340) (t := 7) (i := 0) (rest := []) (cs' := (cs + 3)) (sl' := (sl + 18)) mv_L_110 d2 rfl ⟨(Nat.le_of_ble_eq_true rfl), (Nat.le_of_ble_eq_true rfl)⟩ (Nat.le_of_ble_eq_true rfl) dL_law_340 (show (0 : Int) ≤ 0 by omega) (show 0 < 1 by omega) ⟨rfl, (by show _ ≤ 601024; omega)⟩ ⟨rfl, (by show _ ≤ 7293034; omega)⟩ rfl ?_
  refine r_istore (pc := 343) (xs' := [some (aR 99 0), some (aR 6 0), some (aR 7 0), some (aR 60 0), some (aI i), some (aI cd), some (aI b)]) dL_law_343 (Nat.le_of_ble_eq_true rfl) rfl ?_
  refine r_aload_n (pc := 345) dL_law_345 rfl ?_
  refine d1_V (pc := 346) (t := 7) (i := 0) (rest := []) (cs' := (cs + 3)) (sl' := (sl + 18)) mv_L_100 (show Det I_X7_thrown [aR 7 0] (hp hi2 nb1 nk1) (some (aI cd)) (hp hi2 nb1 nk1) from by rw [← e1]; exact K_X7_thrown) rfl ⟨(Nat.le_of_ble_eq_true rfl), (Nat.le_of_ble_eq_true rfl)⟩ (Nat.le_of_ble_eq_true rfl) dL_law_346 (show (0 : Int) ≤ 0 by omega) (show 0 < 1 by omega) ⟨rfl, (by show _ ≤ 601024; omega)⟩ ⟨rfl, (by show _ ≤ 7293034; omega)⟩ rfl ?_
  refine r_iload (pc := 349) dL_law_349 rfl ?_
  refine r_icmp_eq (pc := 351) (tgt := 356) dL_law_351 rfl (fun c351 => ?_) (fun c351 => absurd rfl c351)
  refine r_iload (pc := 356) dL_law_356 rfl ?_
  refine r_if_ne (pc := 358) (tgt := 380) dL_law_358 rfl (fun c358 => ?_) (fun c358 => ?_)
  · refine r_goto (pc := 380) (tgt := 1748) dL_law_380 rfl ?_
    refine r_drop (xs' := [some (aR 99 0), some (aR 6 0), some (aR 7 0), some (aR 60 0), some (aI i), none, some (aI b)]) 5 rfl ?_
    refine r_drop (xs' := [some (aR 99 0), some (aR 6 0), some (aR 7 0), some (aR 60 0), some (aI i), none, none]) 6 rfl ?_
    refine r_wide (cs' := cs + 40) (sl' := sl + 400) (by omega) (by omega) ?_
    exact K _ _ _ hI2
  · refine r_aload_n (pc := 361) dL_law_361 rfl ?_
    refine r_iconst (pc := 362) (n := 0) dL_law_362 (by decide) ?_
    refine q_lald (pc := 363) (n9 := 1) (nI := 1) (v := hi2 60 0 0) rfl dL_law_363 rfl (by decide) (by decide) rfl (by omega) (by omega) rfl ?_
    refine r_iload (pc := 364) dL_law_364 rfl ?_
    refine r_if_eq (pc := 366) (tgt := 373) dL_law_366 rfl (fun c366 => ?_) (fun c366 => ?_)
    · refine r_lconst (pc := 373) (v := 0) dL_law_373 rfl (by decide) ?_
      refine r_lcmp (pc := 374) dL_law_374 ?_
      refine r_if_eq (pc := 375) (tgt := 380) dL_law_375 rfl (fun c375 => ?_) (fun c375 => absurd (cmp_eq ((by have := e2 c358; omega))) c375)
      refine r_goto (pc := 380) (tgt := 1748) dL_law_380 rfl ?_
      refine r_drop (xs' := [some (aR 99 0), some (aR 6 0), some (aR 7 0), some (aR 60 0), some (aI i), none, some (aI b)]) 5 rfl ?_
      refine r_drop (xs' := [some (aR 99 0), some (aR 6 0), some (aR 7 0), some (aR 60 0), some (aI i), none, none]) 6 rfl ?_
      refine r_wide (cs' := cs + 40) (sl' := sl + 400) (by omega) (by omega) ?_
      exact K _ _ _ hI2
    · refine r_lconst (pc := 369) (v := 1) dL_law_369 rfl (by decide) ?_
      refine r_goto (pc := 370) (tgt := 374) dL_law_370 rfl ?_
      refine r_lcmp (pc := 374) dL_law_374 ?_
      refine r_if_eq (pc := 375) (tgt := 380) dL_law_375 rfl (fun c375 => ?_) (fun c375 => absurd (cmp_eq ((by have := e2 c358; omega))) c375)
      refine r_goto (pc := 380) (tgt := 1748) dL_law_380 rfl ?_
      refine r_drop (xs' := [some (aR 99 0), some (aR 6 0), some (aR 7 0), some (aR 60 0), some (aI i), none, some (aI b)]) 5 rfl ?_
      refine r_drop (xs' := [some (aR 99 0), some (aR 6 0), some (aR 7 0), some (aR 60 0), some (aI i), none, none]) 6 rfl ?_
      refine r_wide (cs' := cs + 40) (sl' := sl + 400) (by omega) (by omega) ?_
      exact K _ _ _ hI2

theorem law_report {nm : String} {hh : List (Nat × Nat × Nat × Nat)} {L : Nat} {sc : Nat → Int32} {hi : Hi} {nb nk i : Int} {cs sl : Nat} {Q : Option Av → Hp → Prop} {X : String → Hp → Prop} (hI : Inv hi nb nk) (h0 : 0 ≤ i) (h1 : i + 5 ≤ (L : Int)) (hL : L ≤ 2560) (hcs : cs + 40 ≤ 601024) (hsl : sl + 400 ≤ 7293034) (K : ∀ (hi' : Hi) (nb' nk' : Int), Inv hi' nb' nk' → Run (I_law nm hh L sc) 1748 [some (aR 99 0), some (aR 6 0), some (aR 7 0), some (aR 60 0), some (aI i), none, none] [] (hp hi' nb' nk') (cs + 40) (sl + 400) Q X) : Run (I_law nm hh L sc) 383 [some (aR 99 0), some (aR 6 0), some (aR 7 0), some (aR 60 0), some (aI i), none, none] [] (hp hi nb nk) cs sl Q X := by
  obtain ⟨cd, b, hi1, hi2, nb1, nk1, d1, d2, e1, e2, hI2⟩ := J_report hI (b := (sc (i + 1).toNat).toInt) (d := (sc (i + 2).toNat).toInt) (e := (sc (i + 3).toNat).toInt) (p := (sc (i + 4).toNat).toInt)
  refine r_aload_n (pc := 383) dL_law_383 rfl ?_
  refine r_aload_n (pc := 384) dL_law_384 rfl ?_
  refine r_iload (pc := 385) dL_law_385 rfl ?_
  refine r_iconst (pc := 387) (n := 1) dL_law_387 (by decide) ?_
  refine r_iadd (pc := 388) dL_law_388 (by omega) ?_
  refine r_sld (pc := 389) (L := L) (sc := sc) rfl dL_law_389 (by omega) (by omega) ?_
  refine r_aload_n (pc := 390) dL_law_390 rfl ?_
  refine r_iload (pc := 391) dL_law_391 rfl ?_
  refine r_iconst (pc := 393) (n := 2) dL_law_393 (by decide) ?_
  refine r_iadd (pc := 394) dL_law_394 (by omega) ?_
  refine r_sld (pc := 395) (L := L) (sc := sc) rfl dL_law_395 (by omega) (by omega) ?_
  refine r_aload_n (pc := 396) dL_law_396 rfl ?_
  refine r_iload (pc := 397) dL_law_397 rfl ?_
  refine r_iconst (pc := 399) (n := 3) dL_law_399 (by decide) ?_
  refine r_iadd (pc := 400) dL_law_400 (by omega) ?_
  refine r_sld (pc := 401) (L := L) (sc := sc) rfl dL_law_401 (by omega) (by omega) ?_
  refine r_aload_n (pc := 402) dL_law_402 rfl ?_
  refine r_iload (pc := 403) dL_law_403 rfl ?_
  refine r_iconst (pc := 405) (n := 4) dL_law_405 (by decide) ?_
  refine r_iadd (pc := 406) dL_law_406 (by omega) ?_
  refine r_sld (pc := 407) (L := L) (sc := sc) rfl dL_law_407 (by omega) (by omega) ?_
  refine r_aload_n (pc := 408) dL_law_408 rfl ?_
  refine d1_SX (pc := 409) (rest := []) (cs' := (cs + 6)) (sl' := (sl + 36)) ms_L_111 (by simp [I_L_report]) d1 rfl ⟨(Nat.le_of_ble_eq_true rfl), (Nat.le_of_ble_eq_true rfl)⟩ (Nat.le_of_ble_eq_true rfl) dL_law_409 ⟨rfl, (by show _ ≤ 601024; omega)⟩ ⟨rfl, (by show _ ≤ 7293034; omega)⟩ rfl ?_
  refine r_istore (pc := 412) (xs' := [some (aR 99 0), some (aR 6 0), some (aR 7 0), some (aR 60 0), some (aI i), some (aI cd), none]) dL_law_412 (Nat.le_of_ble_eq_true rfl) rfl ?_
  refine r_aload_n (pc := 414) dL_law_414 rfl ?_
  refine r_aload_n (pc := 415) dL_law_415 rfl ?_
  refine r_iload (pc := 416) dL_law_416 rfl ?_
  refine r_iconst (pc := 418) (n := 1) dL_law_418 (by decide) ?_
  refine r_iadd (pc := 419) dL_law_419 (by omega) ?_
  refine r_sld (pc := 420) (L := L) (sc := sc) rfl dL_law_420 (by omega) (by omega) ?_
  refine r_aload_n (pc := 421) dL_law_421 rfl ?_
  refine r_iload (pc := 422) dL_law_422 rfl ?_
  refine r_iconst (pc := 424) (n := 2) dL_law_424 (by decide) ?_
  refine r_iadd (pc := 425) dL_law_425 (by omega) ?_
  refine r_sld (pc := 426) (L := L) (sc := sc) rfl dL_law_426 (by omega) (by omega) ?_
  refine r_aload_n (pc := 427) dL_law_427 rfl ?_
  refine r_iload (pc := 428) dL_law_428 rfl ?_
  refine r_iconst (pc := 430) (n := 3) dL_law_430 (by decide) ?_
  refine r_iadd (pc := 431) dL_law_431 (by omega) ?_
  refine r_sld (pc := 432) (L := L) (sc := sc) rfl dL_law_432 (by omega) (by omega) ?_
  refine r_aload_n (pc := 433) dL_law_433 rfl ?_
  refine r_iload (pc := 434) dL_law_434 rfl ?_
  refine r_iconst (pc := 436) (n := 4) dL_law_436 (by decide) ?_
  refine r_iadd (pc := 437) dL_law_437 (by omega) ?_
  refine r_sld (pc := 438) (L := L) (sc := sc) rfl dL_law_438 (by omega) (by omega) ?_
  refine d1_V (pc := 439) (t := 7) (i := 0) (rest := []) (cs' := (cs + 6)) (sl' := (sl + 36)) mv_L_114 d2 rfl ⟨(Nat.le_of_ble_eq_true rfl), (Nat.le_of_ble_eq_true rfl)⟩ (Nat.le_of_ble_eq_true rfl) dL_law_439 (show (0 : Int) ≤ 0 by omega) (show 0 < 1 by omega) ⟨rfl, (by show _ ≤ 601024; omega)⟩ ⟨rfl, (by show _ ≤ 7293034; omega)⟩ rfl ?_
  refine r_istore (pc := 442) (xs' := [some (aR 99 0), some (aR 6 0), some (aR 7 0), some (aR 60 0), some (aI i), some (aI cd), some (aI b)]) dL_law_442 (Nat.le_of_ble_eq_true rfl) rfl ?_
  refine r_aload_n (pc := 444) dL_law_444 rfl ?_
  refine d1_V (pc := 445) (t := 7) (i := 0) (rest := []) (cs' := (cs + 6)) (sl' := (sl + 36)) mv_L_100 (show Det I_X7_thrown [aR 7 0] (hp hi2 nb1 nk1) (some (aI cd)) (hp hi2 nb1 nk1) from by rw [← e1]; exact K_X7_thrown) rfl ⟨(Nat.le_of_ble_eq_true rfl), (Nat.le_of_ble_eq_true rfl)⟩ (Nat.le_of_ble_eq_true rfl) dL_law_445 (show (0 : Int) ≤ 0 by omega) (show 0 < 1 by omega) ⟨rfl, (by show _ ≤ 601024; omega)⟩ ⟨rfl, (by show _ ≤ 7293034; omega)⟩ rfl ?_
  refine r_iload (pc := 448) dL_law_448 rfl ?_
  refine r_icmp_eq (pc := 450) (tgt := 455) dL_law_450 rfl (fun c450 => ?_) (fun c450 => absurd rfl c450)
  refine r_iload (pc := 455) dL_law_455 rfl ?_
  refine r_if_ne (pc := 457) (tgt := 472) dL_law_457 rfl (fun c457 => ?_) (fun c457 => ?_)
  · refine r_goto (pc := 472) (tgt := 1748) dL_law_472 rfl ?_
    refine r_drop (xs' := [some (aR 99 0), some (aR 6 0), some (aR 7 0), some (aR 60 0), some (aI i), none, some (aI b)]) 5 rfl ?_
    refine r_drop (xs' := [some (aR 99 0), some (aR 6 0), some (aR 7 0), some (aR 60 0), some (aI i), none, none]) 6 rfl ?_
    refine r_wide (cs' := cs + 40) (sl' := sl + 400) (by omega) (by omega) ?_
    exact K _ _ _ hI2
  · refine r_aload_n (pc := 460) dL_law_460 rfl ?_
    refine r_iconst (pc := 461) (n := 0) dL_law_461 (by decide) ?_
    refine q_lald (pc := 462) (n9 := 1) (nI := 1) (v := hi2 60 0 0) rfl dL_law_462 rfl (by decide) (by decide) rfl (by omega) (by omega) rfl ?_
    refine r_iload (pc := 463) dL_law_463 rfl ?_
    refine r_i2l (pc := 465) dL_law_465 ?_
    refine r_lcmp (pc := 466) dL_law_466 ?_
    refine r_if_eq (pc := 467) (tgt := 472) dL_law_467 rfl (fun c467 => ?_) (fun c467 => absurd (cmp_eq (e2 c457)) c467)
    refine r_goto (pc := 472) (tgt := 1748) dL_law_472 rfl ?_
    refine r_drop (xs' := [some (aR 99 0), some (aR 6 0), some (aR 7 0), some (aR 60 0), some (aI i), none, some (aI b)]) 5 rfl ?_
    refine r_drop (xs' := [some (aR 99 0), some (aR 6 0), some (aR 7 0), some (aR 60 0), some (aI i), none, none]) 6 rfl ?_
    refine r_wide (cs' := cs + 40) (sl' := sl + 400) (by omega) (by omega) ?_
    exact K _ _ _ hI2

theorem law_place {nm : String} {hh : List (Nat × Nat × Nat × Nat)} {L : Nat} {sc : Nat → Int32} {hi : Hi} {nb nk i : Int} {cs sl : Nat} {Q : Option Av → Hp → Prop} {X : String → Hp → Prop} (hI : Inv hi nb nk) (h0 : 0 ≤ i) (h1 : i + 5 ≤ (L : Int)) (hL : L ≤ 2560) (hcs : cs + 40 ≤ 601024) (hsl : sl + 400 ≤ 7293034) (K : ∀ (hi' : Hi) (nb' nk' : Int), Inv hi' nb' nk' → Run (I_law nm hh L sc) 1748 [some (aR 99 0), some (aR 6 0), some (aR 7 0), some (aR 60 0), some (aI i), none, none] [] (hp hi' nb' nk') (cs + 40) (sl + 400) Q X) : Run (I_law nm hh L sc) 475 [some (aR 99 0), some (aR 6 0), some (aR 7 0), some (aR 60 0), some (aI i), none, none] [] (hp hi nb nk) cs sl Q X := by
  obtain ⟨cd, b, hi1, hi2, nb1, nk1, d1, d2, e1, e2, hI2⟩ := J_place hI (b := (sc (i + 1).toNat).toInt) (d := (sc (i + 2).toNat).toInt)
  refine r_aload_n (pc := 475) dL_law_475 rfl ?_
  refine r_aload_n (pc := 476) dL_law_476 rfl ?_
  refine r_iload (pc := 477) dL_law_477 rfl ?_
  refine r_iconst (pc := 479) (n := 1) dL_law_479 (by decide) ?_
  refine r_iadd (pc := 480) dL_law_480 (by omega) ?_
  refine r_sld (pc := 481) (L := L) (sc := sc) rfl dL_law_481 (by omega) (by omega) ?_
  refine r_aload_n (pc := 482) dL_law_482 rfl ?_
  refine r_iload (pc := 483) dL_law_483 rfl ?_
  refine r_iconst (pc := 485) (n := 2) dL_law_485 (by decide) ?_
  refine r_iadd (pc := 486) dL_law_486 (by omega) ?_
  refine r_sld (pc := 487) (L := L) (sc := sc) rfl dL_law_487 (by omega) (by omega) ?_
  refine r_aload_n (pc := 488) dL_law_488 rfl ?_
  refine d1_SX (pc := 489) (rest := []) (cs' := (cs + 2)) (sl' := (sl + 12)) ms_L_115 (by simp [I_L_place]) d1 rfl ⟨(Nat.le_of_ble_eq_true rfl), (Nat.le_of_ble_eq_true rfl)⟩ (Nat.le_of_ble_eq_true rfl) dL_law_489 ⟨rfl, (by show _ ≤ 601024; omega)⟩ ⟨rfl, (by show _ ≤ 7293034; omega)⟩ rfl ?_
  refine r_istore (pc := 492) (xs' := [some (aR 99 0), some (aR 6 0), some (aR 7 0), some (aR 60 0), some (aI i), some (aI cd), none]) dL_law_492 (Nat.le_of_ble_eq_true rfl) rfl ?_
  refine r_aload_n (pc := 494) dL_law_494 rfl ?_
  refine r_aload_n (pc := 495) dL_law_495 rfl ?_
  refine r_iload (pc := 496) dL_law_496 rfl ?_
  refine r_iconst (pc := 498) (n := 1) dL_law_498 (by decide) ?_
  refine r_iadd (pc := 499) dL_law_499 (by omega) ?_
  refine r_sld (pc := 500) (L := L) (sc := sc) rfl dL_law_500 (by omega) (by omega) ?_
  refine r_aload_n (pc := 501) dL_law_501 rfl ?_
  refine r_iload (pc := 502) dL_law_502 rfl ?_
  refine r_iconst (pc := 504) (n := 2) dL_law_504 (by decide) ?_
  refine r_iadd (pc := 505) dL_law_505 (by omega) ?_
  refine r_sld (pc := 506) (L := L) (sc := sc) rfl dL_law_506 (by omega) (by omega) ?_
  refine d1_V (pc := 507) (t := 7) (i := 0) (rest := []) (cs' := (cs + 2)) (sl' := (sl + 12)) mv_L_117 d2 rfl ⟨(Nat.le_of_ble_eq_true rfl), (Nat.le_of_ble_eq_true rfl)⟩ (Nat.le_of_ble_eq_true rfl) dL_law_507 (show (0 : Int) ≤ 0 by omega) (show 0 < 1 by omega) ⟨rfl, (by show _ ≤ 601024; omega)⟩ ⟨rfl, (by show _ ≤ 7293034; omega)⟩ rfl ?_
  refine r_istore (pc := 510) (xs' := [some (aR 99 0), some (aR 6 0), some (aR 7 0), some (aR 60 0), some (aI i), some (aI cd), some (aI b)]) dL_law_510 (Nat.le_of_ble_eq_true rfl) rfl ?_
  refine r_aload_n (pc := 512) dL_law_512 rfl ?_
  refine d1_V (pc := 513) (t := 7) (i := 0) (rest := []) (cs' := (cs + 2)) (sl' := (sl + 12)) mv_L_100 (show Det I_X7_thrown [aR 7 0] (hp hi2 nb1 nk1) (some (aI cd)) (hp hi2 nb1 nk1) from by rw [← e1]; exact K_X7_thrown) rfl ⟨(Nat.le_of_ble_eq_true rfl), (Nat.le_of_ble_eq_true rfl)⟩ (Nat.le_of_ble_eq_true rfl) dL_law_513 (show (0 : Int) ≤ 0 by omega) (show 0 < 1 by omega) ⟨rfl, (by show _ ≤ 601024; omega)⟩ ⟨rfl, (by show _ ≤ 7293034; omega)⟩ rfl ?_
  refine r_iload (pc := 516) dL_law_516 rfl ?_
  refine r_icmp_eq (pc := 518) (tgt := 523) dL_law_518 rfl (fun c518 => ?_) (fun c518 => absurd rfl c518)
  refine r_iload (pc := 523) dL_law_523 rfl ?_
  refine r_if_ne (pc := 525) (tgt := 540) dL_law_525 rfl (fun c525 => ?_) (fun c525 => ?_)
  · refine r_goto (pc := 540) (tgt := 1748) dL_law_540 rfl ?_
    refine r_drop (xs' := [some (aR 99 0), some (aR 6 0), some (aR 7 0), some (aR 60 0), some (aI i), none, some (aI b)]) 5 rfl ?_
    refine r_drop (xs' := [some (aR 99 0), some (aR 6 0), some (aR 7 0), some (aR 60 0), some (aI i), none, none]) 6 rfl ?_
    refine r_wide (cs' := cs + 40) (sl' := sl + 400) (by omega) (by omega) ?_
    exact K _ _ _ hI2
  · refine r_aload_n (pc := 528) dL_law_528 rfl ?_
    refine r_iconst (pc := 529) (n := 0) dL_law_529 (by decide) ?_
    refine q_lald (pc := 530) (n9 := 1) (nI := 1) (v := hi2 60 0 0) rfl dL_law_530 rfl (by decide) (by decide) rfl (by omega) (by omega) rfl ?_
    refine r_iload (pc := 531) dL_law_531 rfl ?_
    refine r_i2l (pc := 533) dL_law_533 ?_
    refine r_lcmp (pc := 534) dL_law_534 ?_
    refine r_if_eq (pc := 535) (tgt := 540) dL_law_535 rfl (fun c535 => ?_) (fun c535 => absurd (cmp_eq (e2 c525)) c535)
    refine r_goto (pc := 540) (tgt := 1748) dL_law_540 rfl ?_
    refine r_drop (xs' := [some (aR 99 0), some (aR 6 0), some (aR 7 0), some (aR 60 0), some (aI i), none, some (aI b)]) 5 rfl ?_
    refine r_drop (xs' := [some (aR 99 0), some (aR 6 0), some (aR 7 0), some (aR 60 0), some (aI i), none, none]) 6 rfl ?_
    refine r_wide (cs' := cs + 40) (sl' := sl + 400) (by omega) (by omega) ?_
    exact K _ _ _ hI2

theorem law_count {nm : String} {hh : List (Nat × Nat × Nat × Nat)} {L : Nat} {sc : Nat → Int32} {hi : Hi} {nb nk i : Int} {cs sl : Nat} {Q : Option Av → Hp → Prop} {X : String → Hp → Prop} (hI : Inv hi nb nk) (h0 : 0 ≤ i) (h1 : i + 5 ≤ (L : Int)) (hL : L ≤ 2560) (hcs : cs + 40 ≤ 601024) (hsl : sl + 400 ≤ 7293034) (K : ∀ (hi' : Hi) (nb' nk' : Int), Inv hi' nb' nk' → Run (I_law nm hh L sc) 1748 [some (aR 99 0), some (aR 6 0), some (aR 7 0), some (aR 60 0), some (aI i), none, none] [] (hp hi' nb' nk') (cs + 40) (sl + 400) Q X) : Run (I_law nm hh L sc) 543 [some (aR 99 0), some (aR 6 0), some (aR 7 0), some (aR 60 0), some (aI i), none, none] [] (hp hi nb nk) cs sl Q X := by
  obtain ⟨cd, b, hi1, hi2, nb1, nk1, d1, d2, e1, e2, hI2⟩ := J_count hI (p := (sc (i + 1).toNat).toInt) (kd := (sc (i + 2).toNat).toInt) (d := (sc (i + 3).toNat).toInt)
  refine r_aload_n (pc := 543) dL_law_543 rfl ?_
  refine r_aload_n (pc := 544) dL_law_544 rfl ?_
  refine r_iload (pc := 545) dL_law_545 rfl ?_
  refine r_iconst (pc := 547) (n := 1) dL_law_547 (by decide) ?_
  refine r_iadd (pc := 548) dL_law_548 (by omega) ?_
  refine r_sld (pc := 549) (L := L) (sc := sc) rfl dL_law_549 (by omega) (by omega) ?_
  refine r_aload_n (pc := 550) dL_law_550 rfl ?_
  refine r_iload (pc := 551) dL_law_551 rfl ?_
  refine r_iconst (pc := 553) (n := 2) dL_law_553 (by decide) ?_
  refine r_iadd (pc := 554) dL_law_554 (by omega) ?_
  refine r_sld (pc := 555) (L := L) (sc := sc) rfl dL_law_555 (by omega) (by omega) ?_
  refine r_aload_n (pc := 556) dL_law_556 rfl ?_
  refine r_iload (pc := 557) dL_law_557 rfl ?_
  refine r_iconst (pc := 559) (n := 3) dL_law_559 (by decide) ?_
  refine r_iadd (pc := 560) dL_law_560 (by omega) ?_
  refine r_sld (pc := 561) (L := L) (sc := sc) rfl dL_law_561 (by omega) (by omega) ?_
  refine r_aload_n (pc := 562) dL_law_562 rfl ?_
  refine d1_SX (pc := 563) (rest := []) (cs' := (cs + 3)) (sl' := (sl + 18)) ms_L_118 (by simp [I_L_count]) d1 rfl ⟨(Nat.le_of_ble_eq_true rfl), (Nat.le_of_ble_eq_true rfl)⟩ (Nat.le_of_ble_eq_true rfl) dL_law_563 ⟨rfl, (by show _ ≤ 601024; omega)⟩ ⟨rfl, (by show _ ≤ 7293034; omega)⟩ rfl ?_
  refine r_istore (pc := 566) (xs' := [some (aR 99 0), some (aR 6 0), some (aR 7 0), some (aR 60 0), some (aI i), some (aI cd), none]) dL_law_566 (Nat.le_of_ble_eq_true rfl) rfl ?_
  refine r_aload_n (pc := 568) dL_law_568 rfl ?_
  refine r_aload_n (pc := 569) dL_law_569 rfl ?_
  refine r_iload (pc := 570) dL_law_570 rfl ?_
  refine r_iconst (pc := 572) (n := 1) dL_law_572 (by decide) ?_
  refine r_iadd (pc := 573) dL_law_573 (by omega) ?_
  refine r_sld (pc := 574) (L := L) (sc := sc) rfl dL_law_574 (by omega) (by omega) ?_
  refine r_aload_n (pc := 575) dL_law_575 rfl ?_
  refine r_iload (pc := 576) dL_law_576 rfl ?_
  refine r_iconst (pc := 578) (n := 2) dL_law_578 (by decide) ?_
  refine r_iadd (pc := 579) dL_law_579 (by omega) ?_
  refine r_sld (pc := 580) (L := L) (sc := sc) rfl dL_law_580 (by omega) (by omega) ?_
  refine r_aload_n (pc := 581) dL_law_581 rfl ?_
  refine r_iload (pc := 582) dL_law_582 rfl ?_
  refine r_iconst (pc := 584) (n := 3) dL_law_584 (by decide) ?_
  refine r_iadd (pc := 585) dL_law_585 (by omega) ?_
  refine r_sld (pc := 586) (L := L) (sc := sc) rfl dL_law_586 (by omega) (by omega) ?_
  refine d1_V (pc := 587) (t := 7) (i := 0) (rest := []) (cs' := (cs + 3)) (sl' := (sl + 18)) mv_L_120 d2 rfl ⟨(Nat.le_of_ble_eq_true rfl), (Nat.le_of_ble_eq_true rfl)⟩ (Nat.le_of_ble_eq_true rfl) dL_law_587 (show (0 : Int) ≤ 0 by omega) (show 0 < 1 by omega) ⟨rfl, (by show _ ≤ 601024; omega)⟩ ⟨rfl, (by show _ ≤ 7293034; omega)⟩ rfl ?_
  refine r_istore (pc := 590) (xs' := [some (aR 99 0), some (aR 6 0), some (aR 7 0), some (aR 60 0), some (aI i), some (aI cd), some (aI b)]) dL_law_590 (Nat.le_of_ble_eq_true rfl) rfl ?_
  refine r_aload_n (pc := 592) dL_law_592 rfl ?_
  refine d1_V (pc := 593) (t := 7) (i := 0) (rest := []) (cs' := (cs + 3)) (sl' := (sl + 18)) mv_L_100 (show Det I_X7_thrown [aR 7 0] (hp hi2 nb1 nk1) (some (aI cd)) (hp hi2 nb1 nk1) from by rw [← e1]; exact K_X7_thrown) rfl ⟨(Nat.le_of_ble_eq_true rfl), (Nat.le_of_ble_eq_true rfl)⟩ (Nat.le_of_ble_eq_true rfl) dL_law_593 (show (0 : Int) ≤ 0 by omega) (show 0 < 1 by omega) ⟨rfl, (by show _ ≤ 601024; omega)⟩ ⟨rfl, (by show _ ≤ 7293034; omega)⟩ rfl ?_
  refine r_iload (pc := 596) dL_law_596 rfl ?_
  refine r_icmp_eq (pc := 598) (tgt := 603) dL_law_598 rfl (fun c598 => ?_) (fun c598 => absurd rfl c598)
  refine r_iload (pc := 603) dL_law_603 rfl ?_
  refine r_if_ne (pc := 605) (tgt := 620) dL_law_605 rfl (fun c605 => ?_) (fun c605 => ?_)
  · refine r_goto (pc := 620) (tgt := 1748) dL_law_620 rfl ?_
    refine r_drop (xs' := [some (aR 99 0), some (aR 6 0), some (aR 7 0), some (aR 60 0), some (aI i), none, some (aI b)]) 5 rfl ?_
    refine r_drop (xs' := [some (aR 99 0), some (aR 6 0), some (aR 7 0), some (aR 60 0), some (aI i), none, none]) 6 rfl ?_
    refine r_wide (cs' := cs + 40) (sl' := sl + 400) (by omega) (by omega) ?_
    exact K _ _ _ hI2
  · refine r_aload_n (pc := 608) dL_law_608 rfl ?_
    refine r_iconst (pc := 609) (n := 0) dL_law_609 (by decide) ?_
    refine q_lald (pc := 610) (n9 := 1) (nI := 1) (v := hi2 60 0 0) rfl dL_law_610 rfl (by decide) (by decide) rfl (by omega) (by omega) rfl ?_
    refine r_iload (pc := 611) dL_law_611 rfl ?_
    refine r_i2l (pc := 613) dL_law_613 ?_
    refine r_lcmp (pc := 614) dL_law_614 ?_
    refine r_if_eq (pc := 615) (tgt := 620) dL_law_615 rfl (fun c615 => ?_) (fun c615 => absurd (cmp_eq (e2 c605)) c615)
    refine r_goto (pc := 620) (tgt := 1748) dL_law_620 rfl ?_
    refine r_drop (xs' := [some (aR 99 0), some (aR 6 0), some (aR 7 0), some (aR 60 0), some (aI i), none, some (aI b)]) 5 rfl ?_
    refine r_drop (xs' := [some (aR 99 0), some (aR 6 0), some (aR 7 0), some (aR 60 0), some (aI i), none, none]) 6 rfl ?_
    refine r_wide (cs' := cs + 40) (sl' := sl + 400) (by omega) (by omega) ?_
    exact K _ _ _ hI2

theorem law_days {nm : String} {hh : List (Nat × Nat × Nat × Nat)} {L : Nat} {sc : Nat → Int32} {hi : Hi} {nb nk i : Int} {cs sl : Nat} {Q : Option Av → Hp → Prop} {X : String → Hp → Prop} (hI : Inv hi nb nk) (h0 : 0 ≤ i) (h1 : i + 5 ≤ (L : Int)) (hL : L ≤ 2560) (hcs : cs + 40 ≤ 601024) (hsl : sl + 400 ≤ 7293034) (K : ∀ (hi' : Hi) (nb' nk' : Int), Inv hi' nb' nk' → Run (I_law nm hh L sc) 1748 [some (aR 99 0), some (aR 6 0), some (aR 7 0), some (aR 60 0), some (aI i), none, none] [] (hp hi' nb' nk') (cs + 40) (sl + 400) Q X) : Run (I_law nm hh L sc) 623 [some (aR 99 0), some (aR 6 0), some (aR 7 0), some (aR 60 0), some (aI i), none, none] [] (hp hi nb nk) cs sl Q X := by
  obtain ⟨cd, b, hi1, hi2, nb1, nk1, d1, d2, e1, e2, hI2⟩ := J_days hI (b := (sc (i + 1).toNat).toInt) (fr := (sc (i + 2).toNat).toInt) (to := (sc (i + 3).toNat).toInt) (pl := (sc (i + 4).toNat).toInt)
  refine r_aload_n (pc := 623) dL_law_623 rfl ?_
  refine r_aload_n (pc := 624) dL_law_624 rfl ?_
  refine r_iload (pc := 625) dL_law_625 rfl ?_
  refine r_iconst (pc := 627) (n := 1) dL_law_627 (by decide) ?_
  refine r_iadd (pc := 628) dL_law_628 (by omega) ?_
  refine r_sld (pc := 629) (L := L) (sc := sc) rfl dL_law_629 (by omega) (by omega) ?_
  refine r_aload_n (pc := 630) dL_law_630 rfl ?_
  refine r_iload (pc := 631) dL_law_631 rfl ?_
  refine r_iconst (pc := 633) (n := 2) dL_law_633 (by decide) ?_
  refine r_iadd (pc := 634) dL_law_634 (by omega) ?_
  refine r_sld (pc := 635) (L := L) (sc := sc) rfl dL_law_635 (by omega) (by omega) ?_
  refine r_aload_n (pc := 636) dL_law_636 rfl ?_
  refine r_iload (pc := 637) dL_law_637 rfl ?_
  refine r_iconst (pc := 639) (n := 3) dL_law_639 (by decide) ?_
  refine r_iadd (pc := 640) dL_law_640 (by omega) ?_
  refine r_sld (pc := 641) (L := L) (sc := sc) rfl dL_law_641 (by omega) (by omega) ?_
  refine r_aload_n (pc := 642) dL_law_642 rfl ?_
  refine r_iload (pc := 643) dL_law_643 rfl ?_
  refine r_iconst (pc := 645) (n := 4) dL_law_645 (by decide) ?_
  refine r_iadd (pc := 646) dL_law_646 (by omega) ?_
  refine r_sld (pc := 647) (L := L) (sc := sc) rfl dL_law_647 (by omega) (by omega) ?_
  refine r_aload_n (pc := 648) dL_law_648 rfl ?_
  refine d1_SX (pc := 649) (rest := []) (cs' := (cs + 4)) (sl' := (sl + 24)) ms_L_121 (by simp [I_L_days]) d1 rfl ⟨(Nat.le_of_ble_eq_true rfl), (Nat.le_of_ble_eq_true rfl)⟩ (Nat.le_of_ble_eq_true rfl) dL_law_649 ⟨rfl, (by show _ ≤ 601024; omega)⟩ ⟨rfl, (by show _ ≤ 7293034; omega)⟩ rfl ?_
  refine r_istore (pc := 652) (xs' := [some (aR 99 0), some (aR 6 0), some (aR 7 0), some (aR 60 0), some (aI i), some (aI cd), none]) dL_law_652 (Nat.le_of_ble_eq_true rfl) rfl ?_
  refine r_aload_n (pc := 654) dL_law_654 rfl ?_
  refine r_aload_n (pc := 655) dL_law_655 rfl ?_
  refine r_iload (pc := 656) dL_law_656 rfl ?_
  refine r_iconst (pc := 658) (n := 1) dL_law_658 (by decide) ?_
  refine r_iadd (pc := 659) dL_law_659 (by omega) ?_
  refine r_sld (pc := 660) (L := L) (sc := sc) rfl dL_law_660 (by omega) (by omega) ?_
  refine r_aload_n (pc := 661) dL_law_661 rfl ?_
  refine r_iload (pc := 662) dL_law_662 rfl ?_
  refine r_iconst (pc := 664) (n := 2) dL_law_664 (by decide) ?_
  refine r_iadd (pc := 665) dL_law_665 (by omega) ?_
  refine r_sld (pc := 666) (L := L) (sc := sc) rfl dL_law_666 (by omega) (by omega) ?_
  refine r_aload_n (pc := 667) dL_law_667 rfl ?_
  refine r_iload (pc := 668) dL_law_668 rfl ?_
  refine r_iconst (pc := 670) (n := 3) dL_law_670 (by decide) ?_
  refine r_iadd (pc := 671) dL_law_671 (by omega) ?_
  refine r_sld (pc := 672) (L := L) (sc := sc) rfl dL_law_672 (by omega) (by omega) ?_
  refine r_aload_n (pc := 673) dL_law_673 rfl ?_
  refine r_iload (pc := 674) dL_law_674 rfl ?_
  refine r_iconst (pc := 676) (n := 4) dL_law_676 (by decide) ?_
  refine r_iadd (pc := 677) dL_law_677 (by omega) ?_
  refine r_sld (pc := 678) (L := L) (sc := sc) rfl dL_law_678 (by omega) (by omega) ?_
  refine d1_V (pc := 679) (t := 7) (i := 0) (rest := []) (cs' := (cs + 4)) (sl' := (sl + 24)) mv_L_123 d2 rfl ⟨(Nat.le_of_ble_eq_true rfl), (Nat.le_of_ble_eq_true rfl)⟩ (Nat.le_of_ble_eq_true rfl) dL_law_679 (show (0 : Int) ≤ 0 by omega) (show 0 < 1 by omega) ⟨rfl, (by show _ ≤ 601024; omega)⟩ ⟨rfl, (by show _ ≤ 7293034; omega)⟩ rfl ?_
  refine r_istore (pc := 682) (xs' := [some (aR 99 0), some (aR 6 0), some (aR 7 0), some (aR 60 0), some (aI i), some (aI cd), some (aI b)]) dL_law_682 (Nat.le_of_ble_eq_true rfl) rfl ?_
  refine r_aload_n (pc := 684) dL_law_684 rfl ?_
  refine d1_V (pc := 685) (t := 7) (i := 0) (rest := []) (cs' := (cs + 4)) (sl' := (sl + 24)) mv_L_100 (show Det I_X7_thrown [aR 7 0] (hp hi2 nb1 nk1) (some (aI cd)) (hp hi2 nb1 nk1) from by rw [← e1]; exact K_X7_thrown) rfl ⟨(Nat.le_of_ble_eq_true rfl), (Nat.le_of_ble_eq_true rfl)⟩ (Nat.le_of_ble_eq_true rfl) dL_law_685 (show (0 : Int) ≤ 0 by omega) (show 0 < 1 by omega) ⟨rfl, (by show _ ≤ 601024; omega)⟩ ⟨rfl, (by show _ ≤ 7293034; omega)⟩ rfl ?_
  refine r_iload (pc := 688) dL_law_688 rfl ?_
  refine r_icmp_eq (pc := 690) (tgt := 695) dL_law_690 rfl (fun c690 => ?_) (fun c690 => absurd rfl c690)
  refine r_iload (pc := 695) dL_law_695 rfl ?_
  refine r_if_ne (pc := 697) (tgt := 712) dL_law_697 rfl (fun c697 => ?_) (fun c697 => ?_)
  · refine r_goto (pc := 712) (tgt := 1748) dL_law_712 rfl ?_
    refine r_drop (xs' := [some (aR 99 0), some (aR 6 0), some (aR 7 0), some (aR 60 0), some (aI i), none, some (aI b)]) 5 rfl ?_
    refine r_drop (xs' := [some (aR 99 0), some (aR 6 0), some (aR 7 0), some (aR 60 0), some (aI i), none, none]) 6 rfl ?_
    refine r_wide (cs' := cs + 40) (sl' := sl + 400) (by omega) (by omega) ?_
    exact K _ _ _ hI2
  · refine r_aload_n (pc := 700) dL_law_700 rfl ?_
    refine r_iconst (pc := 701) (n := 0) dL_law_701 (by decide) ?_
    refine q_lald (pc := 702) (n9 := 1) (nI := 1) (v := hi2 60 0 0) rfl dL_law_702 rfl (by decide) (by decide) rfl (by omega) (by omega) rfl ?_
    refine r_iload (pc := 703) dL_law_703 rfl ?_
    refine r_i2l (pc := 705) dL_law_705 ?_
    refine r_lcmp (pc := 706) dL_law_706 ?_
    refine r_if_eq (pc := 707) (tgt := 712) dL_law_707 rfl (fun c707 => ?_) (fun c707 => absurd (cmp_eq (e2 c697)) c707)
    refine r_goto (pc := 712) (tgt := 1748) dL_law_712 rfl ?_
    refine r_drop (xs' := [some (aR 99 0), some (aR 6 0), some (aR 7 0), some (aR 60 0), some (aI i), none, some (aI b)]) 5 rfl ?_
    refine r_drop (xs' := [some (aR 99 0), some (aR 6 0), some (aR 7 0), some (aR 60 0), some (aI i), none, none]) 6 rfl ?_
    refine r_wide (cs' := cs + 40) (sl' := sl + 400) (by omega) (by omega) ?_
    exact K _ _ _ hI2

theorem law_lease {nm : String} {hh : List (Nat × Nat × Nat × Nat)} {L : Nat} {sc : Nat → Int32} {hi : Hi} {nb nk i : Int} {cs sl : Nat} {Q : Option Av → Hp → Prop} {X : String → Hp → Prop} (hI : Inv hi nb nk) (h0 : 0 ≤ i) (h1 : i + 5 ≤ (L : Int)) (hL : L ≤ 2560) (hcs : cs + 40 ≤ 601024) (hsl : sl + 400 ≤ 7293034) (K : ∀ (hi' : Hi) (nb' nk' : Int), Inv hi' nb' nk' → Run (I_law nm hh L sc) 1748 [some (aR 99 0), some (aR 6 0), some (aR 7 0), some (aR 60 0), some (aI i), none, none] [] (hp hi' nb' nk') (cs + 40) (sl + 400) Q X) : Run (I_law nm hh L sc) 715 [some (aR 99 0), some (aR 6 0), some (aR 7 0), some (aR 60 0), some (aI i), none, none] [] (hp hi nb nk) cs sl Q X := by
  obtain ⟨cd, hi1, hi2, nb1, nk1, d1, d2, e1, hI2⟩ := J_lease hI (b := (sc (i + 1).toNat).toInt) (fr := (sc (i + 2).toNat).toInt) (to := (sc (i + 3).toNat).toInt)
  refine r_aload_n (pc := 715) dL_law_715 rfl ?_
  refine r_aload_n (pc := 716) dL_law_716 rfl ?_
  refine r_iload (pc := 717) dL_law_717 rfl ?_
  refine r_iconst (pc := 719) (n := 1) dL_law_719 (by decide) ?_
  refine r_iadd (pc := 720) dL_law_720 (by omega) ?_
  refine r_sld (pc := 721) (L := L) (sc := sc) rfl dL_law_721 (by omega) (by omega) ?_
  refine r_aload_n (pc := 722) dL_law_722 rfl ?_
  refine r_iload (pc := 723) dL_law_723 rfl ?_
  refine r_iconst (pc := 725) (n := 2) dL_law_725 (by decide) ?_
  refine r_iadd (pc := 726) dL_law_726 (by omega) ?_
  refine r_sld (pc := 727) (L := L) (sc := sc) rfl dL_law_727 (by omega) (by omega) ?_
  refine r_aload_n (pc := 728) dL_law_728 rfl ?_
  refine r_iload (pc := 729) dL_law_729 rfl ?_
  refine r_iconst (pc := 731) (n := 3) dL_law_731 (by decide) ?_
  refine r_iadd (pc := 732) dL_law_732 (by omega) ?_
  refine r_sld (pc := 733) (L := L) (sc := sc) rfl dL_law_733 (by omega) (by omega) ?_
  refine d1_SX (pc := 734) (rest := []) (cs' := (cs + 6)) (sl' := (sl + 36)) ms_L_124 (by simp [I_L_lease]) d1 rfl ⟨(Nat.le_of_ble_eq_true rfl), (Nat.le_of_ble_eq_true rfl)⟩ (Nat.le_of_ble_eq_true rfl) dL_law_734 ⟨rfl, (by show _ ≤ 601024; omega)⟩ ⟨rfl, (by show _ ≤ 7293034; omega)⟩ rfl ?_
  refine r_istore (pc := 737) (xs' := [some (aR 99 0), some (aR 6 0), some (aR 7 0), some (aR 60 0), some (aI i), some (aI cd), none]) dL_law_737 (Nat.le_of_ble_eq_true rfl) rfl ?_
  refine r_aload_n (pc := 739) dL_law_739 rfl ?_
  refine r_aload_n (pc := 740) dL_law_740 rfl ?_
  refine r_iload (pc := 741) dL_law_741 rfl ?_
  refine r_iconst (pc := 743) (n := 1) dL_law_743 (by decide) ?_
  refine r_iadd (pc := 744) dL_law_744 (by omega) ?_
  refine r_sld (pc := 745) (L := L) (sc := sc) rfl dL_law_745 (by omega) (by omega) ?_
  refine r_aload_n (pc := 746) dL_law_746 rfl ?_
  refine r_iload (pc := 747) dL_law_747 rfl ?_
  refine r_iconst (pc := 749) (n := 2) dL_law_749 (by decide) ?_
  refine r_iadd (pc := 750) dL_law_750 (by omega) ?_
  refine r_sld (pc := 751) (L := L) (sc := sc) rfl dL_law_751 (by omega) (by omega) ?_
  refine r_aload_n (pc := 752) dL_law_752 rfl ?_
  refine r_iload (pc := 753) dL_law_753 rfl ?_
  refine r_iconst (pc := 755) (n := 3) dL_law_755 (by decide) ?_
  refine r_iadd (pc := 756) dL_law_756 (by omega) ?_
  refine r_sld (pc := 757) (L := L) (sc := sc) rfl dL_law_757 (by omega) (by omega) ?_
  refine d0_V (pc := 758) (t := 7) (i := 0) (rest := []) (cs' := (cs + 6)) (sl' := (sl + 36)) mv_L_127 d2 rfl ⟨(Nat.le_of_ble_eq_true rfl), (Nat.le_of_ble_eq_true rfl)⟩ (Nat.le_of_ble_eq_true rfl) dL_law_758 (show (0 : Int) ≤ 0 by omega) (show 0 < 1 by omega) ⟨rfl, (by show _ ≤ 601024; omega)⟩ ⟨rfl, (by show _ ≤ 7293034; omega)⟩ rfl ?_
  refine r_aload_n (pc := 761) dL_law_761 rfl ?_
  refine d1_V (pc := 762) (t := 7) (i := 0) (rest := []) (cs' := (cs + 6)) (sl' := (sl + 36)) mv_L_100 (show Det I_X7_thrown [aR 7 0] (hp hi2 nb1 nk1) (some (aI cd)) (hp hi2 nb1 nk1) from by rw [← e1]; exact K_X7_thrown) rfl ⟨(Nat.le_of_ble_eq_true rfl), (Nat.le_of_ble_eq_true rfl)⟩ (Nat.le_of_ble_eq_true rfl) dL_law_762 (show (0 : Int) ≤ 0 by omega) (show 0 < 1 by omega) ⟨rfl, (by show _ ≤ 601024; omega)⟩ ⟨rfl, (by show _ ≤ 7293034; omega)⟩ rfl ?_
  refine r_iload (pc := 765) dL_law_765 rfl ?_
  refine r_icmp_eq (pc := 767) (tgt := 772) dL_law_767 rfl (fun c767 => ?_) (fun c767 => absurd rfl c767)
  refine r_goto (pc := 772) (tgt := 1748) dL_law_772 rfl ?_
  refine r_drop (xs' := [some (aR 99 0), some (aR 6 0), some (aR 7 0), some (aR 60 0), some (aI i), none, none]) 5 rfl ?_
  refine r_wide (cs' := cs + 40) (sl' := sl + 400) (by omega) (by omega) ?_
  exact K _ _ _ hI2

theorem law_free {nm : String} {hh : List (Nat × Nat × Nat × Nat)} {L : Nat} {sc : Nat → Int32} {hi : Hi} {nb nk i : Int} {cs sl : Nat} {Q : Option Av → Hp → Prop} {X : String → Hp → Prop} (hI : Inv hi nb nk) (h0 : 0 ≤ i) (h1 : i + 5 ≤ (L : Int)) (hL : L ≤ 2560) (hcs : cs + 40 ≤ 601024) (hsl : sl + 400 ≤ 7293034) (K : ∀ (hi' : Hi) (nb' nk' : Int), Inv hi' nb' nk' → Run (I_law nm hh L sc) 1748 [some (aR 99 0), some (aR 6 0), some (aR 7 0), some (aR 60 0), some (aI i), none, none] [] (hp hi' nb' nk') (cs + 40) (sl + 400) Q X) : Run (I_law nm hh L sc) 775 [some (aR 99 0), some (aR 6 0), some (aR 7 0), some (aR 60 0), some (aI i), none, none] [] (hp hi nb nk) cs sl Q X := by
  obtain ⟨cd, b, hi1, hi2, nb1, nk1, d1, d2, e1, e2, hI2⟩ := J_free hI (d := (sc (i + 1).toNat).toInt)
  refine r_aload_n (pc := 775) dL_law_775 rfl ?_
  refine r_aload_n (pc := 776) dL_law_776 rfl ?_
  refine r_iload (pc := 777) dL_law_777 rfl ?_
  refine r_iconst (pc := 779) (n := 1) dL_law_779 (by decide) ?_
  refine r_iadd (pc := 780) dL_law_780 (by omega) ?_
  refine r_sld (pc := 781) (L := L) (sc := sc) rfl dL_law_781 (by omega) (by omega) ?_
  refine r_aload_n (pc := 782) dL_law_782 rfl ?_
  refine d1_SX (pc := 783) (rest := []) (cs' := (cs + 1)) (sl' := (sl + 6)) ms_L_128 (by simp [I_L_free]) d1 rfl ⟨(Nat.le_of_ble_eq_true rfl), (Nat.le_of_ble_eq_true rfl)⟩ (Nat.le_of_ble_eq_true rfl) dL_law_783 ⟨rfl, (by show _ ≤ 601024; omega)⟩ ⟨rfl, (by show _ ≤ 7293034; omega)⟩ rfl ?_
  refine r_istore (pc := 786) (xs' := [some (aR 99 0), some (aR 6 0), some (aR 7 0), some (aR 60 0), some (aI i), some (aI cd), none]) dL_law_786 (Nat.le_of_ble_eq_true rfl) rfl ?_
  refine r_aload_n (pc := 788) dL_law_788 rfl ?_
  refine r_aload_n (pc := 789) dL_law_789 rfl ?_
  refine r_iload (pc := 790) dL_law_790 rfl ?_
  refine r_iconst (pc := 792) (n := 1) dL_law_792 (by decide) ?_
  refine r_iadd (pc := 793) dL_law_793 (by omega) ?_
  refine r_sld (pc := 794) (L := L) (sc := sc) rfl dL_law_794 (by omega) (by omega) ?_
  refine d1_V (pc := 795) (t := 7) (i := 0) (rest := []) (cs' := (cs + 1)) (sl' := (sl + 6)) mv_L_131 d2 rfl ⟨(Nat.le_of_ble_eq_true rfl), (Nat.le_of_ble_eq_true rfl)⟩ (Nat.le_of_ble_eq_true rfl) dL_law_795 (show (0 : Int) ≤ 0 by omega) (show 0 < 1 by omega) ⟨rfl, (by show _ ≤ 601024; omega)⟩ ⟨rfl, (by show _ ≤ 7293034; omega)⟩ rfl ?_
  refine r_istore (pc := 798) (xs' := [some (aR 99 0), some (aR 6 0), some (aR 7 0), some (aR 60 0), some (aI i), some (aI cd), some (aI b)]) dL_law_798 (Nat.le_of_ble_eq_true rfl) rfl ?_
  refine r_aload_n (pc := 800) dL_law_800 rfl ?_
  refine d1_V (pc := 801) (t := 7) (i := 0) (rest := []) (cs' := (cs + 1)) (sl' := (sl + 6)) mv_L_100 (show Det I_X7_thrown [aR 7 0] (hp hi2 nb1 nk1) (some (aI cd)) (hp hi2 nb1 nk1) from by rw [← e1]; exact K_X7_thrown) rfl ⟨(Nat.le_of_ble_eq_true rfl), (Nat.le_of_ble_eq_true rfl)⟩ (Nat.le_of_ble_eq_true rfl) dL_law_801 (show (0 : Int) ≤ 0 by omega) (show 0 < 1 by omega) ⟨rfl, (by show _ ≤ 601024; omega)⟩ ⟨rfl, (by show _ ≤ 7293034; omega)⟩ rfl ?_
  refine r_iload (pc := 804) dL_law_804 rfl ?_
  refine r_icmp_eq (pc := 806) (tgt := 811) dL_law_806 rfl (fun c806 => ?_) (fun c806 => absurd rfl c806)
  refine r_iload (pc := 811) dL_law_811 rfl ?_
  refine r_if_ne (pc := 813) (tgt := 828) dL_law_813 rfl (fun c813 => ?_) (fun c813 => ?_)
  · refine r_goto (pc := 828) (tgt := 1748) dL_law_828 rfl ?_
    refine r_drop (xs' := [some (aR 99 0), some (aR 6 0), some (aR 7 0), some (aR 60 0), some (aI i), none, some (aI b)]) 5 rfl ?_
    refine r_drop (xs' := [some (aR 99 0), some (aR 6 0), some (aR 7 0), some (aR 60 0), some (aI i), none, none]) 6 rfl ?_
    refine r_wide (cs' := cs + 40) (sl' := sl + 400) (by omega) (by omega) ?_
    exact K _ _ _ hI2
  · refine r_aload_n (pc := 816) dL_law_816 rfl ?_
    refine r_iconst (pc := 817) (n := 0) dL_law_817 (by decide) ?_
    refine q_lald (pc := 818) (n9 := 1) (nI := 1) (v := hi2 60 0 0) rfl dL_law_818 rfl (by decide) (by decide) rfl (by omega) (by omega) rfl ?_
    refine r_iload (pc := 819) dL_law_819 rfl ?_
    refine r_i2l (pc := 821) dL_law_821 ?_
    refine r_lcmp (pc := 822) dL_law_822 ?_
    refine r_if_eq (pc := 823) (tgt := 828) dL_law_823 rfl (fun c823 => ?_) (fun c823 => absurd (cmp_eq (e2 c813)) c823)
    refine r_goto (pc := 828) (tgt := 1748) dL_law_828 rfl ?_
    refine r_drop (xs' := [some (aR 99 0), some (aR 6 0), some (aR 7 0), some (aR 60 0), some (aI i), none, some (aI b)]) 5 rfl ?_
    refine r_drop (xs' := [some (aR 99 0), some (aR 6 0), some (aR 7 0), some (aR 60 0), some (aI i), none, none]) 6 rfl ?_
    refine r_wide (cs' := cs + 40) (sl' := sl + 400) (by omega) (by omega) ?_
    exact K _ _ _ hI2

theorem law_payer {nm : String} {hh : List (Nat × Nat × Nat × Nat)} {L : Nat} {sc : Nat → Int32} {hi : Hi} {nb nk i : Int} {cs sl : Nat} {Q : Option Av → Hp → Prop} {X : String → Hp → Prop} (hI : Inv hi nb nk) (h0 : 0 ≤ i) (h1 : i + 5 ≤ (L : Int)) (hL : L ≤ 2560) (hcs : cs + 40 ≤ 601024) (hsl : sl + 400 ≤ 7293034) (K : ∀ (hi' : Hi) (nb' nk' : Int), Inv hi' nb' nk' → Run (I_law nm hh L sc) 1748 [some (aR 99 0), some (aR 6 0), some (aR 7 0), some (aR 60 0), some (aI i), none, none] [] (hp hi' nb' nk') (cs + 40) (sl + 400) Q X) : Run (I_law nm hh L sc) 831 [some (aR 99 0), some (aR 6 0), some (aR 7 0), some (aR 60 0), some (aI i), none, none] [] (hp hi nb nk) cs sl Q X := by
  obtain ⟨cd, b, hi1, hi2, nb1, nk1, d1, d2, e1, e2, hI2⟩ := J_payer hI (b := (sc (i + 1).toNat).toInt) (d := (sc (i + 2).toNat).toInt)
  refine r_aload_n (pc := 831) dL_law_831 rfl ?_
  refine r_aload_n (pc := 832) dL_law_832 rfl ?_
  refine r_iload (pc := 833) dL_law_833 rfl ?_
  refine r_iconst (pc := 835) (n := 1) dL_law_835 (by decide) ?_
  refine r_iadd (pc := 836) dL_law_836 (by omega) ?_
  refine r_sld (pc := 837) (L := L) (sc := sc) rfl dL_law_837 (by omega) (by omega) ?_
  refine r_aload_n (pc := 838) dL_law_838 rfl ?_
  refine r_iload (pc := 839) dL_law_839 rfl ?_
  refine r_iconst (pc := 841) (n := 2) dL_law_841 (by decide) ?_
  refine r_iadd (pc := 842) dL_law_842 (by omega) ?_
  refine r_sld (pc := 843) (L := L) (sc := sc) rfl dL_law_843 (by omega) (by omega) ?_
  refine r_aload_n (pc := 844) dL_law_844 rfl ?_
  refine d1_SX (pc := 845) (rest := []) (cs' := (cs + 2)) (sl' := (sl + 12)) ms_L_132 (by simp [I_L_payer]) d1 rfl ⟨(Nat.le_of_ble_eq_true rfl), (Nat.le_of_ble_eq_true rfl)⟩ (Nat.le_of_ble_eq_true rfl) dL_law_845 ⟨rfl, (by show _ ≤ 601024; omega)⟩ ⟨rfl, (by show _ ≤ 7293034; omega)⟩ rfl ?_
  refine r_istore (pc := 848) (xs' := [some (aR 99 0), some (aR 6 0), some (aR 7 0), some (aR 60 0), some (aI i), some (aI cd), none]) dL_law_848 (Nat.le_of_ble_eq_true rfl) rfl ?_
  refine r_aload_n (pc := 850) dL_law_850 rfl ?_
  refine r_aload_n (pc := 851) dL_law_851 rfl ?_
  refine r_iload (pc := 852) dL_law_852 rfl ?_
  refine r_iconst (pc := 854) (n := 1) dL_law_854 (by decide) ?_
  refine r_iadd (pc := 855) dL_law_855 (by omega) ?_
  refine r_sld (pc := 856) (L := L) (sc := sc) rfl dL_law_856 (by omega) (by omega) ?_
  refine r_aload_n (pc := 857) dL_law_857 rfl ?_
  refine r_iload (pc := 858) dL_law_858 rfl ?_
  refine r_iconst (pc := 860) (n := 2) dL_law_860 (by decide) ?_
  refine r_iadd (pc := 861) dL_law_861 (by omega) ?_
  refine r_sld (pc := 862) (L := L) (sc := sc) rfl dL_law_862 (by omega) (by omega) ?_
  refine d1_V (pc := 863) (t := 7) (i := 0) (rest := []) (cs' := (cs + 2)) (sl' := (sl + 12)) mv_L_134 d2 rfl ⟨(Nat.le_of_ble_eq_true rfl), (Nat.le_of_ble_eq_true rfl)⟩ (Nat.le_of_ble_eq_true rfl) dL_law_863 (show (0 : Int) ≤ 0 by omega) (show 0 < 1 by omega) ⟨rfl, (by show _ ≤ 601024; omega)⟩ ⟨rfl, (by show _ ≤ 7293034; omega)⟩ rfl ?_
  refine r_istore (pc := 866) (xs' := [some (aR 99 0), some (aR 6 0), some (aR 7 0), some (aR 60 0), some (aI i), some (aI cd), some (aI b)]) dL_law_866 (Nat.le_of_ble_eq_true rfl) rfl ?_
  refine r_aload_n (pc := 868) dL_law_868 rfl ?_
  refine d1_V (pc := 869) (t := 7) (i := 0) (rest := []) (cs' := (cs + 2)) (sl' := (sl + 12)) mv_L_100 (show Det I_X7_thrown [aR 7 0] (hp hi2 nb1 nk1) (some (aI cd)) (hp hi2 nb1 nk1) from by rw [← e1]; exact K_X7_thrown) rfl ⟨(Nat.le_of_ble_eq_true rfl), (Nat.le_of_ble_eq_true rfl)⟩ (Nat.le_of_ble_eq_true rfl) dL_law_869 (show (0 : Int) ≤ 0 by omega) (show 0 < 1 by omega) ⟨rfl, (by show _ ≤ 601024; omega)⟩ ⟨rfl, (by show _ ≤ 7293034; omega)⟩ rfl ?_
  refine r_iload (pc := 872) dL_law_872 rfl ?_
  refine r_icmp_eq (pc := 874) (tgt := 879) dL_law_874 rfl (fun c874 => ?_) (fun c874 => absurd rfl c874)
  refine r_iload (pc := 879) dL_law_879 rfl ?_
  refine r_if_ne (pc := 881) (tgt := 896) dL_law_881 rfl (fun c881 => ?_) (fun c881 => ?_)
  · refine r_goto (pc := 896) (tgt := 1748) dL_law_896 rfl ?_
    refine r_drop (xs' := [some (aR 99 0), some (aR 6 0), some (aR 7 0), some (aR 60 0), some (aI i), none, some (aI b)]) 5 rfl ?_
    refine r_drop (xs' := [some (aR 99 0), some (aR 6 0), some (aR 7 0), some (aR 60 0), some (aI i), none, none]) 6 rfl ?_
    refine r_wide (cs' := cs + 40) (sl' := sl + 400) (by omega) (by omega) ?_
    exact K _ _ _ hI2
  · refine r_aload_n (pc := 884) dL_law_884 rfl ?_
    refine r_iconst (pc := 885) (n := 0) dL_law_885 (by decide) ?_
    refine q_lald (pc := 886) (n9 := 1) (nI := 1) (v := hi2 60 0 0) rfl dL_law_886 rfl (by decide) (by decide) rfl (by omega) (by omega) rfl ?_
    refine r_iload (pc := 887) dL_law_887 rfl ?_
    refine r_i2l (pc := 889) dL_law_889 ?_
    refine r_lcmp (pc := 890) dL_law_890 ?_
    refine r_if_eq (pc := 891) (tgt := 896) dL_law_891 rfl (fun c891 => ?_) (fun c891 => absurd (cmp_eq (e2 c881)) c891)
    refine r_goto (pc := 896) (tgt := 1748) dL_law_896 rfl ?_
    refine r_drop (xs' := [some (aR 99 0), some (aR 6 0), some (aR 7 0), some (aR 60 0), some (aI i), none, some (aI b)]) 5 rfl ?_
    refine r_drop (xs' := [some (aR 99 0), some (aR 6 0), some (aR 7 0), some (aR 60 0), some (aI i), none, none]) 6 rfl ?_
    refine r_wide (cs' := cs + 40) (sl' := sl + 400) (by omega) (by omega) ?_
    exact K _ _ _ hI2

theorem law_quota {nm : String} {hh : List (Nat × Nat × Nat × Nat)} {L : Nat} {sc : Nat → Int32} {hi : Hi} {nb nk i : Int} {cs sl : Nat} {Q : Option Av → Hp → Prop} {X : String → Hp → Prop} (hI : Inv hi nb nk) (h0 : 0 ≤ i) (h1 : i + 5 ≤ (L : Int)) (hL : L ≤ 2560) (hcs : cs + 40 ≤ 601024) (hsl : sl + 400 ≤ 7293034) (K : ∀ (hi' : Hi) (nb' nk' : Int), Inv hi' nb' nk' → Run (I_law nm hh L sc) 1748 [some (aR 99 0), some (aR 6 0), some (aR 7 0), some (aR 60 0), some (aI i), none, none] [] (hp hi' nb' nk') (cs + 40) (sl + 400) Q X) : Run (I_law nm hh L sc) 899 [some (aR 99 0), some (aR 6 0), some (aR 7 0), some (aR 60 0), some (aI i), none, none] [] (hp hi nb nk) cs sl Q X := by
  obtain ⟨cd, b, hi1, hi2, nb1, nk1, d1, d2, e1, e2, hI2⟩ := J_quota hI (a := (sc (i + 1).toNat).toInt) (b := (sc (i + 2).toNat).toInt) (c := (sc (i + 3).toNat).toInt)
  refine r_aload_n (pc := 899) dL_law_899 rfl ?_
  refine r_aload_n (pc := 900) dL_law_900 rfl ?_
  refine r_iload (pc := 901) dL_law_901 rfl ?_
  refine r_iconst (pc := 903) (n := 1) dL_law_903 (by decide) ?_
  refine r_iadd (pc := 904) dL_law_904 (by omega) ?_
  refine r_sld (pc := 905) (L := L) (sc := sc) rfl dL_law_905 (by omega) (by omega) ?_
  refine r_aload_n (pc := 906) dL_law_906 rfl ?_
  refine r_iload (pc := 907) dL_law_907 rfl ?_
  refine r_iconst (pc := 909) (n := 2) dL_law_909 (by decide) ?_
  refine r_iadd (pc := 910) dL_law_910 (by omega) ?_
  refine r_sld (pc := 911) (L := L) (sc := sc) rfl dL_law_911 (by omega) (by omega) ?_
  refine r_aload_n (pc := 912) dL_law_912 rfl ?_
  refine r_iload (pc := 913) dL_law_913 rfl ?_
  refine r_iconst (pc := 915) (n := 3) dL_law_915 (by decide) ?_
  refine r_iadd (pc := 916) dL_law_916 (by omega) ?_
  refine r_sld (pc := 917) (L := L) (sc := sc) rfl dL_law_917 (by omega) (by omega) ?_
  refine r_aload_n (pc := 918) dL_law_918 rfl ?_
  refine d1_SX (pc := 919) (rest := []) (cs' := (cs + 3)) (sl' := (sl + 18)) ms_L_135 (by simp [I_L_quota]) d1 rfl ⟨(Nat.le_of_ble_eq_true rfl), (Nat.le_of_ble_eq_true rfl)⟩ (Nat.le_of_ble_eq_true rfl) dL_law_919 ⟨rfl, (by show _ ≤ 601024; omega)⟩ ⟨rfl, (by show _ ≤ 7293034; omega)⟩ rfl ?_
  refine r_istore (pc := 922) (xs' := [some (aR 99 0), some (aR 6 0), some (aR 7 0), some (aR 60 0), some (aI i), some (aI cd), none]) dL_law_922 (Nat.le_of_ble_eq_true rfl) rfl ?_
  refine r_aload_n (pc := 924) dL_law_924 rfl ?_
  refine r_aload_n (pc := 925) dL_law_925 rfl ?_
  refine r_iload (pc := 926) dL_law_926 rfl ?_
  refine r_iconst (pc := 928) (n := 1) dL_law_928 (by decide) ?_
  refine r_iadd (pc := 929) dL_law_929 (by omega) ?_
  refine r_sld (pc := 930) (L := L) (sc := sc) rfl dL_law_930 (by omega) (by omega) ?_
  refine r_aload_n (pc := 931) dL_law_931 rfl ?_
  refine r_iload (pc := 932) dL_law_932 rfl ?_
  refine r_iconst (pc := 934) (n := 2) dL_law_934 (by decide) ?_
  refine r_iadd (pc := 935) dL_law_935 (by omega) ?_
  refine r_sld (pc := 936) (L := L) (sc := sc) rfl dL_law_936 (by omega) (by omega) ?_
  refine r_aload_n (pc := 937) dL_law_937 rfl ?_
  refine r_iload (pc := 938) dL_law_938 rfl ?_
  refine r_iconst (pc := 940) (n := 3) dL_law_940 (by decide) ?_
  refine r_iadd (pc := 941) dL_law_941 (by omega) ?_
  refine r_sld (pc := 942) (L := L) (sc := sc) rfl dL_law_942 (by omega) (by omega) ?_
  refine d1_V (pc := 943) (t := 7) (i := 0) (rest := []) (cs' := (cs + 3)) (sl' := (sl + 18)) mv_L_137 d2 rfl ⟨(Nat.le_of_ble_eq_true rfl), (Nat.le_of_ble_eq_true rfl)⟩ (Nat.le_of_ble_eq_true rfl) dL_law_943 (show (0 : Int) ≤ 0 by omega) (show 0 < 1 by omega) ⟨rfl, (by show _ ≤ 601024; omega)⟩ ⟨rfl, (by show _ ≤ 7293034; omega)⟩ rfl ?_
  refine r_istore (pc := 946) (xs' := [some (aR 99 0), some (aR 6 0), some (aR 7 0), some (aR 60 0), some (aI i), some (aI cd), some (aI b)]) dL_law_946 (Nat.le_of_ble_eq_true rfl) rfl ?_
  refine r_aload_n (pc := 948) dL_law_948 rfl ?_
  refine d1_V (pc := 949) (t := 7) (i := 0) (rest := []) (cs' := (cs + 3)) (sl' := (sl + 18)) mv_L_100 (show Det I_X7_thrown [aR 7 0] (hp hi2 nb1 nk1) (some (aI cd)) (hp hi2 nb1 nk1) from by rw [← e1]; exact K_X7_thrown) rfl ⟨(Nat.le_of_ble_eq_true rfl), (Nat.le_of_ble_eq_true rfl)⟩ (Nat.le_of_ble_eq_true rfl) dL_law_949 (show (0 : Int) ≤ 0 by omega) (show 0 < 1 by omega) ⟨rfl, (by show _ ≤ 601024; omega)⟩ ⟨rfl, (by show _ ≤ 7293034; omega)⟩ rfl ?_
  refine r_iload (pc := 952) dL_law_952 rfl ?_
  refine r_icmp_eq (pc := 954) (tgt := 959) dL_law_954 rfl (fun c954 => ?_) (fun c954 => absurd rfl c954)
  refine r_iload (pc := 959) dL_law_959 rfl ?_
  refine r_if_ne (pc := 961) (tgt := 976) dL_law_961 rfl (fun c961 => ?_) (fun c961 => ?_)
  · refine r_goto (pc := 976) (tgt := 1748) dL_law_976 rfl ?_
    refine r_drop (xs' := [some (aR 99 0), some (aR 6 0), some (aR 7 0), some (aR 60 0), some (aI i), none, some (aI b)]) 5 rfl ?_
    refine r_drop (xs' := [some (aR 99 0), some (aR 6 0), some (aR 7 0), some (aR 60 0), some (aI i), none, none]) 6 rfl ?_
    refine r_wide (cs' := cs + 40) (sl' := sl + 400) (by omega) (by omega) ?_
    exact K _ _ _ hI2
  · refine r_aload_n (pc := 964) dL_law_964 rfl ?_
    refine r_iconst (pc := 965) (n := 0) dL_law_965 (by decide) ?_
    refine q_lald (pc := 966) (n9 := 1) (nI := 1) (v := hi2 60 0 0) rfl dL_law_966 rfl (by decide) (by decide) rfl (by omega) (by omega) rfl ?_
    refine r_iload (pc := 967) dL_law_967 rfl ?_
    refine r_i2l (pc := 969) dL_law_969 ?_
    refine r_lcmp (pc := 970) dL_law_970 ?_
    refine r_if_eq (pc := 971) (tgt := 976) dL_law_971 rfl (fun c971 => ?_) (fun c971 => absurd (cmp_eq (e2 c961)) c971)
    refine r_goto (pc := 976) (tgt := 1748) dL_law_976 rfl ?_
    refine r_drop (xs' := [some (aR 99 0), some (aR 6 0), some (aR 7 0), some (aR 60 0), some (aI i), none, some (aI b)]) 5 rfl ?_
    refine r_drop (xs' := [some (aR 99 0), some (aR 6 0), some (aR 7 0), some (aR 60 0), some (aI i), none, none]) 6 rfl ?_
    refine r_wide (cs' := cs + 40) (sl' := sl + 400) (by omega) (by omega) ?_
    exact K _ _ _ hI2

theorem law_handIn {nm : String} {hh : List (Nat × Nat × Nat × Nat)} {L : Nat} {sc : Nat → Int32} {hi : Hi} {nb nk i : Int} {cs sl : Nat} {Q : Option Av → Hp → Prop} {X : String → Hp → Prop} (hI : Inv hi nb nk) (h0 : 0 ≤ i) (h1 : i + 5 ≤ (L : Int)) (hL : L ≤ 2560) (hcs : cs + 40 ≤ 601024) (hsl : sl + 400 ≤ 7293034) (K : ∀ (hi' : Hi) (nb' nk' : Int), Inv hi' nb' nk' → Run (I_law nm hh L sc) 1748 [some (aR 99 0), some (aR 6 0), some (aR 7 0), some (aR 60 0), some (aI i), none, none] [] (hp hi' nb' nk') (cs + 40) (sl + 400) Q X) : Run (I_law nm hh L sc) 979 [some (aR 99 0), some (aR 6 0), some (aR 7 0), some (aR 60 0), some (aI i), none, none] [] (hp hi nb nk) cs sl Q X := by
  obtain ⟨cd, b, hi1, hi2, nb1, nk1, d1, d2, e1, e2, hI2⟩ := J_handIn hI (b := (sc (i + 1).toNat).toInt)
  refine r_aload_n (pc := 979) dL_law_979 rfl ?_
  refine r_aload_n (pc := 980) dL_law_980 rfl ?_
  refine r_iload (pc := 981) dL_law_981 rfl ?_
  refine r_iconst (pc := 983) (n := 1) dL_law_983 (by decide) ?_
  refine r_iadd (pc := 984) dL_law_984 (by omega) ?_
  refine r_sld (pc := 985) (L := L) (sc := sc) rfl dL_law_985 (by omega) (by omega) ?_
  refine r_aload_n (pc := 986) dL_law_986 rfl ?_
  refine d1_SX (pc := 987) (rest := []) (cs' := (cs + 6)) (sl' := (sl + 36)) ms_L_138 (by simp [I_L_handIn]) d1 rfl ⟨(Nat.le_of_ble_eq_true rfl), (Nat.le_of_ble_eq_true rfl)⟩ (Nat.le_of_ble_eq_true rfl) dL_law_987 ⟨rfl, (by show _ ≤ 601024; omega)⟩ ⟨rfl, (by show _ ≤ 7293034; omega)⟩ rfl ?_
  refine r_istore (pc := 990) (xs' := [some (aR 99 0), some (aR 6 0), some (aR 7 0), some (aR 60 0), some (aI i), some (aI cd), none]) dL_law_990 (Nat.le_of_ble_eq_true rfl) rfl ?_
  refine r_aload_n (pc := 992) dL_law_992 rfl ?_
  refine r_aload_n (pc := 993) dL_law_993 rfl ?_
  refine r_iload (pc := 994) dL_law_994 rfl ?_
  refine r_iconst (pc := 996) (n := 1) dL_law_996 (by decide) ?_
  refine r_iadd (pc := 997) dL_law_997 (by omega) ?_
  refine r_sld (pc := 998) (L := L) (sc := sc) rfl dL_law_998 (by omega) (by omega) ?_
  refine d1_V (pc := 999) (t := 7) (i := 0) (rest := []) (cs' := (cs + 6)) (sl' := (sl + 36)) mv_L_140 d2 rfl ⟨(Nat.le_of_ble_eq_true rfl), (Nat.le_of_ble_eq_true rfl)⟩ (Nat.le_of_ble_eq_true rfl) dL_law_999 (show (0 : Int) ≤ 0 by omega) (show 0 < 1 by omega) ⟨rfl, (by show _ ≤ 601024; omega)⟩ ⟨rfl, (by show _ ≤ 7293034; omega)⟩ rfl ?_
  refine r_istore (pc := 1002) (xs' := [some (aR 99 0), some (aR 6 0), some (aR 7 0), some (aR 60 0), some (aI i), some (aI cd), some (aI b)]) dL_law_1002 (Nat.le_of_ble_eq_true rfl) rfl ?_
  refine r_aload_n (pc := 1004) dL_law_1004 rfl ?_
  refine d1_V (pc := 1005) (t := 7) (i := 0) (rest := []) (cs' := (cs + 6)) (sl' := (sl + 36)) mv_L_100 (show Det I_X7_thrown [aR 7 0] (hp hi2 nb1 nk1) (some (aI cd)) (hp hi2 nb1 nk1) from by rw [← e1]; exact K_X7_thrown) rfl ⟨(Nat.le_of_ble_eq_true rfl), (Nat.le_of_ble_eq_true rfl)⟩ (Nat.le_of_ble_eq_true rfl) dL_law_1005 (show (0 : Int) ≤ 0 by omega) (show 0 < 1 by omega) ⟨rfl, (by show _ ≤ 601024; omega)⟩ ⟨rfl, (by show _ ≤ 7293034; omega)⟩ rfl ?_
  refine r_iload (pc := 1008) dL_law_1008 rfl ?_
  refine r_icmp_eq (pc := 1010) (tgt := 1015) dL_law_1010 rfl (fun c1010 => ?_) (fun c1010 => absurd rfl c1010)
  refine r_iload (pc := 1015) dL_law_1015 rfl ?_
  refine r_if_ne (pc := 1017) (tgt := 1032) dL_law_1017 rfl (fun c1017 => ?_) (fun c1017 => ?_)
  · refine r_goto (pc := 1032) (tgt := 1748) dL_law_1032 rfl ?_
    refine r_drop (xs' := [some (aR 99 0), some (aR 6 0), some (aR 7 0), some (aR 60 0), some (aI i), none, some (aI b)]) 5 rfl ?_
    refine r_drop (xs' := [some (aR 99 0), some (aR 6 0), some (aR 7 0), some (aR 60 0), some (aI i), none, none]) 6 rfl ?_
    refine r_wide (cs' := cs + 40) (sl' := sl + 400) (by omega) (by omega) ?_
    exact K _ _ _ hI2
  · refine r_aload_n (pc := 1020) dL_law_1020 rfl ?_
    refine r_iconst (pc := 1021) (n := 0) dL_law_1021 (by decide) ?_
    refine q_lald (pc := 1022) (n9 := 1) (nI := 1) (v := hi2 60 0 0) rfl dL_law_1022 rfl (by decide) (by decide) rfl (by omega) (by omega) rfl ?_
    refine r_iload (pc := 1023) dL_law_1023 rfl ?_
    refine r_i2l (pc := 1025) dL_law_1025 ?_
    refine r_lcmp (pc := 1026) dL_law_1026 ?_
    refine r_if_eq (pc := 1027) (tgt := 1032) dL_law_1027 rfl (fun c1027 => ?_) (fun c1027 => absurd (cmp_eq (e2 c1017)) c1027)
    refine r_goto (pc := 1032) (tgt := 1748) dL_law_1032 rfl ?_
    refine r_drop (xs' := [some (aR 99 0), some (aR 6 0), some (aR 7 0), some (aR 60 0), some (aI i), none, some (aI b)]) 5 rfl ?_
    refine r_drop (xs' := [some (aR 99 0), some (aR 6 0), some (aR 7 0), some (aR 60 0), some (aI i), none, none]) 6 rfl ?_
    refine r_wide (cs' := cs + 40) (sl' := sl + 400) (by omega) (by omega) ?_
    exact K _ _ _ hI2

theorem law_damage {nm : String} {hh : List (Nat × Nat × Nat × Nat)} {L : Nat} {sc : Nat → Int32} {hi : Hi} {nb nk i : Int} {cs sl : Nat} {Q : Option Av → Hp → Prop} {X : String → Hp → Prop} (hI : Inv hi nb nk) (h0 : 0 ≤ i) (h1 : i + 5 ≤ (L : Int)) (hL : L ≤ 2560) (hcs : cs + 40 ≤ 601024) (hsl : sl + 400 ≤ 7293034) (K : ∀ (hi' : Hi) (nb' nk' : Int), Inv hi' nb' nk' → Run (I_law nm hh L sc) 1748 [some (aR 99 0), some (aR 6 0), some (aR 7 0), some (aR 60 0), some (aI i), none, none] [] (hp hi' nb' nk') (cs + 40) (sl + 400) Q X) : Run (I_law nm hh L sc) 1035 [some (aR 99 0), some (aR 6 0), some (aR 7 0), some (aR 60 0), some (aI i), none, none] [] (hp hi nb nk) cs sl Q X := by
  obtain ⟨cd, b, hi1, hi2, nb1, nk1, d1, d2, e1, e2, hI2⟩ := J_damage hI (b := (sc (i + 1).toNat).toInt) (co := (sc (i + 2).toNat).toInt) (si := (sc (i + 3).toNat).toInt)
  refine r_aload_n (pc := 1035) dL_law_1035 rfl ?_
  refine r_aload_n (pc := 1036) dL_law_1036 rfl ?_
  refine r_iload (pc := 1037) dL_law_1037 rfl ?_
  refine r_iconst (pc := 1039) (n := 1) dL_law_1039 (by decide) ?_
  refine r_iadd (pc := 1040) dL_law_1040 (by omega) ?_
  refine r_sld (pc := 1041) (L := L) (sc := sc) rfl dL_law_1041 (by omega) (by omega) ?_
  refine r_aload_n (pc := 1042) dL_law_1042 rfl ?_
  refine r_iload (pc := 1043) dL_law_1043 rfl ?_
  refine r_iconst (pc := 1045) (n := 2) dL_law_1045 (by decide) ?_
  refine r_iadd (pc := 1046) dL_law_1046 (by omega) ?_
  refine r_sld (pc := 1047) (L := L) (sc := sc) rfl dL_law_1047 (by omega) (by omega) ?_
  refine r_aload_n (pc := 1048) dL_law_1048 rfl ?_
  refine r_iload (pc := 1049) dL_law_1049 rfl ?_
  refine r_iconst (pc := 1051) (n := 3) dL_law_1051 (by decide) ?_
  refine r_iadd (pc := 1052) dL_law_1052 (by omega) ?_
  refine r_sld (pc := 1053) (L := L) (sc := sc) rfl dL_law_1053 (by omega) (by omega) ?_
  refine r_aload_n (pc := 1054) dL_law_1054 rfl ?_
  refine d1_SX (pc := 1055) (rest := []) (cs' := (cs + 5)) (sl' := (sl + 30)) ms_L_141 (by simp [I_L_damage]) d1 rfl ⟨(Nat.le_of_ble_eq_true rfl), (Nat.le_of_ble_eq_true rfl)⟩ (Nat.le_of_ble_eq_true rfl) dL_law_1055 ⟨rfl, (by show _ ≤ 601024; omega)⟩ ⟨rfl, (by show _ ≤ 7293034; omega)⟩ rfl ?_
  refine r_istore (pc := 1058) (xs' := [some (aR 99 0), some (aR 6 0), some (aR 7 0), some (aR 60 0), some (aI i), some (aI cd), none]) dL_law_1058 (Nat.le_of_ble_eq_true rfl) rfl ?_
  refine r_aload_n (pc := 1060) dL_law_1060 rfl ?_
  refine r_aload_n (pc := 1061) dL_law_1061 rfl ?_
  refine r_iload (pc := 1062) dL_law_1062 rfl ?_
  refine r_iconst (pc := 1064) (n := 1) dL_law_1064 (by decide) ?_
  refine r_iadd (pc := 1065) dL_law_1065 (by omega) ?_
  refine r_sld (pc := 1066) (L := L) (sc := sc) rfl dL_law_1066 (by omega) (by omega) ?_
  refine r_aload_n (pc := 1067) dL_law_1067 rfl ?_
  refine r_iload (pc := 1068) dL_law_1068 rfl ?_
  refine r_iconst (pc := 1070) (n := 2) dL_law_1070 (by decide) ?_
  refine r_iadd (pc := 1071) dL_law_1071 (by omega) ?_
  refine r_sld (pc := 1072) (L := L) (sc := sc) rfl dL_law_1072 (by omega) (by omega) ?_
  refine r_aload_n (pc := 1073) dL_law_1073 rfl ?_
  refine r_iload (pc := 1074) dL_law_1074 rfl ?_
  refine r_iconst (pc := 1076) (n := 3) dL_law_1076 (by decide) ?_
  refine r_iadd (pc := 1077) dL_law_1077 (by omega) ?_
  refine r_sld (pc := 1078) (L := L) (sc := sc) rfl dL_law_1078 (by omega) (by omega) ?_
  refine d1_V (pc := 1079) (t := 7) (i := 0) (rest := []) (cs' := (cs + 5)) (sl' := (sl + 30)) mv_L_143 d2 rfl ⟨(Nat.le_of_ble_eq_true rfl), (Nat.le_of_ble_eq_true rfl)⟩ (Nat.le_of_ble_eq_true rfl) dL_law_1079 (show (0 : Int) ≤ 0 by omega) (show 0 < 1 by omega) ⟨rfl, (by show _ ≤ 601024; omega)⟩ ⟨rfl, (by show _ ≤ 7293034; omega)⟩ rfl ?_
  refine r_istore (pc := 1082) (xs' := [some (aR 99 0), some (aR 6 0), some (aR 7 0), some (aR 60 0), some (aI i), some (aI cd), some (aI b)]) dL_law_1082 (Nat.le_of_ble_eq_true rfl) rfl ?_
  refine r_aload_n (pc := 1084) dL_law_1084 rfl ?_
  refine d1_V (pc := 1085) (t := 7) (i := 0) (rest := []) (cs' := (cs + 5)) (sl' := (sl + 30)) mv_L_100 (show Det I_X7_thrown [aR 7 0] (hp hi2 nb1 nk1) (some (aI cd)) (hp hi2 nb1 nk1) from by rw [← e1]; exact K_X7_thrown) rfl ⟨(Nat.le_of_ble_eq_true rfl), (Nat.le_of_ble_eq_true rfl)⟩ (Nat.le_of_ble_eq_true rfl) dL_law_1085 (show (0 : Int) ≤ 0 by omega) (show 0 < 1 by omega) ⟨rfl, (by show _ ≤ 601024; omega)⟩ ⟨rfl, (by show _ ≤ 7293034; omega)⟩ rfl ?_
  refine r_iload (pc := 1088) dL_law_1088 rfl ?_
  refine r_icmp_eq (pc := 1090) (tgt := 1095) dL_law_1090 rfl (fun c1090 => ?_) (fun c1090 => absurd rfl c1090)
  refine r_iload (pc := 1095) dL_law_1095 rfl ?_
  refine r_if_ne (pc := 1097) (tgt := 1112) dL_law_1097 rfl (fun c1097 => ?_) (fun c1097 => ?_)
  · refine r_goto (pc := 1112) (tgt := 1748) dL_law_1112 rfl ?_
    refine r_drop (xs' := [some (aR 99 0), some (aR 6 0), some (aR 7 0), some (aR 60 0), some (aI i), none, some (aI b)]) 5 rfl ?_
    refine r_drop (xs' := [some (aR 99 0), some (aR 6 0), some (aR 7 0), some (aR 60 0), some (aI i), none, none]) 6 rfl ?_
    refine r_wide (cs' := cs + 40) (sl' := sl + 400) (by omega) (by omega) ?_
    exact K _ _ _ hI2
  · refine r_aload_n (pc := 1100) dL_law_1100 rfl ?_
    refine r_iconst (pc := 1101) (n := 0) dL_law_1101 (by decide) ?_
    refine q_lald (pc := 1102) (n9 := 1) (nI := 1) (v := hi2 60 0 0) rfl dL_law_1102 rfl (by decide) (by decide) rfl (by omega) (by omega) rfl ?_
    refine r_iload (pc := 1103) dL_law_1103 rfl ?_
    refine r_i2l (pc := 1105) dL_law_1105 ?_
    refine r_lcmp (pc := 1106) dL_law_1106 ?_
    refine r_if_eq (pc := 1107) (tgt := 1112) dL_law_1107 rfl (fun c1107 => ?_) (fun c1107 => absurd (cmp_eq (e2 c1097)) c1107)
    refine r_goto (pc := 1112) (tgt := 1748) dL_law_1112 rfl ?_
    refine r_drop (xs' := [some (aR 99 0), some (aR 6 0), some (aR 7 0), some (aR 60 0), some (aI i), none, some (aI b)]) 5 rfl ?_
    refine r_drop (xs' := [some (aR 99 0), some (aR 6 0), some (aR 7 0), some (aR 60 0), some (aI i), none, none]) 6 rfl ?_
    refine r_wide (cs' := cs + 40) (sl' := sl + 400) (by omega) (by omega) ?_
    exact K _ _ _ hI2

theorem law_standard {nm : String} {hh : List (Nat × Nat × Nat × Nat)} {L : Nat} {sc : Nat → Int32} {hi : Hi} {nb nk i : Int} {cs sl : Nat} {Q : Option Av → Hp → Prop} {X : String → Hp → Prop} (hI : Inv hi nb nk) (h0 : 0 ≤ i) (h1 : i + 5 ≤ (L : Int)) (hL : L ≤ 2560) (hcs : cs + 40 ≤ 601024) (hsl : sl + 400 ≤ 7293034) (K : ∀ (hi' : Hi) (nb' nk' : Int), Inv hi' nb' nk' → Run (I_law nm hh L sc) 1748 [some (aR 99 0), some (aR 6 0), some (aR 7 0), some (aR 60 0), some (aI i), none, none] [] (hp hi' nb' nk') (cs + 40) (sl + 400) Q X) : Run (I_law nm hh L sc) 1115 [some (aR 99 0), some (aR 6 0), some (aR 7 0), some (aR 60 0), some (aI i), none, none] [] (hp hi nb nk) cs sl Q X := by
  obtain ⟨cd, b, hi1, hi2, nb1, nk1, d1, d2, e1, e2, hI2⟩ := J_standard hI (a := (sc (i + 1).toNat).toInt) (c := (sc (i + 2).toNat).toInt)
  refine r_aload_n (pc := 1115) dL_law_1115 rfl ?_
  refine r_aload_n (pc := 1116) dL_law_1116 rfl ?_
  refine r_iload (pc := 1117) dL_law_1117 rfl ?_
  refine r_iconst (pc := 1119) (n := 1) dL_law_1119 (by decide) ?_
  refine r_iadd (pc := 1120) dL_law_1120 (by omega) ?_
  refine r_sld (pc := 1121) (L := L) (sc := sc) rfl dL_law_1121 (by omega) (by omega) ?_
  refine r_aload_n (pc := 1122) dL_law_1122 rfl ?_
  refine r_iload (pc := 1123) dL_law_1123 rfl ?_
  refine r_iconst (pc := 1125) (n := 2) dL_law_1125 (by decide) ?_
  refine r_iadd (pc := 1126) dL_law_1126 (by omega) ?_
  refine r_sld (pc := 1127) (L := L) (sc := sc) rfl dL_law_1127 (by omega) (by omega) ?_
  refine r_aload_n (pc := 1128) dL_law_1128 rfl ?_
  refine d1_SX (pc := 1129) (rest := []) (cs' := (cs + 2)) (sl' := (sl + 12)) ms_L_144 (by simp [I_L_standard]) d1 rfl ⟨(Nat.le_of_ble_eq_true rfl), (Nat.le_of_ble_eq_true rfl)⟩ (Nat.le_of_ble_eq_true rfl) dL_law_1129 ⟨rfl, (by show _ ≤ 601024; omega)⟩ ⟨rfl, (by show _ ≤ 7293034; omega)⟩ rfl ?_
  refine r_istore (pc := 1132) (xs' := [some (aR 99 0), some (aR 6 0), some (aR 7 0), some (aR 60 0), some (aI i), some (aI cd), none]) dL_law_1132 (Nat.le_of_ble_eq_true rfl) rfl ?_
  refine r_aload_n (pc := 1134) dL_law_1134 rfl ?_
  refine r_aload_n (pc := 1135) dL_law_1135 rfl ?_
  refine r_iload (pc := 1136) dL_law_1136 rfl ?_
  refine r_iconst (pc := 1138) (n := 1) dL_law_1138 (by decide) ?_
  refine r_iadd (pc := 1139) dL_law_1139 (by omega) ?_
  refine r_sld (pc := 1140) (L := L) (sc := sc) rfl dL_law_1140 (by omega) (by omega) ?_
  refine r_aload_n (pc := 1141) dL_law_1141 rfl ?_
  refine r_iload (pc := 1142) dL_law_1142 rfl ?_
  refine r_iconst (pc := 1144) (n := 2) dL_law_1144 (by decide) ?_
  refine r_iadd (pc := 1145) dL_law_1145 (by omega) ?_
  refine r_sld (pc := 1146) (L := L) (sc := sc) rfl dL_law_1146 (by omega) (by omega) ?_
  refine d1_V (pc := 1147) (t := 7) (i := 0) (rest := []) (cs' := (cs + 2)) (sl' := (sl + 12)) mv_L_146 d2 rfl ⟨(Nat.le_of_ble_eq_true rfl), (Nat.le_of_ble_eq_true rfl)⟩ (Nat.le_of_ble_eq_true rfl) dL_law_1147 (show (0 : Int) ≤ 0 by omega) (show 0 < 1 by omega) ⟨rfl, (by show _ ≤ 601024; omega)⟩ ⟨rfl, (by show _ ≤ 7293034; omega)⟩ rfl ?_
  refine r_istore (pc := 1150) (xs' := [some (aR 99 0), some (aR 6 0), some (aR 7 0), some (aR 60 0), some (aI i), some (aI cd), some (aI b)]) dL_law_1150 (Nat.le_of_ble_eq_true rfl) rfl ?_
  refine r_aload_n (pc := 1152) dL_law_1152 rfl ?_
  refine d1_V (pc := 1153) (t := 7) (i := 0) (rest := []) (cs' := (cs + 2)) (sl' := (sl + 12)) mv_L_100 (show Det I_X7_thrown [aR 7 0] (hp hi2 nb1 nk1) (some (aI cd)) (hp hi2 nb1 nk1) from by rw [← e1]; exact K_X7_thrown) rfl ⟨(Nat.le_of_ble_eq_true rfl), (Nat.le_of_ble_eq_true rfl)⟩ (Nat.le_of_ble_eq_true rfl) dL_law_1153 (show (0 : Int) ≤ 0 by omega) (show 0 < 1 by omega) ⟨rfl, (by show _ ≤ 601024; omega)⟩ ⟨rfl, (by show _ ≤ 7293034; omega)⟩ rfl ?_
  refine r_iload (pc := 1156) dL_law_1156 rfl ?_
  refine r_icmp_eq (pc := 1158) (tgt := 1163) dL_law_1158 rfl (fun c1158 => ?_) (fun c1158 => absurd rfl c1158)
  refine r_iload (pc := 1163) dL_law_1163 rfl ?_
  refine r_if_ne (pc := 1165) (tgt := 1180) dL_law_1165 rfl (fun c1165 => ?_) (fun c1165 => ?_)
  · refine r_goto (pc := 1180) (tgt := 1748) dL_law_1180 rfl ?_
    refine r_drop (xs' := [some (aR 99 0), some (aR 6 0), some (aR 7 0), some (aR 60 0), some (aI i), none, some (aI b)]) 5 rfl ?_
    refine r_drop (xs' := [some (aR 99 0), some (aR 6 0), some (aR 7 0), some (aR 60 0), some (aI i), none, none]) 6 rfl ?_
    refine r_wide (cs' := cs + 40) (sl' := sl + 400) (by omega) (by omega) ?_
    exact K _ _ _ hI2
  · refine r_aload_n (pc := 1168) dL_law_1168 rfl ?_
    refine r_iconst (pc := 1169) (n := 0) dL_law_1169 (by decide) ?_
    refine q_lald (pc := 1170) (n9 := 1) (nI := 1) (v := hi2 60 0 0) rfl dL_law_1170 rfl (by decide) (by decide) rfl (by omega) (by omega) rfl ?_
    refine r_iload (pc := 1171) dL_law_1171 rfl ?_
    refine r_i2l (pc := 1173) dL_law_1173 ?_
    refine r_lcmp (pc := 1174) dL_law_1174 ?_
    refine r_if_eq (pc := 1175) (tgt := 1180) dL_law_1175 rfl (fun c1175 => ?_) (fun c1175 => absurd (cmp_eq (e2 c1165)) c1175)
    refine r_goto (pc := 1180) (tgt := 1748) dL_law_1180 rfl ?_
    refine r_drop (xs' := [some (aR 99 0), some (aR 6 0), some (aR 7 0), some (aR 60 0), some (aI i), none, some (aI b)]) 5 rfl ?_
    refine r_drop (xs' := [some (aR 99 0), some (aR 6 0), some (aR 7 0), some (aR 60 0), some (aI i), none, none]) 6 rfl ?_
    refine r_wide (cs' := cs + 40) (sl' := sl + 400) (by omega) (by omega) ?_
    exact K _ _ _ hI2

theorem law_limit {nm : String} {hh : List (Nat × Nat × Nat × Nat)} {L : Nat} {sc : Nat → Int32} {hi : Hi} {nb nk i : Int} {cs sl : Nat} {Q : Option Av → Hp → Prop} {X : String → Hp → Prop} (hI : Inv hi nb nk) (h0 : 0 ≤ i) (h1 : i + 5 ≤ (L : Int)) (hL : L ≤ 2560) (hcs : cs + 40 ≤ 601024) (hsl : sl + 400 ≤ 7293034) (K : ∀ (hi' : Hi) (nb' nk' : Int), Inv hi' nb' nk' → Run (I_law nm hh L sc) 1748 [some (aR 99 0), some (aR 6 0), some (aR 7 0), some (aR 60 0), some (aI i), none, none] [] (hp hi' nb' nk') (cs + 40) (sl + 400) Q X) : Run (I_law nm hh L sc) 1183 [some (aR 99 0), some (aR 6 0), some (aR 7 0), some (aR 60 0), some (aI i), none, none] [] (hp hi nb nk) cs sl Q X := by
  obtain ⟨cd, b, hi1, hi2, nb1, nk1, d1, d2, e1, e2, hI2⟩ := J_limit hI (d := (sc (i + 1).toNat).toInt)
  refine r_aload_n (pc := 1183) dL_law_1183 rfl ?_
  refine r_aload_n (pc := 1184) dL_law_1184 rfl ?_
  refine r_iload (pc := 1185) dL_law_1185 rfl ?_
  refine r_iconst (pc := 1187) (n := 1) dL_law_1187 (by decide) ?_
  refine r_iadd (pc := 1188) dL_law_1188 (by omega) ?_
  refine r_sld (pc := 1189) (L := L) (sc := sc) rfl dL_law_1189 (by omega) (by omega) ?_
  refine r_aload_n (pc := 1190) dL_law_1190 rfl ?_
  refine d1_SX (pc := 1191) (rest := []) (cs' := (cs + 1)) (sl' := (sl + 6)) ms_L_147 (by simp [I_L_limit]) d1 rfl ⟨(Nat.le_of_ble_eq_true rfl), (Nat.le_of_ble_eq_true rfl)⟩ (Nat.le_of_ble_eq_true rfl) dL_law_1191 ⟨rfl, (by show _ ≤ 601024; omega)⟩ ⟨rfl, (by show _ ≤ 7293034; omega)⟩ rfl ?_
  refine r_istore (pc := 1194) (xs' := [some (aR 99 0), some (aR 6 0), some (aR 7 0), some (aR 60 0), some (aI i), some (aI cd), none]) dL_law_1194 (Nat.le_of_ble_eq_true rfl) rfl ?_
  refine r_aload_n (pc := 1196) dL_law_1196 rfl ?_
  refine r_aload_n (pc := 1197) dL_law_1197 rfl ?_
  refine r_iload (pc := 1198) dL_law_1198 rfl ?_
  refine r_iconst (pc := 1200) (n := 1) dL_law_1200 (by decide) ?_
  refine r_iadd (pc := 1201) dL_law_1201 (by omega) ?_
  refine r_sld (pc := 1202) (L := L) (sc := sc) rfl dL_law_1202 (by omega) (by omega) ?_
  refine d1_V (pc := 1203) (t := 7) (i := 0) (rest := []) (cs' := (cs + 1)) (sl' := (sl + 6)) mv_L_149 d2 rfl ⟨(Nat.le_of_ble_eq_true rfl), (Nat.le_of_ble_eq_true rfl)⟩ (Nat.le_of_ble_eq_true rfl) dL_law_1203 (show (0 : Int) ≤ 0 by omega) (show 0 < 1 by omega) ⟨rfl, (by show _ ≤ 601024; omega)⟩ ⟨rfl, (by show _ ≤ 7293034; omega)⟩ rfl ?_
  refine r_istore (pc := 1206) (xs' := [some (aR 99 0), some (aR 6 0), some (aR 7 0), some (aR 60 0), some (aI i), some (aI cd), some (aI b)]) dL_law_1206 (Nat.le_of_ble_eq_true rfl) rfl ?_
  refine r_aload_n (pc := 1208) dL_law_1208 rfl ?_
  refine d1_V (pc := 1209) (t := 7) (i := 0) (rest := []) (cs' := (cs + 1)) (sl' := (sl + 6)) mv_L_100 (show Det I_X7_thrown [aR 7 0] (hp hi2 nb1 nk1) (some (aI cd)) (hp hi2 nb1 nk1) from by rw [← e1]; exact K_X7_thrown) rfl ⟨(Nat.le_of_ble_eq_true rfl), (Nat.le_of_ble_eq_true rfl)⟩ (Nat.le_of_ble_eq_true rfl) dL_law_1209 (show (0 : Int) ≤ 0 by omega) (show 0 < 1 by omega) ⟨rfl, (by show _ ≤ 601024; omega)⟩ ⟨rfl, (by show _ ≤ 7293034; omega)⟩ rfl ?_
  refine r_iload (pc := 1212) dL_law_1212 rfl ?_
  refine r_icmp_eq (pc := 1214) (tgt := 1219) dL_law_1214 rfl (fun c1214 => ?_) (fun c1214 => absurd rfl c1214)
  refine r_iload (pc := 1219) dL_law_1219 rfl ?_
  refine r_if_ne (pc := 1221) (tgt := 1236) dL_law_1221 rfl (fun c1221 => ?_) (fun c1221 => ?_)
  · refine r_goto (pc := 1236) (tgt := 1748) dL_law_1236 rfl ?_
    refine r_drop (xs' := [some (aR 99 0), some (aR 6 0), some (aR 7 0), some (aR 60 0), some (aI i), none, some (aI b)]) 5 rfl ?_
    refine r_drop (xs' := [some (aR 99 0), some (aR 6 0), some (aR 7 0), some (aR 60 0), some (aI i), none, none]) 6 rfl ?_
    refine r_wide (cs' := cs + 40) (sl' := sl + 400) (by omega) (by omega) ?_
    exact K _ _ _ hI2
  · refine r_aload_n (pc := 1224) dL_law_1224 rfl ?_
    refine r_iconst (pc := 1225) (n := 0) dL_law_1225 (by decide) ?_
    refine q_lald (pc := 1226) (n9 := 1) (nI := 1) (v := hi2 60 0 0) rfl dL_law_1226 rfl (by decide) (by decide) rfl (by omega) (by omega) rfl ?_
    refine r_iload (pc := 1227) dL_law_1227 rfl ?_
    refine r_i2l (pc := 1229) dL_law_1229 ?_
    refine r_lcmp (pc := 1230) dL_law_1230 ?_
    refine r_if_eq (pc := 1231) (tgt := 1236) dL_law_1231 rfl (fun c1231 => ?_) (fun c1231 => absurd (cmp_eq (e2 c1221)) c1231)
    refine r_goto (pc := 1236) (tgt := 1748) dL_law_1236 rfl ?_
    refine r_drop (xs' := [some (aR 99 0), some (aR 6 0), some (aR 7 0), some (aR 60 0), some (aI i), none, some (aI b)]) 5 rfl ?_
    refine r_drop (xs' := [some (aR 99 0), some (aR 6 0), some (aR 7 0), some (aR 60 0), some (aI i), none, none]) 6 rfl ?_
    refine r_wide (cs' := cs + 40) (sl' := sl + 400) (by omega) (by omega) ?_
    exact K _ _ _ hI2

theorem law_mend {nm : String} {hh : List (Nat × Nat × Nat × Nat)} {L : Nat} {sc : Nat → Int32} {hi : Hi} {nb nk i : Int} {cs sl : Nat} {Q : Option Av → Hp → Prop} {X : String → Hp → Prop} (hI : Inv hi nb nk) (h0 : 0 ≤ i) (h1 : i + 5 ≤ (L : Int)) (hL : L ≤ 2560) (hcs : cs + 40 ≤ 601024) (hsl : sl + 400 ≤ 7293034) (K : ∀ (hi' : Hi) (nb' nk' : Int), Inv hi' nb' nk' → Run (I_law nm hh L sc) 1748 [some (aR 99 0), some (aR 6 0), some (aR 7 0), some (aR 60 0), some (aI i), none, none] [] (hp hi' nb' nk') (cs + 40) (sl + 400) Q X) : Run (I_law nm hh L sc) 1239 [some (aR 99 0), some (aR 6 0), some (aR 7 0), some (aR 60 0), some (aI i), none, none] [] (hp hi nb nk) cs sl Q X := by
  obtain ⟨cd, b, hi1, hi2, nb1, nk1, d1, d2, e1, e2, hI2⟩ := J_mend hI (b := (sc (i + 1).toNat).toInt)
  refine r_aload_n (pc := 1239) dL_law_1239 rfl ?_
  refine r_aload_n (pc := 1240) dL_law_1240 rfl ?_
  refine r_iload (pc := 1241) dL_law_1241 rfl ?_
  refine r_iconst (pc := 1243) (n := 1) dL_law_1243 (by decide) ?_
  refine r_iadd (pc := 1244) dL_law_1244 (by omega) ?_
  refine r_sld (pc := 1245) (L := L) (sc := sc) rfl dL_law_1245 (by omega) (by omega) ?_
  refine r_aload_n (pc := 1246) dL_law_1246 rfl ?_
  refine d1_SX (pc := 1247) (rest := []) (cs' := (cs + 4)) (sl' := (sl + 24)) ms_L_150 (by simp [I_L_mend]) d1 rfl ⟨(Nat.le_of_ble_eq_true rfl), (Nat.le_of_ble_eq_true rfl)⟩ (Nat.le_of_ble_eq_true rfl) dL_law_1247 ⟨rfl, (by show _ ≤ 601024; omega)⟩ ⟨rfl, (by show _ ≤ 7293034; omega)⟩ rfl ?_
  refine r_istore (pc := 1250) (xs' := [some (aR 99 0), some (aR 6 0), some (aR 7 0), some (aR 60 0), some (aI i), some (aI cd), none]) dL_law_1250 (Nat.le_of_ble_eq_true rfl) rfl ?_
  refine r_aload_n (pc := 1252) dL_law_1252 rfl ?_
  refine r_aload_n (pc := 1253) dL_law_1253 rfl ?_
  refine r_iload (pc := 1254) dL_law_1254 rfl ?_
  refine r_iconst (pc := 1256) (n := 1) dL_law_1256 (by decide) ?_
  refine r_iadd (pc := 1257) dL_law_1257 (by omega) ?_
  refine r_sld (pc := 1258) (L := L) (sc := sc) rfl dL_law_1258 (by omega) (by omega) ?_
  refine d1_V (pc := 1259) (t := 7) (i := 0) (rest := []) (cs' := (cs + 4)) (sl' := (sl + 24)) mv_L_152 d2 rfl ⟨(Nat.le_of_ble_eq_true rfl), (Nat.le_of_ble_eq_true rfl)⟩ (Nat.le_of_ble_eq_true rfl) dL_law_1259 (show (0 : Int) ≤ 0 by omega) (show 0 < 1 by omega) ⟨rfl, (by show _ ≤ 601024; omega)⟩ ⟨rfl, (by show _ ≤ 7293034; omega)⟩ rfl ?_
  refine r_istore (pc := 1262) (xs' := [some (aR 99 0), some (aR 6 0), some (aR 7 0), some (aR 60 0), some (aI i), some (aI cd), some (aI b)]) dL_law_1262 (Nat.le_of_ble_eq_true rfl) rfl ?_
  refine r_aload_n (pc := 1264) dL_law_1264 rfl ?_
  refine d1_V (pc := 1265) (t := 7) (i := 0) (rest := []) (cs' := (cs + 4)) (sl' := (sl + 24)) mv_L_100 (show Det I_X7_thrown [aR 7 0] (hp hi2 nb1 nk1) (some (aI cd)) (hp hi2 nb1 nk1) from by rw [← e1]; exact K_X7_thrown) rfl ⟨(Nat.le_of_ble_eq_true rfl), (Nat.le_of_ble_eq_true rfl)⟩ (Nat.le_of_ble_eq_true rfl) dL_law_1265 (show (0 : Int) ≤ 0 by omega) (show 0 < 1 by omega) ⟨rfl, (by show _ ≤ 601024; omega)⟩ ⟨rfl, (by show _ ≤ 7293034; omega)⟩ rfl ?_
  refine r_iload (pc := 1268) dL_law_1268 rfl ?_
  refine r_icmp_eq (pc := 1270) (tgt := 1275) dL_law_1270 rfl (fun c1270 => ?_) (fun c1270 => absurd rfl c1270)
  refine r_iload (pc := 1275) dL_law_1275 rfl ?_
  refine r_if_ne (pc := 1277) (tgt := 1292) dL_law_1277 rfl (fun c1277 => ?_) (fun c1277 => ?_)
  · refine r_goto (pc := 1292) (tgt := 1748) dL_law_1292 rfl ?_
    refine r_drop (xs' := [some (aR 99 0), some (aR 6 0), some (aR 7 0), some (aR 60 0), some (aI i), none, some (aI b)]) 5 rfl ?_
    refine r_drop (xs' := [some (aR 99 0), some (aR 6 0), some (aR 7 0), some (aR 60 0), some (aI i), none, none]) 6 rfl ?_
    refine r_wide (cs' := cs + 40) (sl' := sl + 400) (by omega) (by omega) ?_
    exact K _ _ _ hI2
  · refine r_aload_n (pc := 1280) dL_law_1280 rfl ?_
    refine r_iconst (pc := 1281) (n := 0) dL_law_1281 (by decide) ?_
    refine q_lald (pc := 1282) (n9 := 1) (nI := 1) (v := hi2 60 0 0) rfl dL_law_1282 rfl (by decide) (by decide) rfl (by omega) (by omega) rfl ?_
    refine r_iload (pc := 1283) dL_law_1283 rfl ?_
    refine r_i2l (pc := 1285) dL_law_1285 ?_
    refine r_lcmp (pc := 1286) dL_law_1286 ?_
    refine r_if_eq (pc := 1287) (tgt := 1292) dL_law_1287 rfl (fun c1287 => ?_) (fun c1287 => absurd (cmp_eq (e2 c1277)) c1287)
    refine r_goto (pc := 1292) (tgt := 1748) dL_law_1292 rfl ?_
    refine r_drop (xs' := [some (aR 99 0), some (aR 6 0), some (aR 7 0), some (aR 60 0), some (aI i), none, some (aI b)]) 5 rfl ?_
    refine r_drop (xs' := [some (aR 99 0), some (aR 6 0), some (aR 7 0), some (aR 60 0), some (aI i), none, none]) 6 rfl ?_
    refine r_wide (cs' := cs + 40) (sl' := sl + 400) (by omega) (by omega) ?_
    exact K _ _ _ hI2

theorem law_book {nm : String} {hh : List (Nat × Nat × Nat × Nat)} {L : Nat} {sc : Nat → Int32} {hi : Hi} {nb nk i : Int} {cs sl : Nat} {Q : Option Av → Hp → Prop} {X : String → Hp → Prop} (hI : Inv hi nb nk) (h0 : 0 ≤ i) (h1 : i + 5 ≤ (L : Int)) (hL : L ≤ 2560) (hcs : cs + 40 ≤ 601024) (hsl : sl + 400 ≤ 7293034) (K : ∀ (hi' : Hi) (nb' nk' : Int), Inv hi' nb' nk' → Run (I_law nm hh L sc) 1748 [some (aR 99 0), some (aR 6 0), some (aR 7 0), some (aR 60 0), some (aI i), none, none] [] (hp hi' nb' nk') (cs + 40) (sl + 400) Q X) : Run (I_law nm hh L sc) 1295 [some (aR 99 0), some (aR 6 0), some (aR 7 0), some (aR 60 0), some (aI i), none, none] [] (hp hi nb nk) cs sl Q X := by
  obtain ⟨cd, b, hi1, hi2, nb1, nk1, d1, d2, e1, e2, hI2⟩ := J_book hI (po := (sc (i + 1).toNat).toInt) (kd := (sc (i + 2).toNat).toInt) (wa := (sc (i + 3).toNat).toInt)
  refine r_aload_n (pc := 1295) dL_law_1295 rfl ?_
  refine r_aload_n (pc := 1296) dL_law_1296 rfl ?_
  refine r_iload (pc := 1297) dL_law_1297 rfl ?_
  refine r_iconst (pc := 1299) (n := 1) dL_law_1299 (by decide) ?_
  refine r_iadd (pc := 1300) dL_law_1300 (by omega) ?_
  refine r_sld (pc := 1301) (L := L) (sc := sc) rfl dL_law_1301 (by omega) (by omega) ?_
  refine r_aload_n (pc := 1302) dL_law_1302 rfl ?_
  refine r_iload (pc := 1303) dL_law_1303 rfl ?_
  refine r_iconst (pc := 1305) (n := 2) dL_law_1305 (by decide) ?_
  refine r_iadd (pc := 1306) dL_law_1306 (by omega) ?_
  refine r_sld (pc := 1307) (L := L) (sc := sc) rfl dL_law_1307 (by omega) (by omega) ?_
  refine r_aload_n (pc := 1308) dL_law_1308 rfl ?_
  refine r_iload (pc := 1309) dL_law_1309 rfl ?_
  refine r_iconst (pc := 1311) (n := 3) dL_law_1311 (by decide) ?_
  refine r_iadd (pc := 1312) dL_law_1312 (by omega) ?_
  refine r_sld (pc := 1313) (L := L) (sc := sc) rfl dL_law_1313 (by omega) (by omega) ?_
  refine r_aload_n (pc := 1314) dL_law_1314 rfl ?_
  refine d1_SX (pc := 1315) (rest := []) (cs' := (cs + 5)) (sl' := (sl + 29)) ms_L_153 (by simp [I_L_book]) d1 rfl ⟨(Nat.le_of_ble_eq_true rfl), (Nat.le_of_ble_eq_true rfl)⟩ (Nat.le_of_ble_eq_true rfl) dL_law_1315 ⟨rfl, (by show _ ≤ 601024; omega)⟩ ⟨rfl, (by show _ ≤ 7293034; omega)⟩ rfl ?_
  refine r_istore (pc := 1318) (xs' := [some (aR 99 0), some (aR 6 0), some (aR 7 0), some (aR 60 0), some (aI i), some (aI cd), none]) dL_law_1318 (Nat.le_of_ble_eq_true rfl) rfl ?_
  refine r_aload_n (pc := 1320) dL_law_1320 rfl ?_
  refine r_aload_n (pc := 1321) dL_law_1321 rfl ?_
  refine r_iload (pc := 1322) dL_law_1322 rfl ?_
  refine r_iconst (pc := 1324) (n := 1) dL_law_1324 (by decide) ?_
  refine r_iadd (pc := 1325) dL_law_1325 (by omega) ?_
  refine r_sld (pc := 1326) (L := L) (sc := sc) rfl dL_law_1326 (by omega) (by omega) ?_
  refine r_aload_n (pc := 1327) dL_law_1327 rfl ?_
  refine r_iload (pc := 1328) dL_law_1328 rfl ?_
  refine r_iconst (pc := 1330) (n := 2) dL_law_1330 (by decide) ?_
  refine r_iadd (pc := 1331) dL_law_1331 (by omega) ?_
  refine r_sld (pc := 1332) (L := L) (sc := sc) rfl dL_law_1332 (by omega) (by omega) ?_
  refine r_aload_n (pc := 1333) dL_law_1333 rfl ?_
  refine r_iload (pc := 1334) dL_law_1334 rfl ?_
  refine r_iconst (pc := 1336) (n := 3) dL_law_1336 (by decide) ?_
  refine r_iadd (pc := 1337) dL_law_1337 (by omega) ?_
  refine r_sld (pc := 1338) (L := L) (sc := sc) rfl dL_law_1338 (by omega) (by omega) ?_
  refine d1_V (pc := 1339) (t := 7) (i := 0) (rest := []) (cs' := (cs + 5)) (sl' := (sl + 29)) mv_L_155 d2 rfl ⟨(Nat.le_of_ble_eq_true rfl), (Nat.le_of_ble_eq_true rfl)⟩ (Nat.le_of_ble_eq_true rfl) dL_law_1339 (show (0 : Int) ≤ 0 by omega) (show 0 < 1 by omega) ⟨rfl, (by show _ ≤ 601024; omega)⟩ ⟨rfl, (by show _ ≤ 7293034; omega)⟩ rfl ?_
  refine r_istore (pc := 1342) (xs' := [some (aR 99 0), some (aR 6 0), some (aR 7 0), some (aR 60 0), some (aI i), some (aI cd), some (aI b)]) dL_law_1342 (Nat.le_of_ble_eq_true rfl) rfl ?_
  refine r_aload_n (pc := 1344) dL_law_1344 rfl ?_
  refine d1_V (pc := 1345) (t := 7) (i := 0) (rest := []) (cs' := (cs + 5)) (sl' := (sl + 29)) mv_L_100 (show Det I_X7_thrown [aR 7 0] (hp hi2 nb1 nk1) (some (aI cd)) (hp hi2 nb1 nk1) from by rw [← e1]; exact K_X7_thrown) rfl ⟨(Nat.le_of_ble_eq_true rfl), (Nat.le_of_ble_eq_true rfl)⟩ (Nat.le_of_ble_eq_true rfl) dL_law_1345 (show (0 : Int) ≤ 0 by omega) (show 0 < 1 by omega) ⟨rfl, (by show _ ≤ 601024; omega)⟩ ⟨rfl, (by show _ ≤ 7293034; omega)⟩ rfl ?_
  refine r_iload (pc := 1348) dL_law_1348 rfl ?_
  refine r_icmp_eq (pc := 1350) (tgt := 1355) dL_law_1350 rfl (fun c1350 => ?_) (fun c1350 => absurd rfl c1350)
  refine r_iload (pc := 1355) dL_law_1355 rfl ?_
  refine r_if_ne (pc := 1357) (tgt := 1372) dL_law_1357 rfl (fun c1357 => ?_) (fun c1357 => ?_)
  · refine r_goto (pc := 1372) (tgt := 1748) dL_law_1372 rfl ?_
    refine r_drop (xs' := [some (aR 99 0), some (aR 6 0), some (aR 7 0), some (aR 60 0), some (aI i), none, some (aI b)]) 5 rfl ?_
    refine r_drop (xs' := [some (aR 99 0), some (aR 6 0), some (aR 7 0), some (aR 60 0), some (aI i), none, none]) 6 rfl ?_
    refine r_wide (cs' := cs + 40) (sl' := sl + 400) (by omega) (by omega) ?_
    exact K _ _ _ hI2
  · refine r_aload_n (pc := 1360) dL_law_1360 rfl ?_
    refine r_iconst (pc := 1361) (n := 0) dL_law_1361 (by decide) ?_
    refine q_lald (pc := 1362) (n9 := 1) (nI := 1) (v := hi2 60 0 0) rfl dL_law_1362 rfl (by decide) (by decide) rfl (by omega) (by omega) rfl ?_
    refine r_iload (pc := 1363) dL_law_1363 rfl ?_
    refine r_i2l (pc := 1365) dL_law_1365 ?_
    refine r_lcmp (pc := 1366) dL_law_1366 ?_
    refine r_if_eq (pc := 1367) (tgt := 1372) dL_law_1367 rfl (fun c1367 => ?_) (fun c1367 => absurd (cmp_eq (e2 c1357)) c1367)
    refine r_goto (pc := 1372) (tgt := 1748) dL_law_1372 rfl ?_
    refine r_drop (xs' := [some (aR 99 0), some (aR 6 0), some (aR 7 0), some (aR 60 0), some (aI i), none, some (aI b)]) 5 rfl ?_
    refine r_drop (xs' := [some (aR 99 0), some (aR 6 0), some (aR 7 0), some (aR 60 0), some (aI i), none, none]) 6 rfl ?_
    refine r_wide (cs' := cs + 40) (sl' := sl + 400) (by omega) (by omega) ?_
    exact K _ _ _ hI2

theorem law_serve {nm : String} {hh : List (Nat × Nat × Nat × Nat)} {L : Nat} {sc : Nat → Int32} {hi : Hi} {nb nk i : Int} {cs sl : Nat} {Q : Option Av → Hp → Prop} {X : String → Hp → Prop} (hI : Inv hi nb nk) (h0 : 0 ≤ i) (h1 : i + 5 ≤ (L : Int)) (hL : L ≤ 2560) (hcs : cs + 40 ≤ 601024) (hsl : sl + 400 ≤ 7293034) (K : ∀ (hi' : Hi) (nb' nk' : Int), Inv hi' nb' nk' → Run (I_law nm hh L sc) 1748 [some (aR 99 0), some (aR 6 0), some (aR 7 0), some (aR 60 0), some (aI i), none, none] [] (hp hi' nb' nk') (cs + 40) (sl + 400) Q X) : Run (I_law nm hh L sc) 1375 [some (aR 99 0), some (aR 6 0), some (aR 7 0), some (aR 60 0), some (aI i), none, none] [] (hp hi nb nk) cs sl Q X := by
  refine r_aload_n (pc := 1375) dL_law_1375 rfl ?_
  refine r_callV (pc := 1376) (t := 6) (i := 0) (rest := []) (cs' := cs) (sl' := sl) mv_L_156 (J_serve hI) rfl ⟨(Nat.le_of_ble_eq_true rfl), (Nat.le_of_ble_eq_true rfl)⟩ (Nat.le_of_ble_eq_true rfl) dL_law_1376 (show (0 : Int) ≤ 0 by omega) (show 0 < 1 by omega) ⟨rfl, (by show _ ≤ 601024; omega)⟩ ⟨rfl, (by show _ ≤ 7293034; omega)⟩ rfl (fun r9 h9 hq9 => ?_) (fun E9 h9 hx9 => hx9.elim)
  obtain ⟨v, hi1, hi2, rfl, rfl, d2, hI2⟩ := hq9
  show Run _ 1379 _ [aI v] (hp hi1 nb nk) _ _ _ _
  refine r_aload_n (pc := 1379) dL_law_1379 rfl ?_
  refine d1_V (pc := 1380) (t := 7) (i := 0) (rest := [aI v]) (cs' := cs) (sl' := sl) mv_L_159 d2 rfl ⟨(Nat.le_of_ble_eq_true rfl), (Nat.le_of_ble_eq_true rfl)⟩ (Nat.le_of_ble_eq_true rfl) dL_law_1380 (show (0 : Int) ≤ 0 by omega) (show 0 < 1 by omega) ⟨rfl, (by show _ ≤ 601024; omega)⟩ ⟨rfl, (by show _ ≤ 7293034; omega)⟩ rfl ?_
  refine r_icmp_eq (pc := 1383) (tgt := 1748) dL_law_1383 rfl (fun c1383 => ?_) (fun c1383 => absurd rfl c1383)
  refine r_wide (cs' := cs + 40) (sl' := sl + 400) (by omega) (by omega) ?_
  exact K _ _ _ hI2

theorem law_end {nm : String} {hh : List (Nat × Nat × Nat × Nat)} {L : Nat} {sc : Nat → Int32} {hi : Hi} {nb nk i : Int} {cs sl : Nat} {Q : Option Av → Hp → Prop} {X : String → Hp → Prop} (hI : Inv hi nb nk) (h0 : 0 ≤ i) (h1 : i + 5 ≤ (L : Int)) (hL : L ≤ 2560) (hcs : cs + 40 ≤ 601024) (hsl : sl + 400 ≤ 7293034) (K : ∀ (hi' : Hi) (nb' nk' : Int), Inv hi' nb' nk' → Run (I_law nm hh L sc) 1748 [some (aR 99 0), some (aR 6 0), some (aR 7 0), some (aR 60 0), some (aI i), none, none] [] (hp hi' nb' nk') (cs + 40) (sl + 400) Q X) : Run (I_law nm hh L sc) 1388 [some (aR 99 0), some (aR 6 0), some (aR 7 0), some (aR 60 0), some (aI i), none, none] [] (hp hi nb nk) cs sl Q X := by
  obtain ⟨cd, b, hi1, hi2, nb1, nk1, d1, d2, e1, e2, hI2⟩ := J_end hI (k := (sc (i + 1).toNat).toInt)
  refine r_aload_n (pc := 1388) dL_law_1388 rfl ?_
  refine r_aload_n (pc := 1389) dL_law_1389 rfl ?_
  refine r_iload (pc := 1390) dL_law_1390 rfl ?_
  refine r_iconst (pc := 1392) (n := 1) dL_law_1392 (by decide) ?_
  refine r_iadd (pc := 1393) dL_law_1393 (by omega) ?_
  refine r_sld (pc := 1394) (L := L) (sc := sc) rfl dL_law_1394 (by omega) (by omega) ?_
  refine r_aload_n (pc := 1395) dL_law_1395 rfl ?_
  refine d1_SX (pc := 1396) (rest := []) (cs' := (cs + 2)) (sl' := (sl + 12)) ms_L_160 (by simp [I_L_end]) d1 rfl ⟨(Nat.le_of_ble_eq_true rfl), (Nat.le_of_ble_eq_true rfl)⟩ (Nat.le_of_ble_eq_true rfl) dL_law_1396 ⟨rfl, (by show _ ≤ 601024; omega)⟩ ⟨rfl, (by show _ ≤ 7293034; omega)⟩ rfl ?_
  refine r_istore (pc := 1399) (xs' := [some (aR 99 0), some (aR 6 0), some (aR 7 0), some (aR 60 0), some (aI i), some (aI cd), none]) dL_law_1399 (Nat.le_of_ble_eq_true rfl) rfl ?_
  refine r_aload_n (pc := 1401) dL_law_1401 rfl ?_
  refine r_aload_n (pc := 1402) dL_law_1402 rfl ?_
  refine r_iload (pc := 1403) dL_law_1403 rfl ?_
  refine r_iconst (pc := 1405) (n := 1) dL_law_1405 (by decide) ?_
  refine r_iadd (pc := 1406) dL_law_1406 (by omega) ?_
  refine r_sld (pc := 1407) (L := L) (sc := sc) rfl dL_law_1407 (by omega) (by omega) ?_
  refine d1_V (pc := 1408) (t := 7) (i := 0) (rest := []) (cs' := (cs + 2)) (sl' := (sl + 12)) mv_L_162 d2 rfl ⟨(Nat.le_of_ble_eq_true rfl), (Nat.le_of_ble_eq_true rfl)⟩ (Nat.le_of_ble_eq_true rfl) dL_law_1408 (show (0 : Int) ≤ 0 by omega) (show 0 < 1 by omega) ⟨rfl, (by show _ ≤ 601024; omega)⟩ ⟨rfl, (by show _ ≤ 7293034; omega)⟩ rfl ?_
  refine r_istore (pc := 1411) (xs' := [some (aR 99 0), some (aR 6 0), some (aR 7 0), some (aR 60 0), some (aI i), some (aI cd), some (aI b)]) dL_law_1411 (Nat.le_of_ble_eq_true rfl) rfl ?_
  refine r_aload_n (pc := 1413) dL_law_1413 rfl ?_
  refine d1_V (pc := 1414) (t := 7) (i := 0) (rest := []) (cs' := (cs + 2)) (sl' := (sl + 12)) mv_L_100 (show Det I_X7_thrown [aR 7 0] (hp hi2 nb1 nk1) (some (aI cd)) (hp hi2 nb1 nk1) from by rw [← e1]; exact K_X7_thrown) rfl ⟨(Nat.le_of_ble_eq_true rfl), (Nat.le_of_ble_eq_true rfl)⟩ (Nat.le_of_ble_eq_true rfl) dL_law_1414 (show (0 : Int) ≤ 0 by omega) (show 0 < 1 by omega) ⟨rfl, (by show _ ≤ 601024; omega)⟩ ⟨rfl, (by show _ ≤ 7293034; omega)⟩ rfl ?_
  refine r_iload (pc := 1417) dL_law_1417 rfl ?_
  refine r_icmp_eq (pc := 1419) (tgt := 1424) dL_law_1419 rfl (fun c1419 => ?_) (fun c1419 => absurd rfl c1419)
  refine r_iload (pc := 1424) dL_law_1424 rfl ?_
  refine r_if_ne (pc := 1426) (tgt := 1441) dL_law_1426 rfl (fun c1426 => ?_) (fun c1426 => ?_)
  · refine r_goto (pc := 1441) (tgt := 1748) dL_law_1441 rfl ?_
    refine r_drop (xs' := [some (aR 99 0), some (aR 6 0), some (aR 7 0), some (aR 60 0), some (aI i), none, some (aI b)]) 5 rfl ?_
    refine r_drop (xs' := [some (aR 99 0), some (aR 6 0), some (aR 7 0), some (aR 60 0), some (aI i), none, none]) 6 rfl ?_
    refine r_wide (cs' := cs + 40) (sl' := sl + 400) (by omega) (by omega) ?_
    exact K _ _ _ hI2
  · refine r_aload_n (pc := 1429) dL_law_1429 rfl ?_
    refine r_iconst (pc := 1430) (n := 0) dL_law_1430 (by decide) ?_
    refine q_lald (pc := 1431) (n9 := 1) (nI := 1) (v := hi2 60 0 0) rfl dL_law_1431 rfl (by decide) (by decide) rfl (by omega) (by omega) rfl ?_
    refine r_iload (pc := 1432) dL_law_1432 rfl ?_
    refine r_i2l (pc := 1434) dL_law_1434 ?_
    refine r_lcmp (pc := 1435) dL_law_1435 ?_
    refine r_if_eq (pc := 1436) (tgt := 1441) dL_law_1436 rfl (fun c1436 => ?_) (fun c1436 => absurd (cmp_eq (e2 c1426)) c1436)
    refine r_goto (pc := 1441) (tgt := 1748) dL_law_1441 rfl ?_
    refine r_drop (xs' := [some (aR 99 0), some (aR 6 0), some (aR 7 0), some (aR 60 0), some (aI i), none, some (aI b)]) 5 rfl ?_
    refine r_drop (xs' := [some (aR 99 0), some (aR 6 0), some (aR 7 0), some (aR 60 0), some (aI i), none, none]) 6 rfl ?_
    refine r_wide (cs' := cs + 40) (sl' := sl + 400) (by omega) (by omega) ?_
    exact K _ _ _ hI2

theorem law_bring {nm : String} {hh : List (Nat × Nat × Nat × Nat)} {L : Nat} {sc : Nat → Int32} {hi : Hi} {nb nk i : Int} {cs sl : Nat} {Q : Option Av → Hp → Prop} {X : String → Hp → Prop} (hI : Inv hi nb nk) (h0 : 0 ≤ i) (h1 : i + 5 ≤ (L : Int)) (hL : L ≤ 2560) (hcs : cs + 40 ≤ 601024) (hsl : sl + 400 ≤ 7293034) (K : ∀ (hi' : Hi) (nb' nk' : Int), Inv hi' nb' nk' → Run (I_law nm hh L sc) 1748 [some (aR 99 0), some (aR 6 0), some (aR 7 0), some (aR 60 0), some (aI i), none, none] [] (hp hi' nb' nk') (cs + 40) (sl + 400) Q X) : Run (I_law nm hh L sc) 1444 [some (aR 99 0), some (aR 6 0), some (aR 7 0), some (aR 60 0), some (aI i), none, none] [] (hp hi nb nk) cs sl Q X := by
  refine r_aload_n (pc := 1444) dL_law_1444 rfl ?_
  refine r_aload_n (pc := 1445) dL_law_1445 rfl ?_
  refine r_iload (pc := 1446) dL_law_1446 rfl ?_
  refine r_iconst (pc := 1448) (n := 1) dL_law_1448 (by decide) ?_
  refine r_iadd (pc := 1449) dL_law_1449 (by omega) ?_
  refine r_sld (pc := 1450) (L := L) (sc := sc) rfl dL_law_1450 (by omega) (by omega) ?_
  refine r_aload_n (pc := 1451) dL_law_1451 rfl ?_
  refine r_callSX (pc := 1452) (rest := []) (cs' := (cs + 2)) (sl' := (sl + 12)) ms_L_163 (by simp [I_L_bring]) (J_bring hI (kd := (sc (i + 1).toNat).toInt)) rfl ⟨(Nat.le_of_ble_eq_true rfl), (Nat.le_of_ble_eq_true rfl)⟩ (Nat.le_of_ble_eq_true rfl) dL_law_1452 ⟨rfl, (by show _ ≤ 601024; omega)⟩ ⟨rfl, (by show _ ≤ 7293034; omega)⟩ rfl (fun r9 h9 hq9 => ?_) (fun E9 h9 hx9 => hx9.elim)
  obtain ⟨cd, hi1, nb1, nk1, rfl, rfl, cM⟩ := hq9
  show Run _ 1455 _ [aI cd] (hp hi1 nb1 nk1) _ _ _ _
  refine r_istore (pc := 1455) (xs' := [some (aR 99 0), some (aR 6 0), some (aR 7 0), some (aR 60 0), some (aI i), some (aI cd), none]) dL_law_1455 (Nat.le_of_ble_eq_true rfl) rfl ?_
  refine r_aload_n (pc := 1457) dL_law_1457 rfl ?_
  refine r_aload_n (pc := 1458) dL_law_1458 rfl ?_
  refine r_iload (pc := 1459) dL_law_1459 rfl ?_
  refine r_iconst (pc := 1461) (n := 1) dL_law_1461 (by decide) ?_
  refine r_iadd (pc := 1462) dL_law_1462 (by omega) ?_
  refine r_sld (pc := 1463) (L := L) (sc := sc) rfl dL_law_1463 (by omega) (by omega) ?_
  refine r_callV (pc := 1464) (t := 7) (i := 0) (rest := []) (cs' := (cs + 2)) (sl' := (sl + 12)) mv_L_165 cM rfl ⟨(Nat.le_of_ble_eq_true rfl), (Nat.le_of_ble_eq_true rfl)⟩ (Nat.le_of_ble_eq_true rfl) dL_law_1464 (show (0 : Int) ≤ 0 by omega) (show 0 < 1 by omega) ⟨rfl, (by show _ ≤ 601024; omega)⟩ ⟨rfl, (by show _ ≤ 7293034; omega)⟩ rfl (fun r9 h9 hq9 => ?_) (fun E9 h9 hx9 => hx9.elim)
  obtain ⟨b, hi2, rfl, rfl, e1, e2, hI2⟩ := hq9
  show Run _ 1467 _ [aI b] (hp hi2 nb1 nk1) _ _ _ _
  refine r_istore (pc := 1467) (xs' := [some (aR 99 0), some (aR 6 0), some (aR 7 0), some (aR 60 0), some (aI i), some (aI cd), some (aI b)]) dL_law_1467 (Nat.le_of_ble_eq_true rfl) rfl ?_
  refine r_aload_n (pc := 1469) dL_law_1469 rfl ?_
  refine d1_V (pc := 1470) (t := 7) (i := 0) (rest := []) (cs' := (cs + 2)) (sl' := (sl + 12)) mv_L_100 (show Det I_X7_thrown [aR 7 0] (hp hi2 nb1 nk1) (some (aI cd)) (hp hi2 nb1 nk1) from by rw [← e1]; exact K_X7_thrown) rfl ⟨(Nat.le_of_ble_eq_true rfl), (Nat.le_of_ble_eq_true rfl)⟩ (Nat.le_of_ble_eq_true rfl) dL_law_1470 (show (0 : Int) ≤ 0 by omega) (show 0 < 1 by omega) ⟨rfl, (by show _ ≤ 601024; omega)⟩ ⟨rfl, (by show _ ≤ 7293034; omega)⟩ rfl ?_
  refine r_iload (pc := 1473) dL_law_1473 rfl ?_
  refine r_icmp_eq (pc := 1475) (tgt := 1480) dL_law_1475 rfl (fun c1475 => ?_) (fun c1475 => absurd rfl c1475)
  refine r_iload (pc := 1480) dL_law_1480 rfl ?_
  refine r_if_ne (pc := 1482) (tgt := 1497) dL_law_1482 rfl (fun c1482 => ?_) (fun c1482 => ?_)
  · refine r_goto (pc := 1497) (tgt := 1748) dL_law_1497 rfl ?_
    refine r_drop (xs' := [some (aR 99 0), some (aR 6 0), some (aR 7 0), some (aR 60 0), some (aI i), none, some (aI b)]) 5 rfl ?_
    refine r_drop (xs' := [some (aR 99 0), some (aR 6 0), some (aR 7 0), some (aR 60 0), some (aI i), none, none]) 6 rfl ?_
    refine r_wide (cs' := cs + 40) (sl' := sl + 400) (by omega) (by omega) ?_
    exact K _ _ _ hI2
  · refine r_aload_n (pc := 1485) dL_law_1485 rfl ?_
    refine r_iconst (pc := 1486) (n := 0) dL_law_1486 (by decide) ?_
    refine q_lald (pc := 1487) (n9 := 1) (nI := 1) (v := hi2 60 0 0) rfl dL_law_1487 rfl (by decide) (by decide) rfl (by omega) (by omega) rfl ?_
    refine r_iload (pc := 1488) dL_law_1488 rfl ?_
    refine r_i2l (pc := 1490) dL_law_1490 ?_
    refine r_lcmp (pc := 1491) dL_law_1491 ?_
    refine r_if_eq (pc := 1492) (tgt := 1497) dL_law_1492 rfl (fun c1492 => ?_) (fun c1492 => absurd (cmp_eq (e2 c1482)) c1492)
    refine r_goto (pc := 1497) (tgt := 1748) dL_law_1497 rfl ?_
    refine r_drop (xs' := [some (aR 99 0), some (aR 6 0), some (aR 7 0), some (aR 60 0), some (aI i), none, some (aI b)]) 5 rfl ?_
    refine r_drop (xs' := [some (aR 99 0), some (aR 6 0), some (aR 7 0), some (aR 60 0), some (aI i), none, none]) 6 rfl ?_
    refine r_wide (cs' := cs + 40) (sl' := sl + 400) (by omega) (by omega) ?_
    exact K _ _ _ hI2

theorem law_brings {nm : String} {hh : List (Nat × Nat × Nat × Nat)} {L : Nat} {sc : Nat → Int32} {hi : Hi} {nb nk i : Int} {cs sl : Nat} {Q : Option Av → Hp → Prop} {X : String → Hp → Prop} (hI : Inv hi nb nk) (h0 : 0 ≤ i) (h1 : i + 5 ≤ (L : Int)) (hL : L ≤ 2560) (hcs : cs + 40 ≤ 601024) (hsl : sl + 400 ≤ 7293034) (K : ∀ (hi' : Hi) (nb' nk' : Int), Inv hi' nb' nk' → Run (I_law nm hh L sc) 1748 [some (aR 99 0), some (aR 6 0), some (aR 7 0), some (aR 60 0), some (aI i), none, none] [] (hp hi' nb' nk') (cs + 40) (sl + 400) Q X) : Run (I_law nm hh L sc) 1500 [some (aR 99 0), some (aR 6 0), some (aR 7 0), some (aR 60 0), some (aI i), none, none] [] (hp hi nb nk) cs sl Q X := by
  refine r_aload_n (pc := 1500) dL_law_1500 rfl ?_
  refine r_aload_n (pc := 1501) dL_law_1501 rfl ?_
  refine r_iload (pc := 1502) dL_law_1502 rfl ?_
  refine r_iconst (pc := 1504) (n := 1) dL_law_1504 (by decide) ?_
  refine r_iadd (pc := 1505) dL_law_1505 (by omega) ?_
  refine r_sld (pc := 1506) (L := L) (sc := sc) rfl dL_law_1506 (by omega) (by omega) ?_
  refine r_aload_n (pc := 1507) dL_law_1507 rfl ?_
  refine r_iload (pc := 1508) dL_law_1508 rfl ?_
  refine r_iconst (pc := 1510) (n := 2) dL_law_1510 (by decide) ?_
  refine r_iadd (pc := 1511) dL_law_1511 (by omega) ?_
  refine r_sld (pc := 1512) (L := L) (sc := sc) rfl dL_law_1512 (by omega) (by omega) ?_
  refine r_aload_n (pc := 1513) dL_law_1513 rfl ?_
  refine r_callSX (pc := 1514) (rest := []) (cs' := (cs + 3)) (sl' := (sl + 18)) ms_L_166 (by simp [I_L_brings]) (J_brings hI (kd := (sc (i + 1).toNat).toInt) (u := (sc (i + 2).toNat).toInt)) rfl ⟨(Nat.le_of_ble_eq_true rfl), (Nat.le_of_ble_eq_true rfl)⟩ (Nat.le_of_ble_eq_true rfl) dL_law_1514 ⟨rfl, (by show _ ≤ 601024; omega)⟩ ⟨rfl, (by show _ ≤ 7293034; omega)⟩ rfl (fun r9 h9 hq9 => ?_) (fun E9 h9 hx9 => hx9.elim)
  obtain ⟨cd, hi1, nb1, nk1, rfl, rfl, cM⟩ := hq9
  show Run _ 1517 _ [aI cd] (hp hi1 nb1 nk1) _ _ _ _
  refine r_istore (pc := 1517) (xs' := [some (aR 99 0), some (aR 6 0), some (aR 7 0), some (aR 60 0), some (aI i), some (aI cd), none]) dL_law_1517 (Nat.le_of_ble_eq_true rfl) rfl ?_
  refine r_aload_n (pc := 1519) dL_law_1519 rfl ?_
  refine r_aload_n (pc := 1520) dL_law_1520 rfl ?_
  refine r_iload (pc := 1521) dL_law_1521 rfl ?_
  refine r_iconst (pc := 1523) (n := 1) dL_law_1523 (by decide) ?_
  refine r_iadd (pc := 1524) dL_law_1524 (by omega) ?_
  refine r_sld (pc := 1525) (L := L) (sc := sc) rfl dL_law_1525 (by omega) (by omega) ?_
  refine r_aload_n (pc := 1526) dL_law_1526 rfl ?_
  refine r_iload (pc := 1527) dL_law_1527 rfl ?_
  refine r_iconst (pc := 1529) (n := 2) dL_law_1529 (by decide) ?_
  refine r_iadd (pc := 1530) dL_law_1530 (by omega) ?_
  refine r_sld (pc := 1531) (L := L) (sc := sc) rfl dL_law_1531 (by omega) (by omega) ?_
  refine r_callV (pc := 1532) (t := 7) (i := 0) (rest := []) (cs' := (cs + 3)) (sl' := (sl + 18)) mv_L_168 cM rfl ⟨(Nat.le_of_ble_eq_true rfl), (Nat.le_of_ble_eq_true rfl)⟩ (Nat.le_of_ble_eq_true rfl) dL_law_1532 (show (0 : Int) ≤ 0 by omega) (show 0 < 1 by omega) ⟨rfl, (by show _ ≤ 601024; omega)⟩ ⟨rfl, (by show _ ≤ 7293034; omega)⟩ rfl (fun r9 h9 hq9 => ?_) (fun E9 h9 hx9 => hx9.elim)
  obtain ⟨b, hi2, rfl, rfl, e1, e2, hI2⟩ := hq9
  show Run _ 1535 _ [aI b] (hp hi2 nb1 nk1) _ _ _ _
  refine r_istore (pc := 1535) (xs' := [some (aR 99 0), some (aR 6 0), some (aR 7 0), some (aR 60 0), some (aI i), some (aI cd), some (aI b)]) dL_law_1535 (Nat.le_of_ble_eq_true rfl) rfl ?_
  refine r_aload_n (pc := 1537) dL_law_1537 rfl ?_
  refine d1_V (pc := 1538) (t := 7) (i := 0) (rest := []) (cs' := (cs + 3)) (sl' := (sl + 18)) mv_L_100 (show Det I_X7_thrown [aR 7 0] (hp hi2 nb1 nk1) (some (aI cd)) (hp hi2 nb1 nk1) from by rw [← e1]; exact K_X7_thrown) rfl ⟨(Nat.le_of_ble_eq_true rfl), (Nat.le_of_ble_eq_true rfl)⟩ (Nat.le_of_ble_eq_true rfl) dL_law_1538 (show (0 : Int) ≤ 0 by omega) (show 0 < 1 by omega) ⟨rfl, (by show _ ≤ 601024; omega)⟩ ⟨rfl, (by show _ ≤ 7293034; omega)⟩ rfl ?_
  refine r_iload (pc := 1541) dL_law_1541 rfl ?_
  refine r_icmp_eq (pc := 1543) (tgt := 1548) dL_law_1543 rfl (fun c1543 => ?_) (fun c1543 => absurd rfl c1543)
  refine r_iload (pc := 1548) dL_law_1548 rfl ?_
  refine r_if_ne (pc := 1550) (tgt := 1565) dL_law_1550 rfl (fun c1550 => ?_) (fun c1550 => ?_)
  · refine r_goto (pc := 1565) (tgt := 1748) dL_law_1565 rfl ?_
    refine r_drop (xs' := [some (aR 99 0), some (aR 6 0), some (aR 7 0), some (aR 60 0), some (aI i), none, some (aI b)]) 5 rfl ?_
    refine r_drop (xs' := [some (aR 99 0), some (aR 6 0), some (aR 7 0), some (aR 60 0), some (aI i), none, none]) 6 rfl ?_
    refine r_wide (cs' := cs + 40) (sl' := sl + 400) (by omega) (by omega) ?_
    exact K _ _ _ hI2
  · refine r_aload_n (pc := 1553) dL_law_1553 rfl ?_
    refine r_iconst (pc := 1554) (n := 0) dL_law_1554 (by decide) ?_
    refine q_lald (pc := 1555) (n9 := 1) (nI := 1) (v := hi2 60 0 0) rfl dL_law_1555 rfl (by decide) (by decide) rfl (by omega) (by omega) rfl ?_
    refine r_iload (pc := 1556) dL_law_1556 rfl ?_
    refine r_i2l (pc := 1558) dL_law_1558 ?_
    refine r_lcmp (pc := 1559) dL_law_1559 ?_
    refine r_if_eq (pc := 1560) (tgt := 1565) dL_law_1560 rfl (fun c1560 => ?_) (fun c1560 => absurd (cmp_eq (e2 c1550)) c1560)
    refine r_goto (pc := 1565) (tgt := 1748) dL_law_1565 rfl ?_
    refine r_drop (xs' := [some (aR 99 0), some (aR 6 0), some (aR 7 0), some (aR 60 0), some (aI i), none, some (aI b)]) 5 rfl ?_
    refine r_drop (xs' := [some (aR 99 0), some (aR 6 0), some (aR 7 0), some (aR 60 0), some (aI i), none, none]) 6 rfl ?_
    refine r_wide (cs' := cs + 40) (sl' := sl + 400) (by omega) (by omega) ?_
    exact K _ _ _ hI2

theorem law_boxIs {nm : String} {hh : List (Nat × Nat × Nat × Nat)} {L : Nat} {sc : Nat → Int32} {hi : Hi} {nb nk i : Int} {cs sl : Nat} {Q : Option Av → Hp → Prop} {X : String → Hp → Prop} (hI : Inv hi nb nk) (h0 : 0 ≤ i) (h1 : i + 5 ≤ (L : Int)) (hL : L ≤ 2560) (hcs : cs + 40 ≤ 601024) (hsl : sl + 400 ≤ 7293034) (K : ∀ (hi' : Hi) (nb' nk' : Int), Inv hi' nb' nk' → Run (I_law nm hh L sc) 1748 [some (aR 99 0), some (aR 6 0), some (aR 7 0), some (aR 60 0), some (aI i), none, none] [] (hp hi' nb' nk') (cs + 40) (sl + 400) Q X) : Run (I_law nm hh L sc) 1568 [some (aR 99 0), some (aR 6 0), some (aR 7 0), some (aR 60 0), some (aI i), none, none] [] (hp hi nb nk) cs sl Q X := by
  obtain ⟨cd, b, hi1, hi2, nb1, nk1, d1, d2, e1, e2, hI2⟩ := J_boxIs hI (b := (sc (i + 1).toNat).toInt) (d := (sc (i + 2).toNat).toInt)
  refine r_aload_n (pc := 1568) dL_law_1568 rfl ?_
  refine r_aload_n (pc := 1569) dL_law_1569 rfl ?_
  refine r_iload (pc := 1570) dL_law_1570 rfl ?_
  refine r_iconst (pc := 1572) (n := 1) dL_law_1572 (by decide) ?_
  refine r_iadd (pc := 1573) dL_law_1573 (by omega) ?_
  refine r_sld (pc := 1574) (L := L) (sc := sc) rfl dL_law_1574 (by omega) (by omega) ?_
  refine r_aload_n (pc := 1575) dL_law_1575 rfl ?_
  refine r_iload (pc := 1576) dL_law_1576 rfl ?_
  refine r_iconst (pc := 1578) (n := 2) dL_law_1578 (by decide) ?_
  refine r_iadd (pc := 1579) dL_law_1579 (by omega) ?_
  refine r_sld (pc := 1580) (L := L) (sc := sc) rfl dL_law_1580 (by omega) (by omega) ?_
  refine r_aload_n (pc := 1581) dL_law_1581 rfl ?_
  refine d1_SX (pc := 1582) (rest := []) (cs' := (cs + 2)) (sl' := (sl + 12)) ms_L_169 (by simp [I_L_boxIs]) d1 rfl ⟨(Nat.le_of_ble_eq_true rfl), (Nat.le_of_ble_eq_true rfl)⟩ (Nat.le_of_ble_eq_true rfl) dL_law_1582 ⟨rfl, (by show _ ≤ 601024; omega)⟩ ⟨rfl, (by show _ ≤ 7293034; omega)⟩ rfl ?_
  refine r_istore (pc := 1585) (xs' := [some (aR 99 0), some (aR 6 0), some (aR 7 0), some (aR 60 0), some (aI i), some (aI cd), none]) dL_law_1585 (Nat.le_of_ble_eq_true rfl) rfl ?_
  refine r_aload_n (pc := 1587) dL_law_1587 rfl ?_
  refine r_aload_n (pc := 1588) dL_law_1588 rfl ?_
  refine r_iload (pc := 1589) dL_law_1589 rfl ?_
  refine r_iconst (pc := 1591) (n := 1) dL_law_1591 (by decide) ?_
  refine r_iadd (pc := 1592) dL_law_1592 (by omega) ?_
  refine r_sld (pc := 1593) (L := L) (sc := sc) rfl dL_law_1593 (by omega) (by omega) ?_
  refine r_aload_n (pc := 1594) dL_law_1594 rfl ?_
  refine r_iload (pc := 1595) dL_law_1595 rfl ?_
  refine r_iconst (pc := 1597) (n := 2) dL_law_1597 (by decide) ?_
  refine r_iadd (pc := 1598) dL_law_1598 (by omega) ?_
  refine r_sld (pc := 1599) (L := L) (sc := sc) rfl dL_law_1599 (by omega) (by omega) ?_
  refine d1_V (pc := 1600) (t := 7) (i := 0) (rest := []) (cs' := (cs + 2)) (sl' := (sl + 12)) mv_L_171 d2 rfl ⟨(Nat.le_of_ble_eq_true rfl), (Nat.le_of_ble_eq_true rfl)⟩ (Nat.le_of_ble_eq_true rfl) dL_law_1600 (show (0 : Int) ≤ 0 by omega) (show 0 < 1 by omega) ⟨rfl, (by show _ ≤ 601024; omega)⟩ ⟨rfl, (by show _ ≤ 7293034; omega)⟩ rfl ?_
  refine r_istore (pc := 1603) (xs' := [some (aR 99 0), some (aR 6 0), some (aR 7 0), some (aR 60 0), some (aI i), some (aI cd), some (aI b)]) dL_law_1603 (Nat.le_of_ble_eq_true rfl) rfl ?_
  refine r_aload_n (pc := 1605) dL_law_1605 rfl ?_
  refine d1_V (pc := 1606) (t := 7) (i := 0) (rest := []) (cs' := (cs + 2)) (sl' := (sl + 12)) mv_L_100 (show Det I_X7_thrown [aR 7 0] (hp hi2 nb1 nk1) (some (aI cd)) (hp hi2 nb1 nk1) from by rw [← e1]; exact K_X7_thrown) rfl ⟨(Nat.le_of_ble_eq_true rfl), (Nat.le_of_ble_eq_true rfl)⟩ (Nat.le_of_ble_eq_true rfl) dL_law_1606 (show (0 : Int) ≤ 0 by omega) (show 0 < 1 by omega) ⟨rfl, (by show _ ≤ 601024; omega)⟩ ⟨rfl, (by show _ ≤ 7293034; omega)⟩ rfl ?_
  refine r_iload (pc := 1609) dL_law_1609 rfl ?_
  refine r_icmp_eq (pc := 1611) (tgt := 1616) dL_law_1611 rfl (fun c1611 => ?_) (fun c1611 => absurd rfl c1611)
  refine r_iload (pc := 1616) dL_law_1616 rfl ?_
  refine r_if_ne (pc := 1618) (tgt := 1633) dL_law_1618 rfl (fun c1618 => ?_) (fun c1618 => ?_)
  · refine r_goto (pc := 1633) (tgt := 1748) dL_law_1633 rfl ?_
    refine r_drop (xs' := [some (aR 99 0), some (aR 6 0), some (aR 7 0), some (aR 60 0), some (aI i), none, some (aI b)]) 5 rfl ?_
    refine r_drop (xs' := [some (aR 99 0), some (aR 6 0), some (aR 7 0), some (aR 60 0), some (aI i), none, none]) 6 rfl ?_
    refine r_wide (cs' := cs + 40) (sl' := sl + 400) (by omega) (by omega) ?_
    exact K _ _ _ hI2
  · refine r_aload_n (pc := 1621) dL_law_1621 rfl ?_
    refine r_iconst (pc := 1622) (n := 0) dL_law_1622 (by decide) ?_
    refine q_lald (pc := 1623) (n9 := 1) (nI := 1) (v := hi2 60 0 0) rfl dL_law_1623 rfl (by decide) (by decide) rfl (by omega) (by omega) rfl ?_
    refine r_iload (pc := 1624) dL_law_1624 rfl ?_
    refine r_i2l (pc := 1626) dL_law_1626 ?_
    refine r_lcmp (pc := 1627) dL_law_1627 ?_
    refine r_if_eq (pc := 1628) (tgt := 1633) dL_law_1628 rfl (fun c1628 => ?_) (fun c1628 => absurd (cmp_eq (e2 c1618)) c1628)
    refine r_goto (pc := 1633) (tgt := 1748) dL_law_1633 rfl ?_
    refine r_drop (xs' := [some (aR 99 0), some (aR 6 0), some (aR 7 0), some (aR 60 0), some (aI i), none, some (aI b)]) 5 rfl ?_
    refine r_drop (xs' := [some (aR 99 0), some (aR 6 0), some (aR 7 0), some (aR 60 0), some (aI i), none, none]) 6 rfl ?_
    refine r_wide (cs' := cs + 40) (sl' := sl + 400) (by omega) (by omega) ?_
    exact K _ _ _ hI2

theorem law_lacks {nm : String} {hh : List (Nat × Nat × Nat × Nat)} {L : Nat} {sc : Nat → Int32} {hi : Hi} {nb nk i : Int} {cs sl : Nat} {Q : Option Av → Hp → Prop} {X : String → Hp → Prop} (hI : Inv hi nb nk) (h0 : 0 ≤ i) (h1 : i + 5 ≤ (L : Int)) (hL : L ≤ 2560) (hcs : cs + 40 ≤ 601024) (hsl : sl + 400 ≤ 7293034) (K : ∀ (hi' : Hi) (nb' nk' : Int), Inv hi' nb' nk' → Run (I_law nm hh L sc) 1748 [some (aR 99 0), some (aR 6 0), some (aR 7 0), some (aR 60 0), some (aI i), none, none] [] (hp hi' nb' nk') (cs + 40) (sl + 400) Q X) : Run (I_law nm hh L sc) 1636 [some (aR 99 0), some (aR 6 0), some (aR 7 0), some (aR 60 0), some (aI i), none, none] [] (hp hi nb nk) cs sl Q X := by
  obtain ⟨cd, b, hi1, hi2, nb1, nk1, d1, d2, e1, e2, hI2⟩ := J_lacks hI (b := (sc (i + 1).toNat).toInt)
  refine r_aload_n (pc := 1636) dL_law_1636 rfl ?_
  refine r_aload_n (pc := 1637) dL_law_1637 rfl ?_
  refine r_iload (pc := 1638) dL_law_1638 rfl ?_
  refine r_iconst (pc := 1640) (n := 1) dL_law_1640 (by decide) ?_
  refine r_iadd (pc := 1641) dL_law_1641 (by omega) ?_
  refine r_sld (pc := 1642) (L := L) (sc := sc) rfl dL_law_1642 (by omega) (by omega) ?_
  refine r_aload_n (pc := 1643) dL_law_1643 rfl ?_
  refine d1_SX (pc := 1644) (rest := []) (cs' := (cs + 1)) (sl' := (sl + 6)) ms_L_172 (by simp [I_L_lacks]) d1 rfl ⟨(Nat.le_of_ble_eq_true rfl), (Nat.le_of_ble_eq_true rfl)⟩ (Nat.le_of_ble_eq_true rfl) dL_law_1644 ⟨rfl, (by show _ ≤ 601024; omega)⟩ ⟨rfl, (by show _ ≤ 7293034; omega)⟩ rfl ?_
  refine r_istore (pc := 1647) (xs' := [some (aR 99 0), some (aR 6 0), some (aR 7 0), some (aR 60 0), some (aI i), some (aI cd), none]) dL_law_1647 (Nat.le_of_ble_eq_true rfl) rfl ?_
  refine r_aload_n (pc := 1649) dL_law_1649 rfl ?_
  refine r_aload_n (pc := 1650) dL_law_1650 rfl ?_
  refine r_iload (pc := 1651) dL_law_1651 rfl ?_
  refine r_iconst (pc := 1653) (n := 1) dL_law_1653 (by decide) ?_
  refine r_iadd (pc := 1654) dL_law_1654 (by omega) ?_
  refine r_sld (pc := 1655) (L := L) (sc := sc) rfl dL_law_1655 (by omega) (by omega) ?_
  refine d1_V (pc := 1656) (t := 7) (i := 0) (rest := []) (cs' := (cs + 1)) (sl' := (sl + 6)) mv_L_174 d2 rfl ⟨(Nat.le_of_ble_eq_true rfl), (Nat.le_of_ble_eq_true rfl)⟩ (Nat.le_of_ble_eq_true rfl) dL_law_1656 (show (0 : Int) ≤ 0 by omega) (show 0 < 1 by omega) ⟨rfl, (by show _ ≤ 601024; omega)⟩ ⟨rfl, (by show _ ≤ 7293034; omega)⟩ rfl ?_
  refine r_istore (pc := 1659) (xs' := [some (aR 99 0), some (aR 6 0), some (aR 7 0), some (aR 60 0), some (aI i), some (aI cd), some (aI b)]) dL_law_1659 (Nat.le_of_ble_eq_true rfl) rfl ?_
  refine r_aload_n (pc := 1661) dL_law_1661 rfl ?_
  refine d1_V (pc := 1662) (t := 7) (i := 0) (rest := []) (cs' := (cs + 1)) (sl' := (sl + 6)) mv_L_100 (show Det I_X7_thrown [aR 7 0] (hp hi2 nb1 nk1) (some (aI cd)) (hp hi2 nb1 nk1) from by rw [← e1]; exact K_X7_thrown) rfl ⟨(Nat.le_of_ble_eq_true rfl), (Nat.le_of_ble_eq_true rfl)⟩ (Nat.le_of_ble_eq_true rfl) dL_law_1662 (show (0 : Int) ≤ 0 by omega) (show 0 < 1 by omega) ⟨rfl, (by show _ ≤ 601024; omega)⟩ ⟨rfl, (by show _ ≤ 7293034; omega)⟩ rfl ?_
  refine r_iload (pc := 1665) dL_law_1665 rfl ?_
  refine r_icmp_eq (pc := 1667) (tgt := 1672) dL_law_1667 rfl (fun c1667 => ?_) (fun c1667 => absurd rfl c1667)
  refine r_iload (pc := 1672) dL_law_1672 rfl ?_
  refine r_if_ne (pc := 1674) (tgt := 1689) dL_law_1674 rfl (fun c1674 => ?_) (fun c1674 => ?_)
  · refine r_goto (pc := 1689) (tgt := 1748) dL_law_1689 rfl ?_
    refine r_drop (xs' := [some (aR 99 0), some (aR 6 0), some (aR 7 0), some (aR 60 0), some (aI i), none, some (aI b)]) 5 rfl ?_
    refine r_drop (xs' := [some (aR 99 0), some (aR 6 0), some (aR 7 0), some (aR 60 0), some (aI i), none, none]) 6 rfl ?_
    refine r_wide (cs' := cs + 40) (sl' := sl + 400) (by omega) (by omega) ?_
    exact K _ _ _ hI2
  · refine r_aload_n (pc := 1677) dL_law_1677 rfl ?_
    refine r_iconst (pc := 1678) (n := 0) dL_law_1678 (by decide) ?_
    refine q_lald (pc := 1679) (n9 := 1) (nI := 1) (v := hi2 60 0 0) rfl dL_law_1679 rfl (by decide) (by decide) rfl (by omega) (by omega) rfl ?_
    refine r_iload (pc := 1680) dL_law_1680 rfl ?_
    refine r_i2l (pc := 1682) dL_law_1682 ?_
    refine r_lcmp (pc := 1683) dL_law_1683 ?_
    refine r_if_eq (pc := 1684) (tgt := 1689) dL_law_1684 rfl (fun c1684 => ?_) (fun c1684 => absurd (cmp_eq (e2 c1674)) c1684)
    refine r_goto (pc := 1689) (tgt := 1748) dL_law_1689 rfl ?_
    refine r_drop (xs' := [some (aR 99 0), some (aR 6 0), some (aR 7 0), some (aR 60 0), some (aI i), none, some (aI b)]) 5 rfl ?_
    refine r_drop (xs' := [some (aR 99 0), some (aR 6 0), some (aR 7 0), some (aR 60 0), some (aI i), none, none]) 6 rfl ?_
    refine r_wide (cs' := cs + 40) (sl' := sl + 400) (by omega) (by omega) ?_
    exact K _ _ _ hI2

theorem law_pass {nm : String} {hh : List (Nat × Nat × Nat × Nat)} {L : Nat} {sc : Nat → Int32} {hi : Hi} {nb nk i : Int} {cs sl : Nat} {Q : Option Av → Hp → Prop} {X : String → Hp → Prop} (hI : Inv hi nb nk) (h0 : 0 ≤ i) (h1 : i + 5 ≤ (L : Int)) (hL : L ≤ 2560) (hcs : cs + 40 ≤ 601024) (hsl : sl + 400 ≤ 7293034) (K : ∀ (hi' : Hi) (nb' nk' : Int), Inv hi' nb' nk' → Run (I_law nm hh L sc) 1748 [some (aR 99 0), some (aR 6 0), some (aR 7 0), some (aR 60 0), some (aI i), none, none] [] (hp hi' nb' nk') (cs + 40) (sl + 400) Q X) : Run (I_law nm hh L sc) 1692 [some (aR 99 0), some (aR 6 0), some (aR 7 0), some (aR 60 0), some (aI i), none, none] [] (hp hi nb nk) cs sl Q X := by
  obtain ⟨cd, b, hi1, hi2, nb1, nk1, d1, d2, e1, e2, hI2⟩ := J_pass hI (d := (sc (i + 1).toNat).toInt)
  refine r_aload_n (pc := 1692) dL_law_1692 rfl ?_
  refine r_aload_n (pc := 1693) dL_law_1693 rfl ?_
  refine r_iload (pc := 1694) dL_law_1694 rfl ?_
  refine r_iconst (pc := 1696) (n := 1) dL_law_1696 (by decide) ?_
  refine r_iadd (pc := 1697) dL_law_1697 (by omega) ?_
  refine r_sld (pc := 1698) (L := L) (sc := sc) rfl dL_law_1698 (by omega) (by omega) ?_
  refine r_aload_n (pc := 1699) dL_law_1699 rfl ?_
  refine d1_SX (pc := 1700) (rest := []) (cs' := (cs + 2)) (sl' := (sl + 12)) ms_L_175 (by simp [I_L_pass]) d1 rfl ⟨(Nat.le_of_ble_eq_true rfl), (Nat.le_of_ble_eq_true rfl)⟩ (Nat.le_of_ble_eq_true rfl) dL_law_1700 ⟨rfl, (by show _ ≤ 601024; omega)⟩ ⟨rfl, (by show _ ≤ 7293034; omega)⟩ rfl ?_
  refine r_istore (pc := 1703) (xs' := [some (aR 99 0), some (aR 6 0), some (aR 7 0), some (aR 60 0), some (aI i), some (aI cd), none]) dL_law_1703 (Nat.le_of_ble_eq_true rfl) rfl ?_
  refine r_aload_n (pc := 1705) dL_law_1705 rfl ?_
  refine r_aload_n (pc := 1706) dL_law_1706 rfl ?_
  refine r_iload (pc := 1707) dL_law_1707 rfl ?_
  refine r_iconst (pc := 1709) (n := 1) dL_law_1709 (by decide) ?_
  refine r_iadd (pc := 1710) dL_law_1710 (by omega) ?_
  refine r_sld (pc := 1711) (L := L) (sc := sc) rfl dL_law_1711 (by omega) (by omega) ?_
  refine d1_V (pc := 1712) (t := 7) (i := 0) (rest := []) (cs' := (cs + 2)) (sl' := (sl + 12)) mv_L_177 d2 rfl ⟨(Nat.le_of_ble_eq_true rfl), (Nat.le_of_ble_eq_true rfl)⟩ (Nat.le_of_ble_eq_true rfl) dL_law_1712 (show (0 : Int) ≤ 0 by omega) (show 0 < 1 by omega) ⟨rfl, (by show _ ≤ 601024; omega)⟩ ⟨rfl, (by show _ ≤ 7293034; omega)⟩ rfl ?_
  refine r_istore (pc := 1715) (xs' := [some (aR 99 0), some (aR 6 0), some (aR 7 0), some (aR 60 0), some (aI i), some (aI cd), some (aI b)]) dL_law_1715 (Nat.le_of_ble_eq_true rfl) rfl ?_
  refine r_aload_n (pc := 1717) dL_law_1717 rfl ?_
  refine d1_V (pc := 1718) (t := 7) (i := 0) (rest := []) (cs' := (cs + 2)) (sl' := (sl + 12)) mv_L_100 (show Det I_X7_thrown [aR 7 0] (hp hi2 nb1 nk1) (some (aI cd)) (hp hi2 nb1 nk1) from by rw [← e1]; exact K_X7_thrown) rfl ⟨(Nat.le_of_ble_eq_true rfl), (Nat.le_of_ble_eq_true rfl)⟩ (Nat.le_of_ble_eq_true rfl) dL_law_1718 (show (0 : Int) ≤ 0 by omega) (show 0 < 1 by omega) ⟨rfl, (by show _ ≤ 601024; omega)⟩ ⟨rfl, (by show _ ≤ 7293034; omega)⟩ rfl ?_
  refine r_iload (pc := 1721) dL_law_1721 rfl ?_
  refine r_icmp_eq (pc := 1723) (tgt := 1728) dL_law_1723 rfl (fun c1723 => ?_) (fun c1723 => absurd rfl c1723)
  refine r_iload (pc := 1728) dL_law_1728 rfl ?_
  refine r_if_ne (pc := 1730) (tgt := 1745) dL_law_1730 rfl (fun c1730 => ?_) (fun c1730 => ?_)
  · refine r_goto (pc := 1745) (tgt := 1748) dL_law_1745 rfl ?_
    refine r_drop (xs' := [some (aR 99 0), some (aR 6 0), some (aR 7 0), some (aR 60 0), some (aI i), none, some (aI b)]) 5 rfl ?_
    refine r_drop (xs' := [some (aR 99 0), some (aR 6 0), some (aR 7 0), some (aR 60 0), some (aI i), none, none]) 6 rfl ?_
    refine r_wide (cs' := cs + 40) (sl' := sl + 400) (by omega) (by omega) ?_
    exact K _ _ _ hI2
  · refine r_aload_n (pc := 1733) dL_law_1733 rfl ?_
    refine r_iconst (pc := 1734) (n := 0) dL_law_1734 (by decide) ?_
    refine q_lald (pc := 1735) (n9 := 1) (nI := 1) (v := hi2 60 0 0) rfl dL_law_1735 rfl (by decide) (by decide) rfl (by omega) (by omega) rfl ?_
    refine r_iload (pc := 1736) dL_law_1736 rfl ?_
    refine r_i2l (pc := 1738) dL_law_1738 ?_
    refine r_lcmp (pc := 1739) dL_law_1739 ?_
    refine r_if_eq (pc := 1740) (tgt := 1745) dL_law_1740 rfl (fun c1740 => ?_) (fun c1740 => absurd (cmp_eq (e2 c1730)) c1740)
    refine r_goto (pc := 1745) (tgt := 1748) dL_law_1745 rfl ?_
    refine r_drop (xs' := [some (aR 99 0), some (aR 6 0), some (aR 7 0), some (aR 60 0), some (aI i), none, some (aI b)]) 5 rfl ?_
    refine r_drop (xs' := [some (aR 99 0), some (aR 6 0), some (aR 7 0), some (aR 60 0), some (aI i), none, none]) 6 rfl ?_
    refine r_wide (cs' := cs + 40) (sl' := sl + 400) (by omega) (by omega) ?_
    exact K _ _ _ hI2
