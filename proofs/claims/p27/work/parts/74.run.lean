/-! ===== the law: its looks, its choice of deeds, its loop and its start (printed by wip/p27/tools/g74.py) ===== -/
theorem law_looks {nm : String} {hh : List (Nat × Nat × Nat × Nat)} {L : Nat} {sc : Nat → Int32} {hi : Hi} {nb nk dy lk tn t z dd b p : Int} {cs sl : Nat} {Q : Option Av → Hp → Prop} {X : String → Hp → Prop} (LI : LawI hi nb nk dy lk) (hdy : 0 ≤ dy ∧ dy ≤ 3000) (hz : 0 ≤ z ∧ z ≤ 134217727) (hb : 0 ≤ b ∧ b < nb) (hp9 : 0 ≤ p ∧ p < 4) (hlk : 0 ≤ lk ∧ lk ≤ 30) (hdd9 : 0 ≤ dd ∧ dd ≤ 31) (hlt : lk < 30) (hr2 : lk < 30 → cs + 2300 ≤ 600104 ∧ sl + 22000 ≤ 7301314) (K2 : lk < 30 → ∀ hi' : Hi, LawI hi' nb nk dy (lk + 1) → Run (I_law nm hh L sc) 1226 [some (aR 99 0), some (aR 6 0), some (aR 60 0), some (aI nb), some (aI nk), some (aI dy), some (aI (lk + 1)), some (aI 1), some (aI tn), some (aI t), none, none, none, none, none, none, none, none, none] [] (hp hi' nb nk) (cs + 2300) (sl + 22000) Q X) : Run (I_law nm hh L sc) 1172 [some (aR 99 0), some (aR 6 0), some (aR 60 0), some (aI nb), some (aI nk), some (aI dy), some (aI lk), some (aI 1), some (aI tn), some (aI t), some (aI z), some (aI dd), some (aI b), some (aI p), none, none, none, none, none] [] (hp hi nb nk) cs sl Q X := by
  obtain ⟨hI, hdd, hw, hg⟩ := id LI
  have hN := hI.num
  unfold vNum at hN
  have r2 := hr2 hlt
  refine r_iinc (pc := 1172) (xs' := [some (aR 99 0), some (aR 6 0), some (aR 60 0), some (aI nb), some (aI nk), some (aI dy), some (aI (lk + 1)), some (aI 1), some (aI tn), some (aI t), some (aI z), some (aI dd), some (aI b), some (aI p), none, none, none, none, none]) dL_law_1172 rfl (Nat.le_of_ble_eq_true rfl) (by omega) rfl ?_
  refine r_aload_n (pc := 1175) dL_law_1175 rfl ?_
  refine r_iload_n (pc := 1176) dL_law_1176 rfl ?_
  refine r_iload (pc := 1177) dL_law_1177 rfl ?_
  refine r_bipush (pc := 1179) (n := 9) dL_law_1179 rfl (by decide) ?_
  refine r_ishrX (pc := 1181) dL_law_1181 (fun s1181 t1181 u1181 => ?_)
  replace u1181 := u1181 (by omega)
  refine r_iload (pc := 1182) dL_law_1182 rfl ?_
  refine r_iconst (pc := 1184) (n := 3) dL_law_1184 (by decide) ?_
  refine r_iadd (pc := 1185) dL_law_1185 (by omega) ?_
  have m1186 := Int.emod_nonneg (s1181) (show (dy + 3) ≠ 0 by omega)
  have n1186 := Int.emod_lt_of_pos (s1181) (show 0 < (dy + 3) by omega)
  refine r_irem (pc := 1186) dL_law_1186 (by omega) (by omega) ?_
  refine r_iload (pc := 1187) dL_law_1187 rfl ?_
  refine d1_S (pc := 1189) (rest := []) (cs' := (cs + 400)) (sl' := (sl + 3000)) ms_L_100 rfl (K_L_arePlaces hI (dy := s1181 % (dy + 3)) (b := b) (by omega) hb) rfl ⟨(Nat.le_of_ble_eq_true rfl), (Nat.le_of_ble_eq_true rfl)⟩ (Nat.le_of_ble_eq_true rfl) dL_law_1189 ⟨(by show _ + 400 = _; omega), (by show _ ≤ 600104; omega)⟩ ⟨(by show _ + 3000 = _; omega), (by show _ ≤ 7301314; omega)⟩ rfl ?_
  refine r_if_eq (pc := 1192) (tgt := 1223) dL_law_1192 rfl (fun z => absurd z (by decide)) (fun _ => ?_)
  refine r_aload_n (pc := 1195) dL_law_1195 rfl ?_
  refine r_iload_n (pc := 1196) dL_law_1196 rfl ?_
  refine r_aload_n (pc := 1197) dL_law_1197 rfl ?_
  refine r_iload (pc := 1198) dL_law_1198 rfl ?_
  refine r_callS (pc := 1200) (rest := []) (cs' := (cs + 900)) (sl' := (sl + 7000)) ms_L_104 rfl (K_L_areBookings hI hw (by omega)) rfl ⟨(Nat.le_of_ble_eq_true rfl), (Nat.le_of_ble_eq_true rfl)⟩ (Nat.le_of_ble_eq_true rfl) dL_law_1200 ⟨(by show _ + 500 = _; omega), (by show _ ≤ 600104; omega)⟩ ⟨(by show _ + 4000 = _; omega), (by show _ ≤ 7301314; omega)⟩ rfl (fun r9 h9 hq9 => ?_) (fun E9 h9 hx9 => hx9.elim)
  obtain ⟨rfl, g, rfl, eg⟩ := hq9
  show Run _ 1203 _ [aI 1] (hp (gvn hi g) nb nk) _ _ _ _
  have pl9 := K_L_arePlans (hI.gv (g := g)) (kd := z % 3) (by show 0 ≤ hi 6 0 8 ∧ hi 6 0 8 ≤ 9000; omega) (by omega)
  rw [show gvn hi g 6 0 8 = dy from hdd] at pl9
  refine r_if_eq (pc := 1203) (tgt := 1223) dL_law_1203 rfl (fun z => absurd z (by decide)) (fun _ => ?_)
  refine r_aload_n (pc := 1206) dL_law_1206 rfl ?_
  refine r_iload (pc := 1207) dL_law_1207 rfl ?_
  refine r_iload (pc := 1209) dL_law_1209 rfl ?_
  refine r_iconst (pc := 1211) (n := 3) dL_law_1211 (by decide) ?_
  refine r_irem (pc := 1212) dL_law_1212 (by omega) (by omega) ?_
  refine r_callS (pc := 1213) (rest := []) (cs' := (cs + 1900)) (sl' := (sl + 16000)) ms_L_108 rfl pl9 rfl ⟨(Nat.le_of_ble_eq_true rfl), (Nat.le_of_ble_eq_true rfl)⟩ (Nat.le_of_ble_eq_true rfl) dL_law_1213 ⟨(by show _ + 1000 = _; omega), (by show _ ≤ 600104; omega)⟩ ⟨(by show _ + 9000 = _; omega), (by show _ ≤ 7301314; omega)⟩ rfl (fun r9 h9 hq9 => ?_) (fun E9 h9 hx9 => hx9.elim)
  obtain ⟨rfl, g2, rfl⟩ := hq9
  show Run _ 1216 _ [aI 1] (hp (mix (gvn hi g) g2) nb nk) _ _ _ _
  refine r_if_eq (pc := 1216) (tgt := 1223) dL_law_1216 rfl (fun z => absurd z (by decide)) (fun _ => ?_)
  refine r_iconst (pc := 1219) (n := 1) dL_law_1219 (by decide) ?_
  refine r_goto (pc := 1220) (tgt := 1224) dL_law_1220 rfl ?_
  refine r_istore (pc := 1224) (xs' := [some (aR 99 0), some (aR 6 0), some (aR 60 0), some (aI nb), some (aI nk), some (aI dy), some (aI (lk + 1)), some (aI 1), some (aI tn), some (aI t), some (aI z), some (aI dd), some (aI b), some (aI p), none, none, none, none, none]) dL_law_1224 (Nat.le_of_ble_eq_true rfl) rfl ?_
  refine r_drop (xs' := [some (aR 99 0), some (aR 6 0), some (aR 60 0), some (aI nb), some (aI nk), some (aI dy), some (aI (lk + 1)), some (aI 1), some (aI tn), some (aI t), none, some (aI dd), some (aI b), some (aI p), none, none, none, none, none]) 10 rfl ?_
  refine r_drop (xs' := [some (aR 99 0), some (aR 6 0), some (aR 60 0), some (aI nb), some (aI nk), some (aI dy), some (aI (lk + 1)), some (aI 1), some (aI tn), some (aI t), none, none, some (aI b), some (aI p), none, none, none, none, none]) 11 rfl ?_
  refine r_drop (xs' := [some (aR 99 0), some (aR 6 0), some (aR 60 0), some (aI nb), some (aI nk), some (aI dy), some (aI (lk + 1)), some (aI 1), some (aI tn), some (aI t), none, none, none, some (aI p), none, none, none, none, none]) 12 rfl ?_
  refine r_drop (xs' := [some (aR 99 0), some (aR 6 0), some (aR 60 0), some (aI nb), some (aI nk), some (aI dy), some (aI (lk + 1)), some (aI 1), some (aI tn), some (aI t), none, none, none, none, none, none, none, none, none]) 13 rfl ?_
  refine r_wide (cs' := cs + 2300) (sl' := sl + 22000) (by omega) (by omega) ?_
  exact K2 hlt _ (LI.looked eg)

theorem law_e {nm : String} {hh : List (Nat × Nat × Nat × Nat)} {L : Nat} {sc : Nat → Int32} {hi : Hi} {nb nk dy lk tn t z dd b p : Int} {cs sl : Nat} {Q : Option Av → Hp → Prop} {X : String → Hp → Prop} (LI : LawI hi nb nk dy lk) (hdy : 0 ≤ dy ∧ dy ≤ 3000) (hz : 0 ≤ z ∧ z ≤ 134217727) (hb : 0 ≤ b ∧ b < nb) (hp9 : 0 ≤ p ∧ p < 4) (hlk : 0 ≤ lk ∧ lk ≤ 30) (hdd9 : 0 ≤ dd ∧ dd ≤ 31) (hcs : cs + 300 ≤ 600104) (hsl : sl + 3000 ≤ 7301314) (hr2 : lk < 30 → cs + 2300 ≤ 600104 ∧ sl + 22000 ≤ 7301314) (K : ∀ (hi' : Hi) (nb' nk' dy' : Int), LawI hi' nb' nk' dy' lk → 1 ≤ nb' → dy ≤ dy' → dy' ≤ dy + 9 → Run (I_law nm hh L sc) 1226 [some (aR 99 0), some (aR 6 0), some (aR 60 0), some (aI nb'), some (aI nk'), some (aI dy'), some (aI lk), some (aI 1), some (aI tn), some (aI t), none, none, none, none, none, none, none, none, none] [] (hp hi' nb' nk') (cs + 300) (sl + 3000) Q X) (K2 : lk < 30 → ∀ hi' : Hi, LawI hi' nb nk dy (lk + 1) → Run (I_law nm hh L sc) 1226 [some (aR 99 0), some (aR 6 0), some (aR 60 0), some (aI nb), some (aI nk), some (aI dy), some (aI (lk + 1)), some (aI 1), some (aI tn), some (aI t), none, none, none, none, none, none, none, none, none] [] (hp hi' nb nk) (cs + 2300) (sl + 22000) Q X) : Run (I_law nm hh L sc) 1165 [some (aR 99 0), some (aR 6 0), some (aR 60 0), some (aI nb), some (aI nk), some (aI dy), some (aI lk), some (aI 1), some (aI tn), some (aI t), some (aI z), some (aI dd), some (aI b), some (aI p), none, none, none, none, none] [] (hp hi nb nk) cs sl Q X := by
  obtain ⟨hI, hdd, hw, hg⟩ := id LI
  have hN := hI.num
  unfold vNum at hN
  refine r_iload (pc := 1165) dL_law_1165 rfl ?_
  refine r_bipush (pc := 1167) (n := 30) dL_law_1167 rfl (by decide) ?_
  refine r_icmp_ge (pc := 1169) (tgt := 1226) dL_law_1169 rfl (fun c1169 => ?_) (fun c1169 => ?_)
  · refine r_drop (xs' := [some (aR 99 0), some (aR 6 0), some (aR 60 0), some (aI nb), some (aI nk), some (aI dy), some (aI lk), some (aI 1), some (aI tn), some (aI t), none, some (aI dd), some (aI b), some (aI p), none, none, none, none, none]) 10 rfl ?_
    refine r_drop (xs' := [some (aR 99 0), some (aR 6 0), some (aR 60 0), some (aI nb), some (aI nk), some (aI dy), some (aI lk), some (aI 1), some (aI tn), some (aI t), none, none, some (aI b), some (aI p), none, none, none, none, none]) 11 rfl ?_
    refine r_drop (xs' := [some (aR 99 0), some (aR 6 0), some (aR 60 0), some (aI nb), some (aI nk), some (aI dy), some (aI lk), some (aI 1), some (aI tn), some (aI t), none, none, none, some (aI p), none, none, none, none, none]) 12 rfl ?_
    refine r_drop (xs' := [some (aR 99 0), some (aR 6 0), some (aR 60 0), some (aI nb), some (aI nk), some (aI dy), some (aI lk), some (aI 1), some (aI tn), some (aI t), none, none, none, none, none, none, none, none, none]) 13 rfl ?_
    refine r_wide (cs' := cs + 300) (sl' := sl + 3000) (by omega) (by omega) ?_
    exact K _ _ _ _ LI (by omega) (by omega) (by omega)
  · exact law_looks LI hdy hz hb hp9 hlk hdd9 (by omega) hr2 K2

theorem law_d {nm : String} {hh : List (Nat × Nat × Nat × Nat)} {L : Nat} {sc : Nat → Int32} {hi : Hi} {nb nk dy lk tn t z dd b p : Int} {cs sl : Nat} {Q : Option Av → Hp → Prop} {X : String → Hp → Prop} (LI : LawI hi nb nk dy lk) (hdy : 0 ≤ dy ∧ dy ≤ 3000) (hz : 0 ≤ z ∧ z ≤ 134217727) (hb : 0 ≤ b ∧ b < nb) (hp9 : 0 ≤ p ∧ p < 4) (hlk : 0 ≤ lk ∧ lk ≤ 30) (hdd9 : 0 ≤ dd ∧ dd ≤ 31) (hcs : cs + 300 ≤ 600104) (hsl : sl + 3000 ≤ 7301314) (hr2 : lk < 30 → cs + 2300 ≤ 600104 ∧ sl + 22000 ≤ 7301314) (K : ∀ (hi' : Hi) (nb' nk' dy' : Int), LawI hi' nb' nk' dy' lk → 1 ≤ nb' → dy ≤ dy' → dy' ≤ dy + 9 → Run (I_law nm hh L sc) 1226 [some (aR 99 0), some (aR 6 0), some (aR 60 0), some (aI nb'), some (aI nk'), some (aI dy'), some (aI lk), some (aI 1), some (aI tn), some (aI t), none, none, none, none, none, none, none, none, none] [] (hp hi' nb' nk') (cs + 300) (sl + 3000) Q X) (K2 : lk < 30 → ∀ hi' : Hi, LawI hi' nb nk dy (lk + 1) → Run (I_law nm hh L sc) 1226 [some (aR 99 0), some (aR 6 0), some (aR 60 0), some (aI nb), some (aI nk), some (aI dy), some (aI (lk + 1)), some (aI 1), some (aI tn), some (aI t), none, none, none, none, none, none, none, none, none] [] (hp hi' nb nk) (cs + 2300) (sl + 22000) Q X) : Run (I_law nm hh L sc) 1114 [some (aR 99 0), some (aR 6 0), some (aR 60 0), some (aI nb), some (aI nk), some (aI dy), some (aI lk), some (aI 1), some (aI tn), some (aI t), some (aI z), some (aI dd), some (aI b), some (aI p), none, none, none, none, none] [] (hp hi nb nk) cs sl Q X := by
  obtain ⟨hI, hdd, hw, hg⟩ := id LI
  have hN := hI.num
  unfold vNum at hN
  refine r_iload (pc := 1114) dL_law_1114 rfl ?_
  refine r_bipush (pc := 1116) (n := 26) dL_law_1116 rfl (by decide) ?_
  refine r_icmp_ne (pc := 1118) (tgt := 1165) dL_law_1118 rfl (fun c1118 => ?_) (fun c1118 => ?_)
  · exact law_e LI hdy hz hb hp9 hlk hdd9 hcs hsl hr2 K K2
  · exact law_pass LI hdy hz hb hp9 hcs hsl K

theorem law_c {nm : String} {hh : List (Nat × Nat × Nat × Nat)} {L : Nat} {sc : Nat → Int32} {hi : Hi} {nb nk dy lk tn t z dd b p : Int} {cs sl : Nat} {Q : Option Av → Hp → Prop} {X : String → Hp → Prop} (LI : LawI hi nb nk dy lk) (hdy : 0 ≤ dy ∧ dy ≤ 3000) (hz : 0 ≤ z ∧ z ≤ 134217727) (hb : 0 ≤ b ∧ b < nb) (hp9 : 0 ≤ p ∧ p < 4) (hlk : 0 ≤ lk ∧ lk ≤ 30) (hdd9 : 0 ≤ dd ∧ dd ≤ 31) (hcs : cs + 300 ≤ 600104) (hsl : sl + 3000 ≤ 7301314) (hr2 : lk < 30 → cs + 2300 ≤ 600104 ∧ sl + 22000 ≤ 7301314) (K : ∀ (hi' : Hi) (nb' nk' dy' : Int), LawI hi' nb' nk' dy' lk → 1 ≤ nb' → dy ≤ dy' → dy' ≤ dy + 9 → Run (I_law nm hh L sc) 1226 [some (aR 99 0), some (aR 6 0), some (aR 60 0), some (aI nb'), some (aI nk'), some (aI dy'), some (aI lk), some (aI 1), some (aI tn), some (aI t), none, none, none, none, none, none, none, none, none] [] (hp hi' nb' nk') (cs + 300) (sl + 3000) Q X) (K2 : lk < 30 → ∀ hi' : Hi, LawI hi' nb nk dy (lk + 1) → Run (I_law nm hh L sc) 1226 [some (aR 99 0), some (aR 6 0), some (aR 60 0), some (aI nb), some (aI nk), some (aI dy), some (aI (lk + 1)), some (aI 1), some (aI tn), some (aI t), none, none, none, none, none, none, none, none, none] [] (hp hi' nb nk) (cs + 2300) (sl + 22000) Q X) : Run (I_law nm hh L sc) 937 [some (aR 99 0), some (aR 6 0), some (aR 60 0), some (aI nb), some (aI nk), some (aI dy), some (aI lk), some (aI 1), some (aI tn), some (aI t), some (aI z), some (aI dd), some (aI b), some (aI p), none, none, none, none, none] [] (hp hi nb nk) cs sl Q X := by
  obtain ⟨hI, hdd, hw, hg⟩ := id LI
  have hN := hI.num
  unfold vNum at hN
  refine r_iload (pc := 937) dL_law_937 rfl ?_
  refine r_bipush (pc := 939) (n := 24) dL_law_939 rfl (by decide) ?_
  refine r_icmp_ne (pc := 941) (tgt := 1031) dL_law_941 rfl (fun c941 => ?_) (fun c941 => ?_)
  · refine r_iload (pc := 1031) dL_law_1031 rfl ?_
    refine r_bipush (pc := 1033) (n := 25) dL_law_1033 rfl (by decide) ?_
    refine r_icmp_ne (pc := 1035) (tgt := 1114) dL_law_1035 rfl (fun c1035 => ?_) (fun c1035 => ?_)
    · exact law_d LI hdy hz hb hp9 hlk hdd9 hcs hsl hr2 K K2
    · refine r_iload (pc := 1038) dL_law_1038 rfl ?_
      refine r_if_le (pc := 1040) (tgt := 1114) dL_law_1040 rfl (fun c1040 => ?_) (fun c1040 => ?_)
      · exact law_d LI hdy hz hb hp9 hlk hdd9 hcs hsl hr2 K K2
      · exact law_end LI hdy hz hb hp9 (by omega) hcs hsl K
  · exact law_serve LI hdy hz hb hp9 hcs hsl K

theorem law_b2 {nm : String} {hh : List (Nat × Nat × Nat × Nat)} {L : Nat} {sc : Nat → Int32} {hi : Hi} {nb nk dy lk tn t z dd b p : Int} {cs sl : Nat} {Q : Option Av → Hp → Prop} {X : String → Hp → Prop} (LI : LawI hi nb nk dy lk) (hdy : 0 ≤ dy ∧ dy ≤ 3000) (hz : 0 ≤ z ∧ z ≤ 134217727) (hb : 0 ≤ b ∧ b < nb) (hp9 : 0 ≤ p ∧ p < 4) (hlk : 0 ≤ lk ∧ lk ≤ 30) (hdd9 : 0 ≤ dd ∧ dd ≤ 31) (hcs : cs + 300 ≤ 600104) (hsl : sl + 3000 ≤ 7301314) (hr2 : lk < 30 → cs + 2300 ≤ 600104 ∧ sl + 22000 ≤ 7301314) (K : ∀ (hi' : Hi) (nb' nk' dy' : Int), LawI hi' nb' nk' dy' lk → 1 ≤ nb' → dy ≤ dy' → dy' ≤ dy + 9 → Run (I_law nm hh L sc) 1226 [some (aR 99 0), some (aR 6 0), some (aR 60 0), some (aI nb'), some (aI nk'), some (aI dy'), some (aI lk), some (aI 1), some (aI tn), some (aI t), none, none, none, none, none, none, none, none, none] [] (hp hi' nb' nk') (cs + 300) (sl + 3000) Q X) (K2 : lk < 30 → ∀ hi' : Hi, LawI hi' nb nk dy (lk + 1) → Run (I_law nm hh L sc) 1226 [some (aR 99 0), some (aR 6 0), some (aR 60 0), some (aI nb), some (aI nk), some (aI dy), some (aI (lk + 1)), some (aI 1), some (aI tn), some (aI t), none, none, none, none, none, none, none, none, none] [] (hp hi' nb nk) (cs + 2300) (sl + 22000) Q X) : Run (I_law nm hh L sc) 875 [some (aR 99 0), some (aR 6 0), some (aR 60 0), some (aI nb), some (aI nk), some (aI dy), some (aI lk), some (aI 1), some (aI tn), some (aI t), some (aI z), some (aI dd), some (aI b), some (aI p), none, none, none, none, none] [] (hp hi nb nk) cs sl Q X := by
  obtain ⟨hI, hdd, hw, hg⟩ := id LI
  have hN := hI.num
  unfold vNum at hN
  refine r_iload (pc := 875) dL_law_875 rfl ?_
  refine r_bipush (pc := 877) (n := 24) dL_law_877 rfl (by decide) ?_
  refine r_icmp_ge (pc := 879) (tgt := 937) dL_law_879 rfl (fun c879 => ?_) (fun c879 => ?_)
  · exact law_c LI hdy hz hb hp9 hlk hdd9 hcs hsl hr2 K K2
  · refine r_iload (pc := 882) dL_law_882 rfl ?_
    refine r_bipush (pc := 884) (n := 20) dL_law_884 rfl (by decide) ?_
    refine r_icmp_ge (pc := 886) (tgt := 937) dL_law_886 rfl (fun c886 => ?_) (fun c886 => ?_)
    · exact law_c LI hdy hz hb hp9 hlk hdd9 hcs hsl hr2 K K2
    · exact law_book LI hdy hz hb hp9 (by omega) hcs hsl K

theorem law_b {nm : String} {hh : List (Nat × Nat × Nat × Nat)} {L : Nat} {sc : Nat → Int32} {hi : Hi} {nb nk dy lk tn t z dd b p : Int} {cs sl : Nat} {Q : Option Av → Hp → Prop} {X : String → Hp → Prop} (LI : LawI hi nb nk dy lk) (hdy : 0 ≤ dy ∧ dy ≤ 3000) (hz : 0 ≤ z ∧ z ≤ 134217727) (hb : 0 ≤ b ∧ b < nb) (hp9 : 0 ≤ p ∧ p < 4) (hlk : 0 ≤ lk ∧ lk ≤ 30) (hdd9 : 0 ≤ dd ∧ dd ≤ 31) (hcs : cs + 300 ≤ 600104) (hsl : sl + 3000 ≤ 7301314) (hr2 : lk < 30 → cs + 2300 ≤ 600104 ∧ sl + 22000 ≤ 7301314) (K : ∀ (hi' : Hi) (nb' nk' dy' : Int), LawI hi' nb' nk' dy' lk → 1 ≤ nb' → dy ≤ dy' → dy' ≤ dy + 9 → Run (I_law nm hh L sc) 1226 [some (aR 99 0), some (aR 6 0), some (aR 60 0), some (aI nb'), some (aI nk'), some (aI dy'), some (aI lk), some (aI 1), some (aI tn), some (aI t), none, none, none, none, none, none, none, none, none] [] (hp hi' nb' nk') (cs + 300) (sl + 3000) Q X) (K2 : lk < 30 → ∀ hi' : Hi, LawI hi' nb nk dy (lk + 1) → Run (I_law nm hh L sc) 1226 [some (aR 99 0), some (aR 6 0), some (aR 60 0), some (aI nb), some (aI nk), some (aI dy), some (aI (lk + 1)), some (aI 1), some (aI tn), some (aI t), none, none, none, none, none, none, none, none, none] [] (hp hi' nb nk) (cs + 2300) (sl + 22000) Q X) : Run (I_law nm hh L sc) 204 [some (aR 99 0), some (aR 6 0), some (aR 60 0), some (aI nb), some (aI nk), some (aI dy), some (aI lk), some (aI 1), some (aI tn), some (aI t), some (aI z), some (aI dd), some (aI b), some (aI p), none, none, none, none, none] [] (hp hi nb nk) cs sl Q X := by
  obtain ⟨hI, hdd, hw, hg⟩ := id LI
  have hN := hI.num
  unfold vNum at hN
  refine r_iload (pc := 204) dL_law_204 rfl ?_
  refine r_bipush (pc := 206) (n := 12) dL_law_206 rfl (by decide) ?_
  refine r_icmp_ge (pc := 208) (tgt := 395) dL_law_208 rfl (fun c208 => ?_) (fun c208 => ?_)
  · refine r_iload (pc := 395) dL_law_395 rfl ?_
    refine r_bipush (pc := 397) (n := 12) dL_law_397 rfl (by decide) ?_
    refine r_icmp_ne (pc := 399) (tgt := 482) dL_law_399 rfl (fun c399 => ?_) (fun c399 => ?_)
    · refine r_iload (pc := 482) dL_law_482 rfl ?_
      refine r_bipush (pc := 484) (n := 15) dL_law_484 rfl (by decide) ?_
      refine r_icmp_ge (pc := 486) (tgt := 567) dL_law_486 rfl (fun c486 => ?_) (fun c486 => ?_)
      · refine r_iload (pc := 567) dL_law_567 rfl ?_
        refine r_bipush (pc := 569) (n := 18) dL_law_569 rfl (by decide) ?_
        refine r_icmp_ge (pc := 571) (tgt := 717) dL_law_571 rfl (fun c571 => ?_) (fun c571 => ?_)
        · refine r_iload (pc := 717) dL_law_717 rfl ?_
          refine r_bipush (pc := 719) (n := 20) dL_law_719 rfl (by decide) ?_
          refine r_icmp_ge (pc := 721) (tgt := 786) dL_law_721 rfl (fun c721 => ?_) (fun c721 => ?_)
          · refine r_iload (pc := 786) dL_law_786 rfl ?_
            refine r_bipush (pc := 788) (n := 22) dL_law_788 rfl (by decide) ?_
            refine r_icmp_ge (pc := 790) (tgt := 875) dL_law_790 rfl (fun c790 => ?_) (fun c790 => ?_)
            · exact law_b2 LI hdy hz hb hp9 hlk hdd9 hcs hsl hr2 K K2
            · exact law_mend LI hdy hz hb hp9 hcs hsl K
          · exact law_damage LI hdy hz hb hp9 hcs hsl K
        · exact law_handIn LI hdy hz hb hp9 hcs hsl K
      · exact law_lease LI hdy hz hb hp9 hcs hsl K
    · exact law_wash LI hdy hz hb hp9 hcs hsl K
  · exact law_report LI hdy hz hb hp9 hcs hsl K

theorem law_a {nm : String} {hh : List (Nat × Nat × Nat × Nat)} {L : Nat} {sc : Nat → Int32} {hi : Hi} {nb nk dy lk tn t z dd b p : Int} {cs sl : Nat} {Q : Option Av → Hp → Prop} {X : String → Hp → Prop} (LI : LawI hi nb nk dy lk) (hdy : 0 ≤ dy ∧ dy ≤ 3000) (hz : 0 ≤ z ∧ z ≤ 134217727) (hb : 1 ≤ nb → 0 ≤ b ∧ b < nb) (h1 : dd = 0 ∨ 1 ≤ nb) (hp9 : 0 ≤ p ∧ p < 4) (hlk : 0 ≤ lk ∧ lk ≤ 30) (hdd9 : 0 ≤ dd ∧ dd ≤ 31) (hcs : cs + 300 ≤ 600104) (hsl : sl + 3000 ≤ 7301314) (hr2 : lk < 30 → cs + 2300 ≤ 600104 ∧ sl + 22000 ≤ 7301314) (K : ∀ (hi' : Hi) (nb' nk' dy' : Int), LawI hi' nb' nk' dy' lk → 1 ≤ nb' → dy ≤ dy' → dy' ≤ dy + 9 → Run (I_law nm hh L sc) 1226 [some (aR 99 0), some (aR 6 0), some (aR 60 0), some (aI nb'), some (aI nk'), some (aI dy'), some (aI lk), some (aI 1), some (aI tn), some (aI t), none, none, none, none, none, none, none, none, none] [] (hp hi' nb' nk') (cs + 300) (sl + 3000) Q X) (K2 : 1 ≤ nb → lk < 30 → ∀ hi' : Hi, LawI hi' nb nk dy (lk + 1) → Run (I_law nm hh L sc) 1226 [some (aR 99 0), some (aR 6 0), some (aR 60 0), some (aI nb), some (aI nk), some (aI dy), some (aI (lk + 1)), some (aI 1), some (aI tn), some (aI t), none, none, none, none, none, none, none, none, none] [] (hp hi' nb nk) (cs + 2300) (sl + 22000) Q X) : Run (I_law nm hh L sc) 134 [some (aR 99 0), some (aR 6 0), some (aR 60 0), some (aI nb), some (aI nk), some (aI dy), some (aI lk), some (aI 1), some (aI tn), some (aI t), some (aI z), some (aI dd), some (aI b), some (aI p), none, none, none, none, none] [] (hp hi nb nk) cs sl Q X := by
  obtain ⟨hI, hdd, hw, hg⟩ := id LI
  have hN := hI.num
  unfold vNum at hN
  refine r_iload (pc := 134) dL_law_134 rfl ?_
  refine r_iconst (pc := 136) (n := 2) dL_law_136 (by decide) ?_
  refine r_icmp_ge (pc := 137) (tgt := 204) dL_law_137 rfl (fun c137 => ?_) (fun c137 => ?_)
  · exact law_b LI hdy hz (hb (by omega)) hp9 hlk hdd9 hcs hsl hr2 K (K2 (by omega))
  · refine r_iload_n (pc := 140) dL_law_140 rfl ?_
    refine r_bipush (pc := 141) (n := 40) dL_law_141 rfl (by decide) ?_
    refine r_icmp_ge (pc := 143) (tgt := 204) dL_law_143 rfl (fun c143 => ?_) (fun c143 => ?_)
    · exact law_b LI hdy hz (hb (by omega)) hp9 hlk hdd9 hcs hsl hr2 K (K2 (by omega))
    · exact law_box LI hdy hz (by omega) hp9 hcs hsl K

theorem law_run {nm : String} {hh : List (Nat × Nat × Nat × Nat)} {L : Nat} {sc : Nat → Int32} (hL : L ≤ 260) {Q : Option Av → Hp → Prop} {X : String → Hp → Prop} (hQ : ∀ h, Q (some (aI 1)) h) {tn : Int} (htn : tn ≤ 330) : ∀ (n : Nat) (t : Int) (hi : Hi) (nb nk dy lk : Int) (cs sl : Nat), 0 ≤ t → t ≤ tn → tn - t < (n : Int) → LawI hi nb nk dy lk → (t = 0 ∨ 1 ≤ nb) → 0 ≤ dy → dy ≤ 9 * t → 0 ≤ lk → lk ≤ 30 → (cs : Int) + 300 * (330 - t) + 2000 * (30 - lk) ≤ 600104 → (sl : Int) + 3000 * (330 - t) + 19000 * (30 - lk) ≤ 7301314 →
    Run (I_law nm hh L sc) 62 [some (aR 99 0), some (aR 6 0), some (aR 60 0), some (aI nb), some (aI nk), some (aI dy), some (aI lk), some (aI 1), some (aI tn), some (aI t), none, none, none, none, none, none, none, none, none] [] (hp hi nb nk) cs sl Q X := by
  intro n
  induction n with
  | zero => intro t hi nb nk dy lk cs sl h0 htt hn; exfalso; omega
  | succ n ih =>
    intro t hi nb nk dy lk cs sl h0 htt hn LI h1 hd0 hd1 hl0 hl1 hcs hsl
    obtain ⟨hI, hdd, hw, hg⟩ := id LI
    have hN := hI.num
    unfold vNum at hN
    refine r_iload (pc := 62) dL_law_62 rfl ?_
    refine r_iload (pc := 64) dL_law_64 rfl ?_
    refine r_icmp_ge (pc := 66) (tgt := 1232) dL_law_66 rfl (fun c66 => ?_) (fun c66 => ?_)
    · refine r_iload (pc := 1232) dL_law_1232 rfl ?_
      refine r_iret (pc := 1234) dL_law_1234 (Or.inr ⟨rfl, Or.inr rfl⟩) (by show _ ≤ 600104; clear hsl; omega) (by show _ ≤ 7301314; clear hcs; omega) ?_
      exact hQ _
    · refine r_iload (pc := 69) dL_law_69 rfl ?_
      refine r_if_eq (pc := 71) (tgt := 1232) dL_law_71 rfl (fun z => absurd z (by decide)) (fun _ => ?_)
      have hcs4 : cs + 300 ≤ 600104 := by clear hsl; omega
      have hsl4 : sl + 3000 ≤ 7301314 := by clear hcs; omega
      have N : ∀ (hi' : Hi) (nb' nk' dy' lk' : Int) (c9 s9 : Nat), LawI hi' nb' nk' dy' lk' → 1 ≤ nb' → dy ≤ dy' → dy' ≤ dy + 9 → 0 ≤ lk' → lk' ≤ 30 → (c9 : Int) + 300 * (330 - (t + 1)) + 2000 * (30 - lk') ≤ 600104 → (s9 : Int) + 3000 * (330 - (t + 1)) + 19000 * (30 - lk') ≤ 7301314 → Run (I_law nm hh L sc) 1226 [some (aR 99 0), some (aR 6 0), some (aR 60 0), some (aI nb'), some (aI nk'), some (aI dy'), some (aI lk'), some (aI 1), some (aI tn), some (aI t), none, none, none, none, none, none, none, none, none] [] (hp hi' nb' nk') c9 s9 Q X := fun hi' nb' nk' dy' lk' c9 s9 l1 l2 l3 l4 l5 l6 l7 l8 => by
        refine r_iinc (pc := 1226) (xs' := [some (aR 99 0), some (aR 6 0), some (aR 60 0), some (aI nb'), some (aI nk'), some (aI dy'), some (aI lk'), some (aI 1), some (aI tn), some (aI (t + 1)), none, none, none, none, none, none, none, none, none]) dL_law_1226 rfl (Nat.le_of_ble_eq_true rfl) (by omega) rfl ?_
        refine r_goto (pc := 1229) (tgt := 62) dL_law_1229 rfl ?_
        exact ih (t + 1) hi' nb' nk' dy' lk' c9 s9 (by omega) (by omega) (by omega) l1 (Or.inr l2) (by omega) (by omega) l5 l6 l7 l8
      have K : ∀ (hi' : Hi) (nb' nk' dy' : Int), LawI hi' nb' nk' dy' lk → 1 ≤ nb' → dy ≤ dy' → dy' ≤ dy + 9 → Run (I_law nm hh L sc) 1226 [some (aR 99 0), some (aR 6 0), some (aR 60 0), some (aI nb'), some (aI nk'), some (aI dy'), some (aI lk), some (aI 1), some (aI tn), some (aI t), none, none, none, none, none, none, none, none, none] [] (hp hi' nb' nk') (cs + 300) (sl + 3000) Q X := fun hi' nb' nk' dy' l1 l2 l3 l4 => N hi' nb' nk' dy' lk _ _ l1 l2 l3 l4 hl0 hl1 (by clear hsl; omega) (by clear hcs; omega)
      have K2 : 1 ≤ nb → lk < 30 → ∀ hi' : Hi, LawI hi' nb nk dy (lk + 1) → Run (I_law nm hh L sc) 1226 [some (aR 99 0), some (aR 6 0), some (aR 60 0), some (aI nb), some (aI nk), some (aI dy), some (aI (lk + 1)), some (aI 1), some (aI tn), some (aI t), none, none, none, none, none, none, none, none, none] [] (hp hi' nb nk) (cs + 2300) (sl + 22000) Q X := fun g1 g2 hi' l1 => N hi' nb nk dy (lk + 1) _ _ l1 g1 (by omega) (by omega) (by omega) (by omega) (by clear hsl; omega) (by clear hcs; omega)
      have hr2 : lk < 30 → cs + 2300 ≤ 600104 ∧ sl + 22000 ≤ 7301314 := fun g => ⟨by clear hsl; omega, by clear hcs; omega⟩
      clear hcs hsl
      refine r_aload_n (pc := 74) dL_law_74 rfl ?_
      refine r_iload (pc := 75) dL_law_75 rfl ?_
      refine r_callSS (pc := 77) (rest := []) (cs' := cs) (sl' := sl) (ms_L_85 L sc) rfl rfl (K_L_draw (by omega) hL) rfl ⟨(Nat.le_of_ble_eq_true rfl), (Nat.le_of_ble_eq_true rfl)⟩ (Nat.le_of_ble_eq_true rfl) dL_law_77 ⟨rfl, (by show _ ≤ 600104; omega)⟩ ⟨rfl, (by show _ ≤ 7301314; omega)⟩ rfl (fun r9 h9 hq9 => ?_) (fun E9 h9 hx9 => hx9.elim)
      obtain ⟨v77, rfl, w77, rfl⟩ := hq9
      show Run _ 80 _ [aI v77] (hp hi nb nk) _ _ _ _
      refine r_iconst (pc := 80) (n := 5) dL_law_80 (by decide) ?_
      refine r_ishrX (pc := 81) dL_law_81 (fun s81 t81 u81 => ?_)
      refine r_ldc (pc := 82) (n := 134217727) dL_law_82 lc_L_89 rfl (by decide) ?_
      refine r_iandX (pc := 84) dL_law_84 (by decide) (fun s84 t84 u84 => ?_)
      refine r_istore (pc := 85) (xs' := [some (aR 99 0), some (aR 6 0), some (aR 60 0), some (aI nb), some (aI nk), some (aI dy), some (aI lk), some (aI 1), some (aI tn), some (aI t), some (aI s84), none, none, none, none, none, none, none, none]) dL_law_85 (Nat.le_of_ble_eq_true rfl) rfl ?_
      refine r_iload (pc := 87) dL_law_87 rfl ?_
      refine r_bipush (pc := 89) (n := 6) dL_law_89 rfl (by decide) ?_
      refine r_icmp_ge (pc := 91) (tgt := 98) dL_law_91 rfl (fun c91 => ?_) (fun c91 => ?_)
      · refine r_aload_n (pc := 98) dL_law_98 rfl ?_
        refine r_iload (pc := 99) dL_law_99 rfl ?_
        refine r_callSS (pc := 101) (rest := []) (cs' := cs) (sl' := sl) (ms_L_85 L sc) rfl rfl (K_L_draw (by omega) hL) rfl ⟨(Nat.le_of_ble_eq_true rfl), (Nat.le_of_ble_eq_true rfl)⟩ (Nat.le_of_ble_eq_true rfl) dL_law_101 ⟨rfl, (by show _ ≤ 600104; omega)⟩ ⟨rfl, (by show _ ≤ 7301314; omega)⟩ rfl (fun r9 h9 hq9 => ?_) (fun E9 h9 hx9 => hx9.elim)
        obtain ⟨v101, rfl, w101, rfl⟩ := hq9
        show Run _ 104 _ [aI v101] (hp hi nb nk) _ _ _ _
        refine r_bipush (pc := 104) (n := 31) dL_law_104 rfl (by decide) ?_
        refine r_iandX (pc := 106) dL_law_106 (by decide) (fun s106 t106 u106 => ?_)
        refine r_istore (pc := 107) (xs' := [some (aR 99 0), some (aR 6 0), some (aR 60 0), some (aI nb), some (aI nk), some (aI dy), some (aI lk), some (aI 1), some (aI tn), some (aI t), some (aI s84), some (aI s106), none, none, none, none, none, none, none]) dL_law_107 (Nat.le_of_ble_eq_true rfl) rfl ?_
        refine r_iload_n (pc := 109) dL_law_109 rfl ?_
        refine r_if_ne (pc := 110) (tgt := 117) dL_law_110 rfl (fun c110 => ?_) (fun c110 => ?_)
        · refine r_iload (pc := 117) dL_law_117 rfl ?_
          refine r_iconst (pc := 119) (n := 1) dL_law_119 (by decide) ?_
          refine r_ishrX (pc := 120) dL_law_120 (fun s120 t120 u120 => ?_)
          replace u120 := u120 (by omega)
          refine r_iload_n (pc := 121) dL_law_121 rfl ?_
          have m122 := Int.emod_nonneg (s120) (show nb ≠ 0 by omega)
          have n122 := Int.emod_lt_of_pos (s120) (show 0 < nb by omega)
          refine r_irem (pc := 122) dL_law_122 (by omega) (by omega) ?_
          refine r_istore (pc := 123) (xs' := [some (aR 99 0), some (aR 6 0), some (aR 60 0), some (aI nb), some (aI nk), some (aI dy), some (aI lk), some (aI 1), some (aI tn), some (aI t), some (aI s84), some (aI s106), some (aI (s120 % nb)), none, none, none, none, none, none]) dL_law_123 (Nat.le_of_ble_eq_true rfl) rfl ?_
          refine r_iload (pc := 125) dL_law_125 rfl ?_
          refine r_bipush (pc := 127) (n := 6) dL_law_127 rfl (by decide) ?_
          refine r_ishrX (pc := 129) dL_law_129 (fun s129 t129 u129 => ?_)
          replace u129 := u129 (by omega)
          refine r_iconst (pc := 130) (n := 4) dL_law_130 (by decide) ?_
          refine r_irem (pc := 131) dL_law_131 (by omega) (by omega) ?_
          refine r_istore (pc := 132) (xs' := [some (aR 99 0), some (aR 6 0), some (aR 60 0), some (aI nb), some (aI nk), some (aI dy), some (aI lk), some (aI 1), some (aI tn), some (aI t), some (aI s84), some (aI s106), some (aI (s120 % nb)), some (aI (s129 % 4)), none, none, none, none, none]) dL_law_132 (Nat.le_of_ble_eq_true rfl) rfl ?_
          exact law_a LI (by omega) (by omega) (fun g => by omega) (by omega) (by omega) ⟨hl0, hl1⟩ (by omega) hcs4 hsl4 hr2 K K2
        · refine r_iconst (pc := 113) (n := 0) dL_law_113 (by decide) ?_
          refine r_goto (pc := 114) (tgt := 123) dL_law_114 rfl ?_
          refine r_istore (pc := 123) (xs' := [some (aR 99 0), some (aR 6 0), some (aR 60 0), some (aI nb), some (aI nk), some (aI dy), some (aI lk), some (aI 1), some (aI tn), some (aI t), some (aI s84), some (aI s106), some (aI 0), none, none, none, none, none, none]) dL_law_123 (Nat.le_of_ble_eq_true rfl) rfl ?_
          refine r_iload (pc := 125) dL_law_125 rfl ?_
          refine r_bipush (pc := 127) (n := 6) dL_law_127 rfl (by decide) ?_
          refine r_ishrX (pc := 129) dL_law_129 (fun s129 t129 u129 => ?_)
          replace u129 := u129 (by omega)
          refine r_iconst (pc := 130) (n := 4) dL_law_130 (by decide) ?_
          refine r_irem (pc := 131) dL_law_131 (by omega) (by omega) ?_
          refine r_istore (pc := 132) (xs' := [some (aR 99 0), some (aR 6 0), some (aR 60 0), some (aI nb), some (aI nk), some (aI dy), some (aI lk), some (aI 1), some (aI tn), some (aI t), some (aI s84), some (aI s106), some (aI 0), some (aI (s129 % 4)), none, none, none, none, none]) dL_law_132 (Nat.le_of_ble_eq_true rfl) rfl ?_
          exact law_a LI (by omega) (by omega) (fun g => by omega) (by omega) (by omega) ⟨hl0, hl1⟩ (by omega) hcs4 hsl4 hr2 K K2
      · refine r_iconst (pc := 94) (n := 0) dL_law_94 (by decide) ?_
        refine r_goto (pc := 95) (tgt := 107) dL_law_95 rfl ?_
        refine r_istore (pc := 107) (xs' := [some (aR 99 0), some (aR 6 0), some (aR 60 0), some (aI nb), some (aI nk), some (aI dy), some (aI lk), some (aI 1), some (aI tn), some (aI t), some (aI s84), some (aI 0), none, none, none, none, none, none, none]) dL_law_107 (Nat.le_of_ble_eq_true rfl) rfl ?_
        refine r_iload_n (pc := 109) dL_law_109 rfl ?_
        refine r_if_ne (pc := 110) (tgt := 117) dL_law_110 rfl (fun c110 => ?_) (fun c110 => ?_)
        · refine r_iload (pc := 117) dL_law_117 rfl ?_
          refine r_iconst (pc := 119) (n := 1) dL_law_119 (by decide) ?_
          refine r_ishrX (pc := 120) dL_law_120 (fun s120 t120 u120 => ?_)
          replace u120 := u120 (by omega)
          refine r_iload_n (pc := 121) dL_law_121 rfl ?_
          have m122 := Int.emod_nonneg (s120) (show nb ≠ 0 by omega)
          have n122 := Int.emod_lt_of_pos (s120) (show 0 < nb by omega)
          refine r_irem (pc := 122) dL_law_122 (by omega) (by omega) ?_
          refine r_istore (pc := 123) (xs' := [some (aR 99 0), some (aR 6 0), some (aR 60 0), some (aI nb), some (aI nk), some (aI dy), some (aI lk), some (aI 1), some (aI tn), some (aI t), some (aI s84), some (aI 0), some (aI (s120 % nb)), none, none, none, none, none, none]) dL_law_123 (Nat.le_of_ble_eq_true rfl) rfl ?_
          refine r_iload (pc := 125) dL_law_125 rfl ?_
          refine r_bipush (pc := 127) (n := 6) dL_law_127 rfl (by decide) ?_
          refine r_ishrX (pc := 129) dL_law_129 (fun s129 t129 u129 => ?_)
          replace u129 := u129 (by omega)
          refine r_iconst (pc := 130) (n := 4) dL_law_130 (by decide) ?_
          refine r_irem (pc := 131) dL_law_131 (by omega) (by omega) ?_
          refine r_istore (pc := 132) (xs' := [some (aR 99 0), some (aR 6 0), some (aR 60 0), some (aI nb), some (aI nk), some (aI dy), some (aI lk), some (aI 1), some (aI tn), some (aI t), some (aI s84), some (aI 0), some (aI (s120 % nb)), some (aI (s129 % 4)), none, none, none, none, none]) dL_law_132 (Nat.le_of_ble_eq_true rfl) rfl ?_
          exact law_a LI (by omega) (by omega) (fun g => by omega) (by omega) (by omega) ⟨hl0, hl1⟩ (by omega) hcs4 hsl4 hr2 K K2
        · refine r_iconst (pc := 113) (n := 0) dL_law_113 (by decide) ?_
          refine r_goto (pc := 114) (tgt := 123) dL_law_114 rfl ?_
          refine r_istore (pc := 123) (xs' := [some (aR 99 0), some (aR 6 0), some (aR 60 0), some (aI nb), some (aI nk), some (aI dy), some (aI lk), some (aI 1), some (aI tn), some (aI t), some (aI s84), some (aI 0), some (aI 0), none, none, none, none, none, none]) dL_law_123 (Nat.le_of_ble_eq_true rfl) rfl ?_
          refine r_iload (pc := 125) dL_law_125 rfl ?_
          refine r_bipush (pc := 127) (n := 6) dL_law_127 rfl (by decide) ?_
          refine r_ishrX (pc := 129) dL_law_129 (fun s129 t129 u129 => ?_)
          replace u129 := u129 (by omega)
          refine r_iconst (pc := 130) (n := 4) dL_law_130 (by decide) ?_
          refine r_irem (pc := 131) dL_law_131 (by omega) (by omega) ?_
          refine r_istore (pc := 132) (xs' := [some (aR 99 0), some (aR 6 0), some (aR 60 0), some (aI nb), some (aI nk), some (aI dy), some (aI lk), some (aI 1), some (aI tn), some (aI t), some (aI s84), some (aI 0), some (aI 0), some (aI (s129 % 4)), none, none, none, none, none]) dL_law_132 (Nat.le_of_ble_eq_true rfl) rfl ?_
          exact law_a LI (by omega) (by omega) (fun g => by omega) (by omega) (by omega) ⟨hl0, hl1⟩ (by omega) hcs4 hsl4 hr2 K K2

theorem law_start {nm : String} {hh : List (Nat × Nat × Nat × Nat)} {L : Nat} {sc : Nat → Int32} (hL : L ≤ 260) {Q : Option Av → Hp → Prop} {X : String → Hp → Prop} (hQ : ∀ h, Q (some (aI 1)) h) : Run (I_law nm hh L sc) 0 [some (aR 99 0), none, none, none, none, none, none, none, none, none, none, none, none, none, none, none, none, none, none] [] (zz, HR 0 0, nZ) 0 0 Q X := by
  refine c_r RP_nil.symm ?_
  refine c_new (pc := 0) (N9 := 0) (cs' := 1) (sl' := 11) nl_L_8 dL_law_0 rfl ⟨rfl, (Nat.le_of_ble_eq_true rfl)⟩ ⟨rfl, (Nat.le_of_ble_eq_true rfl)⟩ ?_
  refine c_r (RP_new (fun j a => (by first | rfl | (simp only [HR]; repeat rw [if_neg (by omega)]) | (simp only [HR]; (repeat' split) <;> first | omega | rfl)))) ?_
  refine c_f (zf_z (fun _ => rfl)) ?_
  refine r_dup (pc := 3) dL_law_3 (fun _ => rfl) ?_
  refine d0_I (pc := 4) (t := 6) (i := 0) (rest := [aR 6 0]) (cs' := 23) (sl' := 291) mi_L_84 K_X6_init rfl ⟨(Nat.le_of_ble_eq_true rfl), (Nat.le_of_ble_eq_true rfl)⟩ (Nat.le_of_ble_eq_true rfl) dL_law_4 ⟨rfl, (Nat.le_of_ble_eq_true rfl)⟩ ⟨rfl, (Nat.le_of_ble_eq_true rfl)⟩ rfl ?_
  refine r_astore_n (pc := 7) (xs' := [some (aR 99 0), some (aR 6 0), none, none, none, none, none, none, none, none, none, none, none, none, none, none, none, none, none]) dL_law_7 (Nat.le_of_ble_eq_true rfl) rfl ?_
  refine r_bipush (pc := 8) (n := 20) dL_law_8 rfl (by decide) ?_
  refine c_r RP_nil.symm ?_
  refine c_newa (pc := 10) (kk := 60) (N9 := 0) (cs' := 24) (sl' := 311) rfl rfl (by decide) ⟨rfl, (by decide), (by decide)⟩ gt_83 dL_law_10 rfl ⟨rfl, (Nat.le_of_ble_eq_true rfl)⟩ ⟨rfl, (Nat.le_of_ble_eq_true rfl)⟩ ?_
  refine c_r (RP_arr (fun j => rfl)) ?_
  refine c_r RP_nil ?_
  refine c_f (zf_z (fun _ => rfl)) ?_
  refine c_n CN_0 ?_
  show Run _ 12 _ [aR 60 0] (hp hi0 0 0) _ _ _ _
  refine r_astore_n (pc := 12) (xs' := [some (aR 99 0), some (aR 6 0), some (aR 60 0), none, none, none, none, none, none, none, none, none, none, none, none, none, none, none, none]) dL_law_12 (Nat.le_of_ble_eq_true rfl) rfl ?_
  have LI : LawI hi0 0 0 0 0 := ⟨Inv_0, rfl, fun k k0 k1 => by omega, by show (0 : Int) ≤ 0; decide, by show (0 : Int) ≤ 0; decide⟩
  refine r_iconst (pc := 13) (n := 0) dL_law_13 (by decide) ?_
  refine r_istore_n (pc := 14) (xs' := [some (aR 99 0), some (aR 6 0), some (aR 60 0), some (aI 0), none, none, none, none, none, none, none, none, none, none, none, none, none, none, none]) dL_law_14 (Nat.le_of_ble_eq_true rfl) rfl ?_
  refine r_iconst (pc := 15) (n := 0) dL_law_15 (by decide) ?_
  refine r_istore (pc := 16) (xs' := [some (aR 99 0), some (aR 6 0), some (aR 60 0), some (aI 0), some (aI 0), none, none, none, none, none, none, none, none, none, none, none, none, none, none]) dL_law_16 (Nat.le_of_ble_eq_true rfl) rfl ?_
  refine r_iconst (pc := 18) (n := 0) dL_law_18 (by decide) ?_
  refine r_istore (pc := 19) (xs' := [some (aR 99 0), some (aR 6 0), some (aR 60 0), some (aI 0), some (aI 0), some (aI 0), none, none, none, none, none, none, none, none, none, none, none, none, none]) dL_law_19 (Nat.le_of_ble_eq_true rfl) rfl ?_
  refine r_iconst (pc := 21) (n := 0) dL_law_21 (by decide) ?_
  refine r_istore (pc := 22) (xs' := [some (aR 99 0), some (aR 6 0), some (aR 60 0), some (aI 0), some (aI 0), some (aI 0), some (aI 0), none, none, none, none, none, none, none, none, none, none, none, none]) dL_law_22 (Nat.le_of_ble_eq_true rfl) rfl ?_
  refine r_iconst (pc := 24) (n := 1) dL_law_24 (by decide) ?_
  refine r_istore (pc := 25) (xs' := [some (aR 99 0), some (aR 6 0), some (aR 60 0), some (aI 0), some (aI 0), some (aI 0), some (aI 0), some (aI 1), none, none, none, none, none, none, none, none, none, none, none]) dL_law_25 (Nat.le_of_ble_eq_true rfl) rfl ?_
  refine r_aload_n (pc := 27) dL_law_27 rfl ?_
  refine r_slen (pc := 28) (L := L) (sc := sc) rfl (by omega) dL_law_28 ?_
  refine r_bipush (pc := 29) (n := 60) dL_law_29 rfl (by decide) ?_
  refine r_icmp_ge (pc := 31) (tgt := 40) dL_law_31 rfl (fun c31 => ?_) (fun c31 => ?_)
  · refine r_aload_n (pc := 40) dL_law_40 rfl ?_
    refine r_slen (pc := 41) (L := L) (sc := sc) rfl (by omega) dL_law_41 ?_
    refine r_bipush (pc := 42) (n := 110) dL_law_42 rfl (by decide) ?_
    refine r_icmp_ge (pc := 44) (tgt := 54) dL_law_44 rfl (fun c44 => ?_) (fun c44 => ?_)
    · refine r_sipush (pc := 54) (n := 330) dL_law_54 rfl (by decide) ?_
      refine r_istore (pc := 57) (xs' := [some (aR 99 0), some (aR 6 0), some (aR 60 0), some (aI 0), some (aI 0), some (aI 0), some (aI 0), some (aI 1), some (aI 330), none, none, none, none, none, none, none, none, none, none]) dL_law_57 (Nat.le_of_ble_eq_true rfl) rfl ?_
      refine r_iconst (pc := 59) (n := 0) dL_law_59 (by decide) ?_
      refine r_istore (pc := 60) (xs' := [some (aR 99 0), some (aR 6 0), some (aR 60 0), some (aI 0), some (aI 0), some (aI 0), some (aI 0), some (aI 1), some (aI 330), some (aI 0), none, none, none, none, none, none, none, none, none]) dL_law_60 (Nat.le_of_ble_eq_true rfl) rfl ?_
      exact law_run hL hQ (tn := 330) (by omega) 331 0 hi0 0 0 0 0 24 311 (by omega) (by omega) (by omega) LI (Or.inl rfl) (by omega) (by omega) (by omega) (by omega) (by omega) (by omega)
    · refine r_iconst (pc := 47) (n := 3) dL_law_47 (by decide) ?_
      refine r_aload_n (pc := 48) dL_law_48 rfl ?_
      refine r_slen (pc := 49) (L := L) (sc := sc) rfl (by omega) dL_law_49 ?_
      refine r_imul (pc := 50) dL_law_50 (by omega) ?_
      refine r_goto (pc := 51) (tgt := 57) dL_law_51 rfl ?_
      refine r_istore (pc := 57) (xs' := [some (aR 99 0), some (aR 6 0), some (aR 60 0), some (aI 0), some (aI 0), some (aI 0), some (aI 0), some (aI 1), some (aI (3 * (L : Int))), none, none, none, none, none, none, none, none, none, none]) dL_law_57 (Nat.le_of_ble_eq_true rfl) rfl ?_
      refine r_iconst (pc := 59) (n := 0) dL_law_59 (by decide) ?_
      refine r_istore (pc := 60) (xs' := [some (aR 99 0), some (aR 6 0), some (aR 60 0), some (aI 0), some (aI 0), some (aI 0), some (aI 0), some (aI 1), some (aI (3 * (L : Int))), some (aI 0), none, none, none, none, none, none, none, none, none]) dL_law_60 (Nat.le_of_ble_eq_true rfl) rfl ?_
      exact law_run hL hQ (tn := 3 * (L : Int)) (by omega) 331 0 hi0 0 0 0 0 24 311 (by omega) (by omega) (by omega) LI (Or.inl rfl) (by omega) (by omega) (by omega) (by omega) (by omega) (by omega)
  · refine r_sipush (pc := 34) (n := 260) dL_law_34 rfl (by decide) ?_
    refine r_goto (pc := 37) (tgt := 57) dL_law_37 rfl ?_
    refine r_istore (pc := 57) (xs' := [some (aR 99 0), some (aR 6 0), some (aR 60 0), some (aI 0), some (aI 0), some (aI 0), some (aI 0), some (aI 1), some (aI 260), none, none, none, none, none, none, none, none, none, none]) dL_law_57 (Nat.le_of_ble_eq_true rfl) rfl ?_
    refine r_iconst (pc := 59) (n := 0) dL_law_59 (by decide) ?_
    refine r_istore (pc := 60) (xs' := [some (aR 99 0), some (aR 6 0), some (aR 60 0), some (aI 0), some (aI 0), some (aI 0), some (aI 0), some (aI 1), some (aI 260), some (aI 0), none, none, none, none, none, none, none, none, none]) dL_law_60 (Nat.le_of_ble_eq_true rfl) rfl ?_
    exact law_run hL hQ (tn := 260) (by omega) 331 0 hi0 0 0 0 0 24 311 (by omega) (by omega) (by omega) LI (Or.inl rfl) (by omega) (by omega) (by omega) (by omega) (by omega) (by omega)

